theorem s_X6_readCompared {d : Nat} {sc : Nat × (Nat → Int32)} {T : List (Nat × Nat)} {rf : Nat → Nat → Option Nat} {g : Nat → Nat → Int32} {tp : List Int32} {out : List Int32} {o N : Nat} {ts : List Tok} {F : Int32 → AH → Prop} (hd : N ≤ d) (h6d : 6 ≤ d) (hX : XS T rf) (hB : TB tp) (hG : RG g tp ts out o) (hK : out.length + ts.length ≤ 161) (hsub : RSr kX6_readSum 5 N o) (k1 : ∀ g2 ts2 cs, GS 4 4 ts o ts2 cs → RG g2 tp ts2 (out ++ cs) o → RFr g g2 → F 1 (T, rf, g2)) (k0 : ∀ g2 b, Bad 4 ts o b → g2 35 1 = nI b → BS5 g2 → RFr g g2 → F 0 (T, rf, g2)) : Mok (d + 1) 0 0 sc kX6_readCompared [.ref 35] (T, rf, g) (Qi F) := by
  refine Mok.ofWp (L := [some (.ref 35), none, none]) rfl rfl rfl ?_
  refine xX6_readCompared_0 ?_
  refine xX6_readCompared_1 (hX.1 _ _ rfl) rfl rfl rfl (hsub _ hd hX hB hG hK (fun g0 ts0 cs0 hgd0 hrg0 hrf0 => ?_) (fun g0 b0 hbd0 hbg0 hbf0 hrf0 => ?_))
  · refine xX6_readCompared_4 rfl ?_
    refine xX6_readCompared_5 ?_
    refine xX6_readCompared_6 (hX.1 _ _ rfl) ?_
    rw [hrg0.hd]
    refine xX6_readCompared_9 rfl ?_
    refine xX6_readCompared_10 ?_
    refine xX6_readCompared_11_f (by decide) ?_
    refine xX6_readCompared_14 ?_
    refine xX6_readCompared_15 ?_
    refine xX6_readCompared_17 (fun c17 => ?_) (fun c17 => ?_)
    · have hsg : hdT ts0 = 60 ∨ hdT ts0 = 61 := by first | exact Or.inl c17 | exact Or.inr c23
      obtain ⟨b, t, n, r9, e9⟩ := hrg0.cs
      subst e9
      have hsg : t = 60 ∨ t = 61 := hsg
      have hbt : bt t = 4 := by rcases hsg with z | z <;> (rw [z]; decide)
      have ht0 : t ≠ 0 := by rcases hsg with z | z <;> (rw [z]; decide)
      have htr : -t = tr (sgn t) := by rcases hsg with z | z <;> (rw [z]; decide)
      rw [show hdT ((b, t, n) :: r9) = t from rfl]
      refine xX6_readCompared_26 ?_
      refine xX6_readCompared_27 (hX.1 _ _ rfl) rfl rfl rfl (t_X6_advance (by omega) hX hB hrg0 ht0 (fun g1 hrg1 hrf1 => ?_))
      refine xX6_readCompared_30 ?_
      refine xX6_readCompared_31 (hX.1 _ _ rfl) rfl rfl rfl (hsub _ hd hX hB hrg1 (by have := hgd0.1; simp only [List.length_cons, List.length_append] at *; omega) (fun g2 ts2 cs2 hgd2 hrg2 hrf2 => ?_) (fun g2 b2 hbd2 hbg2 hbf2 hrf2 => ?_))
      · refine xX6_readCompared_34 rfl ?_
        refine xX6_readCompared_35 ?_
        refine xX6_readCompared_36 ?_
        refine xX6_readCompared_37 ?_
        refine xX6_readCompared_38 (hX.1 _ _ rfl) rfl rfl rfl (s_X6_add hX hrg2 (c := sgn t) htr (by have h1 := hgd0.1; have h2 := hgd2.1; have := lpos hrg2.ne; simp only [List.length_cons, List.length_append] at *; omega) (fun g3 hrg3 hrf3 => ?_))
        refine xX6_readCompared_41 ?_
        refine xX6_readCompared_42 (Or.inr rfl) rfl rfl ?_
        exact k1 _ _ _ (GS_cmp hgd0 hbt hgd2) (by simpa only [List.append_assoc] using hrg3) (((hrf0.tr hrf1).tr hrf2).tr hrf3)
      · refine xX6_readCompared_34 rfl ?_
        refine xX6_readCompared_35 ?_
        refine xX6_readCompared_36 ?_
        refine xX6_readCompared_37 ?_
        refine xX6_readCompared_38 (hX.1 _ _ rfl) rfl rfl rfl (b_X6_add hX hbf2 (fun g4 hbf4 hbg4 hrf4 => ?_))
        refine xX6_readCompared_41 ?_
        refine xX6_readCompared_42 (Or.inl rfl) rfl rfl ?_
        exact k0 _ _ (B_cmp hgd0 hbt hbd2) (hbg4.trans hbg2) hbf4 (((hrf0.tr hrf1).tr hrf2).tr hrf4)
    · refine xX6_readCompared_20 ?_
      refine xX6_readCompared_21 ?_
      refine xX6_readCompared_23 (fun c23 => ?_) (fun c23 => ?_)
      · refine xX6_readCompared_41 ?_
        refine xX6_readCompared_42 (Or.inr rfl) rfl rfl ?_
        exact k1 _ _ _ (GS_4 hgd0 (fun z => ((bt_at _).2.2.1 z).elim c17 c23)) hrg0 hrf0
      · have hsg : hdT ts0 = 60 ∨ hdT ts0 = 61 := by first | exact Or.inl c17 | exact Or.inr c23
        obtain ⟨b, t, n, r9, e9⟩ := hrg0.cs
        subst e9
        have hsg : t = 60 ∨ t = 61 := hsg
        have hbt : bt t = 4 := by rcases hsg with z | z <;> (rw [z]; decide)
        have ht0 : t ≠ 0 := by rcases hsg with z | z <;> (rw [z]; decide)
        have htr : -t = tr (sgn t) := by rcases hsg with z | z <;> (rw [z]; decide)
        rw [show hdT ((b, t, n) :: r9) = t from rfl]
        refine xX6_readCompared_26 ?_
        refine xX6_readCompared_27 (hX.1 _ _ rfl) rfl rfl rfl (t_X6_advance (by omega) hX hB hrg0 ht0 (fun g5 hrg5 hrf5 => ?_))
        refine xX6_readCompared_30 ?_
        refine xX6_readCompared_31 (hX.1 _ _ rfl) rfl rfl rfl (hsub _ hd hX hB hrg5 (by have := hgd0.1; simp only [List.length_cons, List.length_append] at *; omega) (fun g6 ts6 cs6 hgd6 hrg6 hrf6 => ?_) (fun g6 b6 hbd6 hbg6 hbf6 hrf6 => ?_))
        · refine xX6_readCompared_34 rfl ?_
          refine xX6_readCompared_35 ?_
          refine xX6_readCompared_36 ?_
          refine xX6_readCompared_37 ?_
          refine xX6_readCompared_38 (hX.1 _ _ rfl) rfl rfl rfl (s_X6_add hX hrg6 (c := sgn t) htr (by have h1 := hgd0.1; have h2 := hgd6.1; have := lpos hrg6.ne; simp only [List.length_cons, List.length_append] at *; omega) (fun g7 hrg7 hrf7 => ?_))
          refine xX6_readCompared_41 ?_
          refine xX6_readCompared_42 (Or.inr rfl) rfl rfl ?_
          exact k1 _ _ _ (GS_cmp hgd0 hbt hgd6) (by simpa only [List.append_assoc] using hrg7) (((hrf0.tr hrf5).tr hrf6).tr hrf7)
        · refine xX6_readCompared_34 rfl ?_
          refine xX6_readCompared_35 ?_
          refine xX6_readCompared_36 ?_
          refine xX6_readCompared_37 ?_
          refine xX6_readCompared_38 (hX.1 _ _ rfl) rfl rfl rfl (b_X6_add hX hbf6 (fun g8 hbf8 hbg8 hrf8 => ?_))
          refine xX6_readCompared_41 ?_
          refine xX6_readCompared_42 (Or.inl rfl) rfl rfl ?_
          exact k0 _ _ (B_cmp hgd0 hbt hbd6) (hbg8.trans hbg6) hbf8 (((hrf0.tr hrf5).tr hrf6).tr hrf8)
  · refine xX6_readCompared_4 rfl ?_
    refine xX6_readCompared_5 ?_
    refine xX6_readCompared_6 (hX.1 _ _ rfl) ?_
    refine xX6_readCompared_9 rfl ?_
    refine xX6_readCompared_10 ?_
    refine xX6_readCompared_11_t (by decide) ?_
    refine xX6_readCompared_41 ?_
    refine xX6_readCompared_42 (Or.inl rfl) rfl rfl ?_
    exact k0 _ _ (B_4 hbd0) hbg0 hbf0 hrf0
theorem s_X6_readNot {d : Nat} {sc : Nat × (Nat → Int32)} {T : List (Nat × Nat)} {rf : Nat → Nat → Option Nat} {g : Nat → Nat → Int32} {tp : List Int32} {out : List Int32} {o N : Nat} {N3 : Nat} {b0 : Nat} {t0 n0 : Int32} {r0 : List Tok} {F : Int32 → AH → Prop} (hd : N ≤ d) (h6d : 6 ≤ d) (hX : XS T rf) (hB : TB tp) (hG : RG g tp ((b0, t0, n0) :: r0) out o) (hK : out.length + ((b0, t0, n0) :: r0).length ≤ 161) (ho5l : o ≤ 5) (hsub : RSr kX6_readCompared 4 N o) (hrec : o < 5 → N3 ≤ d ∧ RSr kX6_readNot 3 N3 (o + 1)) (k1 : ∀ g2 ts2 cs, GS 3 3 ((b0, t0, n0) :: r0) o ts2 cs → RG g2 tp ts2 (out ++ cs) o → RFr g g2 → F 1 (T, rf, g2)) (k0 : ∀ g2 b, Bad 3 ((b0, t0, n0) :: r0) o b → g2 35 1 = nI b → BS5 g2 → RFr g g2 → F 0 (T, rf, g2)) : Mok (d + 1) 0 0 sc kX6_readNot [.ref 35] (T, rf, g) (Qi F) := by
  refine Mok.ofWp (L := [some (.ref 35), none]) rfl rfl rfl ?_
  refine xX6_readNot_0 ?_
  refine xX6_readNot_1 (hX.1 _ _ rfl) ?_
  rw [show g 35 6 = t0 from hG.hd]
  refine xX6_readNot_4 ?_
  refine xX6_readNot_6 (fun c6 => ?_) (fun c6 => ?_)
  · subst c6
    refine xX6_readNot_14 ?_
    refine xX6_readNot_15 (hX.1 _ _ rfl) ?_
    rw [hG.2.2.2.2.1]
    refine xX6_readNot_18 ?_
    refine xX6_readNot_19 (fun c19 => ?_) (fun c19 => ?_)
    · have ho : o < 5 := Nat.lt_of_not_le (fun z => absurd c19 (Int32.not_lt.mpr (nI_le (a := 5) z (by omega))))
      obtain ⟨hr0, hr1⟩ := hrec ho
      refine xX6_readNot_24 ?_
      refine xX6_readNot_25 rfl ?_
      refine xX6_readNot_26 (hX.1 _ _ rfl) ?_
      refine xX6_readNot_29 ?_
      refine xX6_readNot_30 ?_
      rw [hG.2.2.2.2.1, show nI o + 1 = nI (o + 1) from nI_1 o]
      refine xX6_readNot_31 (hX.1 _ _ rfl) ?_
      refine xX6_readNot_34 ?_
      refine xX6_readNot_35 (hX.1 _ _ rfl) rfl rfl rfl (t_X6_advance (by omega) hX hB (hG.op rfl) (show (105 : Int32) ≠ 0 by decide) (fun g0 hrg0 hrf0 => ?_))
      refine xX6_readNot_38 ?_
      refine xX6_readNot_39 (hX.1 _ _ rfl) rfl rfl rfl (hr1 _ hr0 hX hB hrg0 (by simp only [List.length_cons] at *; omega) (fun g1 ts1 cs1 hgd1 hrg1 hrf1 => ?_) (fun g1 b1 hbd1 hbg1 hbf1 hrf1 => ?_))
      · refine xX6_readNot_42 rfl ?_
        refine xX6_readNot_43 ?_
        refine xX6_readNot_44 rfl ?_
        refine xX6_readNot_45 (hX.1 _ _ rfl) ?_
        refine xX6_readNot_48 ?_
        refine xX6_readNot_49 ?_
        rw [hrg1.2.2.2.2.1, show nI (o + 1) - 1 = nI o from nI_pred o]
        refine xX6_readNot_50 (hX.1 _ _ rfl) ?_
        refine xX6_readNot_53 ?_
        refine xX6_readNot_54 ?_
        refine xX6_readNot_56 (hX.1 _ _ rfl) rfl rfl rfl (s_X6_add hX (hrg1.op rfl) (c := 13) rfl (by have := hgd1.1; simp only [List.length_cons, List.length_append] at *; have := lpos hrg1.ne; omega) (fun g2 hrg2 hrf2 => ?_))
        refine xX6_readNot_59 ?_
        refine xX6_readNot_60 (Or.inr rfl) rfl rfl ?_
        exact k1 _ _ _ (GS_not ho hgd1) (by simpa only [List.append_assoc] using hrg2) (((((RFr.u (by omega)).tr hrf0).tr hrf1).tr (RFr.u (by omega))).tr hrf2)
      · refine xX6_readNot_42 rfl ?_
        refine xX6_readNot_43 ?_
        refine xX6_readNot_44 rfl ?_
        refine xX6_readNot_45 (hX.1 _ _ rfl) ?_
        refine xX6_readNot_48 ?_
        refine xX6_readNot_49 ?_
        refine xX6_readNot_50 (hX.1 _ _ rfl) ?_
        refine xX6_readNot_53 ?_
        refine xX6_readNot_54 ?_
        refine xX6_readNot_56 (hX.1 _ _ rfl) rfl rfl rfl (b_X6_add hX (hbf1.u (by omega)) (fun g3 hbf3 hbg3 hrf3 => ?_))
        refine xX6_readNot_59 ?_
        refine xX6_readNot_60 (Or.inl rfl) rfl rfl ?_
        exact k0 _ _ (B_not ho hbd1) (hbg3.trans ((up_ne (by omega)).trans hbg1)) hbf3 (((((RFr.u (by omega)).tr hrf0).tr hrf1).tr (RFr.u (by omega))).tr hrf3)
    · have ho5 : o = 5 := by
        rcases Nat.lt_or_ge o 5 with z | z
        · exact absurd (nI_lt (b := 5) z (by omega)) c19
        · omega
      refine xX6_readNot_22 ?_
      refine xX6_readNot_23 (Or.inl rfl) rfl rfl ?_
      subst ho5
      exact k0 g b0 B_not5 hG.2.1.1 (BS5.of hG (by simp only [List.length_cons] at hK; omega)) RFr.rf
  · refine xX6_readNot_9 ?_
    refine xX6_readNot_10 (hX.1 _ _ rfl) rfl rfl rfl (hsub _ hd hX hB hG hK (fun g4 ts4 cs4 hgd4 hrg4 hrf4 => ?_) (fun g4 b4 hbd4 hbg4 hbf4 hrf4 => ?_))
    · refine xX6_readNot_13 (Or.inr rfl) rfl rfl ?_
      exact k1 _ _ _ (GS_3 hgd4 c6) hrg4 hrf4
    · refine xX6_readNot_13 (Or.inl rfl) rfl rfl ?_
      exact k0 _ _ (B_3 hbd4 c6) hbg4 hbf4 hrf4
theorem R_X6_readCompared {o N : Nat} (h6 : 6 ≤ N) (hsub : RSr kX6_readSum 5 N o) : RSr kX6_readCompared 4 (N + 1) o := by
  intro d hd sc T rf g tp ts out F hX hB hG hK k1 k0
  obtain ⟨e, rfl⟩ : ∃ e, d = e + 1 := ⟨d - 1, by omega⟩
  exact s_X6_readCompared (by omega) (by omega) hX hB hG hK hsub k1 k0
theorem R_X6_readNot {o N N3 : Nat} (h6 : 6 ≤ N) (ho : o ≤ 5) (hsub : RSr kX6_readCompared 4 N o) (hrec : o < 5 → N3 ≤ N ∧ RSr kX6_readNot 3 N3 (o + 1)) : RSr kX6_readNot 3 (N + 1) o := by
  intro d hd sc T rf g tp ts out F hX hB hG hK k1 k0
  obtain ⟨e, rfl⟩ : ∃ e, d = e + 1 := ⟨d - 1, by omega⟩
  obtain ⟨b, t, n, r, rfl⟩ := hG.cs
  exact s_X6_readNot (N3 := N3) (by omega) (by omega) hX hB hG hK ho hsub (fun z => ⟨by have := (hrec z).1; omega, (hrec z).2⟩) k1 k0
theorem RS7.mono {κ : MI} {N M o : Nat} (h : RS7 κ N o) (hm : N ≤ M) : RS7 κ M o := fun d hd => h d (by omega)
theorem Rall : ∀ (k o : Nat), o + k = 5 → RS7 kX6_readOne (10 * k + 8) o ∧ RSr kX6_readNot 3 (10 * k + 12) o ∧ RSr kX6_readOr 1 (10 * k + 14) o := by
  intro k
  induction k with
  | zero =>
    intro o ho
    have h7 : RS7 kX6_readOne (10 * 0 + 8) o := by
      intro d hd sc T rf g tp ts out F hX hB hG hK k1 k0
      obtain ⟨e, rfl⟩ : ∃ e, d = e + 1 := ⟨d - 1, by omega⟩
      obtain ⟨b, t, n, r, rfl⟩ := hG.cs
      exact s_X6_readOne (N := 0) (by omega) hX hB hG hK (by omega) (fun z => by omega) k1 k0
    have h4 := R_X6_readCompared (by omega) (R_X6_readSum (by omega) (R_X6_readTerm (by omega) h7))
    have h3 := R_X6_readNot (N3 := 0) (by omega) (by omega) h4 (fun z => by omega)
    exact ⟨h7, h3, R_X6_readOr (by omega) (R_X6_readAnd (by omega) h3)⟩
  | succ k ih =>
    intro o ho
    obtain ⟨i7, i3, i1⟩ := ih (o + 1) (by omega)
    have h7 : RS7 kX6_readOne (10 * (k + 1) + 8) o := by
      intro d hd sc T rf g tp ts out F hX hB hG hK k1 k0
      obtain ⟨e, rfl⟩ : ∃ e, d = e + 1 := ⟨d - 1, by omega⟩
      obtain ⟨b, t, n, r, rfl⟩ := hG.cs
      exact s_X6_readOne (N := 10 * k + 14) (by omega) hX hB hG hK (by omega) (fun _ => ⟨by omega, i7.mono (by omega), i1⟩) k1 k0
    have h4 := R_X6_readCompared (by omega) (R_X6_readSum (by omega) (R_X6_readTerm (by omega) h7))
    have h3 := R_X6_readNot (N3 := 10 * k + 12) (by omega) (by omega) h4 (fun _ => ⟨by omega, i3⟩)
    exact ⟨h7, h3, R_X6_readOr (by omega) (R_X6_readAnd (by omega) h3)⟩
theorem t_X6_readOr {d : Nat} {sc : Nat × (Nat → Int32)} {T : List (Nat × Nat)} {rf : Nat → Nat → Option Nat} {g : Nat → Nat → Int32} {tp : List Int32} {ts : List Tok} {out : List Int32} {F : Int32 → AH → Prop} (hX : XS T rf) (hB : TB tp) (hG : RG g tp ts out 0) (hK : out.length + ts.length ≤ 161) (k1 : ∀ g2 ts2 cs, GS 1 1 ts 0 ts2 cs → RG g2 tp ts2 (out ++ cs) 0 → RFr g g2 → F 1 (T, rf, g2)) (k0 : ∀ g2 b, Bad 1 ts 0 b → g2 35 1 = nI b → BS5 g2 → RFr g g2 → F 0 (T, rf, g2)) : Mok (d + 64) 0 0 sc kX6_readOr [.ref 35] (T, rf, g) (Qi F) := (Rall 5 0 rfl).2.2 (d + 64) (by omega) hX hB hG hK k1 k0
