theorem lpos {α : Type} {l : List α} (h : l ≠ []) : 0 < l.length := by
  cases l with
  | nil => exact absurd rfl h
  | cons a l => simp
theorem TKS_ne {tp : List Int32} {p : Nat} (h : p ≤ tp.length) : TKS tp p ≠ [] := by
  rw [TKS_eq h]
  exact fun z => by cases z
theorem RG.end1 {g : Nat → Nat → Int32} {tp : List Int32} {ts : List Tok} {out : List Int32} {o : Nat} (h : RG g tp ts out o) (hl : ts.length ≤ 1) : hdT ts = 0 := by
  cases ts with
  | nil => rfl
  | cons q r =>
    show q.2.1 = 0
    refine Decidable.byContradiction (fun z => ?_)
    obtain ⟨p, p1, p2, p3⟩ := h.2.1.2.2.2.2.1 z
    have := TKS_ne p1
    rw [← p3] at this
    simp only [List.length_cons] at hl
    exact this (List.eq_nil_of_length_eq_zero (by omega))
theorem RG.cs {g : Nat → Nat → Int32} {tp : List Int32} {ts : List Tok} {out : List Int32} {o : Nat} (h : RG g tp ts out o) : ∃ b t n r, ts = (b, t, n) :: r := by
  cases ts with
  | nil => exact absurd rfl h.ne
  | cons q r => exact ⟨q.1, q.2.1, q.2.2, r, rfl⟩
theorem bt_at (t : Int32) : (bt t = 1 → t = 103) ∧ (bt t = 2 → t = 104) ∧ (bt t = 4 → t = 60 ∨ t = 61) ∧ (bt t = 5 → t = 43 ∨ t = 45) ∧ (bt t = 6 → t = 42) := by
  unfold bt sgn
  by_cases h1 : t = 103
  · subst h1; decide
  · rw [if_neg h1]
    by_cases h2 : t = 104
    · subst h2; decide
    · rw [if_neg h2]
      by_cases h3 : t = 60
      · subst h3; decide
      · rw [if_neg h3]
        by_cases h4 : t = 61
        · subst h4; decide
        · rw [if_neg h4]
          by_cases h5 : t = 43
          · subst h5; decide
          · rw [if_neg h5]
            by_cases h6 : t = 45
            · subst h6; decide
            · rw [if_neg h6]
              by_cases h7 : t = 42
              · subst h7; decide
              · rw [if_neg h7]
                exact ⟨fun z => absurd z (by decide), fun z => absurd z (by decide), fun z => absurd z (by decide), fun z => absurd z (by decide), fun z => absurd z (by decide)⟩
theorem tr_num {m : Nat} (h : m ≤ 9999) : tr (100000 + nI m) = nI m ∧ isLeaf (100000 + nI m) := by
  have e : (100000 : Int32) + nI m = nI (100000 + m) := by rw [show (100000 : Int32) = nI 100000 from rfl, nI_add]
  have h1 : (100000 : Int32) ≤ 100000 + nI m := by rw [e]; exact nI_le (a := 100000) (by omega) (by omega)
  have h2 : 100000 + nI m ≤ (109999 : Int32) := by rw [e]; exact nI_le (b := 109999) (by omega) (by omega)
  refine ⟨?_, Or.inl ⟨h1, h2⟩⟩
  unfold tr
  rw [if_pos h1, e]
  apply Int32.toInt_inj.mp
  rw [show (100000 : Int32) = nI 100000 from rfl, iSub (by rw [iT (by omega), iT (by omega)]; omega) (by rw [iT (by omega), iT (by omega)]; omega), iT (by omega), iT (by omega), iT (by omega)]
  omega
theorem tr_name {k : Nat} (h : k < 6) : nI (106 + k) - 106 = nI k ∧ tr (nI k) = -(nI (106 + k)) ∧ isLeaf (nI k) := by
  rcases (by omega : k = 0 ∨ k = 1 ∨ k = 2 ∨ k = 3 ∨ k = 4 ∨ k = 5) with rfl | rfl | rfl | rfl | rfl | rfl
  · exact ⟨rfl, rfl, Or.inr ⟨0, by omega, rfl⟩⟩
  · exact ⟨rfl, rfl, Or.inr ⟨1, by omega, rfl⟩⟩
  · exact ⟨rfl, rfl, Or.inr ⟨2, by omega, rfl⟩⟩
  · exact ⟨rfl, rfl, Or.inr ⟨3, by omega, rfl⟩⟩
  · exact ⟨rfl, rfl, Or.inr ⟨4, by omega, rfl⟩⟩
  · exact ⟨rfl, rfl, Or.inr ⟨5, by omega, rfl⟩⟩
theorem s_X6_readNegative {d : Nat} {sc : Nat × (Nat → Int32)} {T : List (Nat × Nat)} {rf : Nat → Nat → Option Nat} {g : Nat → Nat → Int32} {tp : List Int32} {out : List Int32} {o N : Nat} {b0 : Nat} {n0 : Int32} {r0 : List Tok} {F : Int32 → AH → Prop} (hd : N ≤ d) (h6d : 6 ≤ d) (hX : XS T rf) (hB : TB tp) (hG : RG g tp ((b0, 45, n0) :: r0) out o) (hK : out.length + ((b0, 45, n0) :: r0).length ≤ 161) (ho : o < 5) (hrec : RS7 kX6_readOne N (o + 1)) (k1 : ∀ g2 ts2 cs, G7 ((b0, 45, n0) :: r0) o ts2 cs → RG g2 tp ts2 (out ++ cs) o → RFr g g2 → F 1 (T, rf, g2)) (k0 : ∀ g2 b, Bad 7 ((b0, 45, n0) :: r0) o b → g2 35 1 = nI b → BS5 g2 → RFr g g2 → F 0 (T, rf, g2)) : Mok (d + 1) 0 0 sc kX6_readNegative [.ref 35] (T, rf, g) (Qi F) := by
  refine Mok.ofWp (L := [some (.ref 35), none]) rfl rfl rfl ?_
  refine xX6_readNegative_0 ?_
  refine xX6_readNegative_1 rfl ?_
  refine xX6_readNegative_2 (hX.1 _ _ rfl) ?_
  refine xX6_readNegative_5 ?_
  refine xX6_readNegative_6 ?_
  rw [hG.2.2.2.2.1, show nI o + 1 = nI (o + 1) from nI_1 o]
  refine xX6_readNegative_7 (hX.1 _ _ rfl) ?_
  refine xX6_readNegative_10 ?_
  refine xX6_readNegative_11 (hX.1 _ _ rfl) rfl rfl rfl (t_X6_advance (by omega) hX hB (hG.op rfl) (show (45 : Int32) ≠ 0 by decide) (fun g0 hrg0 hrf0 => ?_))
  refine xX6_readNegative_14 ?_
  refine xX6_readNegative_15 (hX.1 _ _ rfl) rfl rfl rfl (hrec _ (by omega) hX hB hrg0 (by simp only [List.length_cons, List.length_append, List.length_nil] at *; omega) (fun g1 ts1 cs1 hgd1 hrg1 hrf1 => ?_) (fun g1 b1 hbd1 hbg1 hbf1 hrf1 => ?_))
  · refine xX6_readNegative_18 rfl ?_
    refine xX6_readNegative_19 ?_
    refine xX6_readNegative_20 rfl ?_
    refine xX6_readNegative_21 (hX.1 _ _ rfl) ?_
    refine xX6_readNegative_24 ?_
    refine xX6_readNegative_25 ?_
    rw [hrg1.2.2.2.2.1, show nI (o + 1) - 1 = nI o from nI_pred o]
    refine xX6_readNegative_26 (hX.1 _ _ rfl) ?_
    refine xX6_readNegative_29 ?_
    refine xX6_readNegative_30 ?_
    refine xX6_readNegative_32 (hX.1 _ _ rfl) rfl rfl rfl (s_X6_add hX (hrg1.op rfl) (c := 19) rfl (by have := hgd1.1; simp only [List.length_cons, List.length_append] at *; have := lpos hrg1.ne; omega) (fun g2 hrg2 hrf2 => ?_))
    refine xX6_readNegative_35 ?_
    refine xX6_readNegative_36 (Or.inr rfl) rfl rfl ?_
    exact k1 _ _ _ (G7_neg ho hgd1) (by rw [← List.append_assoc]; exact hrg2) (((((RFr.u (by omega)).tr hrf0).tr hrf1).tr (RFr.u (by omega))).tr hrf2)
  · refine xX6_readNegative_18 rfl ?_
    refine xX6_readNegative_19 ?_
    refine xX6_readNegative_20 rfl ?_
    refine xX6_readNegative_21 (hX.1 _ _ rfl) ?_
    refine xX6_readNegative_24 ?_
    refine xX6_readNegative_25 ?_
    refine xX6_readNegative_26 (hX.1 _ _ rfl) ?_
    refine xX6_readNegative_29 ?_
    refine xX6_readNegative_30 ?_
    refine xX6_readNegative_32 (hX.1 _ _ rfl) rfl rfl rfl (b_X6_add hX (hbf1.u (by omega)) (fun g3 hbf3 hbg3 hrf3 => ?_))
    refine xX6_readNegative_35 ?_
    refine xX6_readNegative_36 (Or.inl rfl) rfl rfl ?_
    exact k0 _ _ (B7_neg ho hbd1) (hbg3.trans ((up_ne (by omega)).trans hbg1)) hbf3 (((((RFr.u (by omega)).tr hrf0).tr hrf1).tr (RFr.u (by omega))).tr hrf3)
theorem s_X6_readInner {d : Nat} {sc : Nat × (Nat → Int32)} {T : List (Nat × Nat)} {rf : Nat → Nat → Option Nat} {g : Nat → Nat → Int32} {tp : List Int32} {out : List Int32} {o N : Nat} {b0 : Nat} {n0 : Int32} {r0 : List Tok} {F : Int32 → AH → Prop} (hd : N ≤ d) (h6d : 6 ≤ d) (hX : XS T rf) (hB : TB tp) (hG : RG g tp ((b0, 40, n0) :: r0) out o) (hK : out.length + ((b0, 40, n0) :: r0).length ≤ 161) (ho : o < 5) (hrec : RSr kX6_readOr 1 N (o + 1)) (k1 : ∀ g2 ts2 cs, G7 ((b0, 40, n0) :: r0) o ts2 cs → RG g2 tp ts2 (out ++ cs) o → RFr g g2 → F 1 (T, rf, g2)) (k0 : ∀ g2 b, Bad 7 ((b0, 40, n0) :: r0) o b → g2 35 1 = nI b → BS5 g2 → RFr g g2 → F 0 (T, rf, g2)) : Mok (d + 1) 0 0 sc kX6_readInner [.ref 35] (T, rf, g) (Qi F) := by
  refine Mok.ofWp (L := [some (.ref 35), none]) rfl rfl rfl ?_
  refine xX6_readInner_0 ?_
  refine xX6_readInner_1 rfl ?_
  refine xX6_readInner_2 (hX.1 _ _ rfl) ?_
  refine xX6_readInner_5 ?_
  refine xX6_readInner_6 ?_
  rw [hG.2.2.2.2.1, show nI o + 1 = nI (o + 1) from nI_1 o]
  refine xX6_readInner_7 (hX.1 _ _ rfl) ?_
  refine xX6_readInner_10 ?_
  refine xX6_readInner_11 (hX.1 _ _ rfl) rfl rfl rfl (t_X6_advance (by omega) hX hB (hG.op rfl) (show (40 : Int32) ≠ 0 by decide) (fun g0 hrg0 hrf0 => ?_))
  refine xX6_readInner_14 ?_
  refine xX6_readInner_15 (hX.1 _ _ rfl) rfl rfl rfl (hrec _ (by omega) hX hB hrg0 (by simp only [List.length_cons, List.length_append, List.length_nil] at *; omega) (fun g1 ts1 cs1 hgd1 hrg1 hrf1 => ?_) (fun g1 b1 hbd1 hbg1 hbf1 hrf1 => ?_))
  · refine xX6_readInner_18_f (by decide) ?_
    refine xX6_readInner_21 ?_
    refine xX6_readInner_22 (hX.1 _ _ rfl) ?_
    obtain ⟨b3, t3, n3, r3, e3⟩ := hrg1.cs
    subst e3
    rw [show g1 35 6 = t3 from hrg1.hd]
    refine xX6_readInner_25 ?_
    refine xX6_readInner_27 (fun c27 => ?_) (fun c27 => ?_)
    · refine xX6_readInner_34 ?_
      refine xX6_readInner_35 rfl ?_
      refine xX6_readInner_36 ?_
      refine xX6_readInner_37 rfl ?_
      refine xX6_readInner_38 (hX.1 _ _ rfl) ?_
      refine xX6_readInner_41 ?_
      refine xX6_readInner_42 ?_
      rw [hrg1.2.2.2.2.1, show nI (o + 1) - 1 = nI o from nI_pred o]
      refine xX6_readInner_43 (hX.1 _ _ rfl) ?_
      refine xX6_readInner_46 ?_
      refine xX6_readInner_47_t (by decide) ?_
      refine xX6_readInner_54 ?_
      refine xX6_readInner_55 (Or.inl rfl) rfl rfl ?_
      exact k0 _ _ (B7_inner2 ho hgd1 c27) ((up_ne (by omega)).trans hrg1.2.1.1) ((BS5.of hrg1 (by have := hgd1.1; simp only [List.length_cons, List.length_append] at *; omega)).u (by omega)) ((((RFr.u (by omega)).tr hrf0).tr hrf1).tr (RFr.u (by omega)))
    · subst c27
      refine xX6_readInner_30 ?_
      refine xX6_readInner_31 ?_
      refine xX6_readInner_35 rfl ?_
      refine xX6_readInner_36 ?_
      refine xX6_readInner_37 rfl ?_
      refine xX6_readInner_38 (hX.1 _ _ rfl) ?_
      refine xX6_readInner_41 ?_
      refine xX6_readInner_42 ?_
      rw [hrg1.2.2.2.2.1, show nI (o + 1) - 1 = nI o from nI_pred o]
      refine xX6_readInner_43 (hX.1 _ _ rfl) ?_
      refine xX6_readInner_46 ?_
      refine xX6_readInner_47_f (by decide) ?_
      refine xX6_readInner_50 ?_
      refine xX6_readInner_51 (hX.1 _ _ rfl) rfl rfl rfl (t_X6_advance (by omega) hX hB (hrg1.op rfl) (show (41 : Int32) ≠ 0 by decide) (fun g2 hrg2 hrf2 => ?_))
      refine xX6_readInner_54 ?_
      refine xX6_readInner_55 (Or.inr rfl) rfl rfl ?_
      exact k1 _ _ _ (G7_inner ho hgd1 hrg2.ne) hrg2 (((((RFr.u (by omega)).tr hrf0).tr hrf1).tr (RFr.u (by omega))).tr hrf2)
  · refine xX6_readInner_18_t (by decide) ?_
    refine xX6_readInner_34 ?_
    refine xX6_readInner_35 rfl ?_
    refine xX6_readInner_36 ?_
    refine xX6_readInner_37 rfl ?_
    refine xX6_readInner_38 (hX.1 _ _ rfl) ?_
    refine xX6_readInner_41 ?_
    refine xX6_readInner_42 ?_
    refine xX6_readInner_43 (hX.1 _ _ rfl) ?_
    refine xX6_readInner_46 ?_
    refine xX6_readInner_47_t (by decide) ?_
    refine xX6_readInner_54 ?_
    refine xX6_readInner_55 (Or.inl rfl) rfl rfl ?_
    exact k0 _ _ (B7_inner ho hbd1) ((up_ne (by omega)).trans hbg1) (hbf1.u (by omega)) ((((RFr.u (by omega)).tr hrf0).tr hrf1).tr (RFr.u (by omega)))
theorem t_X6_readNegative {d : Nat} {sc : Nat × (Nat → Int32)} {T : List (Nat × Nat)} {rf : Nat → Nat → Option Nat} {g : Nat → Nat → Int32} {tp : List Int32} {out : List Int32} {o N : Nat} {b0 : Nat} {n0 : Int32} {r0 : List Tok} {F : Int32 → AH → Prop} (hd : N + 1 ≤ d) (h6d : 7 ≤ d) (hX : XS T rf) (hB : TB tp) (hG : RG g tp ((b0, 45, n0) :: r0) out o) (hK : out.length + ((b0, 45, n0) :: r0).length ≤ 161) (ho : o < 5) (hrec : RS7 kX6_readOne N (o + 1)) (k1 : ∀ g2 ts2 cs, G7 ((b0, 45, n0) :: r0) o ts2 cs → RG g2 tp ts2 (out ++ cs) o → RFr g g2 → F 1 (T, rf, g2)) (k0 : ∀ g2 b, Bad 7 ((b0, 45, n0) :: r0) o b → g2 35 1 = nI b → BS5 g2 → RFr g g2 → F 0 (T, rf, g2)) : Mok d 0 0 sc kX6_readNegative [.ref 35] (T, rf, g) (Qi F) := by
  obtain ⟨e, rfl⟩ : ∃ e, d = e + 1 := ⟨d - 1, by omega⟩
  exact s_X6_readNegative (by omega) (by omega) hX hB hG hK ho hrec k1 k0
theorem t_X6_readInner {d : Nat} {sc : Nat × (Nat → Int32)} {T : List (Nat × Nat)} {rf : Nat → Nat → Option Nat} {g : Nat → Nat → Int32} {tp : List Int32} {out : List Int32} {o N : Nat} {b0 : Nat} {n0 : Int32} {r0 : List Tok} {F : Int32 → AH → Prop} (hd : N + 1 ≤ d) (h6d : 7 ≤ d) (hX : XS T rf) (hB : TB tp) (hG : RG g tp ((b0, 40, n0) :: r0) out o) (hK : out.length + ((b0, 40, n0) :: r0).length ≤ 161) (ho : o < 5) (hrec : RSr kX6_readOr 1 N (o + 1)) (k1 : ∀ g2 ts2 cs, G7 ((b0, 40, n0) :: r0) o ts2 cs → RG g2 tp ts2 (out ++ cs) o → RFr g g2 → F 1 (T, rf, g2)) (k0 : ∀ g2 b, Bad 7 ((b0, 40, n0) :: r0) o b → g2 35 1 = nI b → BS5 g2 → RFr g g2 → F 0 (T, rf, g2)) : Mok d 0 0 sc kX6_readInner [.ref 35] (T, rf, g) (Qi F) := by
  obtain ⟨e, rfl⟩ : ∃ e, d = e + 1 := ⟨d - 1, by omega⟩
  exact s_X6_readInner (by omega) (by omega) hX hB hG hK ho hrec k1 k0
theorem s_X6_readOne {d : Nat} {sc : Nat × (Nat → Int32)} {T : List (Nat × Nat)} {rf : Nat → Nat → Option Nat} {g : Nat → Nat → Int32} {tp : List Int32} {out : List Int32} {o N : Nat} {b0 : Nat} {t0 n0 : Int32} {r0 : List Tok} {F : Int32 → AH → Prop} (h6d : 7 ≤ d) (hX : XS T rf) (hB : TB tp) (hG : RG g tp ((b0, t0, n0) :: r0) out o) (hK : out.length + ((b0, t0, n0) :: r0).length ≤ 161) (ho5l : o ≤ 5) (hrec : o < 5 → N + 1 ≤ d ∧ RS7 kX6_readOne N (o + 1) ∧ RSr kX6_readOr 1 N (o + 1)) (k1 : ∀ g2 ts2 cs, G7 ((b0, t0, n0) :: r0) o ts2 cs → RG g2 tp ts2 (out ++ cs) o → RFr g g2 → F 1 (T, rf, g2)) (k0 : ∀ g2 b, Bad 7 ((b0, t0, n0) :: r0) o b → g2 35 1 = nI b → BS5 g2 → RFr g g2 → F 0 (T, rf, g2)) : Mok (d + 1) 0 0 sc kX6_readOne [.ref 35] (T, rf, g) (Qi F) := by
  have h6 : g 35 6 = t0 := hG.hd
  have htn := hG.2.2.2.2.2.1 _ List.mem_cons_self
  refine Mok.ofWp (L := [some (.ref 35)]) rfl rfl rfl ?_
  refine xX6_readOne_0 ?_
  refine xX6_readOne_1 (hX.1 _ _ rfl) ?_
  rw [h6]
  refine xX6_readOne_4 ?_
  refine xX6_readOne_5 (fun c5 => ?_) (fun c5 => ?_)
  · refine xX6_readOne_22 ?_
    refine xX6_readOne_23 (hX.1 _ _ rfl) ?_
    rw [h6]
    refine xX6_readOne_26 ?_
    refine xX6_readOne_28 (fun c28 => ?_) (fun c28 => ?_)
    · refine xX6_readOne_46 ?_
      refine xX6_readOne_47 (hX.1 _ _ rfl) ?_
      rw [h6]
      refine xX6_readOne_50 ?_
      refine xX6_readOne_52 (fun c52 => ?_) (fun c52 => ?_)
      · refine xX6_readOne_64 ?_
        refine xX6_readOne_65 (hX.1 _ _ rfl) ?_
        rw [hG.2.2.2.2.1]
        refine xX6_readOne_68 ?_
        refine xX6_readOne_69 (fun c69 => ?_) (fun c69 => ?_)
        · have ho : o < 5 := Nat.lt_of_not_le (fun z => absurd c69 (Int32.not_lt.mpr (nI_le (a := 5) z (by omega))))
          obtain ⟨hr0, hr1, hr2⟩ := hrec ho
          refine xX6_readOne_74 ?_
          refine xX6_readOne_75 (hX.1 _ _ rfl) ?_
          rw [h6]
          refine xX6_readOne_78 ?_
          refine xX6_readOne_80 (fun c80 => ?_) (fun c80 => ?_)
          · refine xX6_readOne_90 ?_
            have e40 : t0 = 40 := by first | exact c61 | exact absurd c52 c80
            subst e40
            refine xX6_readOne_91 (hX.1 _ _ rfl) rfl rfl rfl (t_X6_readInner (by omega) (by omega) hX hB hG hK ho hr2 (fun g0 ts0 cs0 hgd0 hrg0 hrf0 => ?_) (fun g0 b0 hbd0 hbg0 hbf0 hrf0 => ?_))
            · refine xX6_readOne_94 (Or.inr rfl) rfl rfl ?_
              exact k1 _ _ _ hgd0 hrg0 hrf0
            · refine xX6_readOne_94 (Or.inl rfl) rfl rfl ?_
              exact k0 _ _ hbd0 hbg0 hbf0 hrf0
          · refine xX6_readOne_83 ?_
            subst c80
            refine xX6_readOne_84 (hX.1 _ _ rfl) rfl rfl rfl (t_X6_readNegative (by omega) (by omega) hX hB hG hK ho hr1 (fun g1 ts1 cs1 hgd1 hrg1 hrf1 => ?_) (fun g1 b1 hbd1 hbg1 hbf1 hrf1 => ?_))
            · refine xX6_readOne_87 ?_
              refine xX6_readOne_94 (Or.inr rfl) rfl rfl ?_
              exact k1 _ _ _ hgd1 hrg1 hrf1
            · refine xX6_readOne_87 ?_
              refine xX6_readOne_94 (Or.inl rfl) rfl rfl ?_
              exact k0 _ _ hbd1 hbg1 hbf1 hrf1
        · have ho5 : o = 5 := by
            rcases Nat.lt_or_ge o 5 with z | z
            · exact absurd (nI_lt (b := 5) z (by omega)) c69
            · omega
          refine xX6_readOne_72 ?_
          refine xX6_readOne_73 (Or.inl rfl) rfl rfl ?_
          first
            | exact k0 g b0 (B7_no (q := (b0, t0, n0)) (fun z => c5 z) (Int32.not_le.mpr c28) (fun z => absurd z c52) (fun z => absurd z c61)) hG.2.1.1 (BS5.of hG (by simp only [List.length_cons] at hK; omega)) RFr.rf
            | exact k0 g b0 (B7_no (q := (b0, t0, n0)) (fun z => c5 z) (Int32.not_le.mpr c28) (fun z => ho5) (fun z => ho5)) hG.2.1.1 (BS5.of hG (by simp only [List.length_cons] at hK; omega)) RFr.rf
      · refine xX6_readOne_55 ?_
        refine xX6_readOne_56 (hX.1 _ _ rfl) ?_
        rw [h6]
        refine xX6_readOne_59 ?_
        refine xX6_readOne_61 (fun c61 => ?_) (fun c61 => ?_)
        · refine xX6_readOne_72 ?_
          refine xX6_readOne_73 (Or.inl rfl) rfl rfl ?_
          first
            | exact k0 g b0 (B7_no (q := (b0, t0, n0)) (fun z => c5 z) (Int32.not_le.mpr c28) (fun z => absurd z c52) (fun z => absurd z c61)) hG.2.1.1 (BS5.of hG (by simp only [List.length_cons] at hK; omega)) RFr.rf
            | exact k0 g b0 (B7_no (q := (b0, t0, n0)) (fun z => c5 z) (Int32.not_le.mpr c28) (fun z => ho5) (fun z => ho5)) hG.2.1.1 (BS5.of hG (by simp only [List.length_cons] at hK; omega)) RFr.rf
        · refine xX6_readOne_64 ?_
          refine xX6_readOne_65 (hX.1 _ _ rfl) ?_
          rw [hG.2.2.2.2.1]
          refine xX6_readOne_68 ?_
          refine xX6_readOne_69 (fun c69 => ?_) (fun c69 => ?_)
          · have ho : o < 5 := Nat.lt_of_not_le (fun z => absurd c69 (Int32.not_lt.mpr (nI_le (a := 5) z (by omega))))
            obtain ⟨hr0, hr1, hr2⟩ := hrec ho
            refine xX6_readOne_74 ?_
            refine xX6_readOne_75 (hX.1 _ _ rfl) ?_
            rw [h6]
            refine xX6_readOne_78 ?_
            refine xX6_readOne_80 (fun c80 => ?_) (fun c80 => ?_)
            · refine xX6_readOne_90 ?_
              have e40 : t0 = 40 := by first | exact c61 | exact absurd c52 c80
              subst e40
              refine xX6_readOne_91 (hX.1 _ _ rfl) rfl rfl rfl (t_X6_readInner (by omega) (by omega) hX hB hG hK ho hr2 (fun g2 ts2 cs2 hgd2 hrg2 hrf2 => ?_) (fun g2 b2 hbd2 hbg2 hbf2 hrf2 => ?_))
              · refine xX6_readOne_94 (Or.inr rfl) rfl rfl ?_
                exact k1 _ _ _ hgd2 hrg2 hrf2
              · refine xX6_readOne_94 (Or.inl rfl) rfl rfl ?_
                exact k0 _ _ hbd2 hbg2 hbf2 hrf2
            · refine xX6_readOne_83 ?_
              subst c80
              refine xX6_readOne_84 (hX.1 _ _ rfl) rfl rfl rfl (t_X6_readNegative (by omega) (by omega) hX hB hG hK ho hr1 (fun g3 ts3 cs3 hgd3 hrg3 hrf3 => ?_) (fun g3 b3 hbd3 hbg3 hbf3 hrf3 => ?_))
              · refine xX6_readOne_87 ?_
                refine xX6_readOne_94 (Or.inr rfl) rfl rfl ?_
                exact k1 _ _ _ hgd3 hrg3 hrf3
              · refine xX6_readOne_87 ?_
                refine xX6_readOne_94 (Or.inl rfl) rfl rfl ?_
                exact k0 _ _ hbd3 hbg3 hbf3 hrf3
          · have ho5 : o = 5 := by
              rcases Nat.lt_or_ge o 5 with z | z
              · exact absurd (nI_lt (b := 5) z (by omega)) c69
              · omega
            refine xX6_readOne_72 ?_
            refine xX6_readOne_73 (Or.inl rfl) rfl rfl ?_
            first
              | exact k0 g b0 (B7_no (q := (b0, t0, n0)) (fun z => c5 z) (Int32.not_le.mpr c28) (fun z => absurd z c52) (fun z => absurd z c61)) hG.2.1.1 (BS5.of hG (by simp only [List.length_cons] at hK; omega)) RFr.rf
              | exact k0 g b0 (B7_no (q := (b0, t0, n0)) (fun z => c5 z) (Int32.not_le.mpr c28) (fun z => ho5) (fun z => ho5)) hG.2.1.1 (BS5.of hG (by simp only [List.length_cons] at hK; omega)) RFr.rf
    · refine xX6_readOne_31 ?_
      refine xX6_readOne_32 ?_
      refine xX6_readOne_33 (hX.1 _ _ rfl) ?_
      rw [h6]
      refine xX6_readOne_36 ?_
      have c28 : 106 ≤ t0 := Int32.not_lt.mp c28
      obtain ⟨k9, hk9, ek⟩ := htn.2 c28
      have ek : t0 = nI (106 + k9) := ek
      have hk := tr_name hk9
      have hk3 : t0 - 106 = nI k9 := by rw [ek]; exact hk.1
      have ht0 : t0 ≠ 0 := fun z => by rw [z] at c28; exact absurd c28 (by decide)
      have hx9 : -t0 = tr (nI k9) := by rw [hk.2.1, ek]
      have hol : out.length < 160 := by
        obtain ⟨p, p1, p2, p3⟩ := hG.2.1.2.2.2.2.1 ht0
        have h1 : r0 ≠ [] := by rw [p3]; exact TKS_ne p1
        have := lpos h1
        simp only [List.length_cons] at hK
        omega
      refine xX6_readOne_37 (hX.1 _ _ rfl) rfl rfl rfl (s_X6_add hX hG (c := nI k9) hx9 hol (fun g4 hrg4 hrf4 => ?_))
      refine xX6_readOne_40 ?_
      refine xX6_readOne_41 (hX.1 _ _ rfl) rfl rfl rfl (t_X6_advance (by omega) hX hB hrg4 ht0 (fun g5 hrg5 hrf5 => ?_))
      refine xX6_readOne_44 ?_
      refine xX6_readOne_45 (Or.inr rfl) rfl rfl ?_
      exact k1 _ _ _ (hk3 ▸ G7_name hrg5.ne c28 (hk3.symm ▸ hk.2.2)) hrg5 (hrf4.tr hrf5)
  · refine xX6_readOne_8 ?_
    refine xX6_readOne_9 ?_
    refine xX6_readOne_10 (hX.1 _ _ rfl) ?_
    have h7 : g 35 7 = n0 := hG.2.1.2.2.1 c5
    obtain ⟨m, hm9, em⟩ := htn.1 c5
    have em : n0 = nI m := em
    subst c5
    subst em
    have hm := tr_num hm9
    have hol : out.length < 160 := by
      obtain ⟨p, p1, p2, p3⟩ := hG.2.1.2.2.2.2.1 (show (2 : Int32) ≠ 0 by decide)
      have h1 : r0 ≠ [] := by rw [p3]; exact TKS_ne p1
      have := lpos h1
      simp only [List.length_cons] at hK
      omega
    rw [h7]
    refine xX6_readOne_13 (hX.1 _ _ rfl) rfl rfl rfl (s_X6_add hX hG (c := 100000 + nI m) hm.1.symm hol (fun g6 hrg6 hrf6 => ?_))
    refine xX6_readOne_16 ?_
    refine xX6_readOne_17 (hX.1 _ _ rfl) rfl rfl rfl (t_X6_advance (by omega) hX hB hrg6 (show (2 : Int32) ≠ 0 by decide) (fun g7 hrg7 hrf7 => ?_))
    refine xX6_readOne_20 ?_
    refine xX6_readOne_21 (Or.inr rfl) rfl rfl ?_
    exact k1 _ _ _ (G7_num hrg7.ne hm.2) hrg7 (hrf6.tr hrf7)
