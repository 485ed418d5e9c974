theorem lp_X6_readTerm {d : Nat} {sc : Nat × (Nat → Int32)} {T : List (Nat × Nat)} {rf : Nat → Nat → Option Nat} {gs : Nat → Nat → Int32} {tp : List Int32} {out : List Int32} {o N : Nat} {t0s : List Tok} {F : Int32 → AH → Prop} (hd : N ≤ d) (h6d : 6 ≤ d) (hX : XS T rf) (hB : TB tp) (hsub : RS7 kX6_readOne N o) (k1 : ∀ g2 ts2 cs, GS 6 6 t0s o ts2 cs → RG g2 tp ts2 (out ++ cs) o → RFr gs g2 → F 1 (T, rf, g2)) (k0 : ∀ g2 b, Bad 6 t0s o b → g2 35 1 = nI b → BS5 g2 → RFr gs g2 → F 0 (T, rf, g2)) : ∀ (k i : Nat) (x2 : Int32) (g : Nat → Nat → Int32) (ts : List Tok) (cs : List Int32), ts.length ≤ k → x2 = nI i → i + ts.length ≤ tp.length + 1 → RG g tp ts (out ++ cs) o → GS 6 (6 + 1) t0s o ts cs → (out ++ cs).length + ts.length ≤ 161 → RFr gs g → Wp (d + 1) 0 0 sc kX6_readTerm (Qi F) 7 [some (.ref 35), some (.int 1), some (.int x2)] [] (T, rf, g) 0 0 := by
  intro k
  induction k with
  | zero =>
    intro i x2 g ts cs hk _ _ hG
    have := lpos hG.ne
    omega
  | succ k ih =>
    intro i x2 g ts cs hk hx2 hi hG hS hK hf
    subst hx2
    refine xX6_readTerm_7 ?_
    refine xX6_readTerm_8 ?_
    refine xX6_readTerm_9 (hX.1 _ _ rfl) ?_
    rw [hG.1.1]
    refine xX6_readTerm_12 (fun c12 => ?_) (fun c12 => ?_)
    · have hE : hdT ts = 0 := hG.end1 (by
        have h1 : tp.length ≤ i := Nat.le_of_not_lt (fun z => absurd c12 (Int32.not_le.mpr (nI_lt z (by have := hG.1.2.1; omega))))
        omega)
      have hbn : bt (hdT ts) ≠ 6 := by rw [hE]; decide
      refine xX6_readTerm_49 ?_
      refine xX6_readTerm_50 (Or.inr rfl) rfl rfl ?_
      exact k1 _ _ _ (GS_ok hS hbn) hG hf
    · refine xX6_readTerm_15 ?_
      refine xX6_readTerm_16_f (by decide) ?_
      refine xX6_readTerm_19 ?_
      refine xX6_readTerm_20 (hX.1 _ _ rfl) ?_
      rw [hG.hd]
      refine xX6_readTerm_23 ?_
      refine xX6_readTerm_25 (fun c25 => ?_) (fun c25 => ?_)
      · have hbn : bt (hdT ts) ≠ 6 := fun z => c25 ((bt_at _).2.2.2.2 z)
        refine xX6_readTerm_49 ?_
        refine xX6_readTerm_50 (Or.inr rfl) rfl rfl ?_
        exact k1 _ _ _ (GS_ok hS hbn) hG hf
      · have htk : hdT ts = 42 := c25
        refine xX6_readTerm_28 ?_
        obtain ⟨b, t, n, r9, rfl⟩ := hG.cs
        have htk : t = 42 := htk
        have hbt : bt t = 6 := by rw [htk]; decide
        have ht0 : t ≠ 0 := by rw [htk]; decide
        have htr : (-42 : Int32) = tr (sgn t) := by rw [htk]; decide
        refine xX6_readTerm_29 (hX.1 _ _ rfl) rfl rfl rfl (t_X6_advance (by omega) hX hB hG ht0 (fun g0 hrg0 hrf0 => ?_))
        refine xX6_readTerm_32 ?_
        refine xX6_readTerm_33 (hX.1 _ _ rfl) rfl rfl rfl (hsub _ (by omega) hX hB hrg0 (by simp only [List.length_cons, List.length_append] at *; omega) (fun g1 ts1 cs1 hgd1 hrg1 hrf1 => ?_) (fun g1 b1 hbd1 hbg1 hbf1 hrf1 => ?_))
        · refine xX6_readTerm_36 rfl ?_
          refine xX6_readTerm_37 ?_
          refine xX6_readTerm_38 ?_
          refine xX6_readTerm_40 (hX.1 _ _ rfl) rfl rfl rfl (s_X6_add hX hrg1 (c := sgn t) htr (by have := hgd1.1; have := lpos hrg1.ne; simp only [List.length_cons, List.length_append] at *; omega) (fun g2 hrg2 hrf2 => ?_))
          refine xX6_readTerm_43 rfl rfl ?_
          refine xX6_readTerm_46 ?_
          exact ih (i + 1) _ _ _ _ (by have := hgd1.1; simp only [List.length_cons, List.length_append] at *; omega) (nI_1 i) (by have := hgd1.1; simp only [List.length_cons] at *; omega) (by simpa only [List.append_assoc] using hrg2) (GS_step6 hS hbt hgd1) (by have := hgd1.1; simp only [List.length_cons, List.length_append, List.length_nil] at *; omega) (hf.tr ((hrf0.tr hrf1).tr hrf2))
        · refine xX6_readTerm_36 rfl ?_
          refine xX6_readTerm_37 ?_
          refine xX6_readTerm_38 ?_
          refine xX6_readTerm_40 (hX.1 _ _ rfl) rfl rfl rfl (b_X6_add hX hbf1 (fun g3 hbf3 hbg3 hrf3 => ?_))
          refine xX6_readTerm_43 rfl rfl ?_
          refine xX6_readTerm_46 ?_
          refine xX6_readTerm_7 ?_
          refine xX6_readTerm_8 ?_
          refine xX6_readTerm_9 (hX.1 _ _ rfl) ?_
          refine xX6_readTerm_12 (fun c12 => ?_) (fun c12 => ?_)
          · refine xX6_readTerm_49 ?_
            refine xX6_readTerm_50 (Or.inl rfl) rfl rfl ?_
            exact k0 _ _ (B_step (r := 6) (by omega) hS hbt hbd1) (hbg3.trans hbg1) hbf3 (hf.tr ((hrf0.tr hrf1).tr hrf3))
          · refine xX6_readTerm_15 ?_
            refine xX6_readTerm_16_t (by decide) ?_
            refine xX6_readTerm_49 ?_
            refine xX6_readTerm_50 (Or.inl rfl) rfl rfl ?_
            exact k0 _ _ (B_step (r := 6) (by omega) hS hbt hbd1) (hbg3.trans hbg1) hbf3 (hf.tr ((hrf0.tr hrf1).tr hrf3))
theorem s_X6_readTerm {d : Nat} {sc : Nat × (Nat → Int32)} {T : List (Nat × Nat)} {rf : Nat → Nat → Option Nat} {g : Nat → Nat → Int32} {tp : List Int32} {out : List Int32} {o N : Nat} {ts : List Tok} {F : Int32 → AH → Prop} (hd : N ≤ d) (h6d : 6 ≤ d) (hX : XS T rf) (hB : TB tp) (hG : RG g tp ts out o) (hK : out.length + ts.length ≤ 161) (hsub : RS7 kX6_readOne N o) (k1 : ∀ g2 ts2 cs, GS 6 6 ts o ts2 cs → RG g2 tp ts2 (out ++ cs) o → RFr g g2 → F 1 (T, rf, g2)) (k0 : ∀ g2 b, Bad 6 ts o b → g2 35 1 = nI b → BS5 g2 → RFr g g2 → F 0 (T, rf, g2)) : Mok (d + 1) 0 0 sc kX6_readTerm [.ref 35] (T, rf, g) (Qi F) := by
  refine Mok.ofWp (L := [some (.ref 35), none, none]) rfl rfl rfl ?_
  refine xX6_readTerm_0 ?_
  refine xX6_readTerm_1 (hX.1 _ _ rfl) rfl rfl rfl (hsub _ hd hX hB hG hK (fun g0 ts0 cs0 hgd0 hrg0 hrf0 => ?_) (fun g0 b0 hbd0 hbg0 hbf0 hrf0 => ?_))
  · refine xX6_readTerm_4 rfl ?_
    refine xX6_readTerm_5 ?_
    refine xX6_readTerm_6 rfl ?_
    exact lp_X6_readTerm (gs := g) hd h6d hX hB hsub k1 k0 _ 0 _ _ _ _ (Nat.le_refl _) rfl (by have := hrg0.2.2.2.2.2.2; omega) hrg0 (GS_6 hgd0) (by have := hgd0.1; simp only [List.length_append] at *; omega) hrf0
  · refine xX6_readTerm_4 rfl ?_
    refine xX6_readTerm_5 ?_
    refine xX6_readTerm_6 rfl ?_
    refine xX6_readTerm_7 ?_
    refine xX6_readTerm_8 ?_
    refine xX6_readTerm_9 (hX.1 _ _ rfl) ?_
    refine xX6_readTerm_12 (fun c12 => ?_) (fun c12 => ?_)
    · refine xX6_readTerm_49 ?_
      refine xX6_readTerm_50 (Or.inl rfl) rfl rfl ?_
      exact k0 _ _ (B_6 hbd0) hbg0 hbf0 hrf0
    · refine xX6_readTerm_15 ?_
      refine xX6_readTerm_16_t (by decide) ?_
      refine xX6_readTerm_49 ?_
      refine xX6_readTerm_50 (Or.inl rfl) rfl rfl ?_
      exact k0 _ _ (B_6 hbd0) hbg0 hbf0 hrf0
theorem R_X6_readTerm {o N : Nat} (h6 : 6 ≤ N) (hsub : RS7 kX6_readOne N o) : RSr kX6_readTerm 6 (N + 1) o := by
  intro d hd sc T rf g tp ts out F hX hB hG hK k1 k0
  obtain ⟨e, rfl⟩ : ∃ e, d = e + 1 := ⟨d - 1, by omega⟩
  exact s_X6_readTerm (by omega) (by omega) hX hB hG hK hsub k1 k0
theorem lp_X6_readSum {d : Nat} {sc : Nat × (Nat → Int32)} {T : List (Nat × Nat)} {rf : Nat → Nat → Option Nat} {gs : Nat → Nat → Int32} {tp : List Int32} {out : List Int32} {o N : Nat} {t0s : List Tok} {F : Int32 → AH → Prop} (hd : N ≤ d) (h6d : 6 ≤ d) (hX : XS T rf) (hB : TB tp) (hsub : RSr kX6_readTerm 6 N o) (k1 : ∀ g2 ts2 cs, GS 5 5 t0s o ts2 cs → RG g2 tp ts2 (out ++ cs) o → RFr gs g2 → F 1 (T, rf, g2)) (k0 : ∀ g2 b, Bad 5 t0s o b → g2 35 1 = nI b → BS5 g2 → RFr gs g2 → F 0 (T, rf, g2)) : ∀ (k i : Nat) (x2 : Int32) (g : Nat → Nat → Int32) (ts : List Tok) (cs : List Int32), ts.length ≤ k → x2 = nI i → i + ts.length ≤ tp.length + 1 → RG g tp ts (out ++ cs) o → GS 5 (5 + 1) t0s o ts cs → (out ++ cs).length + ts.length ≤ 161 → RFr gs g → Wp (d + 1) 0 0 sc kX6_readSum (Qi F) 7 [some (.ref 35), some (.int 1), some (.int x2), none] [] (T, rf, g) 0 0 := by
  intro k
  induction k with
  | zero =>
    intro i x2 g ts cs hk _ _ hG
    have := lpos hG.ne
    omega
  | succ k ih =>
    intro i x2 g ts cs hk hx2 hi hG hS hK hf
    subst hx2
    refine xX6_readSum_7 ?_
    refine xX6_readSum_8 ?_
    refine xX6_readSum_9 (hX.1 _ _ rfl) ?_
    rw [hG.1.1]
    refine xX6_readSum_12 (fun c12 => ?_) (fun c12 => ?_)
    · have hE : hdT ts = 0 := hG.end1 (by
        have h1 : tp.length ≤ i := Nat.le_of_not_lt (fun z => absurd c12 (Int32.not_le.mpr (nI_lt z (by have := hG.1.2.1; omega))))
        omega)
      have hbn : bt (hdT ts) ≠ 5 := by rw [hE]; decide
      refine xX6_readSum_63 ?_
      refine xX6_readSum_64 (Or.inr rfl) rfl rfl ?_
      exact k1 _ _ _ (GS_ok hS hbn) hG hf
    · refine xX6_readSum_15 ?_
      refine xX6_readSum_16_f (by decide) ?_
      refine xX6_readSum_19 ?_
      refine xX6_readSum_20 (hX.1 _ _ rfl) ?_
      rw [hG.hd]
      refine xX6_readSum_23 ?_
      refine xX6_readSum_25 (fun c25 => ?_) (fun c25 => ?_)
      · have htk : hdT ts = 43 ∨ hdT ts = 45 := Or.inl c25
        refine xX6_readSum_37 ?_
        refine xX6_readSum_38 (hX.1 _ _ rfl) ?_
        rw [hG.hd]
        refine xX6_readSum_41 rfl ?_
        refine xX6_readSum_42 ?_
        obtain ⟨b, t, n, r9, rfl⟩ := hG.cs
        have htk : t = 43 ∨ t = 45 := htk
        have hbt : bt t = 5 := by rcases htk with z | z <;> (rw [z]; decide)
        have ht0 : t ≠ 0 := by rcases htk with z | z <;> (rw [z]; decide)
        have htr : -t = tr (sgn t) := by rcases htk with z | z <;> (rw [z]; decide)
        refine xX6_readSum_43 (hX.1 _ _ rfl) rfl rfl rfl (t_X6_advance (by omega) hX hB hG ht0 (fun g0 hrg0 hrf0 => ?_))
        refine xX6_readSum_46 ?_
        refine xX6_readSum_47 (hX.1 _ _ rfl) rfl rfl rfl (hsub _ (by omega) hX hB hrg0 (by simp only [List.length_cons, List.length_append] at *; omega) (fun g1 ts1 cs1 hgd1 hrg1 hrf1 => ?_) (fun g1 b1 hbd1 hbg1 hbf1 hrf1 => ?_))
        · refine xX6_readSum_50 rfl ?_
          refine xX6_readSum_51 ?_
          refine xX6_readSum_52 ?_
          refine xX6_readSum_53 ?_
          rw [show hdT ((b, t, n) :: r9) = t from rfl]
          refine xX6_readSum_54 (hX.1 _ _ rfl) rfl rfl rfl (s_X6_add hX hrg1 (c := sgn t) htr (by have := hgd1.1; have := lpos hrg1.ne; simp only [List.length_cons, List.length_append] at *; omega) (fun g2 hrg2 hrf2 => ?_))
          refine xX6_readSum_57 rfl rfl ?_
          refine xX6_readSum_60 ?_
          refine wp_kill_3 ?_
          exact ih (i + 1) _ _ _ _ (by have := hgd1.1; simp only [List.length_cons, List.length_append] at *; omega) (nI_1 i) (by have := hgd1.1; simp only [List.length_cons] at *; omega) (by simpa only [List.append_assoc] using hrg2) (GS_step (r := 5) (by omega) hS hbt hgd1) (by have := hgd1.1; simp only [List.length_cons, List.length_append, List.length_nil] at *; omega) (hf.tr ((hrf0.tr hrf1).tr hrf2))
        · refine xX6_readSum_50 rfl ?_
          refine xX6_readSum_51 ?_
          refine xX6_readSum_52 ?_
          refine xX6_readSum_53 ?_
          rw [show hdT ((b, t, n) :: r9) = t from rfl]
          refine xX6_readSum_54 (hX.1 _ _ rfl) rfl rfl rfl (b_X6_add hX hbf1 (fun g3 hbf3 hbg3 hrf3 => ?_))
          refine xX6_readSum_57 rfl rfl ?_
          refine xX6_readSum_60 ?_
          refine wp_kill_3 ?_
          refine xX6_readSum_7 ?_
          refine xX6_readSum_8 ?_
          refine xX6_readSum_9 (hX.1 _ _ rfl) ?_
          refine xX6_readSum_12 (fun c12 => ?_) (fun c12 => ?_)
          · refine xX6_readSum_63 ?_
            refine xX6_readSum_64 (Or.inl rfl) rfl rfl ?_
            exact k0 _ _ (B_step (r := 5) (by omega) hS hbt hbd1) (hbg3.trans hbg1) hbf3 (hf.tr ((hrf0.tr hrf1).tr hrf3))
          · refine xX6_readSum_15 ?_
            refine xX6_readSum_16_t (by decide) ?_
            refine xX6_readSum_63 ?_
            refine xX6_readSum_64 (Or.inl rfl) rfl rfl ?_
            exact k0 _ _ (B_step (r := 5) (by omega) hS hbt hbd1) (hbg3.trans hbg1) hbf3 (hf.tr ((hrf0.tr hrf1).tr hrf3))
      · refine xX6_readSum_28 ?_
        refine xX6_readSum_29 (hX.1 _ _ rfl) ?_
        rw [hG.hd]
        refine xX6_readSum_32 ?_
        refine xX6_readSum_34 (fun c34 => ?_) (fun c34 => ?_)
        · have hbn : bt (hdT ts) ≠ 5 := fun z => ((bt_at _).2.2.2.1 z).elim c25 c34
          refine xX6_readSum_63 ?_
          refine xX6_readSum_64 (Or.inr rfl) rfl rfl ?_
          exact k1 _ _ _ (GS_ok hS hbn) hG hf
        · have htk : hdT ts = 43 ∨ hdT ts = 45 := Or.inr c34
          refine xX6_readSum_37 ?_
          refine xX6_readSum_38 (hX.1 _ _ rfl) ?_
          rw [hG.hd]
          refine xX6_readSum_41 rfl ?_
          refine xX6_readSum_42 ?_
          obtain ⟨b, t, n, r9, rfl⟩ := hG.cs
          have htk : t = 43 ∨ t = 45 := htk
          have hbt : bt t = 5 := by rcases htk with z | z <;> (rw [z]; decide)
          have ht0 : t ≠ 0 := by rcases htk with z | z <;> (rw [z]; decide)
          have htr : -t = tr (sgn t) := by rcases htk with z | z <;> (rw [z]; decide)
          refine xX6_readSum_43 (hX.1 _ _ rfl) rfl rfl rfl (t_X6_advance (by omega) hX hB hG ht0 (fun g4 hrg4 hrf4 => ?_))
          refine xX6_readSum_46 ?_
          refine xX6_readSum_47 (hX.1 _ _ rfl) rfl rfl rfl (hsub _ (by omega) hX hB hrg4 (by simp only [List.length_cons, List.length_append] at *; omega) (fun g5 ts5 cs5 hgd5 hrg5 hrf5 => ?_) (fun g5 b5 hbd5 hbg5 hbf5 hrf5 => ?_))
          · refine xX6_readSum_50 rfl ?_
            refine xX6_readSum_51 ?_
            refine xX6_readSum_52 ?_
            refine xX6_readSum_53 ?_
            rw [show hdT ((b, t, n) :: r9) = t from rfl]
            refine xX6_readSum_54 (hX.1 _ _ rfl) rfl rfl rfl (s_X6_add hX hrg5 (c := sgn t) htr (by have := hgd5.1; have := lpos hrg5.ne; simp only [List.length_cons, List.length_append] at *; omega) (fun g6 hrg6 hrf6 => ?_))
            refine xX6_readSum_57 rfl rfl ?_
            refine xX6_readSum_60 ?_
            refine wp_kill_3 ?_
            exact ih (i + 1) _ _ _ _ (by have := hgd5.1; simp only [List.length_cons, List.length_append] at *; omega) (nI_1 i) (by have := hgd5.1; simp only [List.length_cons] at *; omega) (by simpa only [List.append_assoc] using hrg6) (GS_step (r := 5) (by omega) hS hbt hgd5) (by have := hgd5.1; simp only [List.length_cons, List.length_append, List.length_nil] at *; omega) (hf.tr ((hrf4.tr hrf5).tr hrf6))
          · refine xX6_readSum_50 rfl ?_
            refine xX6_readSum_51 ?_
            refine xX6_readSum_52 ?_
            refine xX6_readSum_53 ?_
            rw [show hdT ((b, t, n) :: r9) = t from rfl]
            refine xX6_readSum_54 (hX.1 _ _ rfl) rfl rfl rfl (b_X6_add hX hbf5 (fun g7 hbf7 hbg7 hrf7 => ?_))
            refine xX6_readSum_57 rfl rfl ?_
            refine xX6_readSum_60 ?_
            refine wp_kill_3 ?_
            refine xX6_readSum_7 ?_
            refine xX6_readSum_8 ?_
            refine xX6_readSum_9 (hX.1 _ _ rfl) ?_
            refine xX6_readSum_12 (fun c12 => ?_) (fun c12 => ?_)
            · refine xX6_readSum_63 ?_
              refine xX6_readSum_64 (Or.inl rfl) rfl rfl ?_
              exact k0 _ _ (B_step (r := 5) (by omega) hS hbt hbd5) (hbg7.trans hbg5) hbf7 (hf.tr ((hrf4.tr hrf5).tr hrf7))
            · refine xX6_readSum_15 ?_
              refine xX6_readSum_16_t (by decide) ?_
              refine xX6_readSum_63 ?_
              refine xX6_readSum_64 (Or.inl rfl) rfl rfl ?_
              exact k0 _ _ (B_step (r := 5) (by omega) hS hbt hbd5) (hbg7.trans hbg5) hbf7 (hf.tr ((hrf4.tr hrf5).tr hrf7))
theorem s_X6_readSum {d : Nat} {sc : Nat × (Nat → Int32)} {T : List (Nat × Nat)} {rf : Nat → Nat → Option Nat} {g : Nat → Nat → Int32} {tp : List Int32} {out : List Int32} {o N : Nat} {ts : List Tok} {F : Int32 → AH → Prop} (hd : N ≤ d) (h6d : 6 ≤ d) (hX : XS T rf) (hB : TB tp) (hG : RG g tp ts out o) (hK : out.length + ts.length ≤ 161) (hsub : RSr kX6_readTerm 6 N o) (k1 : ∀ g2 ts2 cs, GS 5 5 ts o ts2 cs → RG g2 tp ts2 (out ++ cs) o → RFr g g2 → F 1 (T, rf, g2)) (k0 : ∀ g2 b, Bad 5 ts o b → g2 35 1 = nI b → BS5 g2 → RFr g g2 → F 0 (T, rf, g2)) : Mok (d + 1) 0 0 sc kX6_readSum [.ref 35] (T, rf, g) (Qi F) := by
  refine Mok.ofWp (L := [some (.ref 35), none, none, none]) rfl rfl rfl ?_
  refine xX6_readSum_0 ?_
  refine xX6_readSum_1 (hX.1 _ _ rfl) rfl rfl rfl (hsub _ hd hX hB hG hK (fun g0 ts0 cs0 hgd0 hrg0 hrf0 => ?_) (fun g0 b0 hbd0 hbg0 hbf0 hrf0 => ?_))
  · refine xX6_readSum_4 rfl ?_
    refine xX6_readSum_5 ?_
    refine xX6_readSum_6 rfl ?_
    exact lp_X6_readSum (gs := g) hd h6d hX hB hsub k1 k0 _ 0 _ _ _ _ (Nat.le_refl _) rfl (by have := hrg0.2.2.2.2.2.2; omega) hrg0 (GS_lift (r := 5) (by omega) hgd0) (by have := hgd0.1; simp only [List.length_append] at *; omega) hrf0
  · refine xX6_readSum_4 rfl ?_
    refine xX6_readSum_5 ?_
    refine xX6_readSum_6 rfl ?_
    refine xX6_readSum_7 ?_
    refine xX6_readSum_8 ?_
    refine xX6_readSum_9 (hX.1 _ _ rfl) ?_
    refine xX6_readSum_12 (fun c12 => ?_) (fun c12 => ?_)
    · refine xX6_readSum_63 ?_
      refine xX6_readSum_64 (Or.inl rfl) rfl rfl ?_
      exact k0 _ _ (B_lift (r := 5) (by omega) hbd0) hbg0 hbf0 hrf0
    · refine xX6_readSum_15 ?_
      refine xX6_readSum_16_t (by decide) ?_
      refine xX6_readSum_63 ?_
      refine xX6_readSum_64 (Or.inl rfl) rfl rfl ?_
      exact k0 _ _ (B_lift (r := 5) (by omega) hbd0) hbg0 hbf0 hrf0
theorem R_X6_readSum {o N : Nat} (h6 : 6 ≤ N) (hsub : RSr kX6_readTerm 6 N o) : RSr kX6_readSum 5 (N + 1) o := by
  intro d hd sc T rf g tp ts out F hX hB hG hK k1 k0
  obtain ⟨e, rfl⟩ : ∃ e, d = e + 1 := ⟨d - 1, by omega⟩
  exact s_X6_readSum (by omega) (by omega) hX hB hG hK hsub k1 k0
theorem lp_X6_readAnd {d : Nat} {sc : Nat × (Nat → Int32)} {T : List (Nat × Nat)} {rf : Nat → Nat → Option Nat} {gs : Nat → Nat → Int32} {tp : List Int32} {out : List Int32} {o N : Nat} {t0s : List Tok} {F : Int32 → AH → Prop} (hd : N ≤ d) (h6d : 6 ≤ d) (hX : XS T rf) (hB : TB tp) (hsub : RSr kX6_readNot 3 N o) (k1 : ∀ g2 ts2 cs, GS 2 2 t0s o ts2 cs → RG g2 tp ts2 (out ++ cs) o → RFr gs g2 → F 1 (T, rf, g2)) (k0 : ∀ g2 b, Bad 2 t0s o b → g2 35 1 = nI b → BS5 g2 → RFr gs g2 → F 0 (T, rf, g2)) : ∀ (k i : Nat) (x2 : Int32) (g : Nat → Nat → Int32) (ts : List Tok) (cs : List Int32), ts.length ≤ k → x2 = nI i → i + ts.length ≤ tp.length + 1 → RG g tp ts (out ++ cs) o → GS 2 (2 + 1) t0s o ts cs → (out ++ cs).length + ts.length ≤ 161 → RFr gs g → Wp (d + 1) 0 0 sc kX6_readAnd (Qi F) 7 [some (.ref 35), some (.int 1), some (.int x2)] [] (T, rf, g) 0 0 := by
  intro k
  induction k with
  | zero =>
    intro i x2 g ts cs hk _ _ hG
    have := lpos hG.ne
    omega
  | succ k ih =>
    intro i x2 g ts cs hk hx2 hi hG hS hK hf
    subst hx2
    refine xX6_readAnd_7 ?_
    refine xX6_readAnd_8 ?_
    refine xX6_readAnd_9 (hX.1 _ _ rfl) ?_
    rw [hG.1.1]
    refine xX6_readAnd_12 (fun c12 => ?_) (fun c12 => ?_)
    · have hE : hdT ts = 0 := hG.end1 (by
        have h1 : tp.length ≤ i := Nat.le_of_not_lt (fun z => absurd c12 (Int32.not_le.mpr (nI_lt z (by have := hG.1.2.1; omega))))
        omega)
      have hbn : bt (hdT ts) ≠ 2 := by rw [hE]; decide
      refine xX6_readAnd_49 ?_
      refine xX6_readAnd_50 (Or.inr rfl) rfl rfl ?_
      exact k1 _ _ _ (GS_ok hS hbn) hG hf
    · refine xX6_readAnd_15 ?_
      refine xX6_readAnd_16_f (by decide) ?_
      refine xX6_readAnd_19 ?_
      refine xX6_readAnd_20 (hX.1 _ _ rfl) ?_
      rw [hG.hd]
      refine xX6_readAnd_23 ?_
      refine xX6_readAnd_25 (fun c25 => ?_) (fun c25 => ?_)
      · have hbn : bt (hdT ts) ≠ 2 := fun z => c25 ((bt_at _).2.1 z)
        refine xX6_readAnd_49 ?_
        refine xX6_readAnd_50 (Or.inr rfl) rfl rfl ?_
        exact k1 _ _ _ (GS_ok hS hbn) hG hf
      · have htk : hdT ts = 104 := c25
        refine xX6_readAnd_28 ?_
        obtain ⟨b, t, n, r9, rfl⟩ := hG.cs
        have htk : t = 104 := htk
        have hbt : bt t = 2 := by rw [htk]; decide
        have ht0 : t ≠ 0 := by rw [htk]; decide
        have htr : (-104 : Int32) = tr (sgn t) := by rw [htk]; decide
        refine xX6_readAnd_29 (hX.1 _ _ rfl) rfl rfl rfl (t_X6_advance (by omega) hX hB hG ht0 (fun g0 hrg0 hrf0 => ?_))
        refine xX6_readAnd_32 ?_
        refine xX6_readAnd_33 (hX.1 _ _ rfl) rfl rfl rfl (hsub _ (by omega) hX hB hrg0 (by simp only [List.length_cons, List.length_append] at *; omega) (fun g1 ts1 cs1 hgd1 hrg1 hrf1 => ?_) (fun g1 b1 hbd1 hbg1 hbf1 hrf1 => ?_))
        · refine xX6_readAnd_36 rfl ?_
          refine xX6_readAnd_37 ?_
          refine xX6_readAnd_38 ?_
          refine xX6_readAnd_40 (hX.1 _ _ rfl) rfl rfl rfl (s_X6_add hX hrg1 (c := sgn t) htr (by have := hgd1.1; have := lpos hrg1.ne; simp only [List.length_cons, List.length_append] at *; omega) (fun g2 hrg2 hrf2 => ?_))
          refine xX6_readAnd_43 rfl rfl ?_
          refine xX6_readAnd_46 ?_
          exact ih (i + 1) _ _ _ _ (by have := hgd1.1; simp only [List.length_cons, List.length_append] at *; omega) (nI_1 i) (by have := hgd1.1; simp only [List.length_cons] at *; omega) (by simpa only [List.append_assoc] using hrg2) (GS_step (r := 2) (by omega) hS hbt hgd1) (by have := hgd1.1; simp only [List.length_cons, List.length_append, List.length_nil] at *; omega) (hf.tr ((hrf0.tr hrf1).tr hrf2))
        · refine xX6_readAnd_36 rfl ?_
          refine xX6_readAnd_37 ?_
          refine xX6_readAnd_38 ?_
          refine xX6_readAnd_40 (hX.1 _ _ rfl) rfl rfl rfl (b_X6_add hX hbf1 (fun g3 hbf3 hbg3 hrf3 => ?_))
          refine xX6_readAnd_43 rfl rfl ?_
          refine xX6_readAnd_46 ?_
          refine xX6_readAnd_7 ?_
          refine xX6_readAnd_8 ?_
          refine xX6_readAnd_9 (hX.1 _ _ rfl) ?_
          refine xX6_readAnd_12 (fun c12 => ?_) (fun c12 => ?_)
          · refine xX6_readAnd_49 ?_
            refine xX6_readAnd_50 (Or.inl rfl) rfl rfl ?_
            exact k0 _ _ (B_step (r := 2) (by omega) hS hbt hbd1) (hbg3.trans hbg1) hbf3 (hf.tr ((hrf0.tr hrf1).tr hrf3))
          · refine xX6_readAnd_15 ?_
            refine xX6_readAnd_16_t (by decide) ?_
            refine xX6_readAnd_49 ?_
            refine xX6_readAnd_50 (Or.inl rfl) rfl rfl ?_
            exact k0 _ _ (B_step (r := 2) (by omega) hS hbt hbd1) (hbg3.trans hbg1) hbf3 (hf.tr ((hrf0.tr hrf1).tr hrf3))
theorem s_X6_readAnd {d : Nat} {sc : Nat × (Nat → Int32)} {T : List (Nat × Nat)} {rf : Nat → Nat → Option Nat} {g : Nat → Nat → Int32} {tp : List Int32} {out : List Int32} {o N : Nat} {ts : List Tok} {F : Int32 → AH → Prop} (hd : N ≤ d) (h6d : 6 ≤ d) (hX : XS T rf) (hB : TB tp) (hG : RG g tp ts out o) (hK : out.length + ts.length ≤ 161) (hsub : RSr kX6_readNot 3 N o) (k1 : ∀ g2 ts2 cs, GS 2 2 ts o ts2 cs → RG g2 tp ts2 (out ++ cs) o → RFr g g2 → F 1 (T, rf, g2)) (k0 : ∀ g2 b, Bad 2 ts o b → g2 35 1 = nI b → BS5 g2 → RFr g g2 → F 0 (T, rf, g2)) : Mok (d + 1) 0 0 sc kX6_readAnd [.ref 35] (T, rf, g) (Qi F) := by
  refine Mok.ofWp (L := [some (.ref 35), none, none]) rfl rfl rfl ?_
  refine xX6_readAnd_0 ?_
  refine xX6_readAnd_1 (hX.1 _ _ rfl) rfl rfl rfl (hsub _ hd hX hB hG hK (fun g0 ts0 cs0 hgd0 hrg0 hrf0 => ?_) (fun g0 b0 hbd0 hbg0 hbf0 hrf0 => ?_))
  · refine xX6_readAnd_4 rfl ?_
    refine xX6_readAnd_5 ?_
    refine xX6_readAnd_6 rfl ?_
    exact lp_X6_readAnd (gs := g) hd h6d hX hB hsub k1 k0 _ 0 _ _ _ _ (Nat.le_refl _) rfl (by have := hrg0.2.2.2.2.2.2; omega) hrg0 (GS_lift (r := 2) (by omega) hgd0) (by have := hgd0.1; simp only [List.length_append] at *; omega) hrf0
  · refine xX6_readAnd_4 rfl ?_
    refine xX6_readAnd_5 ?_
    refine xX6_readAnd_6 rfl ?_
    refine xX6_readAnd_7 ?_
    refine xX6_readAnd_8 ?_
    refine xX6_readAnd_9 (hX.1 _ _ rfl) ?_
    refine xX6_readAnd_12 (fun c12 => ?_) (fun c12 => ?_)
    · refine xX6_readAnd_49 ?_
      refine xX6_readAnd_50 (Or.inl rfl) rfl rfl ?_
      exact k0 _ _ (B_lift (r := 2) (by omega) hbd0) hbg0 hbf0 hrf0
    · refine xX6_readAnd_15 ?_
      refine xX6_readAnd_16_t (by decide) ?_
      refine xX6_readAnd_49 ?_
      refine xX6_readAnd_50 (Or.inl rfl) rfl rfl ?_
      exact k0 _ _ (B_lift (r := 2) (by omega) hbd0) hbg0 hbf0 hrf0
theorem R_X6_readAnd {o N : Nat} (h6 : 6 ≤ N) (hsub : RSr kX6_readNot 3 N o) : RSr kX6_readAnd 2 (N + 1) o := by
  intro d hd sc T rf g tp ts out F hX hB hG hK k1 k0
  obtain ⟨e, rfl⟩ : ∃ e, d = e + 1 := ⟨d - 1, by omega⟩
  exact s_X6_readAnd (by omega) (by omega) hX hB hG hK hsub k1 k0
theorem lp_X6_readOr {d : Nat} {sc : Nat × (Nat → Int32)} {T : List (Nat × Nat)} {rf : Nat → Nat → Option Nat} {gs : Nat → Nat → Int32} {tp : List Int32} {out : List Int32} {o N : Nat} {t0s : List Tok} {F : Int32 → AH → Prop} (hd : N ≤ d) (h6d : 6 ≤ d) (hX : XS T rf) (hB : TB tp) (hsub : RSr kX6_readAnd 2 N o) (k1 : ∀ g2 ts2 cs, GS 1 1 t0s o ts2 cs → RG g2 tp ts2 (out ++ cs) o → RFr gs g2 → F 1 (T, rf, g2)) (k0 : ∀ g2 b, Bad 1 t0s o b → g2 35 1 = nI b → BS5 g2 → RFr gs g2 → F 0 (T, rf, g2)) : ∀ (k i : Nat) (x2 : Int32) (g : Nat → Nat → Int32) (ts : List Tok) (cs : List Int32), ts.length ≤ k → x2 = nI i → i + ts.length ≤ tp.length + 1 → RG g tp ts (out ++ cs) o → GS 1 (1 + 1) t0s o ts cs → (out ++ cs).length + ts.length ≤ 161 → RFr gs g → Wp (d + 1) 0 0 sc kX6_readOr (Qi F) 7 [some (.ref 35), some (.int 1), some (.int x2)] [] (T, rf, g) 0 0 := by
  intro k
  induction k with
  | zero =>
    intro i x2 g ts cs hk _ _ hG
    have := lpos hG.ne
    omega
  | succ k ih =>
    intro i x2 g ts cs hk hx2 hi hG hS hK hf
    subst hx2
    refine xX6_readOr_7 ?_
    refine xX6_readOr_8 ?_
    refine xX6_readOr_9 (hX.1 _ _ rfl) ?_
    rw [hG.1.1]
    refine xX6_readOr_12 (fun c12 => ?_) (fun c12 => ?_)
    · have hE : hdT ts = 0 := hG.end1 (by
        have h1 : tp.length ≤ i := Nat.le_of_not_lt (fun z => absurd c12 (Int32.not_le.mpr (nI_lt z (by have := hG.1.2.1; omega))))
        omega)
      have hbn : bt (hdT ts) ≠ 1 := by rw [hE]; decide
      refine xX6_readOr_49 ?_
      refine xX6_readOr_50 (Or.inr rfl) rfl rfl ?_
      exact k1 _ _ _ (GS_ok hS hbn) hG hf
    · refine xX6_readOr_15 ?_
      refine xX6_readOr_16_f (by decide) ?_
      refine xX6_readOr_19 ?_
      refine xX6_readOr_20 (hX.1 _ _ rfl) ?_
      rw [hG.hd]
      refine xX6_readOr_23 ?_
      refine xX6_readOr_25 (fun c25 => ?_) (fun c25 => ?_)
      · have hbn : bt (hdT ts) ≠ 1 := fun z => c25 ((bt_at _).1 z)
        refine xX6_readOr_49 ?_
        refine xX6_readOr_50 (Or.inr rfl) rfl rfl ?_
        exact k1 _ _ _ (GS_ok hS hbn) hG hf
      · have htk : hdT ts = 103 := c25
        refine xX6_readOr_28 ?_
        obtain ⟨b, t, n, r9, rfl⟩ := hG.cs
        have htk : t = 103 := htk
        have hbt : bt t = 1 := by rw [htk]; decide
        have ht0 : t ≠ 0 := by rw [htk]; decide
        have htr : (-103 : Int32) = tr (sgn t) := by rw [htk]; decide
        refine xX6_readOr_29 (hX.1 _ _ rfl) rfl rfl rfl (t_X6_advance (by omega) hX hB hG ht0 (fun g0 hrg0 hrf0 => ?_))
        refine xX6_readOr_32 ?_
        refine xX6_readOr_33 (hX.1 _ _ rfl) rfl rfl rfl (hsub _ (by omega) hX hB hrg0 (by simp only [List.length_cons, List.length_append] at *; omega) (fun g1 ts1 cs1 hgd1 hrg1 hrf1 => ?_) (fun g1 b1 hbd1 hbg1 hbf1 hrf1 => ?_))
        · refine xX6_readOr_36 rfl ?_
          refine xX6_readOr_37 ?_
          refine xX6_readOr_38 ?_
          refine xX6_readOr_40 (hX.1 _ _ rfl) rfl rfl rfl (s_X6_add hX hrg1 (c := sgn t) htr (by have := hgd1.1; have := lpos hrg1.ne; simp only [List.length_cons, List.length_append] at *; omega) (fun g2 hrg2 hrf2 => ?_))
          refine xX6_readOr_43 rfl rfl ?_
          refine xX6_readOr_46 ?_
          exact ih (i + 1) _ _ _ _ (by have := hgd1.1; simp only [List.length_cons, List.length_append] at *; omega) (nI_1 i) (by have := hgd1.1; simp only [List.length_cons] at *; omega) (by simpa only [List.append_assoc] using hrg2) (GS_step (r := 1) (by omega) hS hbt hgd1) (by have := hgd1.1; simp only [List.length_cons, List.length_append, List.length_nil] at *; omega) (hf.tr ((hrf0.tr hrf1).tr hrf2))
        · refine xX6_readOr_36 rfl ?_
          refine xX6_readOr_37 ?_
          refine xX6_readOr_38 ?_
          refine xX6_readOr_40 (hX.1 _ _ rfl) rfl rfl rfl (b_X6_add hX hbf1 (fun g3 hbf3 hbg3 hrf3 => ?_))
          refine xX6_readOr_43 rfl rfl ?_
          refine xX6_readOr_46 ?_
          refine xX6_readOr_7 ?_
          refine xX6_readOr_8 ?_
          refine xX6_readOr_9 (hX.1 _ _ rfl) ?_
          refine xX6_readOr_12 (fun c12 => ?_) (fun c12 => ?_)
          · refine xX6_readOr_49 ?_
            refine xX6_readOr_50 (Or.inl rfl) rfl rfl ?_
            exact k0 _ _ (B_step (r := 1) (by omega) hS hbt hbd1) (hbg3.trans hbg1) hbf3 (hf.tr ((hrf0.tr hrf1).tr hrf3))
          · refine xX6_readOr_15 ?_
            refine xX6_readOr_16_t (by decide) ?_
            refine xX6_readOr_49 ?_
            refine xX6_readOr_50 (Or.inl rfl) rfl rfl ?_
            exact k0 _ _ (B_step (r := 1) (by omega) hS hbt hbd1) (hbg3.trans hbg1) hbf3 (hf.tr ((hrf0.tr hrf1).tr hrf3))
theorem s_X6_readOr {d : Nat} {sc : Nat × (Nat → Int32)} {T : List (Nat × Nat)} {rf : Nat → Nat → Option Nat} {g : Nat → Nat → Int32} {tp : List Int32} {out : List Int32} {o N : Nat} {ts : List Tok} {F : Int32 → AH → Prop} (hd : N ≤ d) (h6d : 6 ≤ d) (hX : XS T rf) (hB : TB tp) (hG : RG g tp ts out o) (hK : out.length + ts.length ≤ 161) (hsub : RSr kX6_readAnd 2 N o) (k1 : ∀ g2 ts2 cs, GS 1 1 ts o ts2 cs → RG g2 tp ts2 (out ++ cs) o → RFr g g2 → F 1 (T, rf, g2)) (k0 : ∀ g2 b, Bad 1 ts o b → g2 35 1 = nI b → BS5 g2 → RFr g g2 → F 0 (T, rf, g2)) : Mok (d + 1) 0 0 sc kX6_readOr [.ref 35] (T, rf, g) (Qi F) := by
  refine Mok.ofWp (L := [some (.ref 35), none, none]) rfl rfl rfl ?_
  refine xX6_readOr_0 ?_
  refine xX6_readOr_1 (hX.1 _ _ rfl) rfl rfl rfl (hsub _ hd hX hB hG hK (fun g0 ts0 cs0 hgd0 hrg0 hrf0 => ?_) (fun g0 b0 hbd0 hbg0 hbf0 hrf0 => ?_))
  · refine xX6_readOr_4 rfl ?_
    refine xX6_readOr_5 ?_
    refine xX6_readOr_6 rfl ?_
    exact lp_X6_readOr (gs := g) hd h6d hX hB hsub k1 k0 _ 0 _ _ _ _ (Nat.le_refl _) rfl (by have := hrg0.2.2.2.2.2.2; omega) hrg0 (GS_lift (r := 1) (by omega) hgd0) (by have := hgd0.1; simp only [List.length_append] at *; omega) hrf0
  · refine xX6_readOr_4 rfl ?_
    refine xX6_readOr_5 ?_
    refine xX6_readOr_6 rfl ?_
    refine xX6_readOr_7 ?_
    refine xX6_readOr_8 ?_
    refine xX6_readOr_9 (hX.1 _ _ rfl) ?_
    refine xX6_readOr_12 (fun c12 => ?_) (fun c12 => ?_)
    · refine xX6_readOr_49 ?_
      refine xX6_readOr_50 (Or.inl rfl) rfl rfl ?_
      exact k0 _ _ (B_lift (r := 1) (by omega) hbd0) hbg0 hbf0 hrf0
    · refine xX6_readOr_15 ?_
      refine xX6_readOr_16_t (by decide) ?_
      refine xX6_readOr_49 ?_
      refine xX6_readOr_50 (Or.inl rfl) rfl rfl ?_
      exact k0 _ _ (B_lift (r := 1) (by omega) hbd0) hbg0 hbf0 hrf0
theorem R_X6_readOr {o N : Nat} (h6 : 6 ≤ N) (hsub : RSr kX6_readAnd 2 N o) : RSr kX6_readOr 1 (N + 1) o := by
  intro d hd sc T rf g tp ts out F hX hB hG hK k1 k0
  obtain ⟨e, rfl⟩ : ∃ e, d = e + 1 := ⟨d - 1, by omega⟩
  exact s_X6_readOr (by omega) (by omega) hX hB hG hK hsub k1 k0
