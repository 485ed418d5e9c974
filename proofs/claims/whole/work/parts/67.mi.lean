theorem lp_X12_sheet {d : Nat} {sc : Nat × (Nat → Int32)} {T : List (Nat × Nat)} {rf : Nat → Nat → Option Nat} {g0 : Nat → Nat → Int32} {s so n x y : Int32} {sh : Nat → Nat → Int32} {F : Int32 → AH → Prop} (hM : MS T rf) (es : s = nI (nN s)) (hs4 : nN s < 4) (hQ : ∀ g2, MG g0 g2 → MHc g2 sh (nN s) x y (fun _ => 0) 40 → F 1 (T, rf, g2)) : ∀ (k j : Nat) (x4 : Int32) (g : Nat → Nat → Int32), (j + k = 40) → (x4 = nI j) → (MG g0 g) → (MHc g sh (nN s) x y (fun _ => 0) j) → Wp d 0 0 sc kX12_sheet (Qi F) 70 [some (.ref 53), some (.int s), some (.int so), some (.int n), some (.int x4)] [] (T, rf, g) 0 0 := by
  intro k
  induction k with
  | zero =>
    intro j x4 g hj hx4 hf hH
    subst hx4
    refine xX12_sheet_70 ?_
    refine xX12_sheet_72 ?_
    refine xX12_sheet_74_t (nI_le (a := 40) (by omega) (by omega)) ?_
    refine xX12_sheet_96 ?_
    refine xX12_sheet_97 rfl rfl ?_
    have e : j = 40 := by omega
    subst e
    exact hQ _ hf hH
  | succ k ih =>
    intro j x4 g hj hx4 hf hH
    subst hx4
    refine xX12_sheet_70 ?_
    refine xX12_sheet_72 ?_
    refine xX12_sheet_74_f (nI_ge (b := 40) (by omega) (by omega)) ?_
    refine xX12_sheet_77 ?_
    refine xX12_sheet_78 (hM.1 _ _ rfl) (hM.2 _ _ _ rfl) ?_
    refine xX12_sheet_81 ?_
    refine xX12_sheet_83 ?_
    refine xX12_sheet_84 ?_
    refine xX12_sheet_85 ?_
    refine xX12_sheet_87 ?_
    refine xX12_sheet_88 ?_
    refine xX12_sheet_89 (j := (40 * nN s + j)) (hM.1 _ _ rfl) ((congrArg (fun z => 40 * z + nI j) es).trans (i40 (by omega) (by omega))) (by omega) rfl ?_
    refine xX12_sheet_90 rfl rfl ?_
    refine xX12_sheet_93 ?_
    exact ih (j + 1) _ _ (by omega) (nI_1 _) (hf.tr (MG.pu (by omega))) (MHc_s hH (by omega) rfl)
theorem s_X12_sheet0 {d : Nat} {sc : Nat × (Nat → Int32)} {T : List (Nat × Nat)} {rf : Nat → Nat → Option Nat} {g : Nat → Nat → Int32} {s n : Int32} {sh : Nat → Nat → Int32} {F : Int32 → AH → Prop} (hM : MS T rf) (hH : MH g sh) (hQ : ∀ g2, MH g2 (sheetS sh s (-1) n) → MG g g2 → F (sheetP s (-1) n) (T, rf, g2)) : Mok (d + 1) 0 0 sc kX12_sheet [.ref 53, .int s, .int (-1), .int n] (T, rf, g) (Qi F) := by
  refine Mok.ofWp (L := [some (.ref 53), some (.int s), some (.int (-1)), some (.int n), none]) rfl rfl rfl ?_
  refine xX12_sheet_0 ?_
  refine xX12_sheet_1 ?_
  refine xX12_sheet_2 ?_
  refine xX12_sheet_3 rfl rfl rfl (s_X12_in  (fun hw0 => ?_) (fun nw0 => ?_))
  · refine xX12_sheet_6_f (by decide) ?_
    refine xX12_sheet_9 ?_
    refine xX12_sheet_10 ?_
    refine xX12_sheet_11 ?_
    refine xX12_sheet_12 rfl rfl rfl (s_X12_in  (fun hin1 => ?_) (fun hin1 => ?_))
    · refine xX12_sheet_15_f (by decide) ?_
      refine xX12_sheet_18 ?_
      refine xX12_sheet_19 ?_
      refine xX12_sheet_20_t (by decide) ?_
      refine xX12_sheet_32 ?_
      refine xX12_sheet_33 ?_
      refine xX12_sheet_34_t (by decide) ?_
      refine xX12_sheet_44 ?_
      refine xX12_sheet_45 (hM.1 _ _ rfl) (hM.2 _ _ _ rfl) ?_
      refine xX12_sheet_48 ?_
      refine xX12_sheet_49 ?_
      refine xX12_sheet_50 (j := (nN s)) (hM.1 _ _ rfl) (inN hw0).1 (Nat.lt_succ_of_le (inN hw0).2) rfl ?_
      refine xX12_sheet_51 ?_
      refine xX12_sheet_52 (hM.1 _ _ rfl) (hM.2 _ _ _ rfl) ?_
      refine xX12_sheet_55 ?_
      refine xX12_sheet_56 ?_
      refine xX12_sheet_57 ?_
      refine xX12_sheet_58_f (by decide) ?_
      refine xX12_sheet_61 ?_
      refine xX12_sheet_62 ?_
      refine xX12_sheet_66 (j := (nN s)) (hM.1 _ _ rfl) (inN hw0).1 (Nat.lt_succ_of_le (inN hw0).2) rfl ?_
      refine xX12_sheet_67 ?_
      refine xX12_sheet_68 rfl ?_
      have hs4 : nN s < 4 := Nat.lt_succ_of_le (inN hw0).2
      have hu : MG g (up (up g 65 (nN s) (-1)) 66 (nN s) 0) := (MG.pu (by omega)).tr (MG.pu (by omega))
      refine lp_X12_sheet hM (inN hw0).1 hs4 (fun g2 h1 h2 => ?_) 40 0 _ _ (by omega) rfl hu (MHc_0 hH)
      have q := hQ g2 (by
        rw [sheetS, if_pos hw0, if_pos (by decide), if_pos rfl]
        exact MHc_e h2 (fun a q => by funext k; exact if_neg q) (by simp [clr]) (by simp [clr]) (fun k hk => by first | (simp [clr]; done) | (simp [clr]; intro z; omega))) h1
      rw [sheetP, if_pos hw0, if_pos (by decide), if_pos rfl] at q
      exact q
    · exact absurd (by decide) hin1
  · refine xX12_sheet_6_t (by decide) ?_
    refine xX12_sheet_29 ?_
    refine xX12_sheet_31 rfl rfl ?_
    have q := hQ g (by rw [sheetS, if_neg nw0]; exact hH) MG.rf
    rw [sheetP, if_neg nw0] at q
    exact q
theorem s_X12_sheet1 {d : Nat} {sc : Nat × (Nat → Int32)} {T : List (Nat × Nat)} {rf : Nat → Nat → Option Nat} {g : Nat → Nat → Int32} {s so n : Int32} {sh : Nat → Nat → Int32} {F : Int32 → AH → Prop} (hM : MS T rf) (hH : MH g sh) (hne : ¬ so = -1) (hQ : ∀ g2, MH g2 (sheetS sh s so n) → MG g g2 → F (sheetP s so n) (T, rf, g2)) : Mok (d + 1) 0 0 sc kX12_sheet [.ref 53, .int s, .int so, .int n] (T, rf, g) (Qi F) := by
  refine Mok.ofWp (L := [some (.ref 53), some (.int s), some (.int so), some (.int n), none]) rfl rfl rfl ?_
  refine xX12_sheet_0 ?_
  refine xX12_sheet_1 ?_
  refine xX12_sheet_2 ?_
  refine xX12_sheet_3 rfl rfl rfl (s_X12_in  (fun hw0 => ?_) (fun nw0 => ?_))
  · refine xX12_sheet_6_f (by decide) ?_
    refine xX12_sheet_9 ?_
    refine xX12_sheet_10 ?_
    refine xX12_sheet_11 ?_
    refine xX12_sheet_12 rfl rfl rfl (s_X12_in  (fun hw1 => ?_) (fun nw1 => ?_))
    · refine xX12_sheet_15_f (by decide) ?_
      refine xX12_sheet_18 ?_
      refine xX12_sheet_19 ?_
      refine xX12_sheet_20_f hne ?_
      refine xX12_sheet_23 ?_
      refine xX12_sheet_24 ?_
      refine xX12_sheet_26 (fun c26 => ?_) (fun c26 => ?_)
      · refine xX12_sheet_32 ?_
        refine xX12_sheet_33 ?_
        refine xX12_sheet_34_f hne ?_
        refine xX12_sheet_37 ?_
        refine xX12_sheet_38 (fun c38 => ?_) (fun c38 => ?_)
        · refine xX12_sheet_44 ?_
          refine xX12_sheet_45 (hM.1 _ _ rfl) (hM.2 _ _ _ rfl) ?_
          refine xX12_sheet_48 ?_
          refine xX12_sheet_49 ?_
          refine xX12_sheet_50 (j := (nN s)) (hM.1 _ _ rfl) (inN hw0).1 (Nat.lt_succ_of_le (inN hw0).2) rfl ?_
          refine xX12_sheet_51 ?_
          refine xX12_sheet_52 (hM.1 _ _ rfl) (hM.2 _ _ _ rfl) ?_
          refine xX12_sheet_55 ?_
          refine xX12_sheet_56 ?_
          refine xX12_sheet_57 ?_
          refine xX12_sheet_58_t hne ?_
          refine xX12_sheet_65 ?_
          refine xX12_sheet_66 (j := (nN s)) (hM.1 _ _ rfl) (inN hw0).1 (Nat.lt_succ_of_le (inN hw0).2) rfl ?_
          refine xX12_sheet_67 ?_
          refine xX12_sheet_68 rfl ?_
          have hs4 : nN s < 4 := Nat.lt_succ_of_le (inN hw0).2
          have hu : MG g (up (up g 65 (nN s) so) 66 (nN s) n) := (MG.pu (by omega)).tr (MG.pu (by omega))
          refine lp_X12_sheet hM (inN hw0).1 hs4 (fun g2 h1 h2 => ?_) 40 0 _ _ (by omega) rfl hu (MHc_0 hH)
          have q := hQ g2 (by
            rw [sheetS, if_pos hw0, if_pos hw1, if_neg hne, if_neg (Int32.not_lt.mpr c26), if_neg (Int32.not_lt.mpr c38)]
            exact MHc_e h2 (fun a q => by funext k; exact if_neg q) (by simp [clr]) (by simp [clr]) (fun k hk => by first | (simp [clr]; done) | (simp [clr]; intro z; omega))) h1
          rw [sheetP, if_pos hw0, if_pos hw1, if_neg hne, if_neg (Int32.not_lt.mpr c26), if_neg (Int32.not_lt.mpr c38)] at q
          exact q
        · refine xX12_sheet_41 ?_
          refine xX12_sheet_43 rfl rfl ?_
          have q := hQ g (by rw [sheetS, if_pos hw0, if_pos hw1, if_neg hne, if_neg (Int32.not_lt.mpr c26), if_pos (Int32.not_le.mp c38)]; exact hH) MG.rf
          rw [sheetP, if_pos hw0, if_pos hw1, if_neg hne, if_neg (Int32.not_lt.mpr c26), if_pos (Int32.not_le.mp c38)] at q
          exact q
      · refine xX12_sheet_29 ?_
        refine xX12_sheet_31 rfl rfl ?_
        have q := hQ g (by rw [sheetS, if_pos hw0, if_pos hw1, if_neg hne, if_pos (Int32.not_le.mp c26)]; exact hH) MG.rf
        rw [sheetP, if_pos hw0, if_pos hw1, if_neg hne, if_pos (Int32.not_le.mp c26)] at q
        exact q
    · refine xX12_sheet_15_t (by decide) ?_
      refine xX12_sheet_29 ?_
      refine xX12_sheet_31 rfl rfl ?_
      have q := hQ g (by rw [sheetS, if_pos hw0, if_neg nw1]; exact hH) MG.rf
      rw [sheetP, if_pos hw0, if_neg nw1] at q
      exact q
  · refine xX12_sheet_6_t (by decide) ?_
    refine xX12_sheet_29 ?_
    refine xX12_sheet_31 rfl rfl ?_
    have q := hQ g (by rw [sheetS, if_neg nw0]; exact hH) MG.rf
    rw [sheetP, if_neg nw0] at q
    exact q
theorem s_X12_sheet {d : Nat} {sc : Nat × (Nat → Int32)} {T : List (Nat × Nat)} {rf : Nat → Nat → Option Nat} {g : Nat → Nat → Int32} {s so n : Int32} {sh : Nat → Nat → Int32} {F : Int32 → AH → Prop} (hM : MS T rf) (hH : MH g sh) (hQ : ∀ g2, MH g2 (sheetS sh s so n) → MG g g2 → F (sheetP s so n) (T, rf, g2)) : Mok (d + 1) 0 0 sc kX12_sheet [.ref 53, .int s, .int so, .int n] (T, rf, g) (Qi F) := by
  by_cases h : so = -1
  · subst h; exact s_X12_sheet0 hM hH hQ
  · exact s_X12_sheet1 hM hH h hQ
theorem s_X12_cell {d : Nat} {sc : Nat × (Nat → Int32)} {T : List (Nat × Nat)} {rf : Nat → Nat → Option Nat} {g : Nat → Nat → Int32} {s i v : Int32} {sh : Nat → Nat → Int32} {F : Int32 → AH → Prop} (hM : MS T rf) (hH : MH g sh) (hz4 : ∀ a, a < 4 → ∃ n, n ≤ 40 ∧ sh a 1 = nI n) (hQ : ∀ g2, MH g2 (cellS sh s i v) → MG g g2 → F (cellP sh s i) (T, rf, g2)) : Mok (d + 1) 0 0 sc kX12_cell [.ref 53, .int s, .int i, .int v] (T, rf, g) (Qi F) := by
  refine Mok.ofWp (L := [some (.ref 53), some (.int s), some (.int i), some (.int v)]) rfl rfl rfl ?_
  refine xX12_cell_0 ?_
  refine xX12_cell_1 ?_
  refine xX12_cell_2 ?_
  refine xX12_cell_3 rfl rfl rfl (s_X12_in  (fun hw0 => ?_) (fun nw0 => ?_))
  · refine xX12_cell_6_t (by decide) ?_
    refine xX12_cell_12 ?_
    refine xX12_cell_13 (hM.1 _ _ rfl) (hM.2 _ _ _ rfl) ?_
    refine xX12_cell_16 ?_
    refine xX12_cell_17 (j := (nN s)) (hM.1 _ _ rfl) (inN hw0).1 (Nat.lt_succ_of_le (inN hw0).2) rfl ?_
    have hsh := (hH (nN s) (Nat.lt_succ_of_le (inN hw0).2))
    have hs4 : nN s < 4 := Nat.lt_succ_of_le (inN hw0).2
    rw [hsh.1]
    refine xX12_cell_18 ?_
    refine xX12_cell_19 (fun c19 => ?_) (fun c19 => ?_)
    · refine xX12_cell_25 ?_
      refine xX12_cell_26 ?_
      refine xX12_cell_27 ?_
      refine xX12_cell_28 (hM.1 _ _ rfl) (hM.2 _ _ _ rfl) ?_
      refine xX12_cell_31 ?_
      refine xX12_cell_32 (j := (nN s)) (hM.1 _ _ rfl) (inN hw0).1 (Nat.lt_succ_of_le (inN hw0).2) rfl ?_
      rw [hsh.2.1]
      refine xX12_cell_33 ?_
      refine xX12_cell_34 ?_
      refine xX12_cell_35 rfl rfl rfl (s_X12_in  (fun hw1 => ?_) (fun nw1 => ?_))
      · refine xX12_cell_38_t (by decide) ?_
        refine xX12_cell_44 ?_
        refine xX12_cell_45 (hM.1 _ _ rfl) (hM.2 _ _ _ rfl) ?_
        obtain ⟨n4, hn4, en4⟩ := hz4 (nN s) hs4
        have hi := inK hw1 en4 (by omega)
        refine xX12_cell_48 ?_
        refine xX12_cell_50 ?_
        refine xX12_cell_51 ?_
        refine xX12_cell_52 ?_
        refine xX12_cell_53 ?_
        refine xX12_cell_54 ?_
        refine xX12_cell_55 (hM.1 _ _ rfl) (hM.2 _ _ _ rfl) ?_
        refine xX12_cell_58 ?_
        refine xX12_cell_59 (j := (nN s)) (hM.1 _ _ rfl) (inN hw0).1 (Nat.lt_succ_of_le (inN hw0).2) rfl ?_
        rw [hsh.1]
        refine xX12_cell_60 (fun c60 => ?_) (fun c60 => ?_)
        · refine xX12_cell_68 ?_
          refine xX12_cell_69 (hM.1 _ _ rfl) (hM.2 _ _ _ rfl) ?_
          refine xX12_cell_72 ?_
          refine xX12_cell_73 (j := (nN s)) (hM.1 _ _ rfl) (inN hw0).1 (Nat.lt_succ_of_le (inN hw0).2) rfl ?_
          rw [hsh.1]
          refine xX12_cell_74 ?_
          refine xX12_cell_75 (fun c75 => ?_) (fun c75 => ?_)
          · refine xX12_cell_83 ?_
            refine xX12_cell_84 (j := (40 * nN s + nN i)) (hM.1 _ _ rfl) ((congr (congrArg (fun z y => 40 * z + y) (inN hw0).1) hi.1).trans (i40 (by omega) (by omega))) (by omega) rfl ?_
            refine xX12_cell_85 ?_
            refine xX12_cell_86 rfl rfl ?_
            have q := fun (z : Int32) (hz : z = putV (sh (nN s) 0) v) => hQ (up g 67 (40 * nN s + nN i) z) (by rw [cellS, if_pos hw0, if_neg c19, if_pos hw1, ← hz]; exact MH_st (by omega) hH) (MG.pu (by omega))
            rw [cellP, if_pos hw0, if_neg c19, if_pos hw1] at q
            refine q _ ?_
            first
              | (rw [c60]; rfl)
              | (rw [c75]; rfl)
              | (rw [putV, if_neg c60, if_neg c75])
          · refine xX12_cell_78 ?_
            refine xX12_cell_79 ?_
            refine xX12_cell_80 ?_
            refine xX12_cell_84 (j := (40 * nN s + nN i)) (hM.1 _ _ rfl) ((congr (congrArg (fun z y => 40 * z + y) (inN hw0).1) hi.1).trans (i40 (by omega) (by omega))) (by omega) rfl ?_
            refine xX12_cell_85 ?_
            refine xX12_cell_86 rfl rfl ?_
            have q := fun (z : Int32) (hz : z = putV (sh (nN s) 0) v) => hQ (up g 67 (40 * nN s + nN i) z) (by rw [cellS, if_pos hw0, if_neg c19, if_pos hw1, ← hz]; exact MH_st (by omega) hH) (MG.pu (by omega))
            rw [cellP, if_pos hw0, if_neg c19, if_pos hw1] at q
            refine q _ ?_
            first
              | (rw [c60]; rfl)
              | (rw [c75]; rfl)
              | (rw [putV, if_neg c60, if_neg c75])
        · refine xX12_cell_63 ?_
          refine xX12_cell_64 ?_
          refine xX12_cell_65 ?_
          refine xX12_cell_84 (j := (40 * nN s + nN i)) (hM.1 _ _ rfl) ((congr (congrArg (fun z y => 40 * z + y) (inN hw0).1) hi.1).trans (i40 (by omega) (by omega))) (by omega) rfl ?_
          refine xX12_cell_85 ?_
          refine xX12_cell_86 rfl rfl ?_
          have q := fun (z : Int32) (hz : z = putV (sh (nN s) 0) v) => hQ (up g 67 (40 * nN s + nN i) z) (by rw [cellS, if_pos hw0, if_neg c19, if_pos hw1, ← hz]; exact MH_st (by omega) hH) (MG.pu (by omega))
          rw [cellP, if_pos hw0, if_neg c19, if_pos hw1] at q
          refine q _ ?_
          first
            | (rw [c60]; rfl)
            | (rw [c75]; rfl)
            | (rw [putV, if_neg c60, if_neg c75])
      · refine xX12_cell_38_f (by decide) ?_
        refine xX12_cell_41 ?_
        refine xX12_cell_43 rfl rfl ?_
        have q := hQ g (by rw [cellS, if_pos hw0, if_neg c19, if_neg nw1]; exact hH) MG.rf
        rw [cellP, if_pos hw0, if_neg c19, if_neg nw1] at q
        exact q
    · refine xX12_cell_22 ?_
      refine xX12_cell_24 rfl rfl ?_
      have q := hQ g (by rw [cellS, if_pos hw0, if_pos c19]; exact hH) MG.rf
      rw [cellP, if_pos hw0, if_pos c19] at q
      exact q
  · refine xX12_cell_6_f (by decide) ?_
    refine xX12_cell_9 ?_
    refine xX12_cell_11 rfl rfl ?_
    have q := hQ g (by rw [cellS, if_neg nw0]; exact hH) MG.rf
    rw [cellP, if_neg nw0] at q
    exact q
theorem isUB_u {k f : Int32} (h : f < 6) : isUB k f = true ↔ (f = 0 ∨ k = f ∨ (f = 1 ∧ k = 3) ∨ (f = 2 ∧ k = 4)) := by
  unfold isUB
  simp only [Bool.and_eq_true, Bool.or_eq_true, decide_eq_true_eq]
  constructor
  · rintro ⟨-, ((h1 | h2) | h3) | h4⟩
    · exact Or.inl h1
    · exact Or.inr (Or.inl h2)
    · exact Or.inr (Or.inr (Or.inl h3))
    · exact Or.inr (Or.inr (Or.inr h4))
  · rintro (h1 | h2 | h3 | h4)
    · exact ⟨h, Or.inl (Or.inl (Or.inl h1))⟩
    · exact ⟨h, Or.inl (Or.inl (Or.inr h2))⟩
    · exact ⟨h, Or.inl (Or.inr h3)⟩
    · exact ⟨h, Or.inr h4⟩
theorem s_X12_isUnder {d : Nat} {sc : Nat × (Nat → Int32)} {k f : Int32} {h : AH} {F : Int32 → AH → Prop} (hf : f < 6) (k1 : isUB k f = true → F 1 h) (k0 : ¬ isUB k f = true → F 0 h) : Mok d 0 0 sc kX12_isUnder [.int k, .int f] h (Qi F) := by
  refine Mok.ofWp (L := [some (.int k), some (.int f)]) rfl rfl rfl ?_
  refine xX12_isUnder_0 ?_
  refine xX12_isUnder_1 (fun c1 => ?_) (fun c1 => ?_)
  · refine xX12_isUnder_29 ?_
    refine xX12_isUnder_30 ?_
    refine xX12_isUnder_34 (Or.inr rfl) rfl rfl ?_
    first
      | exact k1 ((isUB_u hf).mpr (Or.inl c1))
      | exact k1 ((isUB_u hf).mpr (Or.inr (Or.inl c6)))
      | exact k1 ((isUB_u hf).mpr (Or.inr (Or.inr (Or.inl ⟨c11, c16⟩))))
      | exact k1 ((isUB_u hf).mpr (Or.inr (Or.inr (Or.inr ⟨c21, c26⟩))))
      | exact k0 (fun z => ((isUB_u hf).mp z).elim c1 (fun z => z.elim c6 (fun z => z.elim (fun z => by first | exact c11 z.1 | exact c16 z.2) (fun z => by first | exact c21 z.1 | exact c26 z.2))))
  · refine xX12_isUnder_4 ?_
    refine xX12_isUnder_5 ?_
    refine xX12_isUnder_6 (fun c6 => ?_) (fun c6 => ?_)
    · refine xX12_isUnder_29 ?_
      refine xX12_isUnder_30 ?_
      refine xX12_isUnder_34 (Or.inr rfl) rfl rfl ?_
      first
        | exact k1 ((isUB_u hf).mpr (Or.inl c1))
        | exact k1 ((isUB_u hf).mpr (Or.inr (Or.inl c6)))
        | exact k1 ((isUB_u hf).mpr (Or.inr (Or.inr (Or.inl ⟨c11, c16⟩))))
        | exact k1 ((isUB_u hf).mpr (Or.inr (Or.inr (Or.inr ⟨c21, c26⟩))))
        | exact k0 (fun z => ((isUB_u hf).mp z).elim c1 (fun z => z.elim c6 (fun z => z.elim (fun z => by first | exact c11 z.1 | exact c16 z.2) (fun z => by first | exact c21 z.1 | exact c26 z.2))))
    · refine xX12_isUnder_9 ?_
      refine xX12_isUnder_10 ?_
      refine xX12_isUnder_11 (fun c11 => ?_) (fun c11 => ?_)
      · refine xX12_isUnder_19 ?_
        refine xX12_isUnder_20 ?_
        refine xX12_isUnder_21 (fun c21 => ?_) (fun c21 => ?_)
        · refine xX12_isUnder_33 ?_
          refine xX12_isUnder_34 (Or.inl rfl) rfl rfl ?_
          first
            | exact k1 ((isUB_u hf).mpr (Or.inl c1))
            | exact k1 ((isUB_u hf).mpr (Or.inr (Or.inl c6)))
            | exact k1 ((isUB_u hf).mpr (Or.inr (Or.inr (Or.inl ⟨c11, c16⟩))))
            | exact k1 ((isUB_u hf).mpr (Or.inr (Or.inr (Or.inr ⟨c21, c26⟩))))
            | exact k0 (fun z => ((isUB_u hf).mp z).elim c1 (fun z => z.elim c6 (fun z => z.elim (fun z => by first | exact c11 z.1 | exact c16 z.2) (fun z => by first | exact c21 z.1 | exact c26 z.2))))
        · refine xX12_isUnder_24 ?_
          refine xX12_isUnder_25 ?_
          refine xX12_isUnder_26 (fun c26 => ?_) (fun c26 => ?_)
          · refine xX12_isUnder_33 ?_
            refine xX12_isUnder_34 (Or.inl rfl) rfl rfl ?_
            first
              | exact k1 ((isUB_u hf).mpr (Or.inl c1))
              | exact k1 ((isUB_u hf).mpr (Or.inr (Or.inl c6)))
              | exact k1 ((isUB_u hf).mpr (Or.inr (Or.inr (Or.inl ⟨c11, c16⟩))))
              | exact k1 ((isUB_u hf).mpr (Or.inr (Or.inr (Or.inr ⟨c21, c26⟩))))
              | exact k0 (fun z => ((isUB_u hf).mp z).elim c1 (fun z => z.elim c6 (fun z => z.elim (fun z => by first | exact c11 z.1 | exact c16 z.2) (fun z => by first | exact c21 z.1 | exact c26 z.2))))
          · refine xX12_isUnder_29 ?_
            refine xX12_isUnder_30 ?_
            refine xX12_isUnder_34 (Or.inr rfl) rfl rfl ?_
            first
              | exact k1 ((isUB_u hf).mpr (Or.inl c1))
              | exact k1 ((isUB_u hf).mpr (Or.inr (Or.inl c6)))
              | exact k1 ((isUB_u hf).mpr (Or.inr (Or.inr (Or.inl ⟨c11, c16⟩))))
              | exact k1 ((isUB_u hf).mpr (Or.inr (Or.inr (Or.inr ⟨c21, c26⟩))))
              | exact k0 (fun z => ((isUB_u hf).mp z).elim c1 (fun z => z.elim c6 (fun z => z.elim (fun z => by first | exact c11 z.1 | exact c16 z.2) (fun z => by first | exact c21 z.1 | exact c26 z.2))))
      · refine xX12_isUnder_14 ?_
        refine xX12_isUnder_15 ?_
        refine xX12_isUnder_16 (fun c16 => ?_) (fun c16 => ?_)
        · refine xX12_isUnder_29 ?_
          refine xX12_isUnder_30 ?_
          refine xX12_isUnder_34 (Or.inr rfl) rfl rfl ?_
          first
            | exact k1 ((isUB_u hf).mpr (Or.inl c1))
            | exact k1 ((isUB_u hf).mpr (Or.inr (Or.inl c6)))
            | exact k1 ((isUB_u hf).mpr (Or.inr (Or.inr (Or.inl ⟨c11, c16⟩))))
            | exact k1 ((isUB_u hf).mpr (Or.inr (Or.inr (Or.inr ⟨c21, c26⟩))))
            | exact k0 (fun z => ((isUB_u hf).mp z).elim c1 (fun z => z.elim c6 (fun z => z.elim (fun z => by first | exact c11 z.1 | exact c16 z.2) (fun z => by first | exact c21 z.1 | exact c26 z.2))))
        · refine xX12_isUnder_19 ?_
          refine xX12_isUnder_20 ?_
          refine xX12_isUnder_21 (fun c21 => ?_) (fun c21 => ?_)
          · refine xX12_isUnder_33 ?_
            refine xX12_isUnder_34 (Or.inl rfl) rfl rfl ?_
            first
              | exact k1 ((isUB_u hf).mpr (Or.inl c1))
              | exact k1 ((isUB_u hf).mpr (Or.inr (Or.inl c6)))
              | exact k1 ((isUB_u hf).mpr (Or.inr (Or.inr (Or.inl ⟨c11, c16⟩))))
              | exact k1 ((isUB_u hf).mpr (Or.inr (Or.inr (Or.inr ⟨c21, c26⟩))))
              | exact k0 (fun z => ((isUB_u hf).mp z).elim c1 (fun z => z.elim c6 (fun z => z.elim (fun z => by first | exact c11 z.1 | exact c16 z.2) (fun z => by first | exact c21 z.1 | exact c26 z.2))))
          · refine xX12_isUnder_24 ?_
            refine xX12_isUnder_25 ?_
            refine xX12_isUnder_26 (fun c26 => ?_) (fun c26 => ?_)
            · refine xX12_isUnder_33 ?_
              refine xX12_isUnder_34 (Or.inl rfl) rfl rfl ?_
              first
                | exact k1 ((isUB_u hf).mpr (Or.inl c1))
                | exact k1 ((isUB_u hf).mpr (Or.inr (Or.inl c6)))
                | exact k1 ((isUB_u hf).mpr (Or.inr (Or.inr (Or.inl ⟨c11, c16⟩))))
                | exact k1 ((isUB_u hf).mpr (Or.inr (Or.inr (Or.inr ⟨c21, c26⟩))))
                | exact k0 (fun z => ((isUB_u hf).mp z).elim c1 (fun z => z.elim c6 (fun z => z.elim (fun z => by first | exact c11 z.1 | exact c16 z.2) (fun z => by first | exact c21 z.1 | exact c26 z.2))))
            · refine xX12_isUnder_29 ?_
              refine xX12_isUnder_30 ?_
              refine xX12_isUnder_34 (Or.inr rfl) rfl rfl ?_
              first
                | exact k1 ((isUB_u hf).mpr (Or.inl c1))
                | exact k1 ((isUB_u hf).mpr (Or.inr (Or.inl c6)))
                | exact k1 ((isUB_u hf).mpr (Or.inr (Or.inr (Or.inl ⟨c11, c16⟩))))
                | exact k1 ((isUB_u hf).mpr (Or.inr (Or.inr (Or.inr ⟨c21, c26⟩))))
                | exact k0 (fun z => ((isUB_u hf).mp z).elim c1 (fun z => z.elim c6 (fun z => z.elim (fun z => by first | exact c11 z.1 | exact c16 z.2) (fun z => by first | exact c21 z.1 | exact c26 z.2))))
theorem s_X12_taken {d : Nat} {sc : Nat × (Nat → Int32)} {T : List (Nat × Nat)} {rf : Nat → Nat → Option Nat} {o : OV} {nc t : Nat} {cs : Nat → List Int32} {g : Nat → Nat → Int32} {i f : Int32} {F : Int32 → AH → Prop} (hC : MC T rf g o nc t cs) (hQ : F (takenP o nc i f) (T, rf, g)) : Mok (d + 2) 0 0 sc kX12_taken [.ref 53, .int i, .int f] (T, rf, g) (Qi F) := by
  obtain ⟨hB, hP⟩ := id hC
  obtain ⟨hM, hE, hV, hlw, ht6, hL⟩ := id hB
  have hn8 := hV.2.1
  have e9 : g 53 1 = nI (nN (o 0 9)) := hE.1.2.2.1.trans hV.tN.1
  have ht40 := hV.tN.2.1
  have hcn0 : g 53 3 = nI nc := hE.1.1.trans hV.1
  refine Mok.ofWp (L := [some (.ref 53), some (.int i), some (.int f), none]) rfl rfl rfl ?_
  refine xX12_taken_0 ?_
  refine xX12_taken_1 ?_
  refine xX12_taken_2 ?_
  refine xX12_taken_4 rfl rfl rfl (s_X12_in  (fun hw0 => ?_) (fun nw0 => ?_))
  · refine xX12_taken_7_t (by decide) ?_
    refine xX12_taken_13 ?_
    refine xX12_taken_14 ?_
    refine xX12_taken_15 ?_
    refine xX12_taken_17 rfl rfl rfl (s_X12_in  (fun hw1 => ?_) (fun nw1 => ?_))
    · refine xX12_taken_20_t (by decide) ?_
      refine xX12_taken_26 ?_
      refine xX12_taken_27 ?_
      refine xX12_taken_29 (fun c29 => ?_) (fun c29 => ?_)
      · have h16 : i < 16 := c29
        refine xX12_taken_53 ?_
        refine xX12_taken_54 ?_
        refine xX12_taken_55 (hM.1 _ _ rfl) rfl rfl rfl (s_X12_whoOn hB ?_)
        refine xX12_taken_58 rfl ?_
        refine xX12_taken_59 ?_
        refine xX12_taken_60 ?_
        refine xX12_taken_61 (fun c61 => ?_) (fun c61 => ?_)
        · obtain ⟨ci, hci, eci⟩ : ∃ ci, ci < nc ∧ onP o nc i = nI ci := by
            rcases scan_in (p := fun c => o 5 c = i) nc 0 with z | ⟨a, -, z2, -, z4⟩
            · exact absurd z c61
            · exact ⟨a, by omega, z4⟩
          have enc : nN (onP o nc i) = ci := by rw [eci, nN_nI (by omega)]
          refine xX12_taken_69 ?_
          refine xX12_taken_70 ?_
          refine xX12_taken_72 (fun c72 => ?_) (fun c72 => ?_)
          · refine xX12_taken_92 ?_
            refine xX12_taken_94 rfl rfl ?_
            rw [takenP, if_pos hw0, if_pos hw1, if_pos h16] at hQ
            first
              | (rw [if_pos c61] at hQ; exact hQ)
              | (rw [if_neg c61, enc] at hQ
                 first
                   | (rw [if_neg (show ¬ isUB (o 2 ci) f = true by rw [isUB_6 (by have := iLe.mp c72; have : (6 : Int) ≤ f.toInt := this; omega)]; decide)] at hQ; exact hQ)
                   | (rw [if_pos c72] at hQ; exact hQ)
                   | (rw [if_neg c72] at hQ; exact hQ))
          · refine xX12_taken_75 ?_
            refine xX12_taken_76 (hM.1 _ _ rfl) (hM.2 _ _ _ rfl) ?_
            refine xX12_taken_79 ?_
            refine xX12_taken_80 (j := ci) (hM.1 _ _ rfl) eci (by omega) rfl ?_
            rw [show g 55 ci = o 2 ci from (hE.2.2.1 _ hci).1]
            refine xX12_taken_81 ?_
            refine xX12_taken_82 rfl rfl rfl (s_X12_isUnder (Int32.not_le.mp c72) (fun hub3 => ?_) (fun hub3 => ?_))
            · refine xX12_taken_85_f (by decide) ?_
              refine xX12_taken_88 ?_
              refine xX12_taken_89 ?_
              refine xX12_taken_94 rfl rfl ?_
              rw [takenP, if_pos hw0, if_pos hw1, if_pos h16] at hQ
              first
                | (rw [if_pos c61] at hQ; exact hQ)
                | (rw [if_neg c61, enc] at hQ
                   first
                     | (rw [if_neg (show ¬ isUB (o 2 ci) f = true by rw [isUB_6 (by have := iLe.mp c72; have : (6 : Int) ≤ f.toInt := this; omega)]; decide)] at hQ; exact hQ)
                     | (rw [if_pos hub3] at hQ; exact hQ)
                     | (rw [if_neg hub3] at hQ; exact hQ))
            · refine xX12_taken_85_t (by decide) ?_
              refine xX12_taken_92 ?_
              refine xX12_taken_94 rfl rfl ?_
              rw [takenP, if_pos hw0, if_pos hw1, if_pos h16] at hQ
              first
                | (rw [if_pos c61] at hQ; exact hQ)
                | (rw [if_neg c61, enc] at hQ
                   first
                     | (rw [if_neg (show ¬ isUB (o 2 ci) f = true by rw [isUB_6 (by have := iLe.mp c72; have : (6 : Int) ≤ f.toInt := this; omega)]; decide)] at hQ; exact hQ)
                     | (rw [if_pos hub3] at hQ; exact hQ)
                     | (rw [if_neg hub3] at hQ; exact hQ))
        · refine xX12_taken_64 ?_
          refine xX12_taken_66 ?_
          refine xX12_taken_94 rfl rfl ?_
          rw [takenP, if_pos hw0, if_pos hw1, if_pos h16] at hQ
          first
            | (rw [if_pos c61] at hQ; exact hQ)
            | (rw [if_neg c61, enc] at hQ
               first
                 | (rw [if_neg (show ¬ isUB (o 2 ci) f = true by rw [isUB_6 (by have := iLe.mp c72; have : (6 : Int) ≤ f.toInt := this; omega)]; decide)] at hQ; exact hQ)
                 | (rw [if_pos c72] at hQ; exact hQ)
                 | (rw [if_neg c72] at hQ; exact hQ))
      · have h16 : ¬ i < 16 := c29
        have i31 := inN hw1
        have e16 : i - 16 = nI (nN i - 16) := by
          have l1 : 16 ≤ nN i := by
            have := Int32.not_lt.mp c29
            have := iLe.mp this
            have : (16 : Int) ≤ i.toInt := this
            unfold nN; omega
          have l2 : nN i ≤ 31 := i31.2
          apply Int32.toInt_inj.mp
          have e1 : i.toInt = (nN i : Int) := by
            have := i31.1
            have e3 := congrArg Int32.toInt this
            rw [iT (by omega)] at e3
            exact e3
          rw [iSub (by rw [e1]; show _ ≤ _ - (16 : Int); omega) (by rw [e1]; show _ - (16 : Int) < _; omega), e1, iT (by omega)]
          show _ - (16 : Int) = _
          omega
        have l31 : nN i ≤ 31 := i31.2
        refine xX12_taken_32 ?_
        refine xX12_taken_33 ?_
        refine xX12_taken_35 (fun c35 => ?_) (fun c35 => ?_)
        · refine xX12_taken_50 ?_
          refine xX12_taken_52 rfl rfl ?_
          first
            | (rw [takenP, if_pos hw0, if_pos hw1, if_neg h16, if_pos c35, ← hE.2.1 _ (by omega)] at hQ; exact hQ)
            | (rw [takenP, if_pos hw0, if_pos hw1, if_neg h16, if_neg c35] at hQ; exact hQ)
        · refine xX12_taken_38 ?_
          refine xX12_taken_39 (hM.1 _ _ rfl) (hM.2 _ _ _ rfl) ?_
          refine xX12_taken_42 ?_
          refine xX12_taken_43 ?_
          refine xX12_taken_45 ?_
          refine xX12_taken_46 (j := (nN i - 16)) (hM.1 _ _ rfl) e16 (by omega) rfl ?_
          refine xX12_taken_47 ?_
          refine xX12_taken_52 rfl rfl ?_
          first
            | (rw [takenP, if_pos hw0, if_pos hw1, if_neg h16, if_pos c35, ← hE.2.1 _ (by omega)] at hQ; exact hQ)
            | (rw [takenP, if_pos hw0, if_pos hw1, if_neg h16, if_neg c35] at hQ; exact hQ)
    · refine xX12_taken_20_f (by decide) ?_
      refine xX12_taken_23 ?_
      refine xX12_taken_25 rfl rfl ?_
      rw [takenP, if_pos hw0, if_neg nw1] at hQ
      exact hQ
  · refine xX12_taken_7_f (by decide) ?_
    refine xX12_taken_10 ?_
    refine xX12_taken_12 rfl rfl ?_
    rw [takenP, if_neg nw0] at hQ
    exact hQ
