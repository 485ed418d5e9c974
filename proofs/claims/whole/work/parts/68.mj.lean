-- ===== copy =====
def cpr (r : Nat → Int32) (A B N j : Nat) : Nat → Int32 := fun p => if (A < B ∧ B + N - j ≤ p ∧ p < B + N) ∨ (¬ A < B ∧ B ≤ p ∧ p < B + j) then r (p - B + A) else r p
theorem cpr_0 {r : Nat → Int32} {A B N : Nat} : cpr r A B N 0 = r := by
  funext p
  exact if_neg (by omega)
theorem cpr_N {r : Nat → Int32} {A B N p : Nat} : cpr r A B N N p = if B ≤ p ∧ p < B + N then r (p - B + A) else r p := by
  unfold cpr
  by_cases h : B ≤ p ∧ p < B + N
  · rw [if_pos h, if_pos (by omega)]
  · rw [if_neg h, if_neg (by omega)]
/-- the place of the next number -/
def cpx (A B N j : Nat) : Nat := if A < B then N - 1 - j else j
theorem cpr_s {r : Nat → Int32} {A B N j : Nat} (hj : j < N) : upd (cpr r A B N j) (B + cpx A B N j) (cpr r A B N j (A + cpx A B N j)) = cpr r A B N (j + 1) := by
  have e : cpr r A B N j (A + cpx A B N j) = r (A + cpx A B N j) := by
    unfold cpr cpx
    split <;> exact if_neg (by omega)
  rw [e]
  funext p
  unfold upd
  by_cases q : p = B + cpx A B N j
  · rw [if_pos q]
    unfold cpr
    have : (A < B ∧ B + N - (j + 1) ≤ p ∧ p < B + N) ∨ (¬ A < B ∧ B ≤ p ∧ p < B + (j + 1)) := by
      unfold cpx at q
      split at q <;> omega
    rw [if_pos this]
    congr 1
    omega
  · rw [if_neg q]
    unfold cpr
    have : ((A < B ∧ B + N - j ≤ p ∧ p < B + N) ∨ (¬ A < B ∧ B ≤ p ∧ p < B + j)) ↔ ((A < B ∧ B + N - (j + 1) ≤ p ∧ p < B + N) ∨ (¬ A < B ∧ B ≤ p ∧ p < B + (j + 1))) := by
      unfold cpx at q
      split at q <;> omega
    by_cases z : (A < B ∧ B + N - j ≤ p ∧ p < B + N) ∨ (¬ A < B ∧ B ≤ p ∧ p < B + j)
    · rw [if_pos z, if_pos (this.mp z)]
    · rw [if_neg z, if_neg (fun y => z (this.mpr y))]
theorem MH_cp {g g2 : Nat → Nat → Int32} {sh : Nat → Nat → Int32} {s i q j n : Nat} (h : MH g sh) (hs : s < 4) (hi : i + n ≤ 40) (hq : q < 4) (hj : j + n ≤ 40) (e1 : g2 65 = g 65) (e2 : g2 66 = g 66) (e3 : g2 67 = cpr (g 67) (40 * s + i) (40 * q + j) n n) : MH g2 (cpS sh s i q j n) := by
  intro a ha
  obtain ⟨h1, h2, h3⟩ := h a ha
  refine ⟨?_, ?_, fun k hk => ?_⟩
  · rw [e1, h1]; exact (if_neg (by omega)).symm
  · rw [e2, h2]; exact (if_neg (by omega)).symm
  · rw [e3, cpr_N]
    unfold cpS
    by_cases z : a = q ∧ j ≤ k ∧ k < j + n
    · obtain ⟨rfl, z1, z2⟩ := z
      rw [if_pos (by omega), if_pos (by omega), show 40 * a + k - (40 * a + j) + (40 * s + i) = 40 * s + (i + (k - j)) by omega, (h s hs).2.2 _ (by omega), show 2 + k - 2 - j = k - j by omega]
    · rw [if_neg (by omega), if_neg (by omega), h3 k hk]
theorem copy_bad {sh : Nat → Nat → Int32} {s i q j n : Int32} (h1 : 0 ≤ s ∧ s ≤ 3) (h2 : 0 ≤ q ∧ q ≤ 3) (h3 : ¬ sh (nN s) 0 = -1) (h4 : ¬ sh (nN q) 0 = -1) (h5 : sh (nN s) 0 = sh (nN q) 0) (h : i < 0 ∨ j < 0 ∨ n < 0 ∨ sh (nN s) 1 - i < n ∨ sh (nN q) 1 - j < n) : copyX sh s i q j n = (-12, sh) := by
  rw [copyX, if_pos h1, if_pos h2, if_neg h3, if_neg h4, if_pos h5]
  by_cases a : i < 0
  · rw [if_pos a]
  · rw [if_neg a]
    by_cases b : j < 0
    · rw [if_pos b]
    · rw [if_neg b]
      by_cases c : n < 0
      · rw [if_pos c]
      · rw [if_neg c]
        by_cases d : sh (nN s) 1 - i < n
        · rw [if_pos d]
        · rw [if_neg d]
          by_cases e : sh (nN q) 1 - j < n
          · rw [if_pos e]
          · exact absurd h (by rintro (z | z | z | z | z) <;> contradiction)
theorem past {k : Nat} {i n : Int32} (hk : k ≤ 40) (h : nI k < i) (hn : ¬ n < 0) : nI k - i < n := by
  have h1 := iLt.mp h
  rw [iT (by omega)] at h1
  have h2 := (iR i).2
  have h3 := iLe.mp (Int32.not_lt.mp hn)
  have h3 : (0 : Int) ≤ n.toInt := h3
  rw [iLt, iSub (by rw [iT (by omega)]; omega) (by rw [iT (by omega)]; omega), iT (by omega)]
  omega
theorem lp_X12_copy {d : Nat} {sc : Nat × (Nat → Int32)} {T : List (Nat × Nat)} {rf : Nat → Nat → Option Nat} {g0 : Nat → Nat → Int32} {x1 x2 x3 x4 n x6 x7 : Int32} {A B N : Nat} {F : Int32 → AH → Prop} (hM : MS T rf) (h6 : x6 = nI A) (h7 : x7 = nI B) (hn : n = nI N) (hA : A + N ≤ 160) (hB : B + N ≤ 160) (hQ : ∀ g2, (∀ a, a ≠ 67 → g2 a = g0 a) → g2 67 = cpr (g0 67) A B N N → F n (T, rf, g2)) : ∀ (k j : Nat) (x8 : Int32) (g : Nat → Nat → Int32), (j + k = N) → (x8 = nI j) → (∀ a, a ≠ 67 → g a = g0 a) → (g 67 = cpr (g0 67) A B N j) → Wp d 0 0 sc kX12_copy (Qi F) 147 [some (.ref 53), some (.int x1), some (.int x2), some (.int x3), some (.int x4), some (.int n), some (.int x6), some (.int x7), some (.int x8), none] [] (T, rf, g) 0 0 := by
  intro k
  induction k with
  | zero =>
    intro j x8 g hj hx8 hf hr
    subst hx8
    subst h6
    subst h7
    subst hn
    refine xX12_copy_147 ?_
    refine xX12_copy_149 ?_
    refine xX12_copy_151_t (nI_le (by omega) (by omega)) ?_
    refine xX12_copy_201 ?_
    refine xX12_copy_203 rfl rfl ?_
    have e : j = N := by omega
    subst e
    exact hQ _ hf hr
  | succ k ih =>
    intro j x8 g hj hx8 hf hr
    subst hx8
    subst h6
    subst h7
    subst hn
    refine xX12_copy_147 ?_
    refine xX12_copy_149 ?_
    refine xX12_copy_151_f (nI_ge (by omega) (by omega)) ?_
    refine xX12_copy_154 ?_
    refine xX12_copy_156 ?_
    refine xX12_copy_158 (fun c158 => ?_) (fun c158 => ?_)
    · have hx : cpx A B N j = j := if_neg (fun z => absurd c158 (Int32.not_le.mpr (nI_lt z (by omega))))
      have ex : nI j = nI (cpx A B N j) := by rw [hx]
      refine xX12_copy_171 ?_
      refine xX12_copy_173 rfl ?_
      have hcl : A + cpx A B N j < 160 ∧ B + cpx A B N j < 160 := by omega
      refine xX12_copy_175 ?_
      refine xX12_copy_176 (hM.1 _ _ rfl) (hM.2 _ _ _ rfl) ?_
      refine xX12_copy_179 ?_
      refine xX12_copy_181 ?_
      refine xX12_copy_183 ?_
      refine xX12_copy_184 ?_
      refine xX12_copy_185 (hM.1 _ _ rfl) (hM.2 _ _ _ rfl) ?_
      refine xX12_copy_188 ?_
      refine xX12_copy_190 ?_
      refine xX12_copy_192 ?_
      refine xX12_copy_193 (j := (A + cpx A B N j)) (hM.1 _ _ rfl) (by rw [ex]; exact nI_add _ _) hcl.1 rfl ?_
      refine xX12_copy_194 (j := (B + cpx A B N j)) (hM.1 _ _ rfl) (by rw [ex]; exact nI_add _ _) hcl.2 rfl ?_
      refine xX12_copy_195 rfl rfl ?_
      refine xX12_copy_198 ?_
      refine wp_kill_9 ?_
      refine ih (j + 1) _ _ (by omega) (nI_1 _) (fun a p => by rw [up_row p]; exact hf a p) ?_
      rw [up_own, hr]
      exact cpr_s (by omega)
    · have hx : cpx A B N j = N - 1 - j := if_pos (Nat.lt_of_not_le (fun z => c158 (nI_le z (by omega))))
      have ex : nI N - 1 - nI j = nI (cpx A B N j) := by
        rw [hx]
        apply Int32.toInt_inj.mp
        have e1 : (nI N - 1).toInt = (N : Int) - 1 := by rw [iSub (by rw [iT (by omega)]; show _ ≤ _ - (1 : Int); omega) (by rw [iT (by omega)]; show _ - (1 : Int) < _; omega), iT (by omega)]; rfl
        rw [iSub (by rw [e1, iT (by omega)]; omega) (by rw [e1, iT (by omega)]; omega), e1, iT (by omega), iT (by omega)]
        omega
      refine xX12_copy_161 ?_
      refine xX12_copy_163 ?_
      refine xX12_copy_164 ?_
      refine xX12_copy_165 ?_
      refine xX12_copy_167 ?_
      refine xX12_copy_168 ?_
      refine xX12_copy_173 rfl ?_
      have hcl : A + cpx A B N j < 160 ∧ B + cpx A B N j < 160 := by omega
      refine xX12_copy_175 ?_
      refine xX12_copy_176 (hM.1 _ _ rfl) (hM.2 _ _ _ rfl) ?_
      refine xX12_copy_179 ?_
      refine xX12_copy_181 ?_
      refine xX12_copy_183 ?_
      refine xX12_copy_184 ?_
      refine xX12_copy_185 (hM.1 _ _ rfl) (hM.2 _ _ _ rfl) ?_
      refine xX12_copy_188 ?_
      refine xX12_copy_190 ?_
      refine xX12_copy_192 ?_
      refine xX12_copy_193 (j := (A + cpx A B N j)) (hM.1 _ _ rfl) (by rw [ex]; exact nI_add _ _) hcl.1 rfl ?_
      refine xX12_copy_194 (j := (B + cpx A B N j)) (hM.1 _ _ rfl) (by rw [ex]; exact nI_add _ _) hcl.2 rfl ?_
      refine xX12_copy_195 rfl rfl ?_
      refine xX12_copy_198 ?_
      refine wp_kill_9 ?_
      refine ih (j + 1) _ _ (by omega) (nI_1 _) (fun a p => by rw [up_row p]; exact hf a p) ?_
      rw [up_own, hr]
      exact cpr_s (by omega)
theorem s_X12_copy {d : Nat} {sc : Nat × (Nat → Int32)} {T : List (Nat × Nat)} {rf : Nat → Nat → Option Nat} {g : Nat → Nat → Int32} {s i q j n : Int32} {sh : Nat → Nat → Int32} {F : Int32 → AH → Prop} (hM : MS T rf) (hH : MH g sh) (hz4 : ∀ a, a < 4 → ∃ n, n ≤ 40 ∧ sh a 1 = nI n) (hQ : ∀ g2, MH g2 (copyX sh s i q j n).2 → MG g g2 → F (copyX sh s i q j n).1 (T, rf, g2)) : Mok (d + 1) 0 0 sc kX12_copy [.ref 53, .int s, .int i, .int q, .int j, .int n] (T, rf, g) (Qi F) := by
  refine Mok.ofWp (L := [some (.ref 53), some (.int s), some (.int i), some (.int q), some (.int j), some (.int n), none, none, none, none]) rfl rfl rfl ?_
  refine xX12_copy_0 ?_
  refine xX12_copy_1 ?_
  refine xX12_copy_2 ?_
  refine xX12_copy_3 rfl rfl rfl (s_X12_in  (fun hw0 => ?_) (fun nw0 => ?_))
  · have hs4 : nN s < 4 := Nat.lt_succ_of_le (inN hw0).2
    refine xX12_copy_6_f (by decide) ?_
    refine xX12_copy_9 ?_
    refine xX12_copy_10 ?_
    refine xX12_copy_11 ?_
    refine xX12_copy_12 rfl rfl rfl (s_X12_in  (fun hw1 => ?_) (fun nw1 => ?_))
    · have hq4 : nN q < 4 := Nat.lt_succ_of_le (inN hw1).2
      refine xX12_copy_15_t (by decide) ?_
      refine xX12_copy_21 ?_
      refine xX12_copy_22 (hM.1 _ _ rfl) (hM.2 _ _ _ rfl) ?_
      refine xX12_copy_25 ?_
      refine xX12_copy_26 (j := (nN s)) (hM.1 _ _ rfl) (inN hw0).1 (Nat.lt_succ_of_le (inN hw0).2) rfl ?_
      rw [(hH (nN s) hs4).1]
      refine xX12_copy_27 ?_
      refine xX12_copy_28 (fun c28 => ?_) (fun c28 => ?_)
      · refine xX12_copy_41 ?_
        refine xX12_copy_43 rfl rfl ?_
        first
          | (rw [copyX, if_pos hw0, if_pos hw1, if_pos c28] at hQ; exact hQ g hH MG.rf)
          | (rw [copyX, if_pos hw0, if_pos hw1, if_neg c28, if_pos c38] at hQ; exact hQ g hH MG.rf)
      · refine xX12_copy_31 ?_
        refine xX12_copy_32 (hM.1 _ _ rfl) (hM.2 _ _ _ rfl) ?_
        refine xX12_copy_35 ?_
        refine xX12_copy_36 (j := (nN q)) (hM.1 _ _ rfl) (inN hw1).1 (Nat.lt_succ_of_le (inN hw1).2) rfl ?_
        rw [(hH (nN q) hq4).1]
        refine xX12_copy_37 ?_
        refine xX12_copy_38 (fun c38 => ?_) (fun c38 => ?_)
        · refine xX12_copy_44 ?_
          refine xX12_copy_45 (hM.1 _ _ rfl) (hM.2 _ _ _ rfl) ?_
          refine xX12_copy_48 ?_
          refine xX12_copy_49 (j := (nN s)) (hM.1 _ _ rfl) (inN hw0).1 (Nat.lt_succ_of_le (inN hw0).2) rfl ?_
          rw [(hH (nN s) hs4).1]
          refine xX12_copy_50 ?_
          refine xX12_copy_51 (hM.1 _ _ rfl) (hM.2 _ _ _ rfl) ?_
          refine xX12_copy_54 ?_
          refine xX12_copy_55 (j := (nN q)) (hM.1 _ _ rfl) (inN hw1).1 (Nat.lt_succ_of_le (inN hw1).2) rfl ?_
          rw [(hH (nN q) hq4).1]
          refine xX12_copy_56 (fun c56 => ?_) (fun c56 => ?_)
          · obtain ⟨k1, hk1, ek1⟩ := hz4 (nN s) hs4
            obtain ⟨k2, hk2, ek2⟩ := hz4 (nN q) hq4
            refine xX12_copy_62 ?_
            refine xX12_copy_64 (fun c64 => ?_) (fun c64 => ?_)
            · refine xX12_copy_124 ?_
              refine xX12_copy_126 rfl rfl ?_
              rw [copy_bad hw0 hw1 c28 c38 c56 (by
                first
                  | exact Or.inr (Or.inr (Or.inl c64))
                  | exact Or.inl c68
                  | exact Or.inr (Or.inl c73)
                  | exact Or.inr (Or.inr (Or.inr (Or.inl (by rw [ek1] at c83 ⊢; exact past hk1 c83 c64))))
                  | exact Or.inr (Or.inr (Or.inr (Or.inr (by rw [ek2] at c94 ⊢; exact past hk2 c94 c64))))
                  | exact Or.inr (Or.inr (Or.inr (Or.inl c107)))
                  | exact Or.inr (Or.inr (Or.inr (Or.inr (Int32.not_le.mp c121)))))] at hQ
              exact hQ g hH MG.rf
            · refine xX12_copy_67 ?_
              refine xX12_copy_68 (fun c68 => ?_) (fun c68 => ?_)
              · refine xX12_copy_124 ?_
                refine xX12_copy_126 rfl rfl ?_
                rw [copy_bad hw0 hw1 c28 c38 c56 (by
                  first
                    | exact Or.inr (Or.inr (Or.inl c64))
                    | exact Or.inl c68
                    | exact Or.inr (Or.inl c73)
                    | exact Or.inr (Or.inr (Or.inr (Or.inl (by rw [ek1] at c83 ⊢; exact past hk1 c83 c64))))
                    | exact Or.inr (Or.inr (Or.inr (Or.inr (by rw [ek2] at c94 ⊢; exact past hk2 c94 c64))))
                    | exact Or.inr (Or.inr (Or.inr (Or.inl c107)))
                    | exact Or.inr (Or.inr (Or.inr (Or.inr (Int32.not_le.mp c121)))))] at hQ
                exact hQ g hH MG.rf
              · refine xX12_copy_71 ?_
                refine xX12_copy_73 (fun c73 => ?_) (fun c73 => ?_)
                · refine xX12_copy_124 ?_
                  refine xX12_copy_126 rfl rfl ?_
                  rw [copy_bad hw0 hw1 c28 c38 c56 (by
                    first
                      | exact Or.inr (Or.inr (Or.inl c64))
                      | exact Or.inl c68
                      | exact Or.inr (Or.inl c73)
                      | exact Or.inr (Or.inr (Or.inr (Or.inl (by rw [ek1] at c83 ⊢; exact past hk1 c83 c64))))
                      | exact Or.inr (Or.inr (Or.inr (Or.inr (by rw [ek2] at c94 ⊢; exact past hk2 c94 c64))))
                      | exact Or.inr (Or.inr (Or.inr (Or.inl c107)))
                      | exact Or.inr (Or.inr (Or.inr (Or.inr (Int32.not_le.mp c121)))))] at hQ
                  exact hQ g hH MG.rf
                · refine xX12_copy_76 ?_
                  refine xX12_copy_77 ?_
                  refine xX12_copy_78 (hM.1 _ _ rfl) (hM.2 _ _ _ rfl) ?_
                  refine xX12_copy_81 ?_
                  refine xX12_copy_82 (j := (nN s)) (hM.1 _ _ rfl) (inN hw0).1 (Nat.lt_succ_of_le (inN hw0).2) rfl ?_
                  rw [(hH (nN s) hs4).2.1]
                  refine xX12_copy_83 (fun c83 => ?_) (fun c83 => ?_)
                  · refine xX12_copy_124 ?_
                    refine xX12_copy_126 rfl rfl ?_
                    rw [copy_bad hw0 hw1 c28 c38 c56 (by
                      first
                        | exact Or.inr (Or.inr (Or.inl c64))
                        | exact Or.inl c68
                        | exact Or.inr (Or.inl c73)
                        | exact Or.inr (Or.inr (Or.inr (Or.inl (by rw [ek1] at c83 ⊢; exact past hk1 c83 c64))))
                        | exact Or.inr (Or.inr (Or.inr (Or.inr (by rw [ek2] at c94 ⊢; exact past hk2 c94 c64))))
                        | exact Or.inr (Or.inr (Or.inr (Or.inl c107)))
                        | exact Or.inr (Or.inr (Or.inr (Or.inr (Int32.not_le.mp c121)))))] at hQ
                    exact hQ g hH MG.rf
                  · refine xX12_copy_86 ?_
                    refine xX12_copy_88 ?_
                    refine xX12_copy_89 (hM.1 _ _ rfl) (hM.2 _ _ _ rfl) ?_
                    refine xX12_copy_92 ?_
                    refine xX12_copy_93 (j := (nN q)) (hM.1 _ _ rfl) (inN hw1).1 (Nat.lt_succ_of_le (inN hw1).2) rfl ?_
                    rw [(hH (nN q) hq4).2.1]
                    refine xX12_copy_94 (fun c94 => ?_) (fun c94 => ?_)
                    · refine xX12_copy_124 ?_
                      refine xX12_copy_126 rfl rfl ?_
                      rw [copy_bad hw0 hw1 c28 c38 c56 (by
                        first
                          | exact Or.inr (Or.inr (Or.inl c64))
                          | exact Or.inl c68
                          | exact Or.inr (Or.inl c73)
                          | exact Or.inr (Or.inr (Or.inr (Or.inl (by rw [ek1] at c83 ⊢; exact past hk1 c83 c64))))
                          | exact Or.inr (Or.inr (Or.inr (Or.inr (by rw [ek2] at c94 ⊢; exact past hk2 c94 c64))))
                          | exact Or.inr (Or.inr (Or.inr (Or.inl c107)))
                          | exact Or.inr (Or.inr (Or.inr (Or.inr (Int32.not_le.mp c121)))))] at hQ
                      exact hQ g hH MG.rf
                    · refine xX12_copy_97 ?_
                      refine xX12_copy_99 ?_
                      refine xX12_copy_100 (hM.1 _ _ rfl) (hM.2 _ _ _ rfl) ?_
                      refine xX12_copy_103 ?_
                      refine xX12_copy_104 (j := (nN s)) (hM.1 _ _ rfl) (inN hw0).1 (Nat.lt_succ_of_le (inN hw0).2) rfl ?_
                      rw [(hH (nN s) hs4).2.1]
                      refine xX12_copy_105 ?_
                      refine xX12_copy_106 ?_
                      refine xX12_copy_107 (fun c107 => ?_) (fun c107 => ?_)
                      · refine xX12_copy_124 ?_
                        refine xX12_copy_126 rfl rfl ?_
                        rw [copy_bad hw0 hw1 c28 c38 c56 (by
                          first
                            | exact Or.inr (Or.inr (Or.inl c64))
                            | exact Or.inl c68
                            | exact Or.inr (Or.inl c73)
                            | exact Or.inr (Or.inr (Or.inr (Or.inl (by rw [ek1] at c83 ⊢; exact past hk1 c83 c64))))
                            | exact Or.inr (Or.inr (Or.inr (Or.inr (by rw [ek2] at c94 ⊢; exact past hk2 c94 c64))))
                            | exact Or.inr (Or.inr (Or.inr (Or.inl c107)))
                            | exact Or.inr (Or.inr (Or.inr (Or.inr (Int32.not_le.mp c121)))))] at hQ
                        exact hQ g hH MG.rf
                      · refine xX12_copy_110 ?_
                        refine xX12_copy_112 ?_
                        refine xX12_copy_113 (hM.1 _ _ rfl) (hM.2 _ _ _ rfl) ?_
                        refine xX12_copy_116 ?_
                        refine xX12_copy_117 (j := (nN q)) (hM.1 _ _ rfl) (inN hw1).1 (Nat.lt_succ_of_le (inN hw1).2) rfl ?_
                        rw [(hH (nN q) hq4).2.1]
                        refine xX12_copy_118 ?_
                        refine xX12_copy_120 ?_
                        refine xX12_copy_121 (fun c121 => ?_) (fun c121 => ?_)
                        · refine xX12_copy_127 ?_
                          refine xX12_copy_129 ?_
                          refine xX12_copy_130 ?_
                          refine xX12_copy_131 ?_
                          refine xX12_copy_132 ?_
                          refine xX12_copy_133 rfl ?_
                          refine xX12_copy_135 ?_
                          refine xX12_copy_137 ?_
                          refine xX12_copy_138 ?_
                          refine xX12_copy_139 ?_
                          refine xX12_copy_141 ?_
                          refine xX12_copy_142 rfl ?_
                          refine xX12_copy_144 ?_
                          refine xX12_copy_145 rfl ?_
                          have f1 : nN i + nN n ≤ 40 := fits (by rw [← ek1]; exact c107) hk1 c68 c64
                          have f2 : nN j + nN n ≤ 40 := fits (by rw [← ek2]; exact Int32.not_lt.mpr c121) hk2 c73 c64
                          refine lp_X12_copy (g0 := g) (A := 40 * nN s + nN i) (B := 40 * nN q + nN j) (N := nN n) hM ((congr (congrArg (fun z y => 40 * z + y) (inN hw0).1) (nneg c68).1).trans (i40 (by omega) (by omega))) ((congr (congrArg (fun z y => 40 * z + y) (inN hw1).1) (nneg c73).1).trans (i40 (by omega) (by omega))) (nneg c64).1 (by omega) (by omega) (fun g2 h1 h2 => ?_) (nN n) 0 _ _ (by omega) rfl (fun _ _ => rfl) cpr_0.symm
                          rw [copyX, if_pos hw0, if_pos hw1, if_neg c28, if_neg c38, if_pos c56, if_neg c68, if_neg c73, if_neg c64, if_neg (Int32.not_lt.mpr (Int32.not_lt.mp c107)), if_neg (Int32.not_lt.mpr c121)] at hQ
                          exact hQ g2 (MH_cp hH hs4 f1 hq4 f2 (h1 _ (by omega)) (h1 _ (by omega)) h2) (fun a _ _ r => h1 a r)
                        · refine xX12_copy_124 ?_
                          refine xX12_copy_126 rfl rfl ?_
                          rw [copy_bad hw0 hw1 c28 c38 c56 (by
                            first
                              | exact Or.inr (Or.inr (Or.inl c64))
                              | exact Or.inl c68
                              | exact Or.inr (Or.inl c73)
                              | exact Or.inr (Or.inr (Or.inr (Or.inl (by rw [ek1] at c83 ⊢; exact past hk1 c83 c64))))
                              | exact Or.inr (Or.inr (Or.inr (Or.inr (by rw [ek2] at c94 ⊢; exact past hk2 c94 c64))))
                              | exact Or.inr (Or.inr (Or.inr (Or.inl c107)))
                              | exact Or.inr (Or.inr (Or.inr (Or.inr (Int32.not_le.mp c121)))))] at hQ
                          exact hQ g hH MG.rf
          · refine xX12_copy_59 ?_
            refine xX12_copy_61 rfl rfl ?_
            rw [copyX, if_pos hw0, if_pos hw1, if_neg c28, if_neg c38, if_neg c56] at hQ
            exact hQ g hH MG.rf
        · refine xX12_copy_41 ?_
          refine xX12_copy_43 rfl rfl ?_
          first
            | (rw [copyX, if_pos hw0, if_pos hw1, if_pos c28] at hQ; exact hQ g hH MG.rf)
            | (rw [copyX, if_pos hw0, if_pos hw1, if_neg c28, if_pos c38] at hQ; exact hQ g hH MG.rf)
    · refine xX12_copy_15_f (by decide) ?_
      refine xX12_copy_18 ?_
      refine xX12_copy_20 rfl rfl ?_
      rw [copyX, if_pos hw0, if_neg nw1] at hQ
      exact hQ g hH MG.rf
  · refine xX12_copy_6_t (by decide) ?_
    refine xX12_copy_18 ?_
    refine xX12_copy_20 rfl rfl ?_
    rw [copyX, if_neg nw0] at hQ
    exact hQ g hH MG.rf
