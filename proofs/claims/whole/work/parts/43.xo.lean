def cpS (sh : Nat → Nat → Int32) (s i q j n : Nat) : Nat → Nat → Int32 := fun a k => if a = q ∧ 2 + j ≤ k ∧ k < 2 + j + n then sh s (2 + (i + (k - 2 - j))) else sh a k
theorem XH_cpS {g : Nat → Nat → Int32} {sh : Nat → Nat → Int32} {s i q j n : Nat} (h : XH g sh) (hs : s < 4) (hi : i + n ≤ 40) : XH (cpy g (41 + 2 * s + 1) (41 + 2 * q + 1) i j n) (cpS sh s i q j n) := by
  intro a ha
  obtain ⟨h1, h2, h3⟩ := h a ha
  refine ⟨?_, ?_, fun k hk => ?_⟩
  · rw [cpy_row (by omega), h1]; exact (if_neg (by omega)).symm
  · rw [cpy_row (by omega), h2]; exact (if_neg (by omega)).symm
  · unfold cpy cpS
    by_cases z : a = q ∧ j ≤ k ∧ k < j + n
    · rw [if_pos ⟨by omega, z.2⟩, if_pos (by omega), (h s hs).2.2 _ (by omega), show 2 + k - 2 - j = k - j by omega]
    · rw [if_neg (fun y => z ⟨by omega, y.2⟩), if_neg (by omega), h3 k hk]
def copyX (sh : Nat → Nat → Int32) (s i q j n : Int32) : Int32 × (Nat → Nat → Int32) := if 0 ≤ s ∧ s ≤ 3 then (if 0 ≤ q ∧ q ≤ 3 then (if sh (nN s) 0 = -1 then (-11, sh) else if sh (nN q) 0 = -1 then (-11, sh) else if sh (nN s) 0 = sh (nN q) 0 then (if i < 0 then (-12, sh) else if j < 0 then (-12, sh) else if n < 0 then (-12, sh) else if sh (nN s) 1 - i < n then (-12, sh) else if sh (nN q) 1 - j < n then (-12, sh) else (n, cpS sh (nN s) (nN i) (nN q) (nN j) (nN n))) else (-13, sh)) else (-2, sh)) else (-2, sh)
theorem nneg {x : Int32} (h : ¬ x < 0) : x = nI (nN x) ∧ x.toInt = (nN x : Int) := by
  have h1 := i0.mp (Int32.not_lt.mp h)
  exact ⟨iN h1, by unfold nN; omega⟩
theorem fits {n i : Int32} {k : Nat} (h : ¬ nI k - i < n) (hk : k ≤ 40) (hi : ¬ i < 0) (hn : ¬ n < 0) : nN i + nN n ≤ 40 := by
  have e1 := (nneg hi).2
  have e2 := (nneg hn).2
  have h1 := iLe.mp (Int32.not_lt.mp h)
  have h2 := (iR i).2
  rw [iSub (by rw [iT (by omega)]; omega) (by rw [iT (by omega)]; omega), iT (by omega)] at h1
  omega
theorem s_X11_copy {d : Nat} {sc : Nat × (Nat → Int32)} {T : List (Nat × Nat)} {rf : Nat → Nat → Option Nat} {g : Nat → Nat → Int32} {s i q j n : Int32} {sh : Nat → Nat → Int32} {F : Int32 → AH → Prop} (hX : XS T rf) (hH : XH g sh) (hz4 : ∀ a, a < 4 → ∃ n, n ≤ 40 ∧ sh a 1 = nI n) (hQ : ∀ g2, XH g2 (copyX sh s i q j n).2 → HF g g2 → F (copyX sh s i q j n).1 (T, rf, g2)) : Mok (d + 1) 0 0 sc kX11_copy [.ref 0, .int s, .int i, .int q, .int j, .int n] (T, rf, g) (Qi F) := by
  refine Mok.ofWp (L := [some (.ref 0), some (.int s), some (.int i), some (.int q), some (.int j), some (.int n), none, none]) rfl rfl rfl ?_
  refine xX11_copy_0 ?_
  refine xX11_copy_1 ?_
  refine xX11_copy_2 ?_
  refine xX11_copy_3 rfl rfl rfl (s_X11_within  (fun hw0 => ?_) (fun nw0 => ?_))
  · have hs4 : nN s < 4 := Nat.lt_succ_of_le (inN hw0).2
    refine xX11_copy_6_f (by decide) ?_
    refine xX11_copy_9 ?_
    refine xX11_copy_10 ?_
    refine xX11_copy_11 ?_
    refine xX11_copy_12 rfl rfl rfl (s_X11_within  (fun hw1 => ?_) (fun nw1 => ?_))
    · have hq4 : nN q < 4 := Nat.lt_succ_of_le (inN hw1).2
      refine xX11_copy_15_t (by decide) ?_
      refine xX11_copy_21 ?_
      refine xX11_copy_22 (hX.1 _ _ rfl) (hX.2 _ _ _ rfl) ?_
      refine xX11_copy_25 ?_
      refine xX11_copy_26 (j := nN s) (hX.1 _ _ rfl) rfl rfl (inN hw0).1 hs4 rfl (ShT hX hs4).2.2.2 ?_
      refine xX11_copy_27 rfl ?_
      refine xX11_copy_29 ?_
      refine xX11_copy_30 (hX.1 _ _ rfl) (hX.2 _ _ _ rfl) ?_
      refine xX11_copy_33 ?_
      refine xX11_copy_34 (j := nN q) (hX.1 _ _ rfl) rfl rfl (inN hw1).1 hq4 rfl (ShT hX hq4).2.2.2 ?_
      refine xX11_copy_35 rfl ?_
      refine xX11_copy_37 ?_
      refine xX11_copy_39 (ShT hX hs4).1 ?_
      refine xX11_copy_42 ?_
      rw [(hH (nN s) hs4).1]
      refine xX11_copy_43 (fun c43 => ?_) (fun c43 => ?_)
      · refine xX11_copy_55 ?_
        refine xX11_copy_57 rfl rfl ?_
        first
          | (rw [copyX, if_pos hw0, if_pos hw1, if_pos c43] at hQ; exact hQ g hH (fun _ _ => rfl))
          | (rw [copyX, if_pos hw0, if_pos hw1, if_neg c43, if_pos c52] at hQ; exact hQ g hH (fun _ _ => rfl))
      · refine xX11_copy_46 ?_
        refine xX11_copy_48 (ShT hX hq4).1 ?_
        refine xX11_copy_51 ?_
        rw [(hH (nN q) hq4).1]
        refine xX11_copy_52 (fun c52 => ?_) (fun c52 => ?_)
        · refine xX11_copy_58 ?_
          refine xX11_copy_60 (ShT hX hs4).1 ?_
          refine xX11_copy_63 ?_
          refine xX11_copy_65 (ShT hX hq4).1 ?_
          rw [(hH (nN s) hs4).1, (hH (nN q) hq4).1]
          refine xX11_copy_68 (fun c68 => ?_) (fun c68 => ?_)
          · refine xX11_copy_74 ?_
            refine xX11_copy_75 (fun c75 => ?_) (fun c75 => ?_)
            · refine xX11_copy_113 ?_
              refine xX11_copy_115 rfl rfl ?_
              first
                | (rw [copyX, if_pos hw0, if_pos hw1, if_neg c43, if_neg c52, if_pos c68, if_pos c75] at hQ; exact hQ g hH (fun _ _ => rfl))
                | (rw [copyX, if_pos hw0, if_pos hw1, if_neg c43, if_neg c52, if_pos c68, if_neg c75, if_pos c80] at hQ; exact hQ g hH (fun _ _ => rfl))
                | (rw [copyX, if_pos hw0, if_pos hw1, if_neg c43, if_neg c52, if_pos c68, if_neg c75, if_neg c80, if_pos c85] at hQ; exact hQ g hH (fun _ _ => rfl))
                | (rw [copyX, if_pos hw0, if_pos hw1, if_neg c43, if_neg c52, if_pos c68, if_neg c75, if_neg c80, if_neg c85, if_pos c97] at hQ; exact hQ g hH (fun _ _ => rfl))
                | (rw [copyX, if_pos hw0, if_pos hw1, if_neg c43, if_neg c52, if_pos c68, if_neg c75, if_neg c80, if_neg c85, if_neg c97, if_pos (Int32.not_le.mp c110)] at hQ; exact hQ g hH (fun _ _ => rfl))
            · refine xX11_copy_78 ?_
              refine xX11_copy_80 (fun c80 => ?_) (fun c80 => ?_)
              · refine xX11_copy_113 ?_
                refine xX11_copy_115 rfl rfl ?_
                first
                  | (rw [copyX, if_pos hw0, if_pos hw1, if_neg c43, if_neg c52, if_pos c68, if_pos c75] at hQ; exact hQ g hH (fun _ _ => rfl))
                  | (rw [copyX, if_pos hw0, if_pos hw1, if_neg c43, if_neg c52, if_pos c68, if_neg c75, if_pos c80] at hQ; exact hQ g hH (fun _ _ => rfl))
                  | (rw [copyX, if_pos hw0, if_pos hw1, if_neg c43, if_neg c52, if_pos c68, if_neg c75, if_neg c80, if_pos c85] at hQ; exact hQ g hH (fun _ _ => rfl))
                  | (rw [copyX, if_pos hw0, if_pos hw1, if_neg c43, if_neg c52, if_pos c68, if_neg c75, if_neg c80, if_neg c85, if_pos c97] at hQ; exact hQ g hH (fun _ _ => rfl))
                  | (rw [copyX, if_pos hw0, if_pos hw1, if_neg c43, if_neg c52, if_pos c68, if_neg c75, if_neg c80, if_neg c85, if_neg c97, if_pos (Int32.not_le.mp c110)] at hQ; exact hQ g hH (fun _ _ => rfl))
              · refine xX11_copy_83 ?_
                refine xX11_copy_85 (fun c85 => ?_) (fun c85 => ?_)
                · refine xX11_copy_113 ?_
                  refine xX11_copy_115 rfl rfl ?_
                  first
                    | (rw [copyX, if_pos hw0, if_pos hw1, if_neg c43, if_neg c52, if_pos c68, if_pos c75] at hQ; exact hQ g hH (fun _ _ => rfl))
                    | (rw [copyX, if_pos hw0, if_pos hw1, if_neg c43, if_neg c52, if_pos c68, if_neg c75, if_pos c80] at hQ; exact hQ g hH (fun _ _ => rfl))
                    | (rw [copyX, if_pos hw0, if_pos hw1, if_neg c43, if_neg c52, if_pos c68, if_neg c75, if_neg c80, if_pos c85] at hQ; exact hQ g hH (fun _ _ => rfl))
                    | (rw [copyX, if_pos hw0, if_pos hw1, if_neg c43, if_neg c52, if_pos c68, if_neg c75, if_neg c80, if_neg c85, if_pos c97] at hQ; exact hQ g hH (fun _ _ => rfl))
                    | (rw [copyX, if_pos hw0, if_pos hw1, if_neg c43, if_neg c52, if_pos c68, if_neg c75, if_neg c80, if_neg c85, if_neg c97, if_pos (Int32.not_le.mp c110)] at hQ; exact hQ g hH (fun _ _ => rfl))
                · refine xX11_copy_88 ?_
                  refine xX11_copy_90 ?_
                  refine xX11_copy_92 (ShT hX hs4).1 ?_
                  refine xX11_copy_95 ?_
                  refine xX11_copy_96 ?_
                  rw [(hH (nN s) hs4).2.1]
                  refine xX11_copy_97 (fun c97 => ?_) (fun c97 => ?_)
                  · refine xX11_copy_113 ?_
                    refine xX11_copy_115 rfl rfl ?_
                    first
                      | (rw [copyX, if_pos hw0, if_pos hw1, if_neg c43, if_neg c52, if_pos c68, if_pos c75] at hQ; exact hQ g hH (fun _ _ => rfl))
                      | (rw [copyX, if_pos hw0, if_pos hw1, if_neg c43, if_neg c52, if_pos c68, if_neg c75, if_pos c80] at hQ; exact hQ g hH (fun _ _ => rfl))
                      | (rw [copyX, if_pos hw0, if_pos hw1, if_neg c43, if_neg c52, if_pos c68, if_neg c75, if_neg c80, if_pos c85] at hQ; exact hQ g hH (fun _ _ => rfl))
                      | (rw [copyX, if_pos hw0, if_pos hw1, if_neg c43, if_neg c52, if_pos c68, if_neg c75, if_neg c80, if_neg c85, if_pos c97] at hQ; exact hQ g hH (fun _ _ => rfl))
                      | (rw [copyX, if_pos hw0, if_pos hw1, if_neg c43, if_neg c52, if_pos c68, if_neg c75, if_neg c80, if_neg c85, if_neg c97, if_pos (Int32.not_le.mp c110)] at hQ; exact hQ g hH (fun _ _ => rfl))
                  · refine xX11_copy_100 ?_
                    refine xX11_copy_102 ?_
                    refine xX11_copy_104 (ShT hX hq4).1 ?_
                    refine xX11_copy_107 ?_
                    refine xX11_copy_109 ?_
                    rw [(hH (nN q) hq4).2.1]
                    refine xX11_copy_110 (fun c110 => ?_) (fun c110 => ?_)
                    · refine xX11_copy_116 ?_
                      refine xX11_copy_118 (ShT hX hs4).1 (ShT hX hs4).2.2.1 ?_
                      refine xX11_copy_121 ?_
                      refine xX11_copy_122 ?_
                      refine xX11_copy_124 (ShT hX hq4).1 (ShT hX hq4).2.2.1 ?_
                      refine xX11_copy_127 ?_
                      refine xX11_copy_129 ?_
                      obtain ⟨k1, hk1, ek1⟩ := hz4 (nN s) hs4
                      obtain ⟨k2, hk2, ek2⟩ := hz4 (nN q) hq4
                      have f1 : nN i + nN n ≤ 40 := fits (by rw [← ek1]; exact c97) hk1 c75 c85
                      have f2 : nN j + nN n ≤ 40 := fits (by rw [← ek2]; exact Int32.not_lt.mpr c110) hk2 c80 c85
                      refine xX11_copy_131 (isp := nN i) (idp := nN j) (im := nN n) (ShT hX hs4).2.1 (ShT hX hq4).2.1 (nneg c75).1 (nneg c80).1 (nneg c85).1 f1 f2 rfl rfl rfl ?_
                      refine xX11_copy_134 ?_
                      refine xX11_copy_136 rfl rfl ?_
                      rw [copyX, if_pos hw0, if_pos hw1, if_neg c43, if_neg c52, if_pos c68, if_neg c75, if_neg c80, if_neg c85, if_neg c97, if_neg (Int32.not_lt.mpr c110)] at hQ
                      exact hQ _ (XH_cpS hH hs4 f1) (fun a ha => cpy_row (by omega))
                    · refine xX11_copy_113 ?_
                      refine xX11_copy_115 rfl rfl ?_
                      first
                        | (rw [copyX, if_pos hw0, if_pos hw1, if_neg c43, if_neg c52, if_pos c68, if_pos c75] at hQ; exact hQ g hH (fun _ _ => rfl))
                        | (rw [copyX, if_pos hw0, if_pos hw1, if_neg c43, if_neg c52, if_pos c68, if_neg c75, if_pos c80] at hQ; exact hQ g hH (fun _ _ => rfl))
                        | (rw [copyX, if_pos hw0, if_pos hw1, if_neg c43, if_neg c52, if_pos c68, if_neg c75, if_neg c80, if_pos c85] at hQ; exact hQ g hH (fun _ _ => rfl))
                        | (rw [copyX, if_pos hw0, if_pos hw1, if_neg c43, if_neg c52, if_pos c68, if_neg c75, if_neg c80, if_neg c85, if_pos c97] at hQ; exact hQ g hH (fun _ _ => rfl))
                        | (rw [copyX, if_pos hw0, if_pos hw1, if_neg c43, if_neg c52, if_pos c68, if_neg c75, if_neg c80, if_neg c85, if_neg c97, if_pos (Int32.not_le.mp c110)] at hQ; exact hQ g hH (fun _ _ => rfl))
          · refine xX11_copy_71 ?_
            refine xX11_copy_73 rfl rfl ?_
            rw [copyX, if_pos hw0, if_pos hw1, if_neg c43, if_neg c52, if_neg c68] at hQ
            exact hQ g hH (fun _ _ => rfl)
        · refine xX11_copy_55 ?_
          refine xX11_copy_57 rfl rfl ?_
          first
            | (rw [copyX, if_pos hw0, if_pos hw1, if_pos c43] at hQ; exact hQ g hH (fun _ _ => rfl))
            | (rw [copyX, if_pos hw0, if_pos hw1, if_neg c43, if_pos c52] at hQ; exact hQ g hH (fun _ _ => rfl))
    · refine xX11_copy_15_f (by decide) ?_
      refine xX11_copy_18 ?_
      refine xX11_copy_20 rfl rfl ?_
      rw [copyX, if_pos hw0, if_neg nw1] at hQ
      exact hQ g hH (fun _ _ => rfl)
  · refine xX11_copy_6_t (by decide) ?_
    refine xX11_copy_18 ?_
    refine xX11_copy_20 rfl rfl ?_
    rw [copyX, if_neg nw0] at hQ
    exact hQ g hH (fun _ _ => rfl)
