/-- the reference, ready to bake, its plan's minutes rising -/
def MC (T : List (Nat × Nat)) (rf : Nat → Nat → Option Nat) (g : Nat → Nat → Int32) (o : OV) (nc t : Nat) (cs : Nat → List Int32) : Prop := MB T rf g o nc t cs ∧ PI o
theorem MC.mz {T : List (Nat × Nat)} {rf : Nat → Nat → Option Nat} {g g' : Nat → Nat → Int32} {o : OV} {nc t : Nat} {cs : Nat → List Int32} (h : MC T rf g o nc t cs) (hf : MZ g g') : MC T rf g' o nc t cs := ⟨h.1.mz hf, h.2⟩
theorem OVk.plN {o : OV} {nc c : Nat} (h : OVk o nc) (hc : c < nc) : o 5 c = nI (nN (o 5 c)) ∧ nN (o 5 c) < 16 := by
  obtain ⟨-, -, -, -, -, -, -, -, h9, -⟩ := h
  obtain ⟨k, hk, e⟩ := h9 c hc
  rw [e, nN_nI (by omega)]; exact ⟨rfl, hk⟩
theorem OVk.kiN {o : OV} {nc c : Nat} (h : OVk o nc) (hc : c < nc) : o 2 c = nI (nN (o 2 c)) ∧ nN (o 2 c) < 6 := by
  obtain ⟨-, -, -, -, -, h6, -⟩ := h
  obtain ⟨k, hk, e⟩ := h6 c hc
  rw [e, nN_nI (by omega)]; exact ⟨rfl, hk⟩
theorem OVk.moN {o : OV} {nc c : Nat} (h : OVk o nc) (hc : c < nc) : o 3 c = nI (nN (o 3 c)) ∧ nN (o 3 c) < 10 := by
  obtain ⟨-, -, -, -, -, -, h7, -⟩ := h
  obtain ⟨k, hk, e⟩ := h7 c hc
  rw [e, nN_nI (by omega)]; exact ⟨rfl, hk⟩
theorem OVk.wiN {o : OV} {nc c : Nat} (h : OVk o nc) (hc : c < nc) : o 4 c = nI (nN (o 4 c)) ∧ nN (o 4 c) < 1000 := by
  obtain ⟨-, -, -, -, -, -, -, h8, -⟩ := h
  obtain ⟨k, hk, e⟩ := h8 c hc
  rw [e, nN_nI (by omega)]; exact ⟨rfl, hk⟩
theorem rotM {p q : Nat} (h : p < 16) : nI 4 * remI (nI (rot p q)) (nI 4) + nI 3 - nI (rot p q) / nI 4 = nI (rot p (q + 1)) := by
  have hr := rot_lt h q
  rw [remI_nat (by omega) (by omega), nI_divN (by omega) (by omega), nI_mulN (by omega) (by omega) (by omega), nI_add]
  apply Int32.toInt_inj.mp
  show (nI (4 * (rot p q % 4) + 3) - nI (rot p q / 4)).toInt = (nI (4 * (rot p q % 4) + 3 - rot p q / 4)).toInt
  rw [iSub (by rw [iT (by omega), iT (by omega)]; omega) (by rw [iT (by omega), iT (by omega)]; omega), iT (by omega), iT (by omega), iT (by omega)]
  omega
theorem mx0_lt (v : Int32) : (if v < 0 then (0 : Int32) else v) = mx0 v := by
  unfold mx0
  by_cases h : v < 0
  · rw [if_pos h, if_neg (fun z => Int32.lt_irrefl (Int32.lt_trans h z))]
  · rw [if_neg h]
    by_cases h2 : 0 < v
    · rw [if_pos h2]
    · rw [if_neg h2]
      exact Int32.le_antisymm (Int32.not_lt.mp h2) (Int32.not_lt.mp h)
/-- M's way to be browner -/
theorem bkM {b q : Nat} (hb : b ≤ 999) (hq : q ≤ 400) : wiM (nI b + nI q) 0 999 = mn999 (nI b + mx0 (nI q)) := by
  have e0 : mx0 (nI q) = nI q := by
    apply Int32.toInt_inj.mp
    have := (mx0_nat (x := nI q)).2
    rw [iT (by omega)] at this ⊢
    omega
  rw [e0, nI_add]
  unfold wiM mn999
  rw [if_neg (show ¬ nI (b + q) < 0 from Int32.not_lt.mpr (nI_le (a := 0) (by omega) (by omega)))]
  by_cases h : b + q < 999
  · rw [if_neg (show ¬ 999 < nI (b + q) from Int32.not_lt.mpr (nI_le (b := 999) (by omega) (by omega))), if_pos (show nI (b + q) < 999 from nI_lt (b := 999) h (by omega))]
  · rw [if_neg (show ¬ nI (b + q) < 999 from Int32.not_lt.mpr (nI_le (a := 999) (by omega) (by omega)))]
    by_cases h2 : b + q = 999
    · rw [h2]; rfl
    · rw [if_pos (show 999 < nI (b + q) from nI_lt (a := 999) (by omega) (by omega))]
theorem awayM {b w : Nat} (hb : b ≤ 999) (hw : w < 1000) : (nI b - nI w < 0 ↔ b < w) ∧ (0 < nI b - nI w ↔ w < b) ∧ -(nI b - nI w) = nI w - nI b ∧ (nI w < nI b ↔ w < b) ∧ (nI w ≤ nI b ↔ w ≤ b) ∧ (0 ≤ nI b - nI w ↔ w ≤ b) := by
  have e : (nI b - nI w).toInt = (b : Int) - w := by rw [iSub (by rw [iT (by omega), iT (by omega)]; omega) (by rw [iT (by omega), iT (by omega)]; omega), iT (by omega), iT (by omega)]
  have z : (0 : Int32).toInt = 0 := rfl
  refine ⟨by rw [iLt, e, z]; omega, by rw [iLt, e, z]; omega, ?_, by rw [iLt, iT (by omega), iT (by omega)]; omega, by rw [iLe, iT (by omega), iT (by omega)]; omega, by rw [iLe, e, z]; omega⟩
  apply Int32.toInt_inj.mp
  rw [Int32.toInt_neg, e, iSub (by rw [iT (by omega), iT (by omega)]; omega) (by rw [iT (by omega), iT (by omega)]; omega), iT (by omega), iT (by omega), iBm (by omega) (by omega)]
  omega
theorem lp_X12_over {d : Nat} {sc : Nat × (Nat → Int32)} {p q : Nat} {x0 x1 : Int32} {h : AH} {F : Int32 → AH → Prop} (hp16 : p < 16) (hq : x1 = nI q) (hq4 : q < 4) (hQ : F (nI (rot p q)) h) : ∀ (k j : Nat) (x2 x3 : Int32), (j + k = q) → (x3 = nI j) → (x2 = nI (rot p j)) → Wp d 0 0 sc kX12_over (Qi F) 4 [some (.int x0), some (.int x1), some (.int x2), some (.int x3)] [] h 0 0 := by
  intro k
  induction k with
  | zero =>
    intro j x2 x3 hj hx3 hx2
    have hr := rot_lt hp16 j
    refine xX12_over_4 ?_
    refine xX12_over_5 ?_
    refine xX12_over_6_t (by rw [hx3, hq]; exact nI_le (by omega) (by omega)) ?_
    refine xX12_over_27 ?_
    refine xX12_over_28 rfl rfl ?_
    have e : j = q := by omega
    subst e
    rw [hx2]
    exact hQ
  | succ k ih =>
    intro j x2 x3 hj hx3 hx2
    have hr := rot_lt hp16 j
    refine xX12_over_4 ?_
    refine xX12_over_5 ?_
    refine xX12_over_6_f (by rw [hx3, hq]; exact nI_ge (by omega) (by omega)) ?_
    refine xX12_over_9 ?_
    refine xX12_over_10 ?_
    refine xX12_over_11 ?_
    refine xX12_over_12 (by decide) ?_
    refine xX12_over_13 ?_
    refine xX12_over_14 ?_
    refine xX12_over_15 ?_
    refine xX12_over_16 ?_
    refine xX12_over_17 ?_
    refine xX12_over_18 (by decide) ?_
    refine xX12_over_19 ?_
    refine xX12_over_20 rfl ?_
    refine xX12_over_21 rfl rfl ?_
    refine xX12_over_24 ?_
    exact ih (j + 1) _ _ (by omega) (by rw [hx3]; exact nI_1 j) (by rw [hx2]; exact rotM hp16)
theorem s_X12_over {d : Nat} {sc : Nat × (Nat → Int32)} {p q : Nat} {x0 x1 : Int32} {h : AH} {F : Int32 → AH → Prop} (hp : x0 = nI p) (hp16 : p < 16) (hq : x1 = nI q) (hq4 : q < 4) (hQ : F (nI (rot p q)) h) : Mok d 0 0 sc kX12_over [.int x0, .int x1] h (Qi F) := by
  refine Mok.ofWp (L := [some (.int x0), some (.int x1), none, none]) rfl rfl rfl ?_
  refine xX12_over_0 ?_
  refine xX12_over_1 rfl ?_
  refine xX12_over_2 ?_
  refine xX12_over_3 rfl ?_
  exact lp_X12_over hp16 hq hq4 hQ q 0 _ _ (by omega) rfl hp
theorem s_X12_beginsAt {d : Nat} {sc : Nat × (Nat → Int32)} {T : List (Nat × Nat)} {rf : Nat → Nat → Option Nat} {g : Nat → Nat → Int32} {o : OV} {nc t cN : Nat} {cs : Nat → List Int32} {c : Int32} {F : Int32 → AH → Prop} (hB : MB T rf g o nc t cs) (hc : c = nI cN) (hcn : cN < nc) (hQ : F (kBegins (o 2 cN) (o 3 cN)) (T, rf, g)) : Mok d 0 0 sc kX12_beginsAt [.ref 53, .int c] (T, rf, g) (Qi F) := by
  obtain ⟨hM, hE, hV, hlw, ht6, hL⟩ := id hB
  have hn8 := hV.2.1
  have e2 : g 55 cN = o 2 cN := (hE.2.2.1 cN hcn).1
  have e3 : g 56 cN = o 3 cN := (hE.2.2.1 cN hcn).2.1
  have e4 : g 57 cN = o 4 cN := (hE.2.2.1 cN hcn).2.2.1
  have e5 : g 58 cN = o 5 cN := (hE.2.2.1 cN hcn).2.2.2
  refine Mok.ofWp (L := [some (.ref 53), some (.int c), none]) rfl rfl rfl ?_
  refine xX12_beginsAt_0 ?_
  refine xX12_beginsAt_1 (hM.1 _ _ rfl) (hM.2 _ _ _ rfl) ?_
  refine xX12_beginsAt_4 ?_
  refine xX12_beginsAt_5 (j := cN) (hM.1 _ _ rfl) hc (by omega) rfl ?_
  rw [e3]
  refine xX12_beginsAt_6 ?_
  refine xX12_beginsAt_7 (by decide) ?_
  refine xX12_beginsAt_8 rfl ?_
  refine xX12_beginsAt_9 ?_
  refine xX12_beginsAt_10 (hM.1 _ _ rfl) (hM.2 _ _ _ rfl) ?_
  refine xX12_beginsAt_13 ?_
  refine xX12_beginsAt_14 (j := cN) (hM.1 _ _ rfl) hc (by omega) rfl ?_
  rw [e2]
  refine xX12_beginsAt_15 ?_
  refine xX12_beginsAt_16 (fun c16 => ?_) (fun c16 => ?_)
  · refine xX12_beginsAt_23 ?_
    refine xX12_beginsAt_24 (hM.1 _ _ rfl) (hM.2 _ _ _ rfl) ?_
    refine xX12_beginsAt_27 ?_
    refine xX12_beginsAt_28 (j := cN) (hM.1 _ _ rfl) hc (by omega) rfl ?_
    rw [e2]
    refine xX12_beginsAt_29 ?_
    refine xX12_beginsAt_30 (fun c30 => ?_) (fun c30 => ?_)
    · refine xX12_beginsAt_41 ?_
      refine xX12_beginsAt_42 rfl rfl ?_
      first
        | (rw [kBegins, if_pos (Decidable.not_not.mp c16)] at hQ; exact hQ)
        | (rw [kBegins, if_neg c16, if_pos (Decidable.not_not.mp c30)] at hQ; exact hQ)
        | (rw [kBegins, if_neg c16, if_neg c30] at hQ; exact hQ)
        | (rw [kBegins, if_pos c16] at hQ; exact hQ)
        | (rw [kBegins, if_neg c16, if_pos c30] at hQ; exact hQ)
    · refine xX12_beginsAt_33 ?_
      refine xX12_beginsAt_34 ?_
      refine xX12_beginsAt_35 ?_
      refine xX12_beginsAt_36 ?_
      refine xX12_beginsAt_37 ?_
      refine xX12_beginsAt_38 ?_
      refine xX12_beginsAt_42 rfl rfl ?_
      first
        | (rw [kBegins, if_pos (Decidable.not_not.mp c16)] at hQ; exact hQ)
        | (rw [kBegins, if_neg c16, if_pos (Decidable.not_not.mp c30)] at hQ; exact hQ)
        | (rw [kBegins, if_neg c16, if_neg c30] at hQ; exact hQ)
        | (rw [kBegins, if_pos c16] at hQ; exact hQ)
        | (rw [kBegins, if_neg c16, if_pos c30] at hQ; exact hQ)
  · refine xX12_beginsAt_19 ?_
    refine xX12_beginsAt_20 ?_
    refine xX12_beginsAt_42 rfl rfl ?_
    first
      | (rw [kBegins, if_pos (Decidable.not_not.mp c16)] at hQ; exact hQ)
      | (rw [kBegins, if_neg c16, if_pos (Decidable.not_not.mp c30)] at hQ; exact hQ)
      | (rw [kBegins, if_neg c16, if_neg c30] at hQ; exact hQ)
      | (rw [kBegins, if_pos c16] at hQ; exact hQ)
      | (rw [kBegins, if_neg c16, if_pos c30] at hQ; exact hQ)
theorem s_X12_browner {d : Nat} {sc : Nat × (Nat → Int32)} {T : List (Nat × Nat)} {rf : Nat → Nat → Option Nat} {g : Nat → Nat → Int32} {o : OV} {nc t cN : Nat} {cs : Nat → List Int32} {c : Int32} {F : Int32 → AH → Prop} (hB : MB T rf g o nc t cs) (hc : c = nI cN) (hcn : cN < nc) {v b : Int32} (hQ : F (kGains (o 2 cN) v b (o 3 cN)) (T, rf, g)) : Mok d 0 0 sc kX12_browner [.ref 53, .int c, .int v, .int b] (T, rf, g) (Qi F) := by
  obtain ⟨hM, hE, hV, hlw, ht6, hL⟩ := id hB
  have hn8 := hV.2.1
  have e2 : g 55 cN = o 2 cN := (hE.2.2.1 cN hcn).1
  have e3 : g 56 cN = o 3 cN := (hE.2.2.1 cN hcn).2.1
  have e4 : g 57 cN = o 4 cN := (hE.2.2.1 cN hcn).2.2.1
  have e5 : g 58 cN = o 5 cN := (hE.2.2.1 cN hcn).2.2.2
  have hk := hV.kiN hcn
  refine Mok.ofWp (L := [some (.ref 53), some (.int c), some (.int v), some (.int b), none]) rfl rfl rfl ?_
  refine xX12_browner_0 ?_
  refine xX12_browner_1 ?_
  refine xX12_browner_2 (hM.1 _ _ rfl) (hM.2 _ _ _ rfl) ?_
  refine xX12_browner_5 ?_
  refine xX12_browner_6 (j := cN) (hM.1 _ _ rfl) hc (by omega) rfl ?_
  rw [e3]
  refine xX12_browner_7 ?_
  refine xX12_browner_8 (by decide) ?_
  refine xX12_browner_9 ?_
  refine xX12_browner_10 rfl ?_
  refine xX12_browner_12 ?_
  refine xX12_browner_13 (hM.1 _ _ rfl) (hM.2 _ _ _ rfl) ?_
  refine xX12_browner_16 ?_
  refine xX12_browner_17 (j := cN) (hM.1 _ _ rfl) hc (by omega) rfl ?_
  rw [e2]
  refine xX12_browner_18 (fun c18 => ?_) (fun c18 => ?_) (fun c18 => ?_) (fun c18 => ?_) (fun c18 => ?_)
  · rw [c18] at hQ
    refine xX12_browner_48 ?_
    refine xX12_browner_49 ?_
    refine xX12_browner_50 ?_
    refine xX12_browner_51 ?_
    refine xX12_browner_52 (by decide) ?_
    refine xX12_browner_53 rfl rfl ?_
    exact hQ
  · rw [c18] at hQ
    refine xX12_browner_54 ?_
    refine xX12_browner_56 rfl rfl ?_
    exact hQ
  · rw [c18] at hQ
    refine xX12_browner_48 ?_
    refine xX12_browner_49 ?_
    refine xX12_browner_50 ?_
    refine xX12_browner_51 ?_
    refine xX12_browner_52 (by decide) ?_
    refine xX12_browner_53 rfl rfl ?_
    exact hQ
  · rw [c18] at hQ
    refine xX12_browner_57 ?_
    refine xX12_browner_58 ?_
    refine xX12_browner_60 ?_
    refine xX12_browner_61 (hM.1 _ _ rfl) (hM.2 _ _ _ rfl) ?_
    refine xX12_browner_64 ?_
    refine xX12_browner_65 (j := cN) (hM.1 _ _ rfl) hc (by omega) rfl ?_
    rw [e3]
    refine xX12_browner_66 ?_
    refine xX12_browner_67 ?_
    refine xX12_browner_69 ?_
    refine xX12_browner_70 (fun c70 => ?_) (fun c70 => ?_)
    · have e : kGains 4 v b (o 3 cN) = v + o 3 cN / 2 := if_neg (Int32.not_lt.mpr c70)
      refine xX12_browner_80 ?_
      refine xX12_browner_82 rfl rfl ?_
      rw [e] at hQ
      exact hQ
    · have e : kGains 4 v b (o 3 cN) = 3 * (v + o 3 cN / 2) := if_pos (Int32.not_le.mp c70)
      refine xX12_browner_73 ?_
      refine xX12_browner_74 ?_
      refine xX12_browner_76 ?_
      refine xX12_browner_77 ?_
      refine xX12_browner_82 rfl rfl ?_
      rw [e] at hQ
      exact hQ
  · have hk0 : o 2 cN = 0 ∨ o 2 cN = 5 := by
      rw [hk.1] at c18 ⊢
      generalize nN (o 2 cN) = q at hk c18 ⊢
      have h6 := hk.2
      rcases (by omega : q = 0 ∨ q = 1 ∨ q = 2 ∨ q = 3 ∨ q = 4 ∨ q = 5) with rfl | rfl | rfl | rfl | rfl | rfl <;> first | exact Or.inl rfl | exact Or.inr rfl | (exfalso; revert c18; decide)
    have hQ : F v (T, rf, g) := by rcases hk0 with q | q <;> (rw [q] at hQ; exact hQ)
    refine xX12_browner_83 ?_
    refine xX12_browner_84 rfl rfl ?_
    exact hQ
theorem s_X12_heatFor {d : Nat} {sc : Nat × (Nat → Int32)} {T : List (Nat × Nat)} {rf : Nat → Nat → Option Nat} {g : Nat → Nat → Int32} {o : OV} {nc t cN m : Nat} {cs : Nat → List Int32} {c mi last b : Int32} {F : Int32 → AH → Prop} (hC : MC T rf g o nc t cs) (hc : c = nI cN) (hcn : cN < nc) (hmi : mi = nI m) (hm : m < 100) (hl : last = lastI (opn o (m + 1)).2.1) (hQ : ∀ g2, MY g g2 → F (heat1 o (evL (lwM cs)) cN m (opn o (m + 1)).1 (opn o (m + 1)).2.1 b) (T, rf, g2)) : Mok (d + 3) 0 0 sc kX12_heatFor [.ref 53, .int c, .int mi, .int last, .int b] (T, rf, g) (Qi F) := by
  obtain ⟨hB, hP⟩ := id hC
  obtain ⟨hM, hE, hV, hlw, ht6, hL⟩ := id hB
  have hn8 := hV.2.1
  have e2 : g 55 cN = o 2 cN := (hE.2.2.1 cN hcn).1
  have e3 : g 56 cN = o 3 cN := (hE.2.2.1 cN hcn).2.1
  have e4 : g 57 cN = o 4 cN := (hE.2.2.1 cN hcn).2.2.1
  have e5 : g 58 cN = o 5 cN := (hE.2.2.1 cN hcn).2.2.2
  have h5 := hV.plN hcn
  have hq4 := opn_l o (m + 1) hV.liN.1
  have eh : g 54 (rot (nN (o 5 cN)) (opn o (m + 1)).1) = o 1 (rot (nN (o 5 cN)) (opn o (m + 1)).1) := hE.2.1 _ (rot_lt h5.2 _)
  refine Mok.ofWp (L := [some (.ref 53), some (.int c), some (.int mi), some (.int last), some (.int b), none, none]) rfl rfl rfl ?_
  refine xX12_heatFor_0 ?_
  refine xX12_heatFor_1 (hM.1 _ _ rfl) (hM.2 _ _ _ rfl) ?_
  refine xX12_heatFor_4 ?_
  refine xX12_heatFor_5 (hM.1 _ _ rfl) (hM.2 _ _ _ rfl) ?_
  refine xX12_heatFor_8 ?_
  refine xX12_heatFor_9 (j := cN) (hM.1 _ _ rfl) hc (by omega) rfl ?_
  rw [e5]
  refine xX12_heatFor_10 ?_
  refine xX12_heatFor_11 ?_
  refine xX12_heatFor_12 (hM.1 _ _ rfl) rfl rfl rfl (s_X12_turnedBy hB hP hmi hm ?_)
  refine xX12_heatFor_15 rfl rfl rfl (s_X12_over h5.1 h5.2 rfl hq4 ?_)
  refine xX12_heatFor_18 (j := (rot (nN (o 5 cN)) (opn o (m + 1)).1)) (hM.1 _ _ rfl) rfl (rot_lt h5.2 _) rfl ?_
  rw [eh]
  refine xX12_heatFor_19 rfl ?_
  refine xX12_heatFor_21 ?_
  refine xX12_heatFor_22 ?_
  refine xX12_heatFor_23 (fun c23 => ?_) (fun c23 => ?_)
  · cases hq : (opn o (m + 1)).2.1 with
    | none => exact absurd (by rw [hl, hq]; rfl) c23
    | some a => ?_
    refine xX12_heatFor_29 ?_
    refine xX12_heatFor_31 ?_
    refine xX12_heatFor_32 ?_
    refine xX12_heatFor_33 ?_
    refine xX12_heatFor_35 ?_
    refine xX12_heatFor_36 ?_
    refine xX12_heatFor_38 ?_
    refine xX12_heatFor_39 ?_
    refine xX12_heatFor_40 ?_
    refine xX12_heatFor_41 ?_
    refine xX12_heatFor_42 (hM.1 _ _ rfl) rfl rfl rfl (s_X12_asksOf hB (p := 1) (by omega) rfl hc hcn (fun g2 hy2 => ?_))
    refine xX12_heatFor_45 ?_
    refine xX12_heatFor_46 rfl ?_
    refine xX12_heatFor_48 ?_
    refine xX12_heatFor_50 (fun c50 => ?_) (fun c50 => ?_)
    · refine xX12_heatFor_57 ?_
      refine xX12_heatFor_59 rfl rfl ?_
      have q := hQ _ hy2
      have ha := opn_last o (m + 1) a hq
      have es : nI (m - a) = mi - last := by
        rw [hmi, hl, hq]
        apply Int32.toInt_inj.mp
        show (nI (m - a)).toInt = (nI m - nI a).toInt
        rw [iSub (by rw [iT (by omega), iT (by omega)]; omega) (by rw [iT (by omega), iT (by omega)]; omega), iT (by omega), iT (by omega), iT (by omega)]
        omega
      rw [hq, heat1, ← mx0_lt, es, ← hmi] at q
      first | (rw [if_pos (Int32.not_le.mp c50)] at q; exact q) | (rw [if_neg (Int32.not_lt.mpr c50)] at q; exact q)
    · refine xX12_heatFor_53 ?_
      refine xX12_heatFor_54 ?_
      refine xX12_heatFor_59 rfl rfl ?_
      have q := hQ _ hy2
      have ha := opn_last o (m + 1) a hq
      have es : nI (m - a) = mi - last := by
        rw [hmi, hl, hq]
        apply Int32.toInt_inj.mp
        show (nI (m - a)).toInt = (nI m - nI a).toInt
        rw [iSub (by rw [iT (by omega), iT (by omega)]; omega) (by rw [iT (by omega), iT (by omega)]; omega), iT (by omega), iT (by omega), iT (by omega)]
        omega
      rw [hq, heat1, ← mx0_lt, es, ← hmi] at q
      first | (rw [if_pos (Int32.not_le.mp c50)] at q; exact q) | (rw [if_neg (Int32.not_lt.mpr c50)] at q; exact q)
  · cases hq : (opn o (m + 1)).2.1 with
    | some a => exact absurd (by have := opn_last o (m + 1) a hq; rw [hl, hq] at c23; first | exact c23 | exact Decidable.not_not.mp c23) (nIm1 (a := a) (by have := opn_last o (m + 1) a hq; omega))
    | none => ?_
    refine xX12_heatFor_26 ?_
    refine xX12_heatFor_28 rfl rfl ?_
    rw [hq] at hQ
    exact hQ g MY.rf
