theorem wiM_in {k : Nat} (h : k ≤ 7) : wiM (nI k) 0 7 = nI k := by
  unfold wiM
  rw [if_neg (show ¬ nI k < 0 from Int32.not_lt.mpr (nI_le (a := 0) (by omega) (by omega))), if_neg (show ¬ 7 < nI k from Int32.not_lt.mpr (nI_le (b := 7) (by omega) (by omega)))]
/-- how brown the cakes are at the end, by the reference's row -/
def BRn (g : Nat → Nat → Int32) (o : OV) (br : Nat → Int32) (n : Nat) : Prop := ∀ c, c < n → g 73 (41 * c + nN (o 0 9)) = br c
theorem BRn.row {g g' : Nat → Nat → Int32} {o : OV} {br : Nat → Int32} {n : Nat} (h : BRn g o br n) (e : g' 73 = g 73) : BRn g' o br n := fun c hc => by rw [e]; exact h c hc
theorem BRm.n {g : Nat → Nat → Int32} {o : OV} {ev : EV} {n : Nat} (h : BRm g o ev n) : BRn g o (endB o ev) n := fun c hc => h c hc _ (Nat.le_refl _)
theorem BRm.e {g : Nat → Nat → Int32} {o : OV} {ev : EV} {n c : Nat} (h : BRm g o ev n) (hc : c < n) : g 73 (41 * c + nN (o 0 9)) = endB o ev c := h c hc _ (Nat.le_refl _)
theorem lp_X12_badOfAll {d : Nat} {sc : Nat × (Nat → Int32)} {T : List (Nat × Nat)} {rf : Nat → Nat → Option Nat} {o : OV} {nc t : Nat} {cs : Nat → List Int32} {F : Int32 → AH → Prop} {g0 : Nat → Nat → Int32} {br : Nat → Int32} (hb : ∀ c, c < nc → ∃ b, b ≤ 999 ∧ br c = nI b) (hQ : ∀ g2, MY g0 g2 → F (badAll o (evL (lwM cs)) br nc) (T, rf, g2)) : ∀ (k j : Nat) (x1 x2 : Int32) (g : Nat → Nat → Int32), (j + k = nc) → (x2 = nI j) → (x1 = badAll o (evL (lwM cs)) br j) → (MC T rf g o nc t cs) → (MY g0 g) → (BRn g o br nc) → Wp (d + 4) 0 0 sc kX12_badOfAll (Qi F) 4 [some (.ref 53), some (.int x1), some (.int x2)] [] (T, rf, g) 0 0 := by
  intro k
  induction k with
  | zero =>
    intro j x1 x2 g hj hx2 hx1 hC hf hR
    obtain ⟨hB, hP⟩ := id hC
    obtain ⟨hM, hE, hV, hlw, ht6, hL⟩ := id hB
    have hn8 := hV.2.1
    have e9 : g 53 1 = nI (nN (o 0 9)) := hE.1.2.2.1.trans hV.tN.1
    have ht40 := hV.tN.2.1
    have hcn0 : g 53 3 = nI nc := hE.1.1.trans hV.1
    refine xX12_badOfAll_4 ?_
    refine xX12_badOfAll_5 ?_
    refine xX12_badOfAll_6 (hM.1 _ _ rfl) ?_
    rw [hcn0]
    refine xX12_badOfAll_9_t (by rw [hx2]; exact nI_le (by omega) (by omega)) ?_
    refine xX12_badOfAll_31 ?_
    refine xX12_badOfAll_32 rfl rfl ?_
    have e : j = nc := by omega
    subst e
    rw [hx1]
    exact hQ _ hf
  | succ k ih =>
    intro j x1 x2 g hj hx2 hx1 hC hf hR
    obtain ⟨hB, hP⟩ := id hC
    obtain ⟨hM, hE, hV, hlw, ht6, hL⟩ := id hB
    have hn8 := hV.2.1
    have e9 : g 53 1 = nI (nN (o 0 9)) := hE.1.2.2.1.trans hV.tN.1
    have ht40 := hV.tN.2.1
    have hcn0 : g 53 3 = nI nc := hE.1.1.trans hV.1
    refine xX12_badOfAll_4 ?_
    refine xX12_badOfAll_5 ?_
    refine xX12_badOfAll_6 (hM.1 _ _ rfl) ?_
    rw [hcn0]
    refine xX12_badOfAll_9_f (by rw [hx2]; exact nI_ge (by omega) (by omega)) ?_
    refine xX12_badOfAll_12 ?_
    refine xX12_badOfAll_13 ?_
    refine xX12_badOfAll_14 ?_
    refine xX12_badOfAll_15 ?_
    refine xX12_badOfAll_16 ?_
    obtain ⟨bN, hb9, eb⟩ := hb j (by omega)
    refine xX12_badOfAll_17 (hM.1 _ _ rfl) rfl rfl rfl (s_X12_endOf hC hx2 (by omega) (hR _ (by omega)) ?_)
    refine xX12_badOfAll_20 (hM.1 _ _ rfl) rfl rfl rfl (s_X12_badBy hC hx2 (by omega) eb hb9 (fun g1 hy1 => ?_))
    refine xX12_badOfAll_23 ?_
    refine xX12_badOfAll_24 rfl ?_
    refine xX12_badOfAll_25 rfl rfl ?_
    refine xX12_badOfAll_28 ?_
    exact ih (j + 1) _ _ _ (by omega) (by rw [hx2]; exact nI_1 j) (by rw [hx1]; rfl) (hC.my hy1) (hf.tr hy1) (hR.row hy1.b)
theorem r_X12_badOfAll {d : Nat} {sc : Nat × (Nat → Int32)} {T : List (Nat × Nat)} {rf : Nat → Nat → Option Nat} {o : OV} {nc t : Nat} {cs : Nat → List Int32} {g : Nat → Nat → Int32} {F : Int32 → AH → Prop} (hC : MC T rf g o nc t cs) {br : Nat → Int32} (hR : BRn g o br nc) (hb : ∀ c, c < nc → ∃ b, b ≤ 999 ∧ br c = nI b) (hQ : ∀ g2, MY g g2 → F (badAll o (evL (lwM cs)) br nc) (T, rf, g2)) : Mok (d + 4) 0 0 sc kX12_badOfAll [.ref 53] (T, rf, g) (Qi F) := by
  refine Mok.ofWp (L := [some (.ref 53), none, none]) rfl rfl rfl ?_
  refine xX12_badOfAll_0 ?_
  refine xX12_badOfAll_1 rfl ?_
  refine xX12_badOfAll_2 ?_
  refine xX12_badOfAll_3 rfl ?_
  exact lp_X12_badOfAll hb hQ nc 0 _ _ _ (by omega) rfl rfl hC MY.rf hR
theorem s_X12_badOfAll {d : Nat} {sc : Nat × (Nat → Int32)} {T : List (Nat × Nat)} {rf : Nat → Nat → Option Nat} {o : OV} {nc t : Nat} {cs : Nat → List Int32} {g : Nat → Nat → Int32} {F : Int32 → AH → Prop} (hC : MC T rf g o nc t cs) (hR : BRm g o (evL (lwM cs)) nc) (hQ : ∀ g2, MY g g2 → F (badP o (evL (lwM cs)) nc) (T, rf, g2)) : Mok (d + 4) 0 0 sc kX12_badOfAll [.ref 53] (T, rf, g) (Qi F) :=
  r_X12_badOfAll hC hR.n (fun c hc => brS_nat hC.1.2.2.1 hc _) hQ
theorem lp_X12_mostBrown {d : Nat} {sc : Nat × (Nat → Int32)} {T : List (Nat × Nat)} {rf : Nat → Nat → Option Nat} {o : OV} {nc t : Nat} {cs : Nat → List Int32} {g : Nat → Nat → Int32} {F : Int32 → AH → Prop} (hC : MC T rf g o nc t cs) {br : Nat → Int32} (hR : BRn g o br nc) (hQ : F (mostI br nc) (T, rf, g)) : ∀ (k j : Nat) (x1 x2 : Int32), (j + k = nc) → (x2 = nI j) → (x1 = mostI br j) → Wp (d + 1) 0 0 sc kX12_mostBrown (Qi F) 4 [some (.ref 53), some (.int x1), some (.int x2)] [] (T, rf, g) 0 0 := by
  intro k
  induction k with
  | zero =>
    intro j x1 x2 hj hx2 hx1
    obtain ⟨hB, hP⟩ := id hC
    obtain ⟨hM, hE, hV, hlw, ht6, hL⟩ := id hB
    have hn8 := hV.2.1
    have e9 : g 53 1 = nI (nN (o 0 9)) := hE.1.2.2.1.trans hV.tN.1
    have ht40 := hV.tN.2.1
    have hcn0 : g 53 3 = nI nc := hE.1.1.trans hV.1
    refine xX12_mostBrown_4 ?_
    refine xX12_mostBrown_5 ?_
    refine xX12_mostBrown_6 (hM.1 _ _ rfl) ?_
    rw [hcn0]
    refine xX12_mostBrown_9_t (by rw [hx2]; exact nI_le (by omega) (by omega)) ?_
    refine xX12_mostBrown_48 ?_
    refine xX12_mostBrown_49 rfl rfl ?_
    have e : j = nc := by omega
    subst e
    rw [hx1]
    exact hQ
  | succ k ih =>
    intro j x1 x2 hj hx2 hx1
    obtain ⟨hB, hP⟩ := id hC
    obtain ⟨hM, hE, hV, hlw, ht6, hL⟩ := id hB
    have hn8 := hV.2.1
    have e9 : g 53 1 = nI (nN (o 0 9)) := hE.1.2.2.1.trans hV.tN.1
    have ht40 := hV.tN.2.1
    have hcn0 : g 53 3 = nI nc := hE.1.1.trans hV.1
    refine xX12_mostBrown_4 ?_
    refine xX12_mostBrown_5 ?_
    refine xX12_mostBrown_6 (hM.1 _ _ rfl) ?_
    rw [hcn0]
    refine xX12_mostBrown_9_f (by rw [hx2]; exact nI_ge (by omega) (by omega)) ?_
    refine xX12_mostBrown_12 ?_
    refine xX12_mostBrown_13 ?_
    refine xX12_mostBrown_14 (fun c14 => ?_) (fun c14 => ?_)
    · have hm : nI j = mostI br (j + 1) := (if_pos (Or.inl (hx1.symm.trans c14))).symm
      refine xX12_mostBrown_36 ?_
      refine xX12_mostBrown_37 ?_
      refine xX12_mostBrown_41 rfl ?_
      refine xX12_mostBrown_42 rfl rfl ?_
      refine xX12_mostBrown_45 ?_
      exact ih (j + 1) _ _ (by omega) (by rw [hx2]; exact nI_1 j) (by first | exact hm | (rw [hx2]; exact hm))
    · obtain ⟨k', hk', ek⟩ : ∃ k', k' < j ∧ mostI br j = nI k' := by
        rcases mostI_in br j with ⟨-, q⟩ | q
        · exact absurd (hx1.trans q) c14
        · exact q
      have en : nN (mostI br j) = k' := by rw [ek, nN_nI (by omega)]
      refine xX12_mostBrown_17 ?_
      refine xX12_mostBrown_18 ?_
      refine xX12_mostBrown_19 (hM.1 _ _ rfl) rfl rfl rfl (s_X12_endOf hC hx2 (by omega) (hR _ (by omega)) ?_)
      refine xX12_mostBrown_22 ?_
      refine xX12_mostBrown_23 ?_
      refine xX12_mostBrown_24 ?_
      refine xX12_mostBrown_25 ?_
      refine xX12_mostBrown_27 rfl rfl rfl (s_X12_within  ?_)
      refine xX12_mostBrown_30 (hM.1 _ _ rfl) rfl rfl rfl (s_X12_endOf hC (cN := k') (by rw [hx1, ek]; exact wiM_in (by omega)) (by omega) (hR _ (by omega)) ?_)
      refine xX12_mostBrown_33 (fun c33 => ?_) (fun c33 => ?_)
      · have hm : x1 = mostI br (j + 1) := hx1.trans (if_neg (fun z => z.elim (fun y => c14 (hx1.trans y)) (fun y => by rw [en] at y; exact Int32.not_lt.mpr c33 y))).symm
        refine xX12_mostBrown_40 ?_
        refine xX12_mostBrown_41 rfl ?_
        refine xX12_mostBrown_42 rfl rfl ?_
        refine xX12_mostBrown_45 ?_
        exact ih (j + 1) _ _ (by omega) (by rw [hx2]; exact nI_1 j) (by first | exact hm | (rw [hx2]; exact hm))
      · have hm : nI j = mostI br (j + 1) := (if_pos (Or.inr (by rw [en]; exact Int32.not_le.mp c33))).symm
        refine xX12_mostBrown_36 ?_
        refine xX12_mostBrown_37 ?_
        refine xX12_mostBrown_41 rfl ?_
        refine xX12_mostBrown_42 rfl rfl ?_
        refine xX12_mostBrown_45 ?_
        exact ih (j + 1) _ _ (by omega) (by rw [hx2]; exact nI_1 j) (by first | exact hm | (rw [hx2]; exact hm))
theorem r_X12_mostBrown {d : Nat} {sc : Nat × (Nat → Int32)} {T : List (Nat × Nat)} {rf : Nat → Nat → Option Nat} {o : OV} {nc t : Nat} {cs : Nat → List Int32} {g : Nat → Nat → Int32} {F : Int32 → AH → Prop} (hC : MC T rf g o nc t cs) {br : Nat → Int32} (hR : BRn g o br nc) (hQ : F (mostI br nc) (T, rf, g)) : Mok (d + 1) 0 0 sc kX12_mostBrown [.ref 53] (T, rf, g) (Qi F) := by
  refine Mok.ofWp (L := [some (.ref 53), none, none]) rfl rfl rfl ?_
  refine xX12_mostBrown_0 ?_
  refine xX12_mostBrown_1 rfl ?_
  refine xX12_mostBrown_2 ?_
  refine xX12_mostBrown_3 rfl ?_
  exact lp_X12_mostBrown hC hR hQ nc 0 _ _ (by omega) rfl rfl
theorem s_X12_mostBrown {d : Nat} {sc : Nat × (Nat → Int32)} {T : List (Nat × Nat)} {rf : Nat → Nat → Option Nat} {o : OV} {nc t : Nat} {cs : Nat → List Int32} {g : Nat → Nat → Int32} {F : Int32 → AH → Prop} (hC : MC T rf g o nc t cs) (hR : BRm g o (evL (lwM cs)) nc) (hQ : F (mostI (endB o (evL (lwM cs))) nc) (T, rf, g)) : Mok (d + 1) 0 0 sc kX12_mostBrown [.ref 53] (T, rf, g) (Qi F) :=
  r_X12_mostBrown hC hR.n hQ
theorem lp_X12_leastBrown {d : Nat} {sc : Nat × (Nat → Int32)} {T : List (Nat × Nat)} {rf : Nat → Nat → Option Nat} {o : OV} {nc t : Nat} {cs : Nat → List Int32} {g : Nat → Nat → Int32} {F : Int32 → AH → Prop} (hC : MC T rf g o nc t cs) {br : Nat → Int32} (hR : BRn g o br nc) (hQ : F (leastI br nc) (T, rf, g)) : ∀ (k j : Nat) (x1 x2 : Int32), (j + k = nc) → (x2 = nI j) → (x1 = leastI br j) → Wp (d + 1) 0 0 sc kX12_leastBrown (Qi F) 4 [some (.ref 53), some (.int x1), some (.int x2)] [] (T, rf, g) 0 0 := by
  intro k
  induction k with
  | zero =>
    intro j x1 x2 hj hx2 hx1
    obtain ⟨hB, hP⟩ := id hC
    obtain ⟨hM, hE, hV, hlw, ht6, hL⟩ := id hB
    have hn8 := hV.2.1
    have e9 : g 53 1 = nI (nN (o 0 9)) := hE.1.2.2.1.trans hV.tN.1
    have ht40 := hV.tN.2.1
    have hcn0 : g 53 3 = nI nc := hE.1.1.trans hV.1
    refine xX12_leastBrown_4 ?_
    refine xX12_leastBrown_5 ?_
    refine xX12_leastBrown_6 (hM.1 _ _ rfl) ?_
    rw [hcn0]
    refine xX12_leastBrown_9_t (by rw [hx2]; exact nI_le (by omega) (by omega)) ?_
    refine xX12_leastBrown_48 ?_
    refine xX12_leastBrown_49 rfl rfl ?_
    have e : j = nc := by omega
    subst e
    rw [hx1]
    exact hQ
  | succ k ih =>
    intro j x1 x2 hj hx2 hx1
    obtain ⟨hB, hP⟩ := id hC
    obtain ⟨hM, hE, hV, hlw, ht6, hL⟩ := id hB
    have hn8 := hV.2.1
    have e9 : g 53 1 = nI (nN (o 0 9)) := hE.1.2.2.1.trans hV.tN.1
    have ht40 := hV.tN.2.1
    have hcn0 : g 53 3 = nI nc := hE.1.1.trans hV.1
    refine xX12_leastBrown_4 ?_
    refine xX12_leastBrown_5 ?_
    refine xX12_leastBrown_6 (hM.1 _ _ rfl) ?_
    rw [hcn0]
    refine xX12_leastBrown_9_f (by rw [hx2]; exact nI_ge (by omega) (by omega)) ?_
    refine xX12_leastBrown_12 ?_
    refine xX12_leastBrown_13 ?_
    refine xX12_leastBrown_14 (fun c14 => ?_) (fun c14 => ?_)
    · have hm : nI j = leastI br (j + 1) := (if_pos (Or.inl (hx1.symm.trans c14))).symm
      refine xX12_leastBrown_36 ?_
      refine xX12_leastBrown_37 ?_
      refine xX12_leastBrown_41 rfl ?_
      refine xX12_leastBrown_42 rfl rfl ?_
      refine xX12_leastBrown_45 ?_
      exact ih (j + 1) _ _ (by omega) (by rw [hx2]; exact nI_1 j) (by first | exact hm | (rw [hx2]; exact hm))
    · obtain ⟨k', hk', ek⟩ : ∃ k', k' < j ∧ leastI br j = nI k' := by
        rcases leastI_in br j with ⟨-, q⟩ | q
        · exact absurd (hx1.trans q) c14
        · exact q
      have en : nN (leastI br j) = k' := by rw [ek, nN_nI (by omega)]
      refine xX12_leastBrown_17 ?_
      refine xX12_leastBrown_18 ?_
      refine xX12_leastBrown_19 (hM.1 _ _ rfl) rfl rfl rfl (s_X12_endOf hC hx2 (by omega) (hR _ (by omega)) ?_)
      refine xX12_leastBrown_22 ?_
      refine xX12_leastBrown_23 ?_
      refine xX12_leastBrown_24 ?_
      refine xX12_leastBrown_25 ?_
      refine xX12_leastBrown_27 rfl rfl rfl (s_X12_within  ?_)
      refine xX12_leastBrown_30 (hM.1 _ _ rfl) rfl rfl rfl (s_X12_endOf hC (cN := k') (by rw [hx1, ek]; exact wiM_in (by omega)) (by omega) (hR _ (by omega)) ?_)
      refine xX12_leastBrown_33 (fun c33 => ?_) (fun c33 => ?_)
      · have hm : x1 = leastI br (j + 1) := hx1.trans (if_neg (fun z => z.elim (fun y => c14 (hx1.trans y)) (fun y => by rw [en] at y; exact Int32.not_lt.mpr c33 y))).symm
        refine xX12_leastBrown_40 ?_
        refine xX12_leastBrown_41 rfl ?_
        refine xX12_leastBrown_42 rfl rfl ?_
        refine xX12_leastBrown_45 ?_
        exact ih (j + 1) _ _ (by omega) (by rw [hx2]; exact nI_1 j) (by first | exact hm | (rw [hx2]; exact hm))
      · have hm : nI j = leastI br (j + 1) := (if_pos (Or.inr (by rw [en]; exact Int32.not_le.mp c33))).symm
        refine xX12_leastBrown_36 ?_
        refine xX12_leastBrown_37 ?_
        refine xX12_leastBrown_41 rfl ?_
        refine xX12_leastBrown_42 rfl rfl ?_
        refine xX12_leastBrown_45 ?_
        exact ih (j + 1) _ _ (by omega) (by rw [hx2]; exact nI_1 j) (by first | exact hm | (rw [hx2]; exact hm))
theorem r_X12_leastBrown {d : Nat} {sc : Nat × (Nat → Int32)} {T : List (Nat × Nat)} {rf : Nat → Nat → Option Nat} {o : OV} {nc t : Nat} {cs : Nat → List Int32} {g : Nat → Nat → Int32} {F : Int32 → AH → Prop} (hC : MC T rf g o nc t cs) {br : Nat → Int32} (hR : BRn g o br nc) (hQ : F (leastI br nc) (T, rf, g)) : Mok (d + 1) 0 0 sc kX12_leastBrown [.ref 53] (T, rf, g) (Qi F) := by
  refine Mok.ofWp (L := [some (.ref 53), none, none]) rfl rfl rfl ?_
  refine xX12_leastBrown_0 ?_
  refine xX12_leastBrown_1 rfl ?_
  refine xX12_leastBrown_2 ?_
  refine xX12_leastBrown_3 rfl ?_
  exact lp_X12_leastBrown hC hR hQ nc 0 _ _ (by omega) rfl rfl
theorem s_X12_leastBrown {d : Nat} {sc : Nat × (Nat → Int32)} {T : List (Nat × Nat)} {rf : Nat → Nat → Option Nat} {o : OV} {nc t : Nat} {cs : Nat → List Int32} {g : Nat → Nat → Int32} {F : Int32 → AH → Prop} (hC : MC T rf g o nc t cs) (hR : BRm g o (evL (lwM cs)) nc) (hQ : F (leastI (endB o (evL (lwM cs))) nc) (T, rf, g)) : Mok (d + 1) 0 0 sc kX12_leastBrown [.ref 53] (T, rf, g) (Qi F) :=
  r_X12_leastBrown hC hR.n hQ
theorem r_X12_apart {d : Nat} {sc : Nat × (Nat → Int32)} {T : List (Nat × Nat)} {rf : Nat → Nat → Option Nat} {o : OV} {nc t : Nat} {cs : Nat → List Int32} {g : Nat → Nat → Int32} {F : Int32 → AH → Prop} (hC : MC T rf g o nc t cs) {br : Nat → Int32} (hR : BRn g o br nc) (hQ : F (apX br nc) (T, rf, g)) : Mok (d + 2) 0 0 sc kX12_apart [.ref 53] (T, rf, g) (Qi F) := by
  obtain ⟨hB, hP⟩ := id hC
  obtain ⟨hM, hE, hV, hlw, ht6, hL⟩ := id hB
  have hn8 := hV.2.1
  have e9 : g 53 1 = nI (nN (o 0 9)) := hE.1.2.2.1.trans hV.tN.1
  have ht40 := hV.tN.2.1
  have hcn0 : g 53 3 = nI nc := hE.1.1.trans hV.1
  refine Mok.ofWp (L := [some (.ref 53)]) rfl rfl rfl ?_
  refine xX12_apart_0 ?_
  refine xX12_apart_1 (hM.1 _ _ rfl) ?_
  rw [hcn0]
  refine xX12_apart_4 (fun c4 => ?_) (fun c4 => ?_)
  · have hz : nc ≠ 0 := fun z => c4 (by rw [z]; rfl)
    rcases mostI_in br nc with ⟨q, -⟩ | ⟨ka, hka, eka⟩
    · exact absurd q hz
    have nka : nN (mostI br nc) = ka := by rw [eka, nN_nI (by omega)]
    rcases leastI_in br nc with ⟨q, -⟩ | ⟨kb, hkb, ekb⟩
    · exact absurd q hz
    have nkb : nN (leastI br nc) = kb := by rw [ekb, nN_nI (by omega)]
    refine xX12_apart_11 ?_
    refine xX12_apart_12 ?_
    refine xX12_apart_13 (hM.1 _ _ rfl) rfl rfl rfl (r_X12_mostBrown hC hR ?_)
    refine xX12_apart_16 (hM.1 _ _ rfl) rfl rfl rfl (s_X12_endOf hC eka hka (hR _ hka) ?_)
    refine xX12_apart_19 ?_
    refine xX12_apart_20 ?_
    refine xX12_apart_21 (hM.1 _ _ rfl) rfl rfl rfl (r_X12_leastBrown hC hR ?_)
    refine xX12_apart_24 (hM.1 _ _ rfl) rfl rfl rfl (s_X12_endOf hC ekb hkb (hR _ hkb) ?_)
    refine xX12_apart_27 ?_
    refine xX12_apart_28 rfl rfl ?_
    rw [apX] at hQ
    first
      | (rw [if_pos hz] at hQ; exact hQ)
      | (rw [if_neg hz, nka, nkb] at hQ; exact hQ)
  · have hz : nc = 0 := nIinj (by omega) (by omega) c4
    refine xX12_apart_7 ?_
    refine xX12_apart_8 ?_
    refine xX12_apart_28 rfl rfl ?_
    rw [apX] at hQ
    first
      | (rw [if_pos hz] at hQ; exact hQ)
      | (rw [if_neg hz, nka, nkb] at hQ; exact hQ)
theorem s_X12_apart {d : Nat} {sc : Nat × (Nat → Int32)} {T : List (Nat × Nat)} {rf : Nat → Nat → Option Nat} {o : OV} {nc t : Nat} {cs : Nat → List Int32} {g : Nat → Nat → Int32} {F : Int32 → AH → Prop} (hC : MC T rf g o nc t cs) (hR : BRm g o (evL (lwM cs)) nc) (hQ : F (apP o (evL (lwM cs)) nc) (T, rf, g)) : Mok (d + 2) 0 0 sc kX12_apart [.ref 53] (T, rf, g) (Qi F) :=
  r_X12_apart hC hR.n hQ
theorem s_X12_badNow {d : Nat} {sc : Nat × (Nat → Int32)} {T : List (Nat × Nat)} {rf : Nat → Nat → Option Nat} {o : OV} {nc t : Nat} {cs : Nat → List Int32} {g : Nat → Nat → Int32} {F : Int32 → AH → Prop} (hC : MC T rf g o nc t cs) (hQ : ∀ g2, MZ g g2 → BRm g2 o (evL (lwM cs)) nc → F (badP o (evL (lwM cs)) nc) (T, rf, g2)) : Mok (d + 6) 0 0 sc kX12_badNow [.ref 53] (T, rf, g) (Qi F) := by
  have hM := hC.1.1
  refine Mok.ofWp (L := [some (.ref 53)]) rfl rfl rfl ?_
  refine xX12_badNow_0 ?_
  refine xX12_badNow_1 (hM.1 _ _ rfl) rfl rfl rfl (s_X12_bakes hC (fun g0 hm0 hb0 => ?_))
  refine xX12_badNow_4 ?_
  refine xX12_badNow_5 (hM.1 _ _ rfl) rfl rfl rfl (s_X12_badOfAll (hC.mz hm0) hb0 (fun g1 hy1 => ?_))
  refine xX12_badNow_8 rfl rfl ?_
  exact hQ _ ((hm0.tr hy1.mz)) (hb0.row hy1.b)
theorem s_X12_apartNow {d : Nat} {sc : Nat × (Nat → Int32)} {T : List (Nat × Nat)} {rf : Nat → Nat → Option Nat} {o : OV} {nc t : Nat} {cs : Nat → List Int32} {g : Nat → Nat → Int32} {F : Int32 → AH → Prop} (hC : MC T rf g o nc t cs) (hQ : ∀ g2, MZ g g2 → BRm g2 o (evL (lwM cs)) nc → F (apP o (evL (lwM cs)) nc) (T, rf, g2)) : Mok (d + 6) 0 0 sc kX12_apartNow [.ref 53] (T, rf, g) (Qi F) := by
  have hM := hC.1.1
  refine Mok.ofWp (L := [some (.ref 53)]) rfl rfl rfl ?_
  refine xX12_apartNow_0 ?_
  refine xX12_apartNow_1 (hM.1 _ _ rfl) rfl rfl rfl (s_X12_bakes hC (fun g0 hm0 hb0 => ?_))
  refine xX12_apartNow_4 ?_
  refine xX12_apartNow_5 (hM.1 _ _ rfl) rfl rfl rfl (s_X12_apart (hC.mz hm0) hb0 ?_)
  refine xX12_apartNow_8 rfl rfl ?_
  exact hQ _ (hm0) hb0
theorem lp_X12_exact {d : Nat} {sc : Nat × (Nat → Int32)} {T : List (Nat × Nat)} {rf : Nat → Nat → Option Nat} {o : OV} {nc t : Nat} {cs : Nat → List Int32} {g : Nat → Nat → Int32} {F : Int32 → AH → Prop} (hC : MC T rf g o nc t cs) {br : Nat → Int32} (hR : BRn g o br nc) (hb : ∀ c, c < nc → ∃ b, b ≤ 999 ∧ br c = nI b) (hQ : F (rightX o br nc) (T, rf, g)) : ∀ (k j : Nat) (x1 x2 : Int32), (j + k = nc) → (x2 = nI j) → (x1 = rightX o br j) → Wp (d + 1) 0 0 sc kX12_exact (Qi F) 4 [some (.ref 53), some (.int x1), some (.int x2)] [] (T, rf, g) 0 0 := by
  intro k
  induction k with
  | zero =>
    intro j x1 x2 hj hx2 hx1
    obtain ⟨hB, hP⟩ := id hC
    obtain ⟨hM, hE, hV, hlw, ht6, hL⟩ := id hB
    have hn8 := hV.2.1
    have e9 : g 53 1 = nI (nN (o 0 9)) := hE.1.2.2.1.trans hV.tN.1
    have ht40 := hV.tN.2.1
    have hcn0 : g 53 3 = nI nc := hE.1.1.trans hV.1
    refine xX12_exact_4 ?_
    refine xX12_exact_5 ?_
    refine xX12_exact_6 (hM.1 _ _ rfl) ?_
    rw [hcn0]
    refine xX12_exact_9_t (by rw [hx2]; exact nI_le (by omega) (by omega)) ?_
    refine xX12_exact_39 ?_
    refine xX12_exact_40 rfl rfl ?_
    have e : j = nc := by omega
    subst e
    rw [hx1]
    exact hQ
  | succ k ih =>
    intro j x1 x2 hj hx2 hx1
    obtain ⟨hB, hP⟩ := id hC
    obtain ⟨hM, hE, hV, hlw, ht6, hL⟩ := id hB
    have hn8 := hV.2.1
    have e9 : g 53 1 = nI (nN (o 0 9)) := hE.1.2.2.1.trans hV.tN.1
    have ht40 := hV.tN.2.1
    have hcn0 : g 53 3 = nI nc := hE.1.1.trans hV.1
    refine xX12_exact_4 ?_
    refine xX12_exact_5 ?_
    refine xX12_exact_6 (hM.1 _ _ rfl) ?_
    rw [hcn0]
    refine xX12_exact_9_f (by rw [hx2]; exact nI_ge (by omega) (by omega)) ?_
    refine xX12_exact_12 ?_
    refine xX12_exact_13 ?_
    refine xX12_exact_14 ?_
    refine xX12_exact_15 ?_
    refine xX12_exact_16 ?_
    obtain ⟨bN, hb9, eb⟩ := hb j (by omega)
    refine xX12_exact_17 (hM.1 _ _ rfl) rfl rfl rfl (s_X12_endOf hC hx2 (by omega) (hR _ (by omega)) ?_)
    refine xX12_exact_20 (hM.1 _ _ rfl) rfl rfl rfl (s_X12_offBy hC hx2 (by omega) eb hb9 ?_)
    refine xX12_exact_23 (fun c23 => ?_) (fun c23 => ?_)
    · have hm : x1 + 0 = rightX o br (j + 1) := by rw [hx1]; show _ = rightX o br j + (if kAway (o 2 j) (br j) (o 4 j) = 0 then 1 else 0); rw [if_neg c23]
      refine xX12_exact_30 ?_
      refine xX12_exact_31 ?_
      refine xX12_exact_32 rfl ?_
      refine xX12_exact_33 rfl rfl ?_
      refine xX12_exact_36 ?_
      exact ih (j + 1) _ _ (by omega) (by rw [hx2]; exact nI_1 j) hm
    · have hm : x1 + 1 = rightX o br (j + 1) := by rw [hx1]; show _ = rightX o br j + (if kAway (o 2 j) (br j) (o 4 j) = 0 then 1 else 0); rw [if_pos c23]
      refine xX12_exact_26 ?_
      refine xX12_exact_27 ?_
      refine xX12_exact_31 ?_
      refine xX12_exact_32 rfl ?_
      refine xX12_exact_33 rfl rfl ?_
      refine xX12_exact_36 ?_
      exact ih (j + 1) _ _ (by omega) (by rw [hx2]; exact nI_1 j) hm
theorem r_X12_exact {d : Nat} {sc : Nat × (Nat → Int32)} {T : List (Nat × Nat)} {rf : Nat → Nat → Option Nat} {o : OV} {nc t : Nat} {cs : Nat → List Int32} {g : Nat → Nat → Int32} {F : Int32 → AH → Prop} (hC : MC T rf g o nc t cs) {br : Nat → Int32} (hR : BRn g o br nc) (hb : ∀ c, c < nc → ∃ b, b ≤ 999 ∧ br c = nI b) (hQ : F (rightX o br nc) (T, rf, g)) : Mok (d + 1) 0 0 sc kX12_exact [.ref 53] (T, rf, g) (Qi F) := by
  refine Mok.ofWp (L := [some (.ref 53), none, none]) rfl rfl rfl ?_
  refine xX12_exact_0 ?_
  refine xX12_exact_1 rfl ?_
  refine xX12_exact_2 ?_
  refine xX12_exact_3 rfl ?_
  exact lp_X12_exact hC hR hb hQ nc 0 _ _ (by omega) rfl rfl
theorem s_X12_exact {d : Nat} {sc : Nat × (Nat → Int32)} {T : List (Nat × Nat)} {rf : Nat → Nat → Option Nat} {o : OV} {nc t : Nat} {cs : Nat → List Int32} {g : Nat → Nat → Int32} {F : Int32 → AH → Prop} (hC : MC T rf g o nc t cs) (hR : BRm g o (evL (lwM cs)) nc) (hQ : F (rightX o (endB o (evL (lwM cs))) nc) (T, rf, g)) : Mok (d + 1) 0 0 sc kX12_exact [.ref 53] (T, rf, g) (Qi F) :=
  r_X12_exact hC hR.n (fun c hc => brS_nat hC.1.2.2.1 hc _) hQ
theorem lp_X12_whoOn {d : Nat} {sc : Nat × (Nat → Int32)} {T : List (Nat × Nat)} {rf : Nat → Nat → Option Nat} {o : OV} {nc t : Nat} {cs : Nat → List Int32} {g : Nat → Nat → Int32} {p : Int32} {F : Int32 → AH → Prop} (hB : MB T rf g o nc t cs) (hQ : F (onP o nc p) (T, rf, g)) : ∀ (k j : Nat) (x2 : Int32), (j + k = nc) → (x2 = nI j) → (onP o nc p = scan (fun c => o 5 c = p) k j) → Wp d 0 0 sc kX12_whoOn (Qi F) 2 [some (.ref 53), some (.int p), some (.int x2)] [] (T, rf, g) 0 0 := by
  intro k
  induction k with
  | zero =>
    intro j x2 hj hx2 hs
    obtain ⟨hM, hE, hV, hlw, ht6, hL⟩ := id hB
    have hn8 : nc ≤ 8 := hV.2.1
    have hcn0 : g 53 3 = nI nc := hE.1.1.trans hV.1
    refine xX12_whoOn_2 ?_
    refine xX12_whoOn_3 ?_
    refine xX12_whoOn_4 (hM.1 _ _ rfl) ?_
    rw [hcn0]
    refine xX12_whoOn_7_t (by rw [hx2]; exact nI_le (by omega) (by omega)) ?_
    refine xX12_whoOn_28 ?_
    refine xX12_whoOn_29 rfl rfl ?_
    rw [hs] at hQ
    exact hQ
  | succ k ih =>
    intro j x2 hj hx2 hs
    obtain ⟨hM, hE, hV, hlw, ht6, hL⟩ := id hB
    have hn8 : nc ≤ 8 := hV.2.1
    have hcn0 : g 53 3 = nI nc := hE.1.1.trans hV.1
    refine xX12_whoOn_2 ?_
    refine xX12_whoOn_3 ?_
    refine xX12_whoOn_4 (hM.1 _ _ rfl) ?_
    rw [hcn0]
    refine xX12_whoOn_7_f (by rw [hx2]; exact nI_ge (by omega) (by omega)) ?_
    refine xX12_whoOn_10 ?_
    refine xX12_whoOn_11 (hM.1 _ _ rfl) (hM.2 _ _ _ rfl) ?_
    refine xX12_whoOn_14 ?_
    refine xX12_whoOn_15 (j := j) (hM.1 _ _ rfl) hx2 (by omega) rfl ?_
    refine xX12_whoOn_16 ?_
    rw [show g 58 j = o 5 j from (hE.2.2.1 j (by omega)).2.2.2]
    refine xX12_whoOn_17 (fun c17 => ?_) (fun c17 => ?_)
    · have e : scan (fun c => o 5 c = p) (k + 1) j = scan (fun c => o 5 c = p) k (j + 1) := scan_no (p := fun c => o 5 c = p) c17
      refine xX12_whoOn_22 rfl rfl ?_
      refine xX12_whoOn_25 ?_
      exact ih (j + 1) _ (by omega) (by rw [hx2]; exact nI_1 j) (hs.trans e)
    · have e : scan (fun c => o 5 c = p) (k + 1) j = nI j := scan_yes (p := fun c => o 5 c = p) c17
      refine xX12_whoOn_20 ?_
      refine xX12_whoOn_21 rfl rfl ?_
      rw [hx2, ← e, ← hs]
      exact hQ
theorem s_X12_whoOn {d : Nat} {sc : Nat × (Nat → Int32)} {T : List (Nat × Nat)} {rf : Nat → Nat → Option Nat} {o : OV} {nc t : Nat} {cs : Nat → List Int32} {g : Nat → Nat → Int32} {p : Int32} {F : Int32 → AH → Prop} (hB : MB T rf g o nc t cs) (hQ : F (onP o nc p) (T, rf, g)) : Mok d 0 0 sc kX12_whoOn [.ref 53, .int p] (T, rf, g) (Qi F) := by
  refine Mok.ofWp (L := [some (.ref 53), some (.int p), none]) rfl rfl rfl ?_
  refine xX12_whoOn_0 ?_
  refine xX12_whoOn_1 rfl ?_
  exact lp_X12_whoOn hB hQ nc 0 _ (by omega) rfl rfl
