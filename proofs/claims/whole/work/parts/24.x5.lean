theorem lp_X0_badness {d : Nat} {sc : Nat × (Nat → Int32)} {T : List (Nat × Nat)} {rf : Nat → Nat → Option Nat} {b la n nc : Nat} {lw : Nat → List Int32} {o : OV} {F : Int32 → AH → Prop} {g0 : Nat → Nat → Int32} (hB : BS T rf b la n) (hV : OVk o nc) (hQ : ∀ g2, AF la g0 g2 → F (badAll o (evL lw) (g0 26) nc) (T, rf, g2)) : ∀ (k j : Nat) (x1 x2 : Int32) (g : Nat → Nat → Int32), (j + k = nc) → (x2 = nI j) → (BG g b la n lw o) → (AF la g0 g) → (x1 = badAll o (evL lw) (g0 26) j) → Wp (d + 4) 0 0 sc kX0_badness (Qi F) 4 [some (.ref 25), some (.int x1), some (.int x2)] [] (T, rf, g) 0 0 := by
  intro k
  induction k with
  | zero =>
    intro j x1 x2 g hj hx2 hG hf hx1
    obtain ⟨hX, hbc, hrb, hrl, hL, hn, hla⟩ := id hB
    have hb17 : b ≤ 17 := hB.b
    have hO := OvT.of hX hbc
    obtain ⟨gw, r0, r1, r2, r3, r4, r5, r6, r7⟩ := id hG
    obtain ⟨v1, v2, ⟨no, v3, v31, v32, v33⟩, v4, ⟨li, v5, v51⟩, vk, vm, vw, vp, vh⟩ := id hV
    refine xX0_badness_4 ?_
    refine xX0_badness_5 ?_
    refine xX0_badness_6 (hX.1 _ _ rfl) rfl rfl rfl (s_X0_cakes hB hG hV ?_)
    refine xX0_badness_9_t (by rw [hx2]; exact nI_le (by omega) (by omega)) ?_
    refine xX0_badness_26 ?_
    refine xX0_badness_27 rfl rfl ?_
    have e : j = nc := by omega
    subst e
    rw [hx1]
    exact hQ _ hf
  | succ k ih =>
    intro j x1 x2 g hj hx2 hG hf hx1
    obtain ⟨hX, hbc, hrb, hrl, hL, hn, hla⟩ := id hB
    have hb17 : b ≤ 17 := hB.b
    have hO := OvT.of hX hbc
    obtain ⟨gw, r0, r1, r2, r3, r4, r5, r6, r7⟩ := id hG
    obtain ⟨v1, v2, ⟨no, v3, v31, v32, v33⟩, v4, ⟨li, v5, v51⟩, vk, vm, vw, vp, vh⟩ := id hV
    refine xX0_badness_4 ?_
    refine xX0_badness_5 ?_
    refine xX0_badness_6 (hX.1 _ _ rfl) rfl rfl rfl (s_X0_cakes hB hG hV ?_)
    refine xX0_badness_9_f (by rw [hx2]; exact nI_ge (by omega) (by omega)) ?_
    refine xX0_badness_12 ?_
    refine xX0_badness_13 ?_
    refine xX0_badness_14 ?_
    refine xX0_badness_15 (hX.1 _ _ rfl) rfl rfl rfl (s_X0_badnessOf hB hG hV hx2 (by omega) (fun g1 hf1 => ?_))
    refine xX0_badness_18 ?_
    refine xX0_badness_19 rfl ?_
    refine xX0_badness_20 rfl rfl ?_
    refine xX0_badness_23 ?_
    exact ih (j + 1) _ _ _ (by omega) (by rw [hx2]; exact nI_1 j) (hG.keep hb17 hla hf1.bf) (hf.tr hf1) (by rw [hx1, hf 26 (by omega) (by omega) (by omega)]; rfl)
theorem s_X0_badness {d : Nat} {sc : Nat × (Nat → Int32)} {T : List (Nat × Nat)} {rf : Nat → Nat → Option Nat} {g : Nat → Nat → Int32} {b la n nc : Nat} {lw : Nat → List Int32} {o : OV} {F : Int32 → AH → Prop} (hB : BS T rf b la n) (hG : BG g b la n lw o) (hV : OVk o nc) (hQ : ∀ g2, AF la g g2 → F (badAll o (evL lw) (g 26) nc) (T, rf, g2)) : Mok (d + 4) 0 0 sc kX0_badness [.ref 25] (T, rf, g) (Qi F) := by
  refine Mok.ofWp (L := [some (.ref 25), none, none]) rfl rfl rfl ?_
  refine xX0_badness_0 ?_
  refine xX0_badness_1 rfl ?_
  refine xX0_badness_2 ?_
  refine xX0_badness_3 rfl ?_
  exact lp_X0_badness hB hV hQ nc 0 _ _ _ (by omega) rfl hG AF.rf rfl
theorem lp_X0_right {d : Nat} {sc : Nat × (Nat → Int32)} {T : List (Nat × Nat)} {rf : Nat → Nat → Option Nat} {b la n nc : Nat} {lw : Nat → List Int32} {o : OV} {g : Nat → Nat → Int32} {F : Int32 → AH → Prop} (hB : BS T rf b la n) (hG : BG g b la n lw o) (hV : OVk o nc) (hQ : F (rightX o (g 26) nc) (T, rf, g)) : ∀ (k j : Nat) (x1 x2 : Int32), (j + k = nc) → (x2 = nI j) → (x1 = rightX o (g 26) j) → Wp (d + 3) 0 0 sc kX0_right (Qi F) 4 [some (.ref 25), some (.int x1), some (.int x2)] [] (T, rf, g) 0 0 := by
  intro k
  induction k with
  | zero =>
    intro j x1 x2 hj hx2 hx1
    obtain ⟨hX, hbc, hrb, hrl, hL, hn, hla⟩ := id hB
    have hb17 : b ≤ 17 := hB.b
    have hO := OvT.of hX hbc
    obtain ⟨gw, r0, r1, r2, r3, r4, r5, r6, r7⟩ := id hG
    obtain ⟨v1, v2, ⟨no, v3, v31, v32, v33⟩, v4, ⟨li, v5, v51⟩, vk, vm, vw, vp, vh⟩ := id hV
    refine xX0_right_4 ?_
    refine xX0_right_5 ?_
    refine xX0_right_6 (hX.1 _ _ rfl) rfl rfl rfl (s_X0_cakes hB hG hV ?_)
    refine xX0_right_9_t (by rw [hx2]; exact nI_le (by omega) (by omega)) ?_
    refine xX0_right_34 ?_
    refine xX0_right_35 rfl rfl ?_
    have e : j = nc := by omega
    subst e
    rw [hx1]
    exact hQ
  | succ k ih =>
    intro j x1 x2 hj hx2 hx1
    obtain ⟨hX, hbc, hrb, hrl, hL, hn, hla⟩ := id hB
    have hb17 : b ≤ 17 := hB.b
    have hO := OvT.of hX hbc
    obtain ⟨gw, r0, r1, r2, r3, r4, r5, r6, r7⟩ := id hG
    obtain ⟨v1, v2, ⟨no, v3, v31, v32, v33⟩, v4, ⟨li, v5, v51⟩, vk, vm, vw, vp, vh⟩ := id hV
    refine xX0_right_4 ?_
    refine xX0_right_5 ?_
    refine xX0_right_6 (hX.1 _ _ rfl) rfl rfl rfl (s_X0_cakes hB hG hV ?_)
    refine xX0_right_9_f (by rw [hx2]; exact nI_ge (by omega) (by omega)) ?_
    refine xX0_right_12 ?_
    refine xX0_right_13 ?_
    refine xX0_right_14 ?_
    refine xX0_right_15 (hX.1 _ _ rfl) rfl rfl rfl (s_X0_away hB hG hV hx2 (by omega) ?_)
    refine xX0_right_18 (fun c18 => ?_) (fun c18 => ?_)
    · have e : rightX o (g 26) (j + 1) = rightX o (g 26) j + 0 := congrArg (rightX o (g 26) j + ·) (if_neg c18)
      refine xX0_right_25 ?_
      refine xX0_right_26 ?_
      refine xX0_right_27 rfl ?_
      refine xX0_right_28 rfl rfl ?_
      refine xX0_right_31 ?_
      exact ih (j + 1) _ _ (by omega) (by rw [hx2]; exact nI_1 j) (by rw [hx1, e])
    · have e : rightX o (g 26) (j + 1) = rightX o (g 26) j + 1 := congrArg (rightX o (g 26) j + ·) (if_pos c18)
      refine xX0_right_21 ?_
      refine xX0_right_22 ?_
      refine xX0_right_26 ?_
      refine xX0_right_27 rfl ?_
      refine xX0_right_28 rfl rfl ?_
      refine xX0_right_31 ?_
      exact ih (j + 1) _ _ (by omega) (by rw [hx2]; exact nI_1 j) (by rw [hx1, e])
theorem s_X0_right {d : Nat} {sc : Nat × (Nat → Int32)} {T : List (Nat × Nat)} {rf : Nat → Nat → Option Nat} {g : Nat → Nat → Int32} {b la n nc : Nat} {lw : Nat → List Int32} {o : OV} {F : Int32 → AH → Prop} (hB : BS T rf b la n) (hG : BG g b la n lw o) (hV : OVk o nc) (hQ : F (rightX o (g 26) nc) (T, rf, g)) : Mok (d + 3) 0 0 sc kX0_right [.ref 25] (T, rf, g) (Qi F) := by
  refine Mok.ofWp (L := [some (.ref 25), none, none]) rfl rfl rfl ?_
  refine xX0_right_0 ?_
  refine xX0_right_1 rfl ?_
  refine xX0_right_2 ?_
  refine xX0_right_3 rfl ?_
  exact lp_X0_right hB hG hV hQ nc 0 _ _ (by omega) rfl rfl
theorem lp_X0_brownest {d : Nat} {sc : Nat × (Nat → Int32)} {T : List (Nat × Nat)} {rf : Nat → Nat → Option Nat} {b la n nc : Nat} {lw : Nat → List Int32} {o : OV} {g : Nat → Nat → Int32} {F : Int32 → AH → Prop} (hB : BS T rf b la n) (hG : BG g b la n lw o) (hV : OVk o nc) (hQ : F (mostI (g 26) nc) (T, rf, g)) : ∀ (k j : Nat) (x1 x2 : Int32), (j + k = nc) → (x2 = nI j) → (x1 = mostI (g 26) j) → Wp (d + 1) 0 0 sc kX0_brownest (Qi F) 4 [some (.ref 25), some (.int x1), some (.int x2)] [] (T, rf, g) 0 0 := by
  intro k
  induction k with
  | zero =>
    intro j x1 x2 hj hx2 hx1
    obtain ⟨hX, hbc, hrb, hrl, hL, hn, hla⟩ := id hB
    have hb17 : b ≤ 17 := hB.b
    have hO := OvT.of hX hbc
    obtain ⟨gw, r0, r1, r2, r3, r4, r5, r6, r7⟩ := id hG
    obtain ⟨v1, v2, ⟨no, v3, v31, v32, v33⟩, v4, ⟨li, v5, v51⟩, vk, vm, vw, vp, vh⟩ := id hV
    refine xX0_brownest_4 ?_
    refine xX0_brownest_5 ?_
    refine xX0_brownest_6 (hX.1 _ _ rfl) rfl rfl rfl (s_X0_cakes hB hG hV ?_)
    refine xX0_brownest_9_t (by rw [hx2]; exact nI_le (by omega) (by omega)) ?_
    refine xX0_brownest_40 ?_
    refine xX0_brownest_41 rfl rfl ?_
    have e : j = nc := by omega
    subst e
    rw [hx1]
    exact hQ
  | succ k ih =>
    intro j x1 x2 hj hx2 hx1
    obtain ⟨hX, hbc, hrb, hrl, hL, hn, hla⟩ := id hB
    have hb17 : b ≤ 17 := hB.b
    have hO := OvT.of hX hbc
    obtain ⟨gw, r0, r1, r2, r3, r4, r5, r6, r7⟩ := id hG
    obtain ⟨v1, v2, ⟨no, v3, v31, v32, v33⟩, v4, ⟨li, v5, v51⟩, vk, vm, vw, vp, vh⟩ := id hV
    refine xX0_brownest_4 ?_
    refine xX0_brownest_5 ?_
    refine xX0_brownest_6 (hX.1 _ _ rfl) rfl rfl rfl (s_X0_cakes hB hG hV ?_)
    refine xX0_brownest_9_f (by rw [hx2]; exact nI_ge (by omega) (by omega)) ?_
    refine xX0_brownest_12 ?_
    refine xX0_brownest_13 ?_
    refine xX0_brownest_14 (fun c14 => ?_) (fun c14 => ?_)
    · have e : mostI (g 26) (j + 1) = nI j := if_pos (Or.inl (hx1.symm.trans c14))
      refine xX0_brownest_32 ?_
      refine xX0_brownest_33 rfl ?_
      refine xX0_brownest_34 rfl rfl ?_
      refine xX0_brownest_37 ?_
      first | exact ih (j + 1) _ _ (by omega) (by rw [hx2]; exact nI_1 j) (hx2.trans e.symm) | exact ih (j + 1) _ _ (by omega) (by rw [hx2]; exact nI_1 j) (hx1.trans e.symm)
    · obtain ⟨i, hi, q⟩ : ∃ i, i < j ∧ mostI (g 26) j = nI i := by
        rcases mostI_in (g 26) j with ⟨-, q⟩ | q
        · exact absurd (hx1.trans q) c14
        · exact q
      refine xX0_brownest_17 ?_
      refine xX0_brownest_18 (hX.1 _ _ rfl) (hX.2 _ _ _ rfl) ?_
      refine xX0_brownest_21 ?_
      refine xX0_brownest_22 (j := j) (hX.1 _ _ rfl) hx2 (by omega) rfl ?_
      refine xX0_brownest_23 ?_
      refine xX0_brownest_24 (hX.1 _ _ rfl) (hX.2 _ _ _ rfl) ?_
      refine xX0_brownest_27 ?_
      refine xX0_brownest_28 (j := i) (hX.1 _ _ rfl) (hx1.trans q) (by omega) rfl ?_
      refine xX0_brownest_29 (fun c29 => ?_) (fun c29 => ?_)
      · have e : mostI (g 26) (j + 1) = mostI (g 26) j := if_neg (fun z => z.elim (fun z => c14 (hx1.trans z)) (fun z => absurd (by rw [q, nN_nI (by omega)] at z; exact z) (Int32.not_lt.mpr c29)))
        refine xX0_brownest_34 rfl rfl ?_
        refine xX0_brownest_37 ?_
        first | exact ih (j + 1) _ _ (by omega) (by rw [hx2]; exact nI_1 j) (hx2.trans e.symm) | exact ih (j + 1) _ _ (by omega) (by rw [hx2]; exact nI_1 j) (hx1.trans e.symm)
      · have e : mostI (g 26) (j + 1) = nI j := if_pos (Or.inr (by rw [q, nN_nI (by omega)]; exact Int32.not_le.mp c29))
        refine xX0_brownest_32 ?_
        refine xX0_brownest_33 rfl ?_
        refine xX0_brownest_34 rfl rfl ?_
        refine xX0_brownest_37 ?_
        first | exact ih (j + 1) _ _ (by omega) (by rw [hx2]; exact nI_1 j) (hx2.trans e.symm) | exact ih (j + 1) _ _ (by omega) (by rw [hx2]; exact nI_1 j) (hx1.trans e.symm)
theorem s_X0_brownest {d : Nat} {sc : Nat × (Nat → Int32)} {T : List (Nat × Nat)} {rf : Nat → Nat → Option Nat} {g : Nat → Nat → Int32} {b la n nc : Nat} {lw : Nat → List Int32} {o : OV} {F : Int32 → AH → Prop} (hB : BS T rf b la n) (hG : BG g b la n lw o) (hV : OVk o nc) (hQ : F (mostI (g 26) nc) (T, rf, g)) : Mok (d + 1) 0 0 sc kX0_brownest [.ref 25] (T, rf, g) (Qi F) := by
  refine Mok.ofWp (L := [some (.ref 25), none, none]) rfl rfl rfl ?_
  refine xX0_brownest_0 ?_
  refine xX0_brownest_1 rfl ?_
  refine xX0_brownest_2 ?_
  refine xX0_brownest_3 rfl ?_
  exact lp_X0_brownest hB hG hV hQ nc 0 _ _ (by omega) rfl rfl
theorem lp_X0_palest {d : Nat} {sc : Nat × (Nat → Int32)} {T : List (Nat × Nat)} {rf : Nat → Nat → Option Nat} {b la n nc : Nat} {lw : Nat → List Int32} {o : OV} {g : Nat → Nat → Int32} {F : Int32 → AH → Prop} (hB : BS T rf b la n) (hG : BG g b la n lw o) (hV : OVk o nc) (hQ : F (leastI (g 26) nc) (T, rf, g)) : ∀ (k j : Nat) (x1 x2 : Int32), (j + k = nc) → (x2 = nI j) → (x1 = leastI (g 26) j) → Wp (d + 1) 0 0 sc kX0_palest (Qi F) 4 [some (.ref 25), some (.int x1), some (.int x2)] [] (T, rf, g) 0 0 := by
  intro k
  induction k with
  | zero =>
    intro j x1 x2 hj hx2 hx1
    obtain ⟨hX, hbc, hrb, hrl, hL, hn, hla⟩ := id hB
    have hb17 : b ≤ 17 := hB.b
    have hO := OvT.of hX hbc
    obtain ⟨gw, r0, r1, r2, r3, r4, r5, r6, r7⟩ := id hG
    obtain ⟨v1, v2, ⟨no, v3, v31, v32, v33⟩, v4, ⟨li, v5, v51⟩, vk, vm, vw, vp, vh⟩ := id hV
    refine xX0_palest_4 ?_
    refine xX0_palest_5 ?_
    refine xX0_palest_6 (hX.1 _ _ rfl) rfl rfl rfl (s_X0_cakes hB hG hV ?_)
    refine xX0_palest_9_t (by rw [hx2]; exact nI_le (by omega) (by omega)) ?_
    refine xX0_palest_40 ?_
    refine xX0_palest_41 rfl rfl ?_
    have e : j = nc := by omega
    subst e
    rw [hx1]
    exact hQ
  | succ k ih =>
    intro j x1 x2 hj hx2 hx1
    obtain ⟨hX, hbc, hrb, hrl, hL, hn, hla⟩ := id hB
    have hb17 : b ≤ 17 := hB.b
    have hO := OvT.of hX hbc
    obtain ⟨gw, r0, r1, r2, r3, r4, r5, r6, r7⟩ := id hG
    obtain ⟨v1, v2, ⟨no, v3, v31, v32, v33⟩, v4, ⟨li, v5, v51⟩, vk, vm, vw, vp, vh⟩ := id hV
    refine xX0_palest_4 ?_
    refine xX0_palest_5 ?_
    refine xX0_palest_6 (hX.1 _ _ rfl) rfl rfl rfl (s_X0_cakes hB hG hV ?_)
    refine xX0_palest_9_f (by rw [hx2]; exact nI_ge (by omega) (by omega)) ?_
    refine xX0_palest_12 ?_
    refine xX0_palest_13 ?_
    refine xX0_palest_14 (fun c14 => ?_) (fun c14 => ?_)
    · have e : leastI (g 26) (j + 1) = nI j := if_pos (Or.inl (hx1.symm.trans c14))
      refine xX0_palest_32 ?_
      refine xX0_palest_33 rfl ?_
      refine xX0_palest_34 rfl rfl ?_
      refine xX0_palest_37 ?_
      first | exact ih (j + 1) _ _ (by omega) (by rw [hx2]; exact nI_1 j) (hx2.trans e.symm) | exact ih (j + 1) _ _ (by omega) (by rw [hx2]; exact nI_1 j) (hx1.trans e.symm)
    · obtain ⟨i, hi, q⟩ : ∃ i, i < j ∧ leastI (g 26) j = nI i := by
        rcases leastI_in (g 26) j with ⟨-, q⟩ | q
        · exact absurd (hx1.trans q) c14
        · exact q
      refine xX0_palest_17 ?_
      refine xX0_palest_18 (hX.1 _ _ rfl) (hX.2 _ _ _ rfl) ?_
      refine xX0_palest_21 ?_
      refine xX0_palest_22 (j := j) (hX.1 _ _ rfl) hx2 (by omega) rfl ?_
      refine xX0_palest_23 ?_
      refine xX0_palest_24 (hX.1 _ _ rfl) (hX.2 _ _ _ rfl) ?_
      refine xX0_palest_27 ?_
      refine xX0_palest_28 (j := i) (hX.1 _ _ rfl) (hx1.trans q) (by omega) rfl ?_
      refine xX0_palest_29 (fun c29 => ?_) (fun c29 => ?_)
      · have e : leastI (g 26) (j + 1) = leastI (g 26) j := if_neg (fun z => z.elim (fun z => c14 (hx1.trans z)) (fun z => absurd (by rw [q, nN_nI (by omega)] at z; exact z) (Int32.not_lt.mpr c29)))
        refine xX0_palest_34 rfl rfl ?_
        refine xX0_palest_37 ?_
        first | exact ih (j + 1) _ _ (by omega) (by rw [hx2]; exact nI_1 j) (hx2.trans e.symm) | exact ih (j + 1) _ _ (by omega) (by rw [hx2]; exact nI_1 j) (hx1.trans e.symm)
      · have e : leastI (g 26) (j + 1) = nI j := if_pos (Or.inr (by rw [q, nN_nI (by omega)]; exact Int32.not_le.mp c29))
        refine xX0_palest_32 ?_
        refine xX0_palest_33 rfl ?_
        refine xX0_palest_34 rfl rfl ?_
        refine xX0_palest_37 ?_
        first | exact ih (j + 1) _ _ (by omega) (by rw [hx2]; exact nI_1 j) (hx2.trans e.symm) | exact ih (j + 1) _ _ (by omega) (by rw [hx2]; exact nI_1 j) (hx1.trans e.symm)
theorem s_X0_palest {d : Nat} {sc : Nat × (Nat → Int32)} {T : List (Nat × Nat)} {rf : Nat → Nat → Option Nat} {g : Nat → Nat → Int32} {b la n nc : Nat} {lw : Nat → List Int32} {o : OV} {F : Int32 → AH → Prop} (hB : BS T rf b la n) (hG : BG g b la n lw o) (hV : OVk o nc) (hQ : F (leastI (g 26) nc) (T, rf, g)) : Mok (d + 1) 0 0 sc kX0_palest [.ref 25] (T, rf, g) (Qi F) := by
  refine Mok.ofWp (L := [some (.ref 25), none, none]) rfl rfl rfl ?_
  refine xX0_palest_0 ?_
  refine xX0_palest_1 rfl ?_
  refine xX0_palest_2 ?_
  refine xX0_palest_3 rfl ?_
  exact lp_X0_palest hB hG hV hQ nc 0 _ _ (by omega) rfl rfl
theorem s_X0_apart {d : Nat} {sc : Nat × (Nat → Int32)} {T : List (Nat × Nat)} {rf : Nat → Nat → Option Nat} {g : Nat → Nat → Int32} {b la n nc : Nat} {lw : Nat → List Int32} {o : OV} {F : Int32 → AH → Prop} (hB : BS T rf b la n) (hG : BG g b la n lw o) (hV : OVk o nc) (hQ : F (apX (g 26) nc) (T, rf, g)) : Mok (d + 2) 0 0 sc kX0_apart [.ref 25] (T, rf, g) (Qi F) := by
  obtain ⟨hX, hbc, hrb, hrl, hL, hn, hla⟩ := id hB
  have hb17 : b ≤ 17 := hB.b
  have hO := OvT.of hX hbc
  obtain ⟨gw, r0, r1, r2, r3, r4, r5, r6, r7⟩ := id hG
  obtain ⟨v1, v2, ⟨no, v3, v31, v32, v33⟩, v4, ⟨li, v5, v51⟩, vk, vm, vw, vp, vh⟩ := id hV
  refine Mok.ofWp (L := [some (.ref 25)]) rfl rfl rfl ?_
  refine xX0_apart_0 ?_
  refine xX0_apart_1 (hX.1 _ _ rfl) rfl rfl rfl (s_X0_cakes hB hG hV ?_)
  refine xX0_apart_4 (fun c4 => ?_) (fun c4 => ?_)
  · have hnc : nc ≠ 0 := fun z => c4 (by rw [z]; rfl)
    obtain ⟨i, hi, q⟩ : ∃ i, i < nc ∧ mostI (g 26) nc = nI i := by
      rcases mostI_in (g 26) nc with ⟨z, -⟩ | q
      · exact absurd z hnc
      · exact q
    obtain ⟨i2, hi2, q2⟩ : ∃ i, i < nc ∧ leastI (g 26) nc = nI i := by
      rcases leastI_in (g 26) nc with ⟨z, -⟩ | q
      · exact absurd z hnc
      · exact q
    have e : apX (g 26) nc = g 26 i - g 26 i2 := by rw [apX, if_neg hnc, q, q2, nN_nI (by omega), nN_nI (by omega)]
    rw [e] at hQ
    refine xX0_apart_11 ?_
    refine xX0_apart_12 (hX.1 _ _ rfl) (hX.2 _ _ _ rfl) ?_
    refine xX0_apart_15 ?_
    refine xX0_apart_16 (hX.1 _ _ rfl) rfl rfl rfl (s_X0_brownest hB hG hV ?_)
    refine xX0_apart_19 (j := i) (hX.1 _ _ rfl) q (by omega) rfl ?_
    refine xX0_apart_20 ?_
    refine xX0_apart_21 (hX.1 _ _ rfl) (hX.2 _ _ _ rfl) ?_
    refine xX0_apart_24 ?_
    refine xX0_apart_25 (hX.1 _ _ rfl) rfl rfl rfl (s_X0_palest hB hG hV ?_)
    refine xX0_apart_28 (j := i2) (hX.1 _ _ rfl) q2 (by omega) rfl ?_
    refine xX0_apart_29 ?_
    refine xX0_apart_30 rfl rfl ?_
    exact hQ
  · have hnc : nc = 0 := by
      rcases Nat.eq_zero_or_pos nc with z | z
      · exact z
      · exact absurd (show nI nc = nI 0 from c4) (fun z2 => by have := nIinj (by omega) (by omega) z2; omega)
    rw [apX, if_pos hnc] at hQ
    refine xX0_apart_7 ?_
    refine xX0_apart_8 ?_
    refine xX0_apart_30 rfl rfl ?_
    exact hQ
theorem XS.ur {T : List (Nat × Nat)} {rf : Nat → Nat → Option Nat} {a k : Nat} {v : Option Nat} (h : XS T rf) (hn : XRf a k = none) : XS T (ur rf a k v) :=
  ⟨h.1, fun a' k' b e => by
    by_cases q : a' = a ∧ k' = k
    · rw [q.1, q.2, hn] at e; cases e
    · rw [ur_ne q]; exact h.2 _ _ _ e⟩
/-- the references of the baking, set to an oven and a law -/
def RB (rf : Nat → Nat → Option Nat) (b la : Nat) : Nat → Nat → Option Nat := ur (ur rf 25 3 (some b)) 25 4 (some la)
theorem XS.rb {T : List (Nat × Nat)} {rf : Nat → Nat → Option Nat} {b la : Nat} (h : XS T rf) : XS T (RB rf b la) := (h.ur rfl).ur rfl
theorem lp_X0_start {d : Nat} {sc : Nat × (Nat → Int32)} {T : List (Nat × Nat)} {rf : Nat → Nat → Option Nat} {b la : Nat} {F : AH → Prop} {g0 : Nat → Nat → Int32} (hX : XS T rf) (hQ : ∀ g2, (∀ a, a ≠ 26 → g2 a = g0 a) → (∀ c, c < 8 → g2 26 c = 0) → F (T, rf, g2)) : ∀ (k j : Nat) (x3 : Int32) (g : Nat → Nat → Int32), (j + k = 8) → (x3 = nI j) → (∀ a, a ≠ 26 → g a = g0 a) → (∀ c, c < j → g 26 c = 0) → Wp d 0 0 sc kX0_start (Qv F) 35 [some (.ref 25), some (.ref b), some (.ref la), some (.int x3)] [] (T, rf, g) 0 0 := by
  intro k
  induction k with
  | zero =>
    intro j x3 g hj hx3 hf hz
    refine xX0_start_35 ?_
    refine xX0_start_36 ?_
    refine xX0_start_38_t (by rw [hx3]; exact nI_le (a := 8) (by omega) (by omega)) ?_
    refine xX0_start_54 rfl rfl ?_
    exact hQ _ hf (fun c hc => hz c (by omega))
  | succ k ih =>
    intro j x3 g hj hx3 hf hz
    refine xX0_start_35 ?_
    refine xX0_start_36 ?_
    refine xX0_start_38_f (by rw [hx3]; exact nI_ge (b := 8) (by omega) (by omega)) ?_
    refine xX0_start_41 ?_
    refine xX0_start_42 (hX.1 _ _ rfl) (hX.2 _ _ _ rfl) ?_
    refine xX0_start_45 ?_
    refine xX0_start_46 ?_
    refine xX0_start_47 (j := j) (hX.1 _ _ rfl) hx3 (by omega) rfl ?_
    refine xX0_start_48 rfl rfl ?_
    refine xX0_start_51 ?_
    exact ih (j + 1) _ _ (by omega) (by rw [hx3]; exact nI_1 j) (fun a h => by rw [up_row h]; exact hf a h) (fun c hc => by
      by_cases q : c = j
      · rw [q]; exact up_same _ _ _ _
      · rw [up_ne (fun z => q z.2)]; exact hz c (by omega))
theorem s_X0_start {d : Nat} {sc : Nat × (Nat → Int32)} {T : List (Nat × Nat)} {rf : Nat → Nat → Option Nat} {g : Nat → Nat → Int32} {b la : Nat} {F : AH → Prop} (hX : XS T rf) (hb : T[b]? = some (5, 0)) (hl : T[la]? = some (4, 0)) (hb17 : b ≤ 17) (hQ : ∀ g2, (∀ a, a ≠ 25 → a ≠ 26 → g2 a = g a) → g2 25 5 = 0 → g2 25 6 = g b 10 → g2 25 7 = -1 → g2 25 8 = 0 → (∀ c, c < 8 → g2 26 c = 0) → F (T, RB rf b la, g2)) : Mok d 0 0 sc kX0_start [.ref 25, .ref b, .ref la] (T, rf, g) (Qv F) := by
  refine Mok.ofWp (L := [some (.ref 25), some (.ref b), some (.ref la), none]) rfl rfl rfl ?_
  refine xX0_start_0 ?_
  refine xX0_start_1 ?_
  refine xX0_start_2 (hX.1 _ _ rfl) hb ?_
  refine xX0_start_5 ?_
  refine xX0_start_6 ?_
  refine xX0_start_7 (hX.1 _ _ rfl) hl ?_
  refine xX0_start_10 ?_
  refine xX0_start_11 ?_
  refine xX0_start_12 (hX.1 _ _ rfl) ?_
  refine xX0_start_15 ?_
  refine xX0_start_16 ?_
  refine xX0_start_17 hb ?_
  refine xX0_start_20 (hX.1 _ _ rfl) ?_
  refine xX0_start_23 ?_
  refine xX0_start_24 ?_
  refine xX0_start_25 (hX.1 _ _ rfl) ?_
  refine xX0_start_28 ?_
  refine xX0_start_29 ?_
  refine xX0_start_30 (hX.1 _ _ rfl) ?_
  refine xX0_start_33 ?_
  refine xX0_start_34 rfl ?_
  refine lp_X0_start (hX.rb (b := b) (la := la)) (fun g2 h1 h2 => ?_) 8 0 _ _ (by omega) rfl (fun _ _ => rfl) (fun c hc => absurd hc (Nat.not_lt_zero c))
  refine hQ g2 (fun a p q => by rw [h1 a q, up_row p, up_row p, up_row p, up_row p]) ?_ ?_ ?_ ?_ h2
  · rw [h1 25 (by decide), up_ne (by decide), up_ne (by decide), up_ne (by decide), up_same]
  · rw [h1 25 (by decide), up_ne (by decide), up_ne (by decide), up_same, up_row (by omega)]
  · rw [h1 25 (by decide), up_ne (by decide), up_same]
  · rw [h1 25 (by decide), up_same]
