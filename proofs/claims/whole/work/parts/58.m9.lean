theorem wiM_in5 {k : Nat} (h : k ≤ 5) : wiM (nI k) 0 5 = nI k := by
  unfold wiM
  rw [if_neg (show ¬ nI k < 0 from Int32.not_lt.mpr (nI_le (a := 0) (by omega) (by omega))), if_neg (show ¬ 5 < nI k from Int32.not_lt.mpr (nI_le (b := 5) (by omega) (by omega)))]
theorem asks_ok {o : OV} {nc : Nat} {ev : EV} {part hm br cs : Int32} (h1 : 0 ≤ part ∧ part ≤ 2) (h2 : 0 ≤ hm ∧ hm ≤ 9939) (h3 : remI hm 100 < 40) (h4 : 0 ≤ br ∧ br ≤ 999) (h5 : ¬ cs < 0) (h6 : 0 ≤ cs / 100 ∧ cs / 100 ≤ nI nc - 1) : asksP o nc ev part hm br cs = ev (nN part) (nm6 (hm / 100) (remI hm 100) br (o 3 (nN (cs / 100))) (remI cs 100) (o 0 8)) := by
  obtain ⟨q, hq, rfl⟩ := iIn (N := 9939) (M := 9939) rfl h2.1 h2.2
  rw [asksP, if_pos h1, if_pos h4, if_neg h5, if_neg (Int32.not_lt.mpr h2.1), if_neg, if_pos h3, if_pos h6]
  rw [show (100 : Int32) = nI 100 from rfl, nI_divN (by omega) (by omega)]
  exact Int32.not_lt.mpr (nI_le (b := 99) (by omega) (by omega))
theorem asks_no {o : OV} {nc : Nat} {ev : EV} {part hm br cs : Int32} (h : ¬ ((0 ≤ part ∧ part ≤ 2) ∧ (0 ≤ hm ∧ hm ≤ 9939) ∧ remI hm 100 < 40 ∧ (0 ≤ br ∧ br ≤ 999) ∧ ¬ cs < 0 ∧ (0 ≤ cs / 100 ∧ cs / 100 ≤ nI nc - 1))) : asksP o nc ev part hm br cs = -2 := by
  unfold asksP
  by_cases h1 : 0 ≤ part ∧ part ≤ 2
  · rw [if_pos h1]
    by_cases h4 : 0 ≤ br ∧ br ≤ 999
    · rw [if_pos h4]
      by_cases h5 : cs < 0
      · rw [if_pos h5]
      · rw [if_neg h5]
        by_cases a : hm < 0
        · rw [if_pos a]
        · rw [if_neg a]
          by_cases b : 99 < hm / 100
          · rw [if_pos b]
          · rw [if_neg b]
            by_cases h3 : remI hm 100 < 40
            · rw [if_pos h3]
              by_cases h6 : 0 ≤ cs / 100 ∧ cs / 100 ≤ nI nc - 1
              · refine absurd ⟨h1, ⟨Int32.not_lt.mp a, ?_⟩, h3, h4, h5, h6⟩ h
                obtain ⟨q, hq, e, -⟩ := iNat (Int32.not_lt.mp a)
                subst e
                rw [show (100 : Int32) = nI 100 from rfl, nI_divN (by omega) (by omega)] at b
                rw [show (100 : Int32) = nI 100 from rfl, remI_nat (by omega) (by omega)] at h3
                have b1 := iLe.mp (Int32.not_lt.mp b)
                rw [iT (by omega)] at b1
                have b1 : ((q / 100 : Nat) : Int) ≤ 99 := b1
                have c1 := iLt.mp h3
                rw [iT (by omega)] at c1
                have c1 : ((q % 100 : Nat) : Int) < 40 := c1
                exact nI_le (b := 9939) (by omega) (by omega)
              · rw [if_neg h6]
            · rw [if_neg h3]
    · rw [if_neg h4]
  · rw [if_neg h1]
theorem s_X12_open {d : Nat} {sc : Nat × (Nat → Int32)} {T : List (Nat × Nat)} {rf : Nat → Nat → Option Nat} {o : OV} {nc t : Nat} {cs : Nat → List Int32} {g : Nat → Nat → Int32} {m q : Int32} {F : Int32 → AH → Prop} (hC : MC T rf g o nc t cs) (hQ : ∀ g2, OEq (MOv g2) (openO o m q) nc → MV g g2 → F (openP o m q) (T, rf, g2)) : Mok (d + 1) 0 0 sc kX12_open [.ref 53, .int m, .int q] (T, rf, g) (Qi F) := by
  obtain ⟨hB, hP⟩ := id hC
  obtain ⟨hM, hE, hV, hlw, ht6, hL⟩ := id hB
  have hn8 := hV.2.1
  have e9 : g 53 1 = nI (nN (o 0 9)) := hE.1.2.2.1.trans hV.tN.1
  have ht40 := hV.tN.2.1
  have hcn0 : g 53 3 = nI nc := hE.1.1.trans hV.1
  have e8 : g 53 10 = o 0 8 := hE.1.2.1
  have n8 := hV.nI8
  have n6 := hV.no
  refine Mok.ofWp (L := [some (.ref 53), some (.int m), some (.int q)]) rfl rfl rfl ?_
  refine xX12_open_0 ?_
  refine xX12_open_1 ?_
  refine xX12_open_2 ?_
  refine xX12_open_4 rfl rfl rfl (s_X12_in  (fun hw0 => ?_) (fun nw0 => ?_))
  · refine xX12_open_7_f (by decide) ?_
    refine xX12_open_10 ?_
    refine xX12_open_11 ?_
    refine xX12_open_12 ?_
    refine xX12_open_13 rfl rfl rfl (s_X12_in  (fun hw1 => ?_) (fun nw1 => ?_))
    · refine xX12_open_16_t (by decide) ?_
      refine xX12_open_22 ?_
      refine xX12_open_23 (hM.1 _ _ rfl) ?_
      rw [e8]
      refine xX12_open_26 (fun c26 => ?_) (fun c26 => ?_)
      · have h2 : ¬ (0 < o 0 8 ∧ m ≤ o 6 (nN (o 0 8) - 1)) := fun z => Int32.not_lt.mpr c26 z.1
        refine xX12_open_52 ?_
        refine xX12_open_53 (hM.1 _ _ rfl) ?_
        refine xX12_open_56 ?_
        rw [e8]
        refine xX12_open_58 (fun c58 => ?_) (fun c58 => ?_)
        · have h6 : nN (o 0 8) < 6 := by
            rcases Nat.lt_or_ge (nN (o 0 8)) 6 with q | q
            · exact q
            · exact absurd (n8.trans (by rw [show nN (o 0 8) = 6 by omega]; rfl)) c58
          refine xX12_open_64 ?_
          refine xX12_open_65 (hM.1 _ _ rfl) (hM.2 _ _ _ rfl) ?_
          refine xX12_open_68 ?_
          refine xX12_open_69 (hM.1 _ _ rfl) ?_
          refine xX12_open_72 ?_
          refine xX12_open_73 (j := (nN (o 0 8))) (hM.1 _ _ rfl) (by rw [e8]; exact n8) h6 rfl ?_
          refine xX12_open_74 ?_
          refine xX12_open_75 (hM.1 _ _ rfl) (hM.2 _ _ _ rfl) ?_
          refine xX12_open_78 ?_
          refine xX12_open_79 (hM.1 _ _ rfl) ?_
          refine xX12_open_82 ?_
          refine xX12_open_83 (j := (nN (o 0 8))) (hM.1 _ _ rfl) (by rw [up_row (by omega), e8]; exact n8) h6 rfl ?_
          refine xX12_open_84 ?_
          refine xX12_open_85 rfl ?_
          refine xX12_open_86 (hM.1 _ _ rfl) ?_
          refine xX12_open_89 ?_
          refine xX12_open_90 ?_
          refine xX12_open_91 (hM.1 _ _ rfl) ?_
          refine xX12_open_94 ?_
          refine xX12_open_95 (hM.1 _ _ rfl) ?_
          refine xX12_open_98 rfl rfl ?_
          have e10 : up (up g 59 (nN (o 0 8)) m) 60 (nN (o 0 8)) q 53 10 = o 0 8 := by rw [up_row (by omega), up_row (by omega)]; exact e8
          rw [e10, up_same]
          have q := hQ _ (by rw [openO, if_pos hw0, if_pos hw1, if_neg h2, if_pos h6, pl, ← n8]; exact MO_f8.tr (MO_7.tr (MO_6.tr hE.up).up).up) (((MV.pu (by omega)).tr (MV.pu (by omega))).tr (MV.uf (by omega)))
          rw [openP, if_pos hw0, if_pos hw1, if_neg h2, if_pos h6] at q
          exact q
        · have h6 : ¬ nN (o 0 8) < 6 := fun q => by
            rw [c58] at q
            exact absurd q (by decide)
          refine xX12_open_61 ?_
          refine xX12_open_63 rfl rfl ?_
          have q := hQ g (by rw [openO, if_pos hw0, if_pos hw1, if_neg h2, if_neg h6]; exact hE) MV.rf
          rw [openP, if_pos hw0, if_pos hw1, if_neg h2, if_neg h6] at q
          exact q
      · have h0 : 0 < o 0 8 := Int32.not_le.mp c26
        obtain ⟨n, hn⟩ : ∃ n, nN (o 0 8) = n + 1 := by
          rcases Nat.eq_zero_or_pos (nN (o 0 8)) with q | q
          · rw [n8, q] at h0; exact absurd h0 (by decide)
          · exact ⟨nN (o 0 8) - 1, by omega⟩
        have e1 : o 0 8 - 1 = nI n := by rw [n8, hn]; exact nI_pred n
        refine xX12_open_29 ?_
        refine xX12_open_30 (hM.1 _ _ rfl) (hM.2 _ _ _ rfl) ?_
        refine xX12_open_33 ?_
        refine xX12_open_34 (hM.1 _ _ rfl) ?_
        refine xX12_open_37 ?_
        refine xX12_open_38 ?_
        refine xX12_open_39 ?_
        refine xX12_open_40 ?_
        refine xX12_open_41 rfl rfl rfl (s_X12_within  ?_)
        refine xX12_open_44 (j := n) (hM.1 _ _ rfl) (by rw [e8, e1]; exact wiM_in5 (by omega)) (by omega) rfl ?_
        refine xX12_open_45 ?_
        rw [show g 59 n = o 6 n from (hE.2.2.2 n (by omega)).1]
        refine xX12_open_46 (fun c46 => ?_) (fun c46 => ?_)
        · have h2 : ¬ (0 < o 0 8 ∧ m ≤ o 6 (nN (o 0 8) - 1)) := fun z => by
            have z2 := z.2
            rw [hn, Nat.add_sub_cancel] at z2
            exact absurd c46 (Int32.not_lt.mpr z2)
          refine xX12_open_52 ?_
          refine xX12_open_53 (hM.1 _ _ rfl) ?_
          refine xX12_open_56 ?_
          rw [e8]
          refine xX12_open_58 (fun c58 => ?_) (fun c58 => ?_)
          · have h6 : nN (o 0 8) < 6 := by
              rcases Nat.lt_or_ge (nN (o 0 8)) 6 with q | q
              · exact q
              · exact absurd (n8.trans (by rw [show nN (o 0 8) = 6 by omega]; rfl)) c58
            refine xX12_open_64 ?_
            refine xX12_open_65 (hM.1 _ _ rfl) (hM.2 _ _ _ rfl) ?_
            refine xX12_open_68 ?_
            refine xX12_open_69 (hM.1 _ _ rfl) ?_
            refine xX12_open_72 ?_
            refine xX12_open_73 (j := (nN (o 0 8))) (hM.1 _ _ rfl) (by rw [e8]; exact n8) h6 rfl ?_
            refine xX12_open_74 ?_
            refine xX12_open_75 (hM.1 _ _ rfl) (hM.2 _ _ _ rfl) ?_
            refine xX12_open_78 ?_
            refine xX12_open_79 (hM.1 _ _ rfl) ?_
            refine xX12_open_82 ?_
            refine xX12_open_83 (j := (nN (o 0 8))) (hM.1 _ _ rfl) (by rw [up_row (by omega), e8]; exact n8) h6 rfl ?_
            refine xX12_open_84 ?_
            refine xX12_open_85 rfl ?_
            refine xX12_open_86 (hM.1 _ _ rfl) ?_
            refine xX12_open_89 ?_
            refine xX12_open_90 ?_
            refine xX12_open_91 (hM.1 _ _ rfl) ?_
            refine xX12_open_94 ?_
            refine xX12_open_95 (hM.1 _ _ rfl) ?_
            refine xX12_open_98 rfl rfl ?_
            have e10 : up (up g 59 (nN (o 0 8)) m) 60 (nN (o 0 8)) q 53 10 = o 0 8 := by rw [up_row (by omega), up_row (by omega)]; exact e8
            rw [e10, up_same]
            have q := hQ _ (by rw [openO, if_pos hw0, if_pos hw1, if_neg h2, if_pos h6, pl, ← n8]; exact MO_f8.tr (MO_7.tr (MO_6.tr hE.up).up).up) (((MV.pu (by omega)).tr (MV.pu (by omega))).tr (MV.uf (by omega)))
            rw [openP, if_pos hw0, if_pos hw1, if_neg h2, if_pos h6] at q
            exact q
          · have h6 : ¬ nN (o 0 8) < 6 := fun q => by
              rw [c58] at q
              exact absurd q (by decide)
            refine xX12_open_61 ?_
            refine xX12_open_63 rfl rfl ?_
            have q := hQ g (by rw [openO, if_pos hw0, if_pos hw1, if_neg h2, if_neg h6]; exact hE) MV.rf
            rw [openP, if_pos hw0, if_pos hw1, if_neg h2, if_neg h6] at q
            exact q
        · have h1 : 0 < o 0 8 ∧ m ≤ o 6 (nN (o 0 8) - 1) := ⟨h0, by rw [hn, Nat.add_sub_cancel]; exact Int32.not_lt.mp c46⟩
          refine xX12_open_49 ?_
          refine xX12_open_51 rfl rfl ?_
          have q := hQ g (by rw [openO, if_pos hw0, if_pos hw1, if_pos h1]; exact hE) MV.rf
          rw [openP, if_pos hw0, if_pos hw1, if_pos h1] at q
          exact q
    · refine xX12_open_16_f (by decide) ?_
      refine xX12_open_19 ?_
      refine xX12_open_21 rfl rfl ?_
      have q := hQ g (by rw [openO, if_pos hw0, if_neg nw1]; exact hE) MV.rf
      rw [openP, if_pos hw0, if_neg nw1] at q
      exact q
  · refine xX12_open_7_t (by decide) ?_
    refine xX12_open_19 ?_
    refine xX12_open_21 rfl rfl ?_
    have q := hQ g (by rw [openO, if_neg nw0]; exact hE) MV.rf
    rw [openP, if_neg nw0] at q
    exact q
theorem s_X12_opening {d : Nat} {sc : Nat × (Nat → Int32)} {T : List (Nat × Nat)} {rf : Nat → Nat → Option Nat} {o : OV} {nc t : Nat} {cs : Nat → List Int32} {g : Nat → Nat → Int32} {k w : Int32} {F : Int32 → AH → Prop} (hC : MC T rf g o nc t cs) (hQ : F (openingP o k w) (T, rf, g)) : Mok (d + 1) 0 0 sc kX12_opening [.ref 53, .int k, .int w] (T, rf, g) (Qi F) := by
  obtain ⟨hB, hP⟩ := id hC
  obtain ⟨hM, hE, hV, hlw, ht6, hL⟩ := id hB
  have hn8 := hV.2.1
  have e9 : g 53 1 = nI (nN (o 0 9)) := hE.1.2.2.1.trans hV.tN.1
  have ht40 := hV.tN.2.1
  have hcn0 : g 53 3 = nI nc := hE.1.1.trans hV.1
  have e8 : g 53 10 = o 0 8 := hE.1.2.1
  have n8 := hV.nI8
  have n6 := hV.no
  refine Mok.ofWp (L := [some (.ref 53), some (.int k), some (.int w)]) rfl rfl rfl ?_
  refine xX12_opening_0 ?_
  refine xX12_opening_1 ?_
  refine xX12_opening_2 ?_
  refine xX12_opening_3 (hM.1 _ _ rfl) ?_
  refine xX12_opening_6 ?_
  rw [e8]
  refine xX12_opening_7 ?_
  refine xX12_opening_8 rfl rfl rfl (s_X12_in  (fun hw0 => ?_) (fun nw0 => ?_))
  · refine xX12_opening_11_t (by decide) ?_
    refine xX12_opening_17 ?_
    refine xX12_opening_18 (fun c18 => ?_) (fun c18 => ?_)
    · have z0 : ¬ w = 0 := c18
      refine xX12_opening_30 ?_
      refine xX12_opening_31 ?_
      refine xX12_opening_32 (fun c32 => ?_) (fun c32 => ?_)
      · have z1 : ¬ w = 1 := c32
        refine xX12_opening_44 ?_
        refine xX12_opening_46 rfl rfl ?_
        have hk6 : nN k < 6 := by have := (inK hw0 n8 (by omega)).2; omega
        rw [openingP, if_pos hw0] at hQ
        first
          | (subst z0; rw [if_pos (by decide), if_pos rfl, ← (hE.2.2.2 _ hk6).1] at hQ; exact hQ)
          | (subst z1; rw [if_pos (by decide), if_neg (by decide), ← (hE.2.2.2 _ hk6).2] at hQ; exact hQ)
          | (rw [if_neg (fun z => by
              obtain ⟨j, hj, e⟩ := iIn (N := 1) (M := 1) rfl z.1 z.2
              rcases (by omega : j = 0 ∨ j = 1) with rfl | rfl
              · exact z0 e
              · exact z1 e)] at hQ; exact hQ)
      · have z1 : w = 1 := c32
        refine xX12_opening_35 ?_
        refine xX12_opening_36 (hM.1 _ _ rfl) (hM.2 _ _ _ rfl) ?_
        refine xX12_opening_39 ?_
        refine xX12_opening_40 (j := (nN k)) (hM.1 _ _ rfl) (inK hw0 n8 (by omega)).1 (by have := (inK hw0 n8 (by omega)).2; omega) rfl ?_
        refine xX12_opening_41 ?_
        refine xX12_opening_46 rfl rfl ?_
        have hk6 : nN k < 6 := by have := (inK hw0 n8 (by omega)).2; omega
        rw [openingP, if_pos hw0] at hQ
        first
          | (subst z0; rw [if_pos (by decide), if_pos rfl, ← (hE.2.2.2 _ hk6).1] at hQ; exact hQ)
          | (subst z1; rw [if_pos (by decide), if_neg (by decide), ← (hE.2.2.2 _ hk6).2] at hQ; exact hQ)
          | (rw [if_neg (fun z => by
              obtain ⟨j, hj, e⟩ := iIn (N := 1) (M := 1) rfl z.1 z.2
              rcases (by omega : j = 0 ∨ j = 1) with rfl | rfl
              · exact z0 e
              · exact z1 e)] at hQ; exact hQ)
    · have z0 : w = 0 := c18
      refine xX12_opening_21 ?_
      refine xX12_opening_22 (hM.1 _ _ rfl) (hM.2 _ _ _ rfl) ?_
      refine xX12_opening_25 ?_
      refine xX12_opening_26 (j := (nN k)) (hM.1 _ _ rfl) (inK hw0 n8 (by omega)).1 (by have := (inK hw0 n8 (by omega)).2; omega) rfl ?_
      refine xX12_opening_27 ?_
      refine xX12_opening_46 rfl rfl ?_
      have hk6 : nN k < 6 := by have := (inK hw0 n8 (by omega)).2; omega
      rw [openingP, if_pos hw0] at hQ
      first
        | (subst z0; rw [if_pos (by decide), if_pos rfl, ← (hE.2.2.2 _ hk6).1] at hQ; exact hQ)
        | (subst z1; rw [if_pos (by decide), if_neg (by decide), ← (hE.2.2.2 _ hk6).2] at hQ; exact hQ)
        | (rw [if_neg (fun z => by
            obtain ⟨j, hj, e⟩ := iIn (N := 1) (M := 1) rfl z.1 z.2
            rcases (by omega : j = 0 ∨ j = 1) with rfl | rfl
            · exact z0 e
            · exact z1 e)] at hQ; exact hQ)
  · refine xX12_opening_11_f (by decide) ?_
    refine xX12_opening_14 ?_
    refine xX12_opening_16 rfl rfl ?_
    rw [openingP, if_neg nw0] at hQ
    exact hQ
theorem s_X12_shut {d : Nat} {sc : Nat × (Nat → Int32)} {T : List (Nat × Nat)} {rf : Nat → Nat → Option Nat} {o : OV} {nc t : Nat} {cs : Nat → List Int32} {g : Nat → Nat → Int32} {F : Int32 → AH → Prop} (hC : MC T rf g o nc t cs) (hQ : ∀ g2, OEq (MOv g2) (up o 0 8 0) nc → MV g g2 → F (o 0 8) (T, rf, g2)) : Mok d 0 0 sc kX12_shut [.ref 53] (T, rf, g) (Qi F) := by
  obtain ⟨hB, hP⟩ := id hC
  obtain ⟨hM, hE, hV, hlw, ht6, hL⟩ := id hB
  have hn8 := hV.2.1
  have e9 : g 53 1 = nI (nN (o 0 9)) := hE.1.2.2.1.trans hV.tN.1
  have ht40 := hV.tN.2.1
  have hcn0 : g 53 3 = nI nc := hE.1.1.trans hV.1
  refine Mok.ofWp (L := [some (.ref 53), none]) rfl rfl rfl ?_
  refine xX12_shut_0 ?_
  refine xX12_shut_1 (hM.1 _ _ rfl) ?_
  refine xX12_shut_4 rfl ?_
  refine xX12_shut_5 ?_
  refine xX12_shut_6 ?_
  refine xX12_shut_7 (hM.1 _ _ rfl) ?_
  refine xX12_shut_10 ?_
  refine xX12_shut_11 rfl rfl ?_
  have q := hQ _ (MO_f8.tr hE.up) (MV.uf (by omega))
  rw [← hE.1.2.1] at q
  exact q
theorem s_X12_cake {d : Nat} {sc : Nat × (Nat → Int32)} {T : List (Nat × Nat)} {rf : Nat → Nat → Option Nat} {o : OV} {nc t : Nat} {cs : Nat → List Int32} {g : Nat → Nat → Int32} {km w p : Int32} {F : Int32 → AH → Prop} (hC : MC T rf g o nc t cs) (hQ : ∀ g2 o2 n2, cakeX o nc km w p o2 n2 → OEq (MOv g2) o2 n2 → MV g g2 → F (cakeP o nc km w p) (T, rf, g2)) : Mok (d + 2) 0 0 sc kX12_cake [.ref 53, .int km, .int w, .int p] (T, rf, g) (Qi F) := by
  obtain ⟨hB, hP⟩ := id hC
  obtain ⟨hM, hE, hV, hlw, ht6, hL⟩ := id hB
  have hn8 := hV.2.1
  have e9 : g 53 1 = nI (nN (o 0 9)) := hE.1.2.2.1.trans hV.tN.1
  have ht40 := hV.tN.2.1
  have hcn0 : g 53 3 = nI nc := hE.1.1.trans hV.1
  refine Mok.ofWp (L := [some (.ref 53), some (.int km), some (.int w), some (.int p)]) rfl rfl rfl ?_
  refine xX12_cake_0 ?_
  refine xX12_cake_1 ?_
  refine xX12_cake_2 ?_
  refine xX12_cake_4 rfl rfl rfl (s_X12_in  (fun hw0 => ?_) (fun nw0 => ?_))
  · refine xX12_cake_7_f (by decide) ?_
    refine xX12_cake_10 ?_
    refine xX12_cake_11 ?_
    refine xX12_cake_12 ?_
    refine xX12_cake_15 rfl rfl rfl (s_X12_in  (fun hw1 => ?_) (fun nw1 => ?_))
    · refine xX12_cake_18_f (by decide) ?_
      refine xX12_cake_21 ?_
      refine xX12_cake_22 rfl rfl rfl (s_X12_isSpot  (fun hw2 => ?_) (fun nw2 => ?_))
      · refine xX12_cake_25_t (by decide) ?_
        refine xX12_cake_31 ?_
        refine xX12_cake_32 ?_
        refine xX12_cake_33 (hM.1 _ _ rfl) rfl rfl rfl (s_X12_whoOn hB ?_)
        refine xX12_cake_36 ?_
        refine xX12_cake_37 (fun c37 => ?_) (fun c37 => ?_)
        · refine xX12_cake_43 ?_
          refine xX12_cake_44 (hM.1 _ _ rfl) ?_
          refine xX12_cake_47 ?_
          rw [hcn0]
          refine xX12_cake_49 (fun c49 => ?_) (fun c49 => ?_)
          · have h8 : nc < 8 := by
              rcases Nat.lt_or_ge nc 8 with q | q
              · exact q
              · exact absurd (by rw [show nc = 8 by omega]; rfl) c49
            refine xX12_cake_55 ?_
            refine xX12_cake_56 (hM.1 _ _ rfl) (hM.2 _ _ _ rfl) ?_
            refine xX12_cake_59 ?_
            refine xX12_cake_60 (hM.1 _ _ rfl) ?_
            refine xX12_cake_63 ?_
            refine xX12_cake_64 ?_
            refine xX12_cake_66 (by decide) ?_
            refine xX12_cake_67 (j := nc) (hM.1 _ _ rfl) hcn0 h8 rfl ?_
            refine xX12_cake_68 ?_
            refine xX12_cake_69 (hM.1 _ _ rfl) (hM.2 _ _ _ rfl) ?_
            refine xX12_cake_72 ?_
            refine xX12_cake_73 (hM.1 _ _ rfl) ?_
            refine xX12_cake_76 ?_
            refine xX12_cake_77 ?_
            refine xX12_cake_79 (by decide) ?_
            refine xX12_cake_80 (j := nc) (hM.1 _ _ rfl) (by rw [up_row (by omega), hcn0]) h8 rfl ?_
            refine xX12_cake_81 ?_
            refine xX12_cake_82 (hM.1 _ _ rfl) (hM.2 _ _ _ rfl) ?_
            refine xX12_cake_85 ?_
            refine xX12_cake_86 (hM.1 _ _ rfl) ?_
            refine xX12_cake_89 ?_
            refine xX12_cake_90 (j := nc) (hM.1 _ _ rfl) (by rw [up_row (by omega), up_row (by omega), hcn0]) h8 rfl ?_
            refine xX12_cake_91 ?_
            refine xX12_cake_92 (hM.1 _ _ rfl) (hM.2 _ _ _ rfl) ?_
            refine xX12_cake_95 ?_
            refine xX12_cake_96 (hM.1 _ _ rfl) ?_
            refine xX12_cake_99 ?_
            refine xX12_cake_100 (j := nc) (hM.1 _ _ rfl) (by rw [up_row (by omega), up_row (by omega), up_row (by omega), hcn0]) h8 rfl ?_
            refine xX12_cake_101 ?_
            refine xX12_cake_102 rfl ?_
            refine xX12_cake_103 (hM.1 _ _ rfl) ?_
            refine xX12_cake_106 ?_
            refine xX12_cake_107 ?_
            refine xX12_cake_108 (hM.1 _ _ rfl) ?_
            refine xX12_cake_111 ?_
            refine xX12_cake_112 (hM.1 _ _ rfl) ?_
            refine xX12_cake_115 ?_
            refine xX12_cake_116 ?_
            refine xX12_cake_117 rfl rfl ?_
            have e3 : up (up (up (up g 55 nc (km / 10)) 56 nc (km - km / 10 * 10)) 57 nc w) 58 nc p 53 3 + 1 = nI (nc + 1) := by
              rw [up_row (by omega), up_row (by omega), up_row (by omega), up_row (by omega), hcn0]; exact nI_1 nc
            rw [e3, up_same, nI_pred]
            have q := hQ (up (up (up (up (up g 55 nc (km / 10)) 56 nc (km - km / 10 * 10)) 57 nc w) 58 nc p) 53 3 (nI (nc + 1))) _ _ (Or.inl ⟨⟨hw0, hw1, hw2, c37, h8⟩, rfl, rfl⟩) ((MO_f5.tr (MO_5.tr (MO_4.tr (MO_3.tr MO_2.up).up).up).up).tr (OEq_ck hE)) (((((MV.pu (by omega)).tr (MV.pu (by omega))).tr (MV.pu (by omega))).tr (MV.pu (by omega))).tr (MV.uf (by omega)))
            rw [cakeP, if_pos hw0, if_pos hw1, if_pos hw2, if_pos c37, if_pos h8] at q
            exact q
          · have h8 : ¬ nc < 8 := fun q => by
              have := nIinj (b := 8) (by omega) (by omega) c49
              omega
            refine xX12_cake_52 ?_
            refine xX12_cake_54 rfl rfl ?_
            have q := hQ g o nc (Or.inr ⟨fun z => h8 z.2.2.2.2, rfl, rfl⟩) hE MV.rf
            rw [cakeP, if_pos hw0, if_pos hw1, if_pos hw2, if_pos c37, if_neg h8] at q
            exact q
        · refine xX12_cake_40 ?_
          refine xX12_cake_42 rfl rfl ?_
          have q := hQ g o nc (Or.inr ⟨fun z => c37 z.2.2.2.1, rfl, rfl⟩) hE MV.rf
          rw [cakeP, if_pos hw0, if_pos hw1, if_pos hw2, if_neg c37] at q
          exact q
      · refine xX12_cake_25_f (by decide) ?_
        refine xX12_cake_28 ?_
        refine xX12_cake_30 rfl rfl ?_
        have q := hQ g o nc (Or.inr ⟨fun z => nw2 z.2.2.1, rfl, rfl⟩) hE MV.rf
        rw [cakeP, if_pos hw0, if_pos hw1, if_neg nw2] at q
        exact q
    · refine xX12_cake_18_t (by decide) ?_
      refine xX12_cake_28 ?_
      refine xX12_cake_30 rfl rfl ?_
      have q := hQ g o nc (Or.inr ⟨fun z => nw1 z.2.1, rfl, rfl⟩) hE MV.rf
      rw [cakeP, if_pos hw0, if_neg nw1] at q
      exact q
  · refine xX12_cake_7_t (by decide) ?_
    refine xX12_cake_28 ?_
    refine xX12_cake_30 rfl rfl ?_
    have q := hQ g o nc (Or.inr ⟨fun z => nw0 z.1, rfl, rfl⟩) hE MV.rf
    rw [cakeP, if_neg nw0] at q
    exact q
theorem s_X12_asks {d : Nat} {sc : Nat × (Nat → Int32)} {T : List (Nat × Nat)} {rf : Nat → Nat → Option Nat} {o : OV} {nc t : Nat} {cs : Nat → List Int32} {g : Nat → Nat → Int32} {part hm br cc : Int32} {F : Int32 → AH → Prop} (hC : MC T rf g o nc t cs) (hQ : ∀ g2, OEq (MOv g2) (o) nc → MV g g2 → F (asksP o nc (evL (lwM cs)) part hm br cc) (T, rf, g2)) : Mok (d + 3) 0 0 sc kX12_asks [.ref 53, .int part, .int hm, .int br, .int cc] (T, rf, g) (Qi F) := by
  obtain ⟨hB, hP⟩ := id hC
  obtain ⟨hM, hE, hV, hlw, ht6, hL⟩ := id hB
  have hn8 := hV.2.1
  have e9 : g 53 1 = nI (nN (o 0 9)) := hE.1.2.2.1.trans hV.tN.1
  have ht40 := hV.tN.2.1
  have hcn0 : g 53 3 = nI nc := hE.1.1.trans hV.1
  refine Mok.ofWp (L := [some (.ref 53), some (.int part), some (.int hm), some (.int br), some (.int cc), none]) rfl rfl rfl ?_
  refine xX12_asks_0 ?_
  refine xX12_asks_1 ?_
  refine xX12_asks_2 ?_
  refine xX12_asks_3 rfl rfl rfl (s_X12_in  (fun hw0 => ?_) (fun nw0 => ?_))
  · refine xX12_asks_6_f (by decide) ?_
    refine xX12_asks_9 ?_
    refine xX12_asks_10 ?_
    refine xX12_asks_11 ?_
    refine xX12_asks_14 rfl rfl rfl (s_X12_in  (fun hw1 => ?_) (fun nw1 => ?_))
    · refine xX12_asks_17_f (by decide) ?_
      refine xX12_asks_20 ?_
      refine xX12_asks_21 ?_
      refine xX12_asks_23 (by decide) ?_
      refine xX12_asks_24 ?_
      refine xX12_asks_26 (fun c26 => ?_) (fun c26 => ?_)
      · refine xX12_asks_61 ?_
        refine xX12_asks_62 rfl ?_
        refine xX12_asks_64 ?_
        refine xX12_asks_66_t (by decide) ?_
        refine xX12_asks_96 ?_
        refine xX12_asks_98 rfl rfl ?_
        rw [show asksP o nc (evL (lwM cs)) part hm br cc = -2 from asks_no (by first | exact fun z => absurd c26 (Int32.not_le.mpr z.2.2.1) | exact fun z => z.2.2.2.2.1 c42)] at hQ
        exact hQ _ hE MV.rf
      · refine xX12_asks_29 ?_
        refine xX12_asks_30 ?_
        refine xX12_asks_31 ?_
        refine xX12_asks_34 rfl rfl rfl (s_X12_in  (fun hw2 => ?_) (fun nw2 => ?_))
        · refine xX12_asks_37_f (by decide) ?_
          refine xX12_asks_40 ?_
          refine xX12_asks_42 (fun c42 => ?_) (fun c42 => ?_)
          · refine xX12_asks_61 ?_
            refine xX12_asks_62 rfl ?_
            refine xX12_asks_64 ?_
            refine xX12_asks_66_t (by decide) ?_
            refine xX12_asks_96 ?_
            refine xX12_asks_98 rfl rfl ?_
            rw [show asksP o nc (evL (lwM cs)) part hm br cc = -2 from asks_no (by first | exact fun z => absurd c26 (Int32.not_le.mpr z.2.2.1) | exact fun z => z.2.2.2.2.1 c42)] at hQ
            exact hQ _ hE MV.rf
          · refine xX12_asks_45 ?_
            refine xX12_asks_46 ?_
            refine xX12_asks_48 ?_
            refine xX12_asks_50 (by decide) ?_
            refine xX12_asks_51 (hM.1 _ _ rfl) rfl rfl rfl (s_X12_isCake hM hcn0 (fun hw3 => ?_) (fun nw3 => ?_))
            · obtain ⟨ecN, hcN⟩ := isC_N hw3 hn8
              refine xX12_asks_54_f (by decide) ?_
              refine xX12_asks_57 ?_
              refine xX12_asks_58 ?_
              refine xX12_asks_62 rfl ?_
              refine xX12_asks_64 ?_
              refine xX12_asks_66_f (by decide) ?_
              refine xX12_asks_69 ?_
              refine xX12_asks_70 ?_
              refine xX12_asks_71 ?_
              refine xX12_asks_72 ?_
              refine xX12_asks_74 (by decide) ?_
              refine xX12_asks_75 ?_
              refine xX12_asks_76 ?_
              refine xX12_asks_78 (by decide) ?_
              refine xX12_asks_79 ?_
              refine xX12_asks_80 ?_
              refine xX12_asks_82 ?_
              refine xX12_asks_84 (by decide) ?_
              refine xX12_asks_85 ?_
              refine xX12_asks_87 ?_
              refine xX12_asks_89 (by decide) ?_
              refine xX12_asks_90 (hM.1 _ _ rfl) rfl rfl rfl (s_X12_asksOf hB (p := nN part) (Nat.lt_succ_of_le (inN hw0).2) (inN hw0).1 ecN hcN (fun g4 hy4 => ?_))
              refine xX12_asks_93 ?_
              refine xX12_asks_98 rfl rfl ?_
              have q := hQ _ (hC.my hy4).1.2.1 hy4.mv
              rw [asks_ok hw0 hw1 (Int32.not_le.mp c26) hw2 (Int32.not_lt.mpr (Int32.not_lt.mp c42)) hw3] at q
              exact q
            · refine xX12_asks_54_t (by decide) ?_
              refine xX12_asks_61 ?_
              refine xX12_asks_62 rfl ?_
              refine xX12_asks_64 ?_
              refine xX12_asks_66_t (by decide) ?_
              refine xX12_asks_96 ?_
              refine xX12_asks_98 rfl rfl ?_
              rw [show asksP o nc (evL (lwM cs)) part hm br cc = -2 from asks_no (fun z => nw3 z.2.2.2.2.2)] at hQ
              exact hQ _ hE MV.rf
        · refine xX12_asks_37_t (by decide) ?_
          refine xX12_asks_61 ?_
          refine xX12_asks_62 rfl ?_
          refine xX12_asks_64 ?_
          refine xX12_asks_66_t (by decide) ?_
          refine xX12_asks_96 ?_
          refine xX12_asks_98 rfl rfl ?_
          rw [show asksP o nc (evL (lwM cs)) part hm br cc = -2 from asks_no (fun z => nw2 z.2.2.2.1)] at hQ
          exact hQ _ hE MV.rf
    · refine xX12_asks_17_t (by decide) ?_
      refine xX12_asks_61 ?_
      refine xX12_asks_62 rfl ?_
      refine xX12_asks_64 ?_
      refine xX12_asks_66_t (by decide) ?_
      refine xX12_asks_96 ?_
      refine xX12_asks_98 rfl rfl ?_
      rw [show asksP o nc (evL (lwM cs)) part hm br cc = -2 from asks_no (fun z => nw1 z.2.1)] at hQ
      exact hQ _ hE MV.rf
  · refine xX12_asks_6_t (by decide) ?_
    refine xX12_asks_61 ?_
    refine xX12_asks_62 rfl ?_
    refine xX12_asks_64 ?_
    refine xX12_asks_66_t (by decide) ?_
    refine xX12_asks_96 ?_
    refine xX12_asks_98 rfl rfl ?_
    rw [show asksP o nc (evL (lwM cs)) part hm br cc = -2 from asks_no (fun z => nw0 z.1)] at hQ
    exact hQ _ hE MV.rf
theorem s_X12_at {d : Nat} {sc : Nat × (Nat → Int32)} {T : List (Nat × Nat)} {rf : Nat → Nat → Option Nat} {o : OV} {nc t : Nat} {cs : Nat → List Int32} {g : Nat → Nat → Int32} {c m : Int32} {F : Int32 → AH → Prop} (hC : MC T rf g o nc t cs) (hQ : ∀ g2, OEq (MOv g2) (o) nc → MV g g2 → F (atP o nc (evL (lwM cs)) c m) (T, rf, g2)) : Mok (d + 6) 0 0 sc kX12_at [.ref 53, .int c, .int m] (T, rf, g) (Qi F) := by
  obtain ⟨hB, hP⟩ := id hC
  obtain ⟨hM, hE, hV, hlw, ht6, hL⟩ := id hB
  have hn8 := hV.2.1
  have e9 : g 53 1 = nI (nN (o 0 9)) := hE.1.2.2.1.trans hV.tN.1
  have ht40 := hV.tN.2.1
  have hcn0 : g 53 3 = nI nc := hE.1.1.trans hV.1
  refine Mok.ofWp (L := [some (.ref 53), some (.int c), some (.int m)]) rfl rfl rfl ?_
  refine xX12_at_0 ?_
  refine xX12_at_1 ?_
  refine xX12_at_2 (hM.1 _ _ rfl) rfl rfl rfl (s_X12_isCake hM hcn0 (fun hw0 => ?_) (fun nw0 => ?_))
  · obtain ⟨ecN, hcN⟩ := isC_N hw0 hn8
    refine xX12_at_5_t (by decide) ?_
    refine xX12_at_11 ?_
    refine xX12_at_12 ?_
    refine xX12_at_13 ?_
    refine xX12_at_14 (hM.1 _ _ rfl) ?_
    rw [show g 53 1 = o 0 9 from hE.1.2.2.1]
    refine xX12_at_17 rfl rfl rfl (s_X12_in  (fun hw1 => ?_) (fun nw1 => ?_))
    · refine xX12_at_20_t (by decide) ?_
      refine xX12_at_26 ?_
      refine xX12_at_27 (hM.1 _ _ rfl) rfl rfl rfl (s_X12_bakes hC (fun g2 hm2 hb2 => ?_))
      refine xX12_at_30 ?_
      refine xX12_at_31 (hM.1 _ _ rfl) (hM.2 _ _ _ rfl) ?_
      refine xX12_at_34 ?_
      refine xX12_at_36 ?_
      refine xX12_at_37 ?_
      refine xX12_at_38 ?_
      refine xX12_at_39 ?_
      refine xX12_at_40 (j := (41 * nN c + nN m)) (hM.1 _ _ rfl) (by have h1 := (inN hw1).1; have h2 : nN m ≤ nN (o 0 9) := (inN hw1).2; exact (congr (congrArg (fun x y => 41 * x + y) ecN) h1).trans (i41 (by omega) (by omega))) (by have h2 : nN m ≤ nN (o 0 9) := (inN hw1).2; omega) rfl ?_
      rw [hb2 _ hcN _ (inN hw1).2]
      refine xX12_at_41 rfl rfl ?_
      have q := hQ _ (hC.mz (hm2)).1.2.1 (hm2).mv
      rw [atP, if_pos hw0, if_pos hw1] at q
      exact q
    · refine xX12_at_20_f (by decide) ?_
      refine xX12_at_23 ?_
      refine xX12_at_25 rfl rfl ?_
      have q := hQ _ (hC.mz (MZ.rf)).1.2.1 (MZ.rf).mv
      rw [atP, if_pos hw0, if_neg nw1] at q
      exact q
  · refine xX12_at_5_f (by decide) ?_
    refine xX12_at_8 ?_
    refine xX12_at_10 rfl rfl ?_
    have q := hQ _ (hC.mz (MZ.rf)).1.2.1 (MZ.rf).mv
    rw [atP, if_neg nw0] at q
    exact q
theorem s_X12_end {d : Nat} {sc : Nat × (Nat → Int32)} {T : List (Nat × Nat)} {rf : Nat → Nat → Option Nat} {o : OV} {nc t : Nat} {cs : Nat → List Int32} {g : Nat → Nat → Int32} {w : Int32} {F : Int32 → AH → Prop} (hC : MC T rf g o nc t cs) (hQ : ∀ g2, OEq (MOv g2) (o) nc → MV g g2 → F (endP o nc (evL (lwM cs)) w) (T, rf, g2)) : Mok (d + 6) 0 0 sc kX12_end [.ref 53, .int w] (T, rf, g) (Qi F) := by
  obtain ⟨hB, hP⟩ := id hC
  obtain ⟨hM, hE, hV, hlw, ht6, hL⟩ := id hB
  have hn8 := hV.2.1
  have e9 : g 53 1 = nI (nN (o 0 9)) := hE.1.2.2.1.trans hV.tN.1
  have ht40 := hV.tN.2.1
  have hcn0 : g 53 3 = nI nc := hE.1.1.trans hV.1
  refine Mok.ofWp (L := [some (.ref 53), some (.int w)]) rfl rfl rfl ?_
  refine xX12_end_0 ?_
  refine xX12_end_1 ?_
  refine xX12_end_2 ?_
  refine xX12_end_3 rfl rfl rfl (s_X12_in  (fun hw0 => ?_) (fun nw0 => ?_))
  · refine xX12_end_6_t (by decide) ?_
    refine xX12_end_12 ?_
    refine xX12_end_13 (hM.1 _ _ rfl) rfl rfl rfl (s_X12_bakes hC (fun g1 hm1 hb1 => ?_))
    refine xX12_end_16 ?_
    refine xX12_end_17 (fun c17 => ?_) (fun c17 => ?_)
    · refine xX12_end_27 ?_
      refine xX12_end_28 ?_
      refine xX12_end_29 (fun c29 => ?_) (fun c29 => ?_)
      · refine xX12_end_39 ?_
        refine xX12_end_40 ?_
        refine xX12_end_41 (fun c41 => ?_) (fun c41 => ?_)
        · refine xX12_end_51 ?_
          refine xX12_end_52 ?_
          refine xX12_end_53 (fun c53 => ?_) (fun c53 => ?_)
          · refine xX12_end_63 ?_
            refine xX12_end_64 (hM.1 _ _ rfl) rfl rfl rfl (s_X12_exact (hC.mz hm1) hb1 ?_)
            refine xX12_end_67 rfl rfl ?_
            first
              | (have q := hQ _ (hC.mz (hm1)).1.2.1 (hm1).mv; rw [endP, if_pos hw0, if_pos c17] at q; exact q)
              | (have q := hQ _ (hC.mz (hm1)).1.2.1 (hm1).mv; rw [endP, if_pos hw0, if_neg c17, if_pos c29] at q; exact q)
              | (have q := hQ _ (hC.mz (hm1)).1.2.1 (hm1).mv; rw [endP, if_pos hw0, if_neg c17, if_neg c29, if_pos c41] at q; exact q)
              | (have q := hQ _ (hC.mz (hm1)).1.2.1 (hm1).mv; rw [endP, if_pos hw0, if_neg c17, if_neg c29, if_neg c41, if_pos c53] at q; exact q)
              | (have q := hQ _ (hC.mz (hm1)).1.2.1 (hm1).mv; rw [endP, if_pos hw0, if_neg c17, if_neg c29, if_neg c41, if_neg c53] at q; exact q)
          · refine xX12_end_56 ?_
            refine xX12_end_57 (hM.1 _ _ rfl) rfl rfl rfl (s_X12_leastBrown (hC.mz hm1) hb1 ?_)
            refine xX12_end_60 ?_
            refine xX12_end_67 rfl rfl ?_
            first
              | (have q := hQ _ (hC.mz (hm1)).1.2.1 (hm1).mv; rw [endP, if_pos hw0, if_pos c17] at q; exact q)
              | (have q := hQ _ (hC.mz (hm1)).1.2.1 (hm1).mv; rw [endP, if_pos hw0, if_neg c17, if_pos c29] at q; exact q)
              | (have q := hQ _ (hC.mz (hm1)).1.2.1 (hm1).mv; rw [endP, if_pos hw0, if_neg c17, if_neg c29, if_pos c41] at q; exact q)
              | (have q := hQ _ (hC.mz (hm1)).1.2.1 (hm1).mv; rw [endP, if_pos hw0, if_neg c17, if_neg c29, if_neg c41, if_pos c53] at q; exact q)
              | (have q := hQ _ (hC.mz (hm1)).1.2.1 (hm1).mv; rw [endP, if_pos hw0, if_neg c17, if_neg c29, if_neg c41, if_neg c53] at q; exact q)
        · refine xX12_end_44 ?_
          refine xX12_end_45 (hM.1 _ _ rfl) rfl rfl rfl (s_X12_mostBrown (hC.mz hm1) hb1 ?_)
          refine xX12_end_48 ?_
          refine xX12_end_67 rfl rfl ?_
          first
            | (have q := hQ _ (hC.mz (hm1)).1.2.1 (hm1).mv; rw [endP, if_pos hw0, if_pos c17] at q; exact q)
            | (have q := hQ _ (hC.mz (hm1)).1.2.1 (hm1).mv; rw [endP, if_pos hw0, if_neg c17, if_pos c29] at q; exact q)
            | (have q := hQ _ (hC.mz (hm1)).1.2.1 (hm1).mv; rw [endP, if_pos hw0, if_neg c17, if_neg c29, if_pos c41] at q; exact q)
            | (have q := hQ _ (hC.mz (hm1)).1.2.1 (hm1).mv; rw [endP, if_pos hw0, if_neg c17, if_neg c29, if_neg c41, if_pos c53] at q; exact q)
            | (have q := hQ _ (hC.mz (hm1)).1.2.1 (hm1).mv; rw [endP, if_pos hw0, if_neg c17, if_neg c29, if_neg c41, if_neg c53] at q; exact q)
      · refine xX12_end_32 ?_
        refine xX12_end_33 (hM.1 _ _ rfl) rfl rfl rfl (s_X12_apart (hC.mz hm1) hb1 ?_)
        refine xX12_end_36 ?_
        refine xX12_end_67 rfl rfl ?_
        first
          | (have q := hQ _ (hC.mz (hm1)).1.2.1 (hm1).mv; rw [endP, if_pos hw0, if_pos c17] at q; exact q)
          | (have q := hQ _ (hC.mz (hm1)).1.2.1 (hm1).mv; rw [endP, if_pos hw0, if_neg c17, if_pos c29] at q; exact q)
          | (have q := hQ _ (hC.mz (hm1)).1.2.1 (hm1).mv; rw [endP, if_pos hw0, if_neg c17, if_neg c29, if_pos c41] at q; exact q)
          | (have q := hQ _ (hC.mz (hm1)).1.2.1 (hm1).mv; rw [endP, if_pos hw0, if_neg c17, if_neg c29, if_neg c41, if_pos c53] at q; exact q)
          | (have q := hQ _ (hC.mz (hm1)).1.2.1 (hm1).mv; rw [endP, if_pos hw0, if_neg c17, if_neg c29, if_neg c41, if_neg c53] at q; exact q)
    · refine xX12_end_20 ?_
      refine xX12_end_21 (hM.1 _ _ rfl) rfl rfl rfl (s_X12_badOfAll (hC.mz hm1) hb1 (fun g6 hy6 => ?_))
      refine xX12_end_24 ?_
      refine xX12_end_67 rfl rfl ?_
      first
        | (have q := hQ _ (hC.mz ((hm1.tr hy6.mz))).1.2.1 ((hm1.tr hy6.mz)).mv; rw [endP, if_pos hw0, if_pos c17] at q; exact q)
        | (have q := hQ _ (hC.mz ((hm1.tr hy6.mz))).1.2.1 ((hm1.tr hy6.mz)).mv; rw [endP, if_pos hw0, if_neg c17, if_pos c29] at q; exact q)
        | (have q := hQ _ (hC.mz ((hm1.tr hy6.mz))).1.2.1 ((hm1.tr hy6.mz)).mv; rw [endP, if_pos hw0, if_neg c17, if_neg c29, if_pos c41] at q; exact q)
        | (have q := hQ _ (hC.mz ((hm1.tr hy6.mz))).1.2.1 ((hm1.tr hy6.mz)).mv; rw [endP, if_pos hw0, if_neg c17, if_neg c29, if_neg c41, if_pos c53] at q; exact q)
        | (have q := hQ _ (hC.mz ((hm1.tr hy6.mz))).1.2.1 ((hm1.tr hy6.mz)).mv; rw [endP, if_pos hw0, if_neg c17, if_neg c29, if_neg c41, if_neg c53] at q; exact q)
  · refine xX12_end_6_f (by decide) ?_
    refine xX12_end_9 ?_
    refine xX12_end_11 rfl rfl ?_
    have q := hQ _ (hC.mz (MZ.rf)).1.2.1 (MZ.rf).mv
    rw [endP, if_neg nw0] at q
    exact q
theorem s_X12_off {d : Nat} {sc : Nat × (Nat → Int32)} {T : List (Nat × Nat)} {rf : Nat → Nat → Option Nat} {o : OV} {nc t : Nat} {cs : Nat → List Int32} {g : Nat → Nat → Int32} {c w : Int32} {F : Int32 → AH → Prop} (hC : MC T rf g o nc t cs) (hQ : ∀ g2, OEq (MOv g2) (o) nc → MV g g2 → F (offP o nc (evL (lwM cs)) c w) (T, rf, g2)) : Mok (d + 6) 0 0 sc kX12_off [.ref 53, .int c, .int w] (T, rf, g) (Qi F) := by
  obtain ⟨hB, hP⟩ := id hC
  obtain ⟨hM, hE, hV, hlw, ht6, hL⟩ := id hB
  have hn8 := hV.2.1
  have e9 : g 53 1 = nI (nN (o 0 9)) := hE.1.2.2.1.trans hV.tN.1
  have ht40 := hV.tN.2.1
  have hcn0 : g 53 3 = nI nc := hE.1.1.trans hV.1
  refine Mok.ofWp (L := [some (.ref 53), some (.int c), some (.int w)]) rfl rfl rfl ?_
  refine xX12_off_0 ?_
  refine xX12_off_1 ?_
  refine xX12_off_2 (hM.1 _ _ rfl) rfl rfl rfl (s_X12_isCake hM hcn0 (fun hw0 => ?_) (fun nw0 => ?_))
  · obtain ⟨ecN, hcN⟩ := isC_N hw0 hn8
    refine xX12_off_5_t (by decide) ?_
    refine xX12_off_11 ?_
    refine xX12_off_12 ?_
    refine xX12_off_13 ?_
    refine xX12_off_14 rfl rfl rfl (s_X12_in  (fun hw1 => ?_) (fun nw1 => ?_))
    · refine xX12_off_17_t (by decide) ?_
      refine xX12_off_23 ?_
      refine xX12_off_24 (hM.1 _ _ rfl) rfl rfl rfl (s_X12_bakes hC (fun g2 hm2 hb2 => ?_))
      refine xX12_off_27 ?_
      refine xX12_off_28 (fun c28 => ?_) (fun c28 => ?_)
      · refine xX12_off_44 ?_
        refine xX12_off_45 ?_
        refine xX12_off_46 ?_
        refine xX12_off_47 ?_
        obtain ⟨bN, hb9, eb⟩ := brS_nat (lw := lwM cs) hV hcN (nN (o 0 9))
        have eb : endB o (evL (lwM cs)) (nN c) = nI bN := eb
        refine xX12_off_48 (hM.1 _ _ rfl) rfl rfl rfl (s_X12_endOf (hC.mz hm2) ecN hcN (hb2.e hcN) ?_)
        refine xX12_off_51 (hM.1 _ _ rfl) rfl rfl rfl (s_X12_badBy (hC.mz hm2) ecN hcN eb hb9 (fun g4 hy4 => ?_))
        refine xX12_off_54 rfl rfl ?_
        first
          | (have q := hQ _ (hC.mz ((hm2.tr hy4.mz))).1.2.1 ((hm2.tr hy4.mz)).mv; rw [offP, if_pos hw0, if_pos hw1, if_pos c28] at q; exact q)
          | (have q := hQ _ (hC.mz ((hm2.tr hy4.mz))).1.2.1 ((hm2.tr hy4.mz)).mv; rw [offP, if_pos hw0, if_pos hw1, if_neg c28] at q; exact q)
      · refine xX12_off_31 ?_
        refine xX12_off_32 ?_
        refine xX12_off_33 ?_
        refine xX12_off_34 ?_
        obtain ⟨bN, hb9, eb⟩ := brS_nat (lw := lwM cs) hV hcN (nN (o 0 9))
        have eb : endB o (evL (lwM cs)) (nN c) = nI bN := eb
        refine xX12_off_35 (hM.1 _ _ rfl) rfl rfl rfl (s_X12_endOf (hC.mz hm2) ecN hcN (hb2.e hcN) ?_)
        refine xX12_off_38 (hM.1 _ _ rfl) rfl rfl rfl (s_X12_offBy (hC.mz hm2) ecN hcN eb hb9 ?_)
        refine xX12_off_41 ?_
        refine xX12_off_54 rfl rfl ?_
        first
          | (have q := hQ _ (hC.mz (hm2)).1.2.1 (hm2).mv; rw [offP, if_pos hw0, if_pos hw1, if_pos c28] at q; exact q)
          | (have q := hQ _ (hC.mz (hm2)).1.2.1 (hm2).mv; rw [offP, if_pos hw0, if_pos hw1, if_neg c28] at q; exact q)
    · refine xX12_off_17_f (by decide) ?_
      refine xX12_off_20 ?_
      refine xX12_off_22 rfl rfl ?_
      have q := hQ _ (hC.mz (MZ.rf)).1.2.1 (MZ.rf).mv
      rw [offP, if_pos hw0, if_neg nw1] at q
      exact q
  · refine xX12_off_5_f (by decide) ?_
    refine xX12_off_8 ?_
    refine xX12_off_10 rfl rfl ?_
    have q := hQ _ (hC.mz (MZ.rf)).1.2.1 (MZ.rf).mv
    rw [offP, if_neg nw0] at q
    exact q
