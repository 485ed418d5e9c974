theorem i41 {c m : Nat} (hc : c < 8) (hm : m ≤ 41) : 41 * nI c + nI m = nI (41 * c + m) := by
  rw [show (41 : Int32) = nI 41 from rfl, nI_mulN (by omega) (by omega) (by omega), nI_add]
theorem i41z {c : Nat} (hc : c < 8) : 41 * nI c = nI (41 * c) := by
  rw [show (41 : Int32) = nI 41 from rfl, nI_mulN (by omega) (by omega) (by omega)]
theorem i41s {c m : Nat} (hc : c < 8) (hm : m ≤ 40) : 41 * nI c + nI m + 1 = nI (41 * c + (m + 1)) := by
  rw [i41 hc (by omega)]; exact nI_1 _
theorem row73 {g gN : Nat → Nat → Int32} {cN j : Nat} {v : Int32} {f : Nat → Int32} (hr : ∀ m, m ≤ j → g 73 (41 * cN + m) = f m) (e : gN 73 = g 73) (hv : v = f (j + 1)) : ∀ m, m ≤ j + 1 → up gN 73 (41 * cN + (j + 1)) v 73 (41 * cN + m) = f m := by
  intro m hm
  by_cases z : m = j + 1
  · subst z; rw [up_same]; exact hv
  · rw [up_ne (by omega), e]; exact hr m (by omega)
theorem oth73 {g0 g gN : Nat → Nat → Int32} {cN j : Nat} {v : Int32} (hj : j + 1 ≤ 40) (hr : ∀ k, (k < 41 * cN ∨ 41 * cN + 40 < k) → g 73 k = g0 73 k) (e : gN 73 = g 73) : ∀ k, (k < 41 * cN ∨ 41 * cN + 40 < k) → up gN 73 (41 * cN + (j + 1)) v 73 k = g0 73 k := by
  intro k hk
  rw [up_ne (by omega), e]; exact hr k hk
theorem bk_no {o : OV} {ev : EV} {c m : Nat} (h : nI m < kBegins (o 2 c) (o 3 c)) : brS o ev c m = brS o ev c (m + 1) := by
  show _ = bk1 o ev c m (opn o (m + 1)).1 (opn o (m + 1)).2.1 (brS o ev c m)
  unfold bk1
  rw [if_pos h]
theorem bk_st {o : OV} {lw : Nat → List Int32} {nc c m : Nat} {si : Int32} (hV : OVk o nc) (hc : c < nc) (h : ¬ nI m < kBegins (o 2 c) (o 3 c)) (hs : si = nI (sinceN m (opn o (m + 1)).2.1)) :
    wiM (brS o (evL lw) c m + kGains (o 2 c) (evL lw 0 (nm6 (heat1 o (evL lw) c m (opn o (m + 1)).1 (opn o (m + 1)).2.1 (brS o (evL lw) c m)) (nI m) (brS o (evL lw) c m) (o 3 c) si (o 0 8))) (brS o (evL lw) c m) (o 3 c)) 0 999 = brS o (evL lw) c (m + 1) := by
  show _ = bk1 o (evL lw) c m (opn o (m + 1)).1 (opn o (m + 1)).2.1 (brS o (evL lw) c m)
  unfold bk1
  rw [if_neg h, hs]
  obtain ⟨b, hb, eb⟩ := brS_nat (lw := lw) hV hc m
  have hk := hV.kiN hc
  have hm := hV.moN hc
  obtain ⟨s, h1, e1⟩ := evL_nat lw 0 (nm6 (heat1 o (evL lw) c m (opn o (m + 1)).1 (opn o (m + 1)).2.1 (brS o (evL lw) c m)) (nI m) (brS o (evL lw) c m) (o 3 c) (nI (sinceN m (opn o (m + 1)).2.1)) (o 0 8))
  rw [e1, eb, hk.1, hm.1]
  obtain ⟨q, h2, e2⟩ := kGains_nat (b := b) hk.2 h1 hb hm.2
  rw [e2]
  exact bkM hb h2
theorem sinceM {o : OV} {m a : Nat} (h : (opn o (m + 1)).2.1 = some a) (hm : m < 1000) : nI m - lastI (some a) = nI (m - a) := by
  have ha := opn_last o (m + 1) a h
  apply Int32.toInt_inj.mp
  show (nI m - nI a).toInt = _
  rw [iSub (by rw [iT (by omega), iT (by omega)]; omega) (by rw [iT (by omega), iT (by omega)]; omega), iT (by omega), iT (by omega), iT (by omega)]
  omega
/-- how brown the first n are, in the reference's row -/
def BRm (g : Nat → Nat → Int32) (o : OV) (ev : EV) (n : Nat) : Prop := ∀ c, c < n → ∀ m, m ≤ nN (o 0 9) → g 73 (41 * c + m) = brS o ev c m
theorem BRm.row {g g' : Nat → Nat → Int32} {o : OV} {ev : EV} {n : Nat} (h : BRm g o ev n) (e : g' 73 = g 73) : BRm g' o ev n := fun c hc m hm => by rw [e]; exact h c hc m hm
theorem MC.my {T : List (Nat × Nat)} {rf : Nat → Nat → Option Nat} {g g' : Nat → Nat → Int32} {o : OV} {nc t : Nat} {cs : Nat → List Int32} (h : MC T rf g o nc t cs) (hf : MY g g') : MC T rf g' o nc t cs := h.mz hf.mz
theorem MY.b {g g' : Nat → Nat → Int32} (h : MY g g') : g' 73 = g 73 := h 73 (by omega) (by omega)
theorem lp_X12_bakesOne {d : Nat} {sc : Nat × (Nat → Int32)} {T : List (Nat × Nat)} {rf : Nat → Nat → Option Nat} {o : OV} {nc t : Nat} {cs : Nat → List Int32} {cN : Nat} {c : Int32} {F : AH → Prop} {g0 : Nat → Nat → Int32} (hc : c = nI cN) (hcn : cN < nc) (hQ : ∀ g2, MZ g0 g2 → (∀ m, m ≤ nN (o 0 9) → g2 73 (41 * cN + m) = brS o (evL (lwM cs)) cN m) → (∀ k, (k < 41 * cN ∨ 41 * cN + 40 < k) → g2 73 k = g0 73 k) → F (T, rf, g2)) : ∀ (k j : Nat) (x2 x3 : Int32) (g : Nat → Nat → Int32), (j + k = nN (o 0 9)) → (x3 = nI j) → (x2 = brS o (evL (lwM cs)) cN j) → (MC T rf g o nc t cs) → (MZ g0 g) → (∀ m, m ≤ j → g 73 (41 * cN + m) = brS o (evL (lwM cs)) cN m) → (∀ k, (k < 41 * cN ∨ 41 * cN + 40 < k) → g 73 k = g0 73 k) → Wp (d + 4) 0 0 sc kX12_bakesOne (Qv F) 14 [some (.ref 53), some (.int c), some (.int x2), some (.int x3), none, none, none] [] (T, rf, g) 0 0 := by
  intro k
  induction k with
  | zero =>
    intro j x2 x3 g hj hx3 hx2 hC hf hrow hoth
    obtain ⟨hB, hP⟩ := id hC
    obtain ⟨hM, hE, hV, hlw, ht6, hL⟩ := id hB
    have hn8 := hV.2.1
    have e9 : g 53 1 = nI (nN (o 0 9)) := hE.1.2.2.1.trans hV.tN.1
    have ht40 := hV.tN.2.1
    have hcn0 : g 53 3 = nI nc := hE.1.1.trans hV.1
    have hc8 : cN < 8 := by omega
    refine xX12_bakesOne_14 ?_
    refine xX12_bakesOne_15 ?_
    refine xX12_bakesOne_16 (hM.1 _ _ rfl) ?_
    rw [e9]
    refine xX12_bakesOne_19_t (by rw [hx3]; exact nI_le (by omega) (by omega)) ?_
    refine xX12_bakesOne_113 rfl rfl ?_
    have e : j = nN (o 0 9) := by omega
    subst e
    exact hQ _ hf hrow hoth
  | succ k ih =>
    intro j x2 x3 g hj hx3 hx2 hC hf hrow hoth
    obtain ⟨hB, hP⟩ := id hC
    obtain ⟨hM, hE, hV, hlw, ht6, hL⟩ := id hB
    have hn8 := hV.2.1
    have e9 : g 53 1 = nI (nN (o 0 9)) := hE.1.2.2.1.trans hV.tN.1
    have ht40 := hV.tN.2.1
    have hcn0 : g 53 3 = nI nc := hE.1.1.trans hV.1
    have hc8 : cN < 8 := by omega
    refine xX12_bakesOne_14 ?_
    refine xX12_bakesOne_15 ?_
    refine xX12_bakesOne_16 (hM.1 _ _ rfl) ?_
    rw [e9]
    refine xX12_bakesOne_19_f (by rw [hx3]; exact nI_ge (by omega) (by omega)) ?_
    refine xX12_bakesOne_22 ?_
    refine xX12_bakesOne_23 ?_
    refine xX12_bakesOne_24 (hM.1 _ _ rfl) rfl rfl rfl (s_X12_lastBy hC.1 hC.2 hx3 (by omega) ?_)
    refine xX12_bakesOne_27 rfl ?_
    refine xX12_bakesOne_29 ?_
    refine xX12_bakesOne_30 ?_
    refine xX12_bakesOne_31 ?_
    refine xX12_bakesOne_32 ?_
    refine xX12_bakesOne_34 ?_
    refine xX12_bakesOne_35 (hM.1 _ _ rfl) rfl rfl rfl (s_X12_heatFor hC hc hcn hx3 (by omega) rfl (fun g1 hy1 => ?_))
    refine xX12_bakesOne_38 rfl ?_
    refine xX12_bakesOne_40 ?_
    refine xX12_bakesOne_41 ?_
    refine xX12_bakesOne_42 ?_
    refine xX12_bakesOne_43 (hM.1 _ _ rfl) rfl rfl rfl (s_X12_beginsAt (hC.my hy1).1 hc hcn ?_)
    have hx3b := hx3
    subst hx3
    refine xX12_bakesOne_46 (fun c46 => ?_) (fun c46 => ?_)
    · refine xX12_bakesOne_93 ?_
      refine xX12_bakesOne_94 (hM.1 _ _ rfl) (hM.2 _ _ _ rfl) ?_
      refine xX12_bakesOne_97 ?_
      refine xX12_bakesOne_99 ?_
      refine xX12_bakesOne_100 ?_
      refine xX12_bakesOne_101 ?_
      refine xX12_bakesOne_102 ?_
      refine xX12_bakesOne_103 ?_
      refine xX12_bakesOne_104 ?_
      refine xX12_bakesOne_105 ?_
      refine xX12_bakesOne_106 (j := (41 * cN + (j + 1))) (hM.1 _ _ rfl) (by rw [hc]; exact i41s hc8 (by omega)) (by omega) rfl ?_
      refine xX12_bakesOne_107 rfl rfl ?_
      refine xX12_bakesOne_110 ?_
      refine wp_kill_4 ?_
      refine wp_kill_5 ?_
      subst hx2
      have hv : _ = brS o (evL (lwM cs)) cN (j + 1) := bk_no c46
      have e73 : g1 73 = g 73 := (hy1).b
      have hz : ∀ v, MZ g (up g1 73 (41 * cN + (j + 1)) v) := fun v a p q r => (up_row r).trans ((hy1) a p q)
      exact ih (j + 1) _ _ _ (by omega) (nI_1 j) hv (hC.mz (hz _)) (hf.tr (hz _)) (row73 hrow e73 hv) (oth73 (by omega) hoth e73)
    · refine xX12_bakesOne_49 ?_
      refine xX12_bakesOne_50 ?_
      refine xX12_bakesOne_51 ?_
      refine xX12_bakesOne_53 ?_
      refine xX12_bakesOne_54 ?_
      refine xX12_bakesOne_55 ?_
      refine xX12_bakesOne_56 ?_
      refine xX12_bakesOne_58 ?_
      refine xX12_bakesOne_59 (fun c59 => ?_) (fun c59 => ?_)
      · have hsi : nI j - lastI (opn o (j + 1)).2.1 = nI (sinceN j (opn o (j + 1)).2.1) := by
          cases hq : (opn o (j + 1)).2.1 with
          | none => rw [hq] at c59; exact absurd rfl c59
          | some a => exact sinceM hq (by omega)
        refine xX12_bakesOne_66 ?_
        refine xX12_bakesOne_67 ?_
        refine xX12_bakesOne_69 ?_
        refine xX12_bakesOne_70 (hM.1 _ _ rfl) rfl rfl rfl (s_X12_asksOf (hC.my hy1).1 (p := 0) (by omega) rfl hc hcn (fun g3 hy3 => ?_))
        refine xX12_bakesOne_73 rfl ?_
        refine xX12_bakesOne_75 ?_
        refine xX12_bakesOne_76 ?_
        refine xX12_bakesOne_77 ?_
        refine xX12_bakesOne_78 ?_
        refine xX12_bakesOne_80 ?_
        refine xX12_bakesOne_81 (hM.1 _ _ rfl) rfl rfl rfl (s_X12_browner (hC.my (hy1.tr hy3)).1 hc hcn ?_)
        refine xX12_bakesOne_84 ?_
        refine xX12_bakesOne_85 ?_
        refine xX12_bakesOne_86 ?_
        refine xX12_bakesOne_89 rfl rfl rfl (s_X12_within  ?_)
        refine xX12_bakesOne_92 rfl ?_
        refine xX12_bakesOne_93 ?_
        refine xX12_bakesOne_94 (hM.1 _ _ rfl) (hM.2 _ _ _ rfl) ?_
        refine xX12_bakesOne_97 ?_
        refine xX12_bakesOne_99 ?_
        refine xX12_bakesOne_100 ?_
        refine xX12_bakesOne_101 ?_
        refine xX12_bakesOne_102 ?_
        refine xX12_bakesOne_103 ?_
        refine xX12_bakesOne_104 ?_
        refine xX12_bakesOne_105 ?_
        refine xX12_bakesOne_106 (j := (41 * cN + (j + 1))) (hM.1 _ _ rfl) (by rw [hc]; exact i41s hc8 (by omega)) (by omega) rfl ?_
        refine xX12_bakesOne_107 rfl rfl ?_
        refine xX12_bakesOne_110 ?_
        refine wp_kill_4 ?_
        refine wp_kill_5 ?_
        refine wp_kill_6 ?_
        subst hx2
        have hv : _ = brS o (evL (lwM cs)) cN (j + 1) := bk_st hV hcn c46 hsi
        have e73 : g3 73 = g 73 := ((hy1.tr hy3)).b
        have hz : ∀ v, MZ g (up g3 73 (41 * cN + (j + 1)) v) := fun v a p q r => (up_row r).trans (((hy1.tr hy3)) a p q)
        exact ih (j + 1) _ _ _ (by omega) (nI_1 j) hv (hC.mz (hz _)) (hf.tr (hz _)) (row73 hrow e73 hv) (oth73 (by omega) hoth e73)
      · have hsi : nI j = nI (sinceN j (opn o (j + 1)).2.1) := by
          cases hq : (opn o (j + 1)).2.1 with
          | none => rfl
          | some a => exact absurd (by rw [hq] at c59; exact c59) (nIm1 (a := a) (by have := opn_last o (j + 1) a hq; omega))
        refine xX12_bakesOne_62 ?_
        refine xX12_bakesOne_63 ?_
        refine xX12_bakesOne_70 (hM.1 _ _ rfl) rfl rfl rfl (s_X12_asksOf (hC.my hy1).1 (p := 0) (by omega) rfl hc hcn (fun g6 hy6 => ?_))
        refine xX12_bakesOne_73 rfl ?_
        refine xX12_bakesOne_75 ?_
        refine xX12_bakesOne_76 ?_
        refine xX12_bakesOne_77 ?_
        refine xX12_bakesOne_78 ?_
        refine xX12_bakesOne_80 ?_
        refine xX12_bakesOne_81 (hM.1 _ _ rfl) rfl rfl rfl (s_X12_browner (hC.my (hy1.tr hy6)).1 hc hcn ?_)
        refine xX12_bakesOne_84 ?_
        refine xX12_bakesOne_85 ?_
        refine xX12_bakesOne_86 ?_
        refine xX12_bakesOne_89 rfl rfl rfl (s_X12_within  ?_)
        refine xX12_bakesOne_92 rfl ?_
        refine xX12_bakesOne_93 ?_
        refine xX12_bakesOne_94 (hM.1 _ _ rfl) (hM.2 _ _ _ rfl) ?_
        refine xX12_bakesOne_97 ?_
        refine xX12_bakesOne_99 ?_
        refine xX12_bakesOne_100 ?_
        refine xX12_bakesOne_101 ?_
        refine xX12_bakesOne_102 ?_
        refine xX12_bakesOne_103 ?_
        refine xX12_bakesOne_104 ?_
        refine xX12_bakesOne_105 ?_
        refine xX12_bakesOne_106 (j := (41 * cN + (j + 1))) (hM.1 _ _ rfl) (by rw [hc]; exact i41s hc8 (by omega)) (by omega) rfl ?_
        refine xX12_bakesOne_107 rfl rfl ?_
        refine xX12_bakesOne_110 ?_
        refine wp_kill_4 ?_
        refine wp_kill_5 ?_
        refine wp_kill_6 ?_
        subst hx2
        have hv : _ = brS o (evL (lwM cs)) cN (j + 1) := bk_st hV hcn c46 hsi
        have e73 : g6 73 = g 73 := ((hy1.tr hy6)).b
        have hz : ∀ v, MZ g (up g6 73 (41 * cN + (j + 1)) v) := fun v a p q r => (up_row r).trans (((hy1.tr hy6)) a p q)
        exact ih (j + 1) _ _ _ (by omega) (nI_1 j) hv (hC.mz (hz _)) (hf.tr (hz _)) (row73 hrow e73 hv) (oth73 (by omega) hoth e73)
theorem s_X12_bakesOne {d : Nat} {sc : Nat × (Nat → Int32)} {T : List (Nat × Nat)} {rf : Nat → Nat → Option Nat} {o : OV} {nc t : Nat} {cs : Nat → List Int32} {g : Nat → Nat → Int32} {cN : Nat} {c : Int32} {F : AH → Prop} (hC : MC T rf g o nc t cs) (hc : c = nI cN) (hcn : cN < nc) (hQ : ∀ g2, MZ g g2 → (∀ m, m ≤ nN (o 0 9) → g2 73 (41 * cN + m) = brS o (evL (lwM cs)) cN m) → (∀ k, (k < 41 * cN ∨ 41 * cN + 40 < k) → g2 73 k = g 73 k) → F (T, rf, g2)) : Mok (d + 4) 0 0 sc kX12_bakesOne [.ref 53, .int c] (T, rf, g) (Qv F) := by
  obtain ⟨hB, hP⟩ := id hC
  obtain ⟨hM, hE, hV, hlw, ht6, hL⟩ := id hB
  have hn8 := hV.2.1
  have e9 : g 53 1 = nI (nN (o 0 9)) := hE.1.2.2.1.trans hV.tN.1
  have ht40 := hV.tN.2.1
  have hcn0 : g 53 3 = nI nc := hE.1.1.trans hV.1
  have hc8 : cN < 8 := by omega
  refine Mok.ofWp (L := [some (.ref 53), some (.int c), none, none, none, none, none]) rfl rfl rfl ?_
  refine xX12_bakesOne_0 ?_
  refine xX12_bakesOne_1 rfl ?_
  refine xX12_bakesOne_2 ?_
  refine xX12_bakesOne_3 (hM.1 _ _ rfl) (hM.2 _ _ _ rfl) ?_
  refine xX12_bakesOne_6 ?_
  refine xX12_bakesOne_8 ?_
  refine xX12_bakesOne_9 ?_
  refine xX12_bakesOne_10 ?_
  refine xX12_bakesOne_11 (j := (41 * cN)) (hM.1 _ _ rfl) (by rw [hc]; exact i41z hc8) (by omega) rfl ?_
  refine xX12_bakesOne_12 ?_
  refine xX12_bakesOne_13 rfl ?_
  have hz : MZ g (up g 73 (41 * cN) 0) := fun a _ _ r => up_row r
  exact lp_X12_bakesOne hc hcn (fun g2 h1 h2 h3 => hQ g2 (hz.tr h1) h2 (fun k hk => (h3 k hk).trans (up_ne (by omega)))) (nN (o 0 9)) 0 _ _ _ (by omega) rfl rfl (hC.mz hz) MZ.rf (fun m hm => by rw [show m = 0 by omega, Nat.add_zero, up_same]; rfl) (fun _ _ => rfl)
theorem lp_X12_bakes {d : Nat} {sc : Nat × (Nat → Int32)} {T : List (Nat × Nat)} {rf : Nat → Nat → Option Nat} {o : OV} {nc t : Nat} {cs : Nat → List Int32} {F : AH → Prop} {g0 : Nat → Nat → Int32} (hQ : ∀ g2, MZ g0 g2 → BRm g2 o (evL (lwM cs)) nc → F (T, rf, g2)) : ∀ (k j : Nat) (x1 : Int32) (g : Nat → Nat → Int32), (j + k = nc) → (x1 = nI j) → (MC T rf g o nc t cs) → (MZ g0 g) → (BRm g o (evL (lwM cs)) j) → Wp (d + 5) 0 0 sc kX12_bakes (Qv F) 2 [some (.ref 53), some (.int x1)] [] (T, rf, g) 0 0 := by
  intro k
  induction k with
  | zero =>
    intro j x1 g hj hx1 hC hf hR
    obtain ⟨hB, hP⟩ := id hC
    obtain ⟨hM, hE, hV, hlw, ht6, hL⟩ := id hB
    have hn8 := hV.2.1
    have e9 : g 53 1 = nI (nN (o 0 9)) := hE.1.2.2.1.trans hV.tN.1
    have ht40 := hV.tN.2.1
    have hcn0 : g 53 3 = nI nc := hE.1.1.trans hV.1
    refine xX12_bakes_2 ?_
    refine xX12_bakes_3 ?_
    refine xX12_bakes_4 (hM.1 _ _ rfl) ?_
    rw [hcn0]
    refine xX12_bakes_7_t (by rw [hx1]; exact nI_le (by omega) (by omega)) ?_
    refine xX12_bakes_21 rfl rfl ?_
    have e : j = nc := by omega
    subst e
    exact hQ _ hf hR
  | succ k ih =>
    intro j x1 g hj hx1 hC hf hR
    obtain ⟨hB, hP⟩ := id hC
    obtain ⟨hM, hE, hV, hlw, ht6, hL⟩ := id hB
    have hn8 := hV.2.1
    have e9 : g 53 1 = nI (nN (o 0 9)) := hE.1.2.2.1.trans hV.tN.1
    have ht40 := hV.tN.2.1
    have hcn0 : g 53 3 = nI nc := hE.1.1.trans hV.1
    refine xX12_bakes_2 ?_
    refine xX12_bakes_3 ?_
    refine xX12_bakes_4 (hM.1 _ _ rfl) ?_
    rw [hcn0]
    refine xX12_bakes_7_f (by rw [hx1]; exact nI_ge (by omega) (by omega)) ?_
    refine xX12_bakes_10 ?_
    refine xX12_bakes_11 ?_
    refine xX12_bakes_12 (hM.1 _ _ rfl) rfl rfl rfl (s_X12_bakesOne hC hx1 (by omega) (fun g0 hm0 hb0 ho0 => ?_))
    refine xX12_bakes_15 rfl rfl ?_
    refine xX12_bakes_18 ?_
    exact ih (j + 1) _ _ (by omega) (by rw [hx1]; exact nI_1 j) (hC.mz hm0) (hf.tr hm0) (fun c hc m hm => by
      by_cases z : c = j
      · subst z; exact hb0 m hm
      · rw [ho0 _ (by omega)]; exact hR c (by omega) m hm)
theorem s_X12_bakes {d : Nat} {sc : Nat × (Nat → Int32)} {T : List (Nat × Nat)} {rf : Nat → Nat → Option Nat} {o : OV} {nc t : Nat} {cs : Nat → List Int32} {g : Nat → Nat → Int32} {F : AH → Prop} (hC : MC T rf g o nc t cs) (hQ : ∀ g2, MZ g g2 → BRm g2 o (evL (lwM cs)) nc → F (T, rf, g2)) : Mok (d + 5) 0 0 sc kX12_bakes [.ref 53] (T, rf, g) (Qv F) := by
  obtain ⟨hB, hP⟩ := id hC
  obtain ⟨hM, hE, hV, hlw, ht6, hL⟩ := id hB
  have hn8 := hV.2.1
  have e9 : g 53 1 = nI (nN (o 0 9)) := hE.1.2.2.1.trans hV.tN.1
  have ht40 := hV.tN.2.1
  have hcn0 : g 53 3 = nI nc := hE.1.1.trans hV.1
  refine Mok.ofWp (L := [some (.ref 53), none]) rfl rfl rfl ?_
  refine xX12_bakes_0 ?_
  refine xX12_bakes_1 rfl ?_
  exact lp_X12_bakes hQ nc 0 _ _ (by omega) rfl hC MZ.rf (fun c hc => absurd hc (Nat.not_lt_zero c))
theorem s_X12_endOf {d : Nat} {sc : Nat × (Nat → Int32)} {T : List (Nat × Nat)} {rf : Nat → Nat → Option Nat} {o : OV} {nc t : Nat} {cs : Nat → List Int32} {g : Nat → Nat → Int32} {cN : Nat} {c x : Int32} {F : Int32 → AH → Prop} (hC : MC T rf g o nc t cs) (hc : c = nI cN) (hcn : cN < nc) (hr : g 73 (41 * cN + nN (o 0 9)) = x) (hQ : F x (T, rf, g)) : Mok d 0 0 sc kX12_endOf [.ref 53, .int c] (T, rf, g) (Qi F) := by
  obtain ⟨hB, hP⟩ := id hC
  obtain ⟨hM, hE, hV, hlw, ht6, hL⟩ := id hB
  have hn8 := hV.2.1
  have e9 : g 53 1 = nI (nN (o 0 9)) := hE.1.2.2.1.trans hV.tN.1
  have ht40 := hV.tN.2.1
  have hcn0 : g 53 3 = nI nc := hE.1.1.trans hV.1
  refine Mok.ofWp (L := [some (.ref 53), some (.int c)]) rfl rfl rfl ?_
  refine xX12_endOf_0 ?_
  refine xX12_endOf_1 (hM.1 _ _ rfl) (hM.2 _ _ _ rfl) ?_
  refine xX12_endOf_4 ?_
  refine xX12_endOf_6 ?_
  refine xX12_endOf_7 ?_
  refine xX12_endOf_8 ?_
  refine xX12_endOf_9 (hM.1 _ _ rfl) ?_
  rw [e9]
  refine xX12_endOf_12 ?_
  refine xX12_endOf_13 (j := (41 * cN + nN (o 0 9))) (hM.1 _ _ rfl) (by rw [hc]; exact i41 (by omega) (by omega)) (by omega) rfl ?_
  rw [hr]
  refine xX12_endOf_14 rfl rfl ?_
  exact hQ
theorem s_X12_offBy {d : Nat} {sc : Nat × (Nat → Int32)} {T : List (Nat × Nat)} {rf : Nat → Nat → Option Nat} {o : OV} {nc t : Nat} {cs : Nat → List Int32} {g : Nat → Nat → Int32} {cN bN : Nat} {c b : Int32} {F : Int32 → AH → Prop} (hC : MC T rf g o nc t cs) (hc : c = nI cN) (hcn : cN < nc) (hb : b = nI bN) (hb9 : bN ≤ 999) (hQ : F (kAway (o 2 cN) b (o 4 cN)) (T, rf, g)) : Mok d 0 0 sc kX12_offBy [.ref 53, .int c, .int b] (T, rf, g) (Qi F) := by
  have hB := hC.1
  obtain ⟨hM, hE, hV, hlw, ht6, hL⟩ := id hB
  have hn8 := hV.2.1
  have e2 : g 55 cN = o 2 cN := (hE.2.2.1 cN hcn).1
  have e3 : g 56 cN = o 3 cN := (hE.2.2.1 cN hcn).2.1
  have e4 : g 57 cN = o 4 cN := (hE.2.2.1 cN hcn).2.2.1
  have e5 : g 58 cN = o 5 cN := (hE.2.2.1 cN hcn).2.2.2
  have hw := hV.wiN hcn
  have ew := hw.1
  have hA := awayM hb9 hw.2
  rw [← ew, ← hb] at hA
  obtain ⟨A1, A2, A3, A4, A5, A6⟩ := hA
  have z0 : kAway0 b (o 4 cN) = if b - o 4 cN < 0 then -(b - o 4 cN) else b - o 4 cN := by
    unfold kAway0
    by_cases z : nN (o 4 cN) < bN
    · rw [if_pos (A4.mpr z), if_neg (fun q => by have := A1.mp q; omega)]
    · rw [if_neg (fun q => z (A4.mp q)), A3]
      by_cases y : bN < nN (o 4 cN)
      · rw [if_pos (A1.mpr y)]
      · rw [if_neg (fun q => y (A1.mp q)), hb, ew, show bN = nN (o 4 cN) by omega]
  refine Mok.ofWp (L := [some (.ref 53), some (.int c), some (.int b), none, none]) rfl rfl rfl ?_
  refine xX12_offBy_0 ?_
  refine xX12_offBy_1 ?_
  refine xX12_offBy_2 (hM.1 _ _ rfl) (hM.2 _ _ _ rfl) ?_
  refine xX12_offBy_5 ?_
  refine xX12_offBy_6 (j := cN) (hM.1 _ _ rfl) hc (by omega) rfl ?_
  rw [e4]
  refine xX12_offBy_7 ?_
  refine xX12_offBy_8 rfl ?_
  refine xX12_offBy_9 ?_
  refine xX12_offBy_10 (fun c10 => ?_) (fun c10 => ?_)
  · rw [if_neg (Int32.not_lt.mpr c10)] at z0
    refine xX12_offBy_18 ?_
    refine xX12_offBy_19 rfl ?_
    refine xX12_offBy_21 ?_
    refine xX12_offBy_22 (hM.1 _ _ rfl) (hM.2 _ _ _ rfl) ?_
    refine xX12_offBy_25 ?_
    refine xX12_offBy_26 (j := cN) (hM.1 _ _ rfl) hc (by omega) rfl ?_
    rw [e2]
    refine xX12_offBy_27 ?_
    refine xX12_offBy_28 (fun c28 => ?_) (fun c28 => ?_)
    · refine xX12_offBy_42 ?_
      refine xX12_offBy_43 (hM.1 _ _ rfl) (hM.2 _ _ _ rfl) ?_
      refine xX12_offBy_46 ?_
      refine xX12_offBy_47 (j := cN) (hM.1 _ _ rfl) hc (by omega) rfl ?_
      rw [e2]
      refine xX12_offBy_48 ?_
      refine xX12_offBy_49 (fun c49 => ?_) (fun c49 => ?_)
      · refine xX12_offBy_60 ?_
        refine xX12_offBy_62 rfl rfl ?_
        rw [kAway] at hQ
        first
          | (rw [if_pos ⟨c28, A4.mpr (A2.mp (Int32.not_le.mp c32))⟩, z0] at hQ; exact hQ)
          | (rw [if_neg (fun q => Int32.not_lt.mpr c32 (A2.mpr (A4.mp q.2))), if_pos ⟨c49, A5.mpr (A6.mp (Int32.not_lt.mp c53))⟩] at hQ; exact hQ)
          | (rw [if_neg (fun q => Int32.not_lt.mpr c32 (A2.mpr (A4.mp q.2))), if_neg (fun q => Int32.not_le.mpr c53 (A6.mpr (A5.mp q.2))), z0] at hQ; exact hQ)
          | (rw [if_neg (fun q => Int32.not_lt.mpr c32 (A2.mpr (A4.mp q.2))), if_neg (fun q => c49 q.1), z0] at hQ; exact hQ)
          | (rw [if_neg (fun q => c28 q.1), if_pos ⟨c49, A5.mpr (A6.mp (Int32.not_lt.mp c53))⟩] at hQ; exact hQ)
          | (rw [if_neg (fun q => c28 q.1), if_neg (fun q => Int32.not_le.mpr c53 (A6.mpr (A5.mp q.2))), z0] at hQ; exact hQ)
          | (rw [if_neg (fun q => c28 q.1), if_neg (fun q => c49 q.1), z0] at hQ; exact hQ)
      · refine xX12_offBy_52 ?_
        refine xX12_offBy_53 (fun c53 => ?_) (fun c53 => ?_)
        · refine xX12_offBy_60 ?_
          refine xX12_offBy_62 rfl rfl ?_
          rw [kAway] at hQ
          first
            | (rw [if_pos ⟨c28, A4.mpr (A2.mp (Int32.not_le.mp c32))⟩, z0] at hQ; exact hQ)
            | (rw [if_neg (fun q => Int32.not_lt.mpr c32 (A2.mpr (A4.mp q.2))), if_pos ⟨c49, A5.mpr (A6.mp (Int32.not_lt.mp c53))⟩] at hQ; exact hQ)
            | (rw [if_neg (fun q => Int32.not_lt.mpr c32 (A2.mpr (A4.mp q.2))), if_neg (fun q => Int32.not_le.mpr c53 (A6.mpr (A5.mp q.2))), z0] at hQ; exact hQ)
            | (rw [if_neg (fun q => Int32.not_lt.mpr c32 (A2.mpr (A4.mp q.2))), if_neg (fun q => c49 q.1), z0] at hQ; exact hQ)
            | (rw [if_neg (fun q => c28 q.1), if_pos ⟨c49, A5.mpr (A6.mp (Int32.not_lt.mp c53))⟩] at hQ; exact hQ)
            | (rw [if_neg (fun q => c28 q.1), if_neg (fun q => Int32.not_le.mpr c53 (A6.mpr (A5.mp q.2))), z0] at hQ; exact hQ)
            | (rw [if_neg (fun q => c28 q.1), if_neg (fun q => c49 q.1), z0] at hQ; exact hQ)
        · refine xX12_offBy_56 ?_
          refine xX12_offBy_57 ?_
          refine xX12_offBy_62 rfl rfl ?_
          rw [kAway] at hQ
          first
            | (rw [if_pos ⟨c28, A4.mpr (A2.mp (Int32.not_le.mp c32))⟩, z0] at hQ; exact hQ)
            | (rw [if_neg (fun q => Int32.not_lt.mpr c32 (A2.mpr (A4.mp q.2))), if_pos ⟨c49, A5.mpr (A6.mp (Int32.not_lt.mp c53))⟩] at hQ; exact hQ)
            | (rw [if_neg (fun q => Int32.not_lt.mpr c32 (A2.mpr (A4.mp q.2))), if_neg (fun q => Int32.not_le.mpr c53 (A6.mpr (A5.mp q.2))), z0] at hQ; exact hQ)
            | (rw [if_neg (fun q => Int32.not_lt.mpr c32 (A2.mpr (A4.mp q.2))), if_neg (fun q => c49 q.1), z0] at hQ; exact hQ)
            | (rw [if_neg (fun q => c28 q.1), if_pos ⟨c49, A5.mpr (A6.mp (Int32.not_lt.mp c53))⟩] at hQ; exact hQ)
            | (rw [if_neg (fun q => c28 q.1), if_neg (fun q => Int32.not_le.mpr c53 (A6.mpr (A5.mp q.2))), z0] at hQ; exact hQ)
            | (rw [if_neg (fun q => c28 q.1), if_neg (fun q => c49 q.1), z0] at hQ; exact hQ)
    · refine xX12_offBy_31 ?_
      refine xX12_offBy_32 (fun c32 => ?_) (fun c32 => ?_)
      · refine xX12_offBy_42 ?_
        refine xX12_offBy_43 (hM.1 _ _ rfl) (hM.2 _ _ _ rfl) ?_
        refine xX12_offBy_46 ?_
        refine xX12_offBy_47 (j := cN) (hM.1 _ _ rfl) hc (by omega) rfl ?_
        rw [e2]
        refine xX12_offBy_48 ?_
        refine xX12_offBy_49 (fun c49 => ?_) (fun c49 => ?_)
        · refine xX12_offBy_60 ?_
          refine xX12_offBy_62 rfl rfl ?_
          rw [kAway] at hQ
          first
            | (rw [if_pos ⟨c28, A4.mpr (A2.mp (Int32.not_le.mp c32))⟩, z0] at hQ; exact hQ)
            | (rw [if_neg (fun q => Int32.not_lt.mpr c32 (A2.mpr (A4.mp q.2))), if_pos ⟨c49, A5.mpr (A6.mp (Int32.not_lt.mp c53))⟩] at hQ; exact hQ)
            | (rw [if_neg (fun q => Int32.not_lt.mpr c32 (A2.mpr (A4.mp q.2))), if_neg (fun q => Int32.not_le.mpr c53 (A6.mpr (A5.mp q.2))), z0] at hQ; exact hQ)
            | (rw [if_neg (fun q => Int32.not_lt.mpr c32 (A2.mpr (A4.mp q.2))), if_neg (fun q => c49 q.1), z0] at hQ; exact hQ)
            | (rw [if_neg (fun q => c28 q.1), if_pos ⟨c49, A5.mpr (A6.mp (Int32.not_lt.mp c53))⟩] at hQ; exact hQ)
            | (rw [if_neg (fun q => c28 q.1), if_neg (fun q => Int32.not_le.mpr c53 (A6.mpr (A5.mp q.2))), z0] at hQ; exact hQ)
            | (rw [if_neg (fun q => c28 q.1), if_neg (fun q => c49 q.1), z0] at hQ; exact hQ)
        · refine xX12_offBy_52 ?_
          refine xX12_offBy_53 (fun c53 => ?_) (fun c53 => ?_)
          · refine xX12_offBy_60 ?_
            refine xX12_offBy_62 rfl rfl ?_
            rw [kAway] at hQ
            first
              | (rw [if_pos ⟨c28, A4.mpr (A2.mp (Int32.not_le.mp c32))⟩, z0] at hQ; exact hQ)
              | (rw [if_neg (fun q => Int32.not_lt.mpr c32 (A2.mpr (A4.mp q.2))), if_pos ⟨c49, A5.mpr (A6.mp (Int32.not_lt.mp c53))⟩] at hQ; exact hQ)
              | (rw [if_neg (fun q => Int32.not_lt.mpr c32 (A2.mpr (A4.mp q.2))), if_neg (fun q => Int32.not_le.mpr c53 (A6.mpr (A5.mp q.2))), z0] at hQ; exact hQ)
              | (rw [if_neg (fun q => Int32.not_lt.mpr c32 (A2.mpr (A4.mp q.2))), if_neg (fun q => c49 q.1), z0] at hQ; exact hQ)
              | (rw [if_neg (fun q => c28 q.1), if_pos ⟨c49, A5.mpr (A6.mp (Int32.not_lt.mp c53))⟩] at hQ; exact hQ)
              | (rw [if_neg (fun q => c28 q.1), if_neg (fun q => Int32.not_le.mpr c53 (A6.mpr (A5.mp q.2))), z0] at hQ; exact hQ)
              | (rw [if_neg (fun q => c28 q.1), if_neg (fun q => c49 q.1), z0] at hQ; exact hQ)
          · refine xX12_offBy_56 ?_
            refine xX12_offBy_57 ?_
            refine xX12_offBy_62 rfl rfl ?_
            rw [kAway] at hQ
            first
              | (rw [if_pos ⟨c28, A4.mpr (A2.mp (Int32.not_le.mp c32))⟩, z0] at hQ; exact hQ)
              | (rw [if_neg (fun q => Int32.not_lt.mpr c32 (A2.mpr (A4.mp q.2))), if_pos ⟨c49, A5.mpr (A6.mp (Int32.not_lt.mp c53))⟩] at hQ; exact hQ)
              | (rw [if_neg (fun q => Int32.not_lt.mpr c32 (A2.mpr (A4.mp q.2))), if_neg (fun q => Int32.not_le.mpr c53 (A6.mpr (A5.mp q.2))), z0] at hQ; exact hQ)
              | (rw [if_neg (fun q => Int32.not_lt.mpr c32 (A2.mpr (A4.mp q.2))), if_neg (fun q => c49 q.1), z0] at hQ; exact hQ)
              | (rw [if_neg (fun q => c28 q.1), if_pos ⟨c49, A5.mpr (A6.mp (Int32.not_lt.mp c53))⟩] at hQ; exact hQ)
              | (rw [if_neg (fun q => c28 q.1), if_neg (fun q => Int32.not_le.mpr c53 (A6.mpr (A5.mp q.2))), z0] at hQ; exact hQ)
              | (rw [if_neg (fun q => c28 q.1), if_neg (fun q => c49 q.1), z0] at hQ; exact hQ)
      · refine xX12_offBy_35 ?_
        refine xX12_offBy_36 ?_
        refine xX12_offBy_38 ?_
        refine xX12_offBy_39 ?_
        refine xX12_offBy_62 rfl rfl ?_
        rw [kAway] at hQ
        first
          | (rw [if_pos ⟨c28, A4.mpr (A2.mp (Int32.not_le.mp c32))⟩, z0] at hQ; exact hQ)
          | (rw [if_neg (fun q => Int32.not_lt.mpr c32 (A2.mpr (A4.mp q.2))), if_pos ⟨c49, A5.mpr (A6.mp (Int32.not_lt.mp c53))⟩] at hQ; exact hQ)
          | (rw [if_neg (fun q => Int32.not_lt.mpr c32 (A2.mpr (A4.mp q.2))), if_neg (fun q => Int32.not_le.mpr c53 (A6.mpr (A5.mp q.2))), z0] at hQ; exact hQ)
          | (rw [if_neg (fun q => Int32.not_lt.mpr c32 (A2.mpr (A4.mp q.2))), if_neg (fun q => c49 q.1), z0] at hQ; exact hQ)
          | (rw [if_neg (fun q => c28 q.1), if_pos ⟨c49, A5.mpr (A6.mp (Int32.not_lt.mp c53))⟩] at hQ; exact hQ)
          | (rw [if_neg (fun q => c28 q.1), if_neg (fun q => Int32.not_le.mpr c53 (A6.mpr (A5.mp q.2))), z0] at hQ; exact hQ)
          | (rw [if_neg (fun q => c28 q.1), if_neg (fun q => c49 q.1), z0] at hQ; exact hQ)
  · rw [if_pos (Int32.not_le.mp c10)] at z0
    refine xX12_offBy_13 ?_
    refine xX12_offBy_14 ?_
    refine xX12_offBy_15 ?_
    refine xX12_offBy_19 rfl ?_
    refine xX12_offBy_21 ?_
    refine xX12_offBy_22 (hM.1 _ _ rfl) (hM.2 _ _ _ rfl) ?_
    refine xX12_offBy_25 ?_
    refine xX12_offBy_26 (j := cN) (hM.1 _ _ rfl) hc (by omega) rfl ?_
    rw [e2]
    refine xX12_offBy_27 ?_
    refine xX12_offBy_28 (fun c28 => ?_) (fun c28 => ?_)
    · refine xX12_offBy_42 ?_
      refine xX12_offBy_43 (hM.1 _ _ rfl) (hM.2 _ _ _ rfl) ?_
      refine xX12_offBy_46 ?_
      refine xX12_offBy_47 (j := cN) (hM.1 _ _ rfl) hc (by omega) rfl ?_
      rw [e2]
      refine xX12_offBy_48 ?_
      refine xX12_offBy_49 (fun c49 => ?_) (fun c49 => ?_)
      · refine xX12_offBy_60 ?_
        refine xX12_offBy_62 rfl rfl ?_
        rw [kAway] at hQ
        first
          | (rw [if_pos ⟨c28, A4.mpr (A2.mp (Int32.not_le.mp c32))⟩, z0] at hQ; exact hQ)
          | (rw [if_neg (fun q => Int32.not_lt.mpr c32 (A2.mpr (A4.mp q.2))), if_pos ⟨c49, A5.mpr (A6.mp (Int32.not_lt.mp c53))⟩] at hQ; exact hQ)
          | (rw [if_neg (fun q => Int32.not_lt.mpr c32 (A2.mpr (A4.mp q.2))), if_neg (fun q => Int32.not_le.mpr c53 (A6.mpr (A5.mp q.2))), z0] at hQ; exact hQ)
          | (rw [if_neg (fun q => Int32.not_lt.mpr c32 (A2.mpr (A4.mp q.2))), if_neg (fun q => c49 q.1), z0] at hQ; exact hQ)
          | (rw [if_neg (fun q => c28 q.1), if_pos ⟨c49, A5.mpr (A6.mp (Int32.not_lt.mp c53))⟩] at hQ; exact hQ)
          | (rw [if_neg (fun q => c28 q.1), if_neg (fun q => Int32.not_le.mpr c53 (A6.mpr (A5.mp q.2))), z0] at hQ; exact hQ)
          | (rw [if_neg (fun q => c28 q.1), if_neg (fun q => c49 q.1), z0] at hQ; exact hQ)
      · refine xX12_offBy_52 ?_
        refine xX12_offBy_53 (fun c53 => ?_) (fun c53 => ?_)
        · refine xX12_offBy_60 ?_
          refine xX12_offBy_62 rfl rfl ?_
          rw [kAway] at hQ
          first
            | (rw [if_pos ⟨c28, A4.mpr (A2.mp (Int32.not_le.mp c32))⟩, z0] at hQ; exact hQ)
            | (rw [if_neg (fun q => Int32.not_lt.mpr c32 (A2.mpr (A4.mp q.2))), if_pos ⟨c49, A5.mpr (A6.mp (Int32.not_lt.mp c53))⟩] at hQ; exact hQ)
            | (rw [if_neg (fun q => Int32.not_lt.mpr c32 (A2.mpr (A4.mp q.2))), if_neg (fun q => Int32.not_le.mpr c53 (A6.mpr (A5.mp q.2))), z0] at hQ; exact hQ)
            | (rw [if_neg (fun q => Int32.not_lt.mpr c32 (A2.mpr (A4.mp q.2))), if_neg (fun q => c49 q.1), z0] at hQ; exact hQ)
            | (rw [if_neg (fun q => c28 q.1), if_pos ⟨c49, A5.mpr (A6.mp (Int32.not_lt.mp c53))⟩] at hQ; exact hQ)
            | (rw [if_neg (fun q => c28 q.1), if_neg (fun q => Int32.not_le.mpr c53 (A6.mpr (A5.mp q.2))), z0] at hQ; exact hQ)
            | (rw [if_neg (fun q => c28 q.1), if_neg (fun q => c49 q.1), z0] at hQ; exact hQ)
        · refine xX12_offBy_56 ?_
          refine xX12_offBy_57 ?_
          refine xX12_offBy_62 rfl rfl ?_
          rw [kAway] at hQ
          first
            | (rw [if_pos ⟨c28, A4.mpr (A2.mp (Int32.not_le.mp c32))⟩, z0] at hQ; exact hQ)
            | (rw [if_neg (fun q => Int32.not_lt.mpr c32 (A2.mpr (A4.mp q.2))), if_pos ⟨c49, A5.mpr (A6.mp (Int32.not_lt.mp c53))⟩] at hQ; exact hQ)
            | (rw [if_neg (fun q => Int32.not_lt.mpr c32 (A2.mpr (A4.mp q.2))), if_neg (fun q => Int32.not_le.mpr c53 (A6.mpr (A5.mp q.2))), z0] at hQ; exact hQ)
            | (rw [if_neg (fun q => Int32.not_lt.mpr c32 (A2.mpr (A4.mp q.2))), if_neg (fun q => c49 q.1), z0] at hQ; exact hQ)
            | (rw [if_neg (fun q => c28 q.1), if_pos ⟨c49, A5.mpr (A6.mp (Int32.not_lt.mp c53))⟩] at hQ; exact hQ)
            | (rw [if_neg (fun q => c28 q.1), if_neg (fun q => Int32.not_le.mpr c53 (A6.mpr (A5.mp q.2))), z0] at hQ; exact hQ)
            | (rw [if_neg (fun q => c28 q.1), if_neg (fun q => c49 q.1), z0] at hQ; exact hQ)
    · refine xX12_offBy_31 ?_
      refine xX12_offBy_32 (fun c32 => ?_) (fun c32 => ?_)
      · refine xX12_offBy_42 ?_
        refine xX12_offBy_43 (hM.1 _ _ rfl) (hM.2 _ _ _ rfl) ?_
        refine xX12_offBy_46 ?_
        refine xX12_offBy_47 (j := cN) (hM.1 _ _ rfl) hc (by omega) rfl ?_
        rw [e2]
        refine xX12_offBy_48 ?_
        refine xX12_offBy_49 (fun c49 => ?_) (fun c49 => ?_)
        · refine xX12_offBy_60 ?_
          refine xX12_offBy_62 rfl rfl ?_
          rw [kAway] at hQ
          first
            | (rw [if_pos ⟨c28, A4.mpr (A2.mp (Int32.not_le.mp c32))⟩, z0] at hQ; exact hQ)
            | (rw [if_neg (fun q => Int32.not_lt.mpr c32 (A2.mpr (A4.mp q.2))), if_pos ⟨c49, A5.mpr (A6.mp (Int32.not_lt.mp c53))⟩] at hQ; exact hQ)
            | (rw [if_neg (fun q => Int32.not_lt.mpr c32 (A2.mpr (A4.mp q.2))), if_neg (fun q => Int32.not_le.mpr c53 (A6.mpr (A5.mp q.2))), z0] at hQ; exact hQ)
            | (rw [if_neg (fun q => Int32.not_lt.mpr c32 (A2.mpr (A4.mp q.2))), if_neg (fun q => c49 q.1), z0] at hQ; exact hQ)
            | (rw [if_neg (fun q => c28 q.1), if_pos ⟨c49, A5.mpr (A6.mp (Int32.not_lt.mp c53))⟩] at hQ; exact hQ)
            | (rw [if_neg (fun q => c28 q.1), if_neg (fun q => Int32.not_le.mpr c53 (A6.mpr (A5.mp q.2))), z0] at hQ; exact hQ)
            | (rw [if_neg (fun q => c28 q.1), if_neg (fun q => c49 q.1), z0] at hQ; exact hQ)
        · refine xX12_offBy_52 ?_
          refine xX12_offBy_53 (fun c53 => ?_) (fun c53 => ?_)
          · refine xX12_offBy_60 ?_
            refine xX12_offBy_62 rfl rfl ?_
            rw [kAway] at hQ
            first
              | (rw [if_pos ⟨c28, A4.mpr (A2.mp (Int32.not_le.mp c32))⟩, z0] at hQ; exact hQ)
              | (rw [if_neg (fun q => Int32.not_lt.mpr c32 (A2.mpr (A4.mp q.2))), if_pos ⟨c49, A5.mpr (A6.mp (Int32.not_lt.mp c53))⟩] at hQ; exact hQ)
              | (rw [if_neg (fun q => Int32.not_lt.mpr c32 (A2.mpr (A4.mp q.2))), if_neg (fun q => Int32.not_le.mpr c53 (A6.mpr (A5.mp q.2))), z0] at hQ; exact hQ)
              | (rw [if_neg (fun q => Int32.not_lt.mpr c32 (A2.mpr (A4.mp q.2))), if_neg (fun q => c49 q.1), z0] at hQ; exact hQ)
              | (rw [if_neg (fun q => c28 q.1), if_pos ⟨c49, A5.mpr (A6.mp (Int32.not_lt.mp c53))⟩] at hQ; exact hQ)
              | (rw [if_neg (fun q => c28 q.1), if_neg (fun q => Int32.not_le.mpr c53 (A6.mpr (A5.mp q.2))), z0] at hQ; exact hQ)
              | (rw [if_neg (fun q => c28 q.1), if_neg (fun q => c49 q.1), z0] at hQ; exact hQ)
          · refine xX12_offBy_56 ?_
            refine xX12_offBy_57 ?_
            refine xX12_offBy_62 rfl rfl ?_
            rw [kAway] at hQ
            first
              | (rw [if_pos ⟨c28, A4.mpr (A2.mp (Int32.not_le.mp c32))⟩, z0] at hQ; exact hQ)
              | (rw [if_neg (fun q => Int32.not_lt.mpr c32 (A2.mpr (A4.mp q.2))), if_pos ⟨c49, A5.mpr (A6.mp (Int32.not_lt.mp c53))⟩] at hQ; exact hQ)
              | (rw [if_neg (fun q => Int32.not_lt.mpr c32 (A2.mpr (A4.mp q.2))), if_neg (fun q => Int32.not_le.mpr c53 (A6.mpr (A5.mp q.2))), z0] at hQ; exact hQ)
              | (rw [if_neg (fun q => Int32.not_lt.mpr c32 (A2.mpr (A4.mp q.2))), if_neg (fun q => c49 q.1), z0] at hQ; exact hQ)
              | (rw [if_neg (fun q => c28 q.1), if_pos ⟨c49, A5.mpr (A6.mp (Int32.not_lt.mp c53))⟩] at hQ; exact hQ)
              | (rw [if_neg (fun q => c28 q.1), if_neg (fun q => Int32.not_le.mpr c53 (A6.mpr (A5.mp q.2))), z0] at hQ; exact hQ)
              | (rw [if_neg (fun q => c28 q.1), if_neg (fun q => c49 q.1), z0] at hQ; exact hQ)
      · refine xX12_offBy_35 ?_
        refine xX12_offBy_36 ?_
        refine xX12_offBy_38 ?_
        refine xX12_offBy_39 ?_
        refine xX12_offBy_62 rfl rfl ?_
        rw [kAway] at hQ
        first
          | (rw [if_pos ⟨c28, A4.mpr (A2.mp (Int32.not_le.mp c32))⟩, z0] at hQ; exact hQ)
          | (rw [if_neg (fun q => Int32.not_lt.mpr c32 (A2.mpr (A4.mp q.2))), if_pos ⟨c49, A5.mpr (A6.mp (Int32.not_lt.mp c53))⟩] at hQ; exact hQ)
          | (rw [if_neg (fun q => Int32.not_lt.mpr c32 (A2.mpr (A4.mp q.2))), if_neg (fun q => Int32.not_le.mpr c53 (A6.mpr (A5.mp q.2))), z0] at hQ; exact hQ)
          | (rw [if_neg (fun q => Int32.not_lt.mpr c32 (A2.mpr (A4.mp q.2))), if_neg (fun q => c49 q.1), z0] at hQ; exact hQ)
          | (rw [if_neg (fun q => c28 q.1), if_pos ⟨c49, A5.mpr (A6.mp (Int32.not_lt.mp c53))⟩] at hQ; exact hQ)
          | (rw [if_neg (fun q => c28 q.1), if_neg (fun q => Int32.not_le.mpr c53 (A6.mpr (A5.mp q.2))), z0] at hQ; exact hQ)
          | (rw [if_neg (fun q => c28 q.1), if_neg (fun q => c49 q.1), z0] at hQ; exact hQ)
theorem s_X12_badBy {d : Nat} {sc : Nat × (Nat → Int32)} {T : List (Nat × Nat)} {rf : Nat → Nat → Option Nat} {o : OV} {nc t : Nat} {cs : Nat → List Int32} {g : Nat → Nat → Int32} {cN bN : Nat} {c b : Int32} {F : Int32 → AH → Prop} (hC : MC T rf g o nc t cs) (hc : c = nI cN) (hcn : cN < nc) (hb : b = nI bN) (hb9 : bN ≤ 999) (hQ : ∀ g2, MY g g2 → F (badX o (evL (lwM cs)) cN b) (T, rf, g2)) : Mok (d + 3) 0 0 sc kX12_badBy [.ref 53, .int c, .int b] (T, rf, g) (Qi F) := by
  have hM := hC.1.1
  refine Mok.ofWp (L := [some (.ref 53), some (.int c), some (.int b)]) rfl rfl rfl ?_
  refine xX12_badBy_0 ?_
  refine xX12_badBy_1 ?_
  refine xX12_badBy_2 ?_
  refine xX12_badBy_3 (hM.1 _ _ rfl) rfl rfl rfl (s_X12_offBy hC hc hcn hb hb9 ?_)
  refine xX12_badBy_6 ?_
  refine xX12_badBy_7 ?_
  refine xX12_badBy_8 ?_
  refine xX12_badBy_9 ?_
  refine xX12_badBy_10 ?_
  refine xX12_badBy_11 ?_
  refine xX12_badBy_12 ?_
  refine xX12_badBy_13 (hM.1 _ _ rfl) rfl rfl rfl (s_X12_asksOf hC.1 (p := 2) (by omega) rfl hc hcn (fun g1 hy1 => ?_))
  refine xX12_badBy_16 ?_
  refine xX12_badBy_17 rfl rfl ?_
  exact hQ _ hy1
