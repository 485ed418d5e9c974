-- ===== weighing, the reference's way =====
/-- best and least, l0 the least at first -/
def WM (l0 : Int32) (s : Option (Int32 × Int32)) (b l : Int32) : Prop := match s with
  | none => b = -1 ∧ l = l0
  | some q => b = q.1 ∧ l = q.2 ∧ q.1 ≠ -1
theorem WM_n {l0 b l a v : Int32} {s : Option (Int32 × Int32)} (h : WM l0 s b l) (hb : b = -1) (ha : a ≠ -1) : WM l0 (wgh s a v) a v := by
  cases s with
  | none => exact ⟨rfl, rfl, ha⟩
  | some q => exact absurd (h.1.symm.trans hb) h.2.2
theorem WM_t {l0 b l a v : Int32} {s : Option (Int32 × Int32)} (h : WM l0 s b l) (hb : ¬ b = -1) (hv : ¬ v < l) : WM l0 (wgh s a v) b l := by
  cases s with
  | none => exact absurd h.1 hb
  | some q =>
    rw [show wgh (some q) a v = some q from if_neg (by rw [← h.2.1]; exact hv)]
    exact h
theorem WM_f {l0 b l a v : Int32} {s : Option (Int32 × Int32)} (h : WM l0 s b l) (hb : ¬ b = -1) (hv : v < l) (ha : a ≠ -1) : WM l0 (wgh s a v) a v := by
  cases s with
  | none => exact absurd h.1 hb
  | some q =>
    rw [show wgh (some q) a v = some (a, v) from if_pos (by rw [← h.2.1]; exact hv)]
    exact ⟨rfl, rfl, ha⟩
theorem WM_0 {l0 b l : Int32} {s : Option (Int32 × Int32)} (h : WM l0 s b l) : lgt s 0 = b := by
  cases s with
  | none => exact h.1.symm
  | some q => exact h.1.symm
theorem WM_1 {l0 b l w : Int32} {s : Option (Int32 × Int32)} (h : WM l0 s b l) (hs : s ≠ none ∨ l0 = -1) (hw : ¬ w = 0) : lgt s w = l := by
  cases s with
  | none => exact (hs.resolve_left (fun z => z rfl)).symm.trans h.2.symm
  | some q => exact (if_neg hw).trans h.2.1.symm
theorem wgh_some (s : Option (Int32 × Int32)) (a v : Int32) : wgh s a v ≠ none := by
  cases s with
  | none => exact fun z => by cases z
  | some q =>
    unfold wgh
    show (if v < q.2 then some (a, v) else some q) ≠ none
    split <;> exact fun z => by cases z
theorem wff_some (f : Nat → Int32 × Int32) : ∀ (k j : Nat) (s : Option (Int32 × Int32)), s ≠ none ∨ 0 < k → wff f k j s ≠ none := by
  intro k
  induction k with
  | zero => intro j s h; exact h.resolve_right (Nat.lt_irrefl 0)
  | succ k ih => intro j s _; exact ih (j + 1) _ (Or.inl (wgh_some _ _ _))
/-- but for one cell -/
def UEq (x : OV) (r k : Nat) (o : OV) (nc : Nat) : Prop := ∀ v, OEq (up x r k v) (up o r k v) nc
theorem UEq.of {x o : OV} {r k nc : Nat} (h : OEq x o nc) : UEq x r k o nc := fun _ => h.up
theorem UEq_put {x y o : OV} {r k nc : Nat} {v : Int32} (h : UEq x r k o nc) (e : OEq y (up x r k v) nc) : UEq y r k o nc := fun w => by
  have := (OEq.up (r := r) (k := k) (v := w) e)
  rw [up_up] at this
  exact this.tr (h w)
theorem up_self {o : OV} {r k : Nat} : up o r k (o r k) = o := by
  funext a b
  unfold up
  split
  · rename_i h; rw [h.1, h.2]
  · rfl
theorem UEq.back {x o : OV} {r k nc : Nat} (h : UEq x r k o nc) : OEq (up x r k (o r k)) o nc := by
  have := h (o r k)
  rw [up_self] at this
  exact this
theorem mcE {T : List (Nat × Nat)} {rf : Nat → Nat → Option Nat} {g : Nat → Nat → Int32} {o : OV} {nc t : Nat} {cs : Nat → List Int32} (hM : MS T rf) (hE : OEq (MOv g) o nc) (hV : OVk o nc) (hP : PI o) (hl : o 0 11 = nI t) (ht : t < 6) (hL : ML g t cs) : MC T rf g o nc t cs := ⟨⟨hM, hE, hV, hl, ht, hL⟩, hP⟩
theorem PI_up {o : OV} {r k : Nat} {v : Int32} (h : PI o) (h1 : r ≠ 6) (h2 : ¬ (r = 0 ∧ k = 8)) : PI (up o r k v) := by
  intro i j hi hj
  rw [up_ne (fun z => h2 ⟨z.1.symm, z.2.symm⟩)] at hj
  rw [up_ne (fun z => h1 z.1.symm), up_ne (fun z => h1 z.1.symm)]
  exact h i j hi hj
theorem PI_op {o : OV} {n : Nat} (h : PI o) (hn : n ≤ nN (o 0 8)) (h6 : nN (o 0 8) ≤ 6) : PI (up o 0 8 (nI n)) := by
  intro i j hi hj
  rw [up_same, nN_nI (by omega)] at hj
  rw [up_ne (by omega), up_ne (by omega)]
  exact h i j hi (by omega)
theorem MZ.mo {g g' : Nat → Nat → Int32} (h : MZ g g') : MOv g' = MOv g := MOv.keep (fun a p q => h a (by omega) (by omega) (by omega))
/-- beside the stack, the names and the field 43 nothing -/
def MX (g g' : Nat → Nat → Int32) : Prop := (∀ a, a ≠ 71 → a ≠ 72 → a ≠ 53 → g' a = g a) ∧ ∀ k, k ≠ 43 → g' 53 k = g 53 k
theorem MX.rf {g : Nat → Nat → Int32} : MX g g := ⟨fun _ _ _ _ => rfl, fun _ _ => rfl⟩
theorem MX.tr {g1 g2 g3 : Nat → Nat → Int32} (h1 : MX g1 g2) (h2 : MX g2 g3) : MX g1 g3 := ⟨fun a p q r => (h2.1 a p q r).trans (h1.1 a p q r), fun k hk => (h2.2 k hk).trans (h1.2 k hk)⟩
theorem MY.mx {g g' : Nat → Nat → Int32} (h : MY g g') : MX g g' := ⟨fun a p q _ => h a p q, fun k _ => congrFun (h 53 (by omega) (by omega)) k⟩
theorem MX.u {g : Nat → Nat → Int32} {v : Int32} : MX g (up g 53 43 v) := ⟨fun _ _ _ r => up_row r, fun _ hk => up_ne (fun z => hk z.2)⟩
theorem MX.mv {g g' : Nat → Nat → Int32} (h : MX g g') : MV g g' := ⟨fun a p => h.1 a (by omega) (by omega) (by omega), fun k _ _ _ _ _ _ b => h.2 k b⟩
theorem MX.mo {g g' : Nat → Nat → Int32} {nc : Nat} (h : MX g g') : OEq (MOv g') (MOv g) nc := by
  refine ⟨⟨h.2 _ (by omega), h.2 _ (by omega), h.2 _ (by omega), h.2 _ (by omega), h.2 _ (by omega)⟩, fun i _ => ?_, fun c _ => ⟨?_, ?_, ?_, ?_⟩, fun k _ => ⟨?_, ?_⟩⟩
  · exact congrFun (h.1 54 (by omega) (by omega) (by omega)) i
  · exact congrFun (h.1 55 (by omega) (by omega) (by omega)) c
  · exact congrFun (h.1 56 (by omega) (by omega) (by omega)) c
  · exact congrFun (h.1 57 (by omega) (by omega) (by omega)) c
  · exact congrFun (h.1 58 (by omega) (by omega) (by omega)) c
  · exact congrFun (h.1 59 (by omega) (by omega) (by omega)) k
  · exact congrFun (h.1 60 (by omega) (by omega) (by omega)) k
theorem MC.mx {T : List (Nat × Nat)} {rf : Nat → Nat → Option Nat} {g g' : Nat → Nat → Int32} {o : OV} {nc t : Nat} {cs : Nat → List Int32} (h : MC T rf g o nc t cs) (hf : MX g g') : MC T rf g' o nc t cs := mcE h.1.1 (hf.mo.tr h.1.2.1) h.1.2.2.1 h.2 h.1.2.2.2.1 h.1.2.2.2.2.1 (h.1.2.2.2.2.2.mv hf.mv)
theorem MX.b {g g' : Nat → Nat → Int32} (h : MX g g') : g' 73 = g 73 := h.1 73 (by omega) (by omega) (by omega)
theorem lp_X12_outOf {d : Nat} {sc : Nat × (Nat → Int32)} {T : List (Nat × Nat)} {rf : Nat → Nat → Option Nat} {o : OV} {nc t : Nat} {cs : Nat → List Int32} {cN : Nat} {c : Int32} {F : Int32 → AH → Prop} {g0 : Nat → Nat → Int32} (hc : c = nI cN) (hcn : cN < nc) (hQ : ∀ g2 l, MX g0 g2 → WM 0 (outS o (evL (lwM cs)) cN) (g2 53 43) l → F l (T, rf, g2)) : ∀ (k j : Nat) (x2 x3 : Int32) (g : Nat → Nat → Int32) (s : Option (Int32 × Int32)), (j + k = nN (o 0 9) + 1) → (x3 = nI j) → (MC T rf g o nc t cs) → (MX g0 g) → (∀ m, m ≤ nN (o 0 9) → g 73 (41 * cN + m) = brS o (evL (lwM cs)) cN m) → (WM 0 s (g 53 43) x2) → (wff (outF o (evL (lwM cs)) cN) k j s = outS o (evL (lwM cs)) cN) → Wp (d + 4) 0 0 sc kX12_outOf (Qi F) 9 [some (.ref 53), some (.int c), some (.int x2), some (.int x3), none, none] [] (T, rf, g) 0 0 := by
  intro k
  induction k with
  | zero =>
    intro j x2 x3 g s hj hx3 hC hf hR hW hS
    obtain ⟨hB, hP⟩ := id hC
    obtain ⟨hM, hE, hV, hlw, ht6, hL⟩ := id hB
    have hn8 := hV.2.1
    have e9 : g 53 1 = nI (nN (o 0 9)) := hE.1.2.2.1.trans hV.tN.1
    have ht40 := hV.tN.2.1
    have hcn0 : g 53 3 = nI nc := hE.1.1.trans hV.1
    refine xX12_outOf_9 ?_
    refine xX12_outOf_10 ?_
    refine xX12_outOf_11 (hM.1 _ _ rfl) ?_
    rw [e9]
    refine xX12_outOf_14_t (by rw [hx3]; exact nI_lt (by omega) (by omega)) ?_
    refine xX12_outOf_91 ?_
    refine xX12_outOf_92 rfl rfl ?_
    have e : j = nN (o 0 9) + 1 := by omega
    subst e
    exact hQ _ _ hf (hS ▸ hW)
  | succ k ih =>
    intro j x2 x3 g s hj hx3 hC hf hR hW hS
    obtain ⟨hB, hP⟩ := id hC
    obtain ⟨hM, hE, hV, hlw, ht6, hL⟩ := id hB
    have hn8 := hV.2.1
    have e9 : g 53 1 = nI (nN (o 0 9)) := hE.1.2.2.1.trans hV.tN.1
    have ht40 := hV.tN.2.1
    have hcn0 : g 53 3 = nI nc := hE.1.1.trans hV.1
    refine xX12_outOf_9 ?_
    refine xX12_outOf_10 ?_
    refine xX12_outOf_11 (hM.1 _ _ rfl) ?_
    rw [e9]
    refine xX12_outOf_14_f (by rw [hx3]; exact Int32.not_lt.mpr (nI_le (by omega) (by omega))) ?_
    refine xX12_outOf_17 ?_
    refine xX12_outOf_18 ?_
    refine xX12_outOf_19 ?_
    refine xX12_outOf_20 (hM.1 _ _ rfl) (hM.2 _ _ _ rfl) ?_
    refine xX12_outOf_23 ?_
    refine xX12_outOf_25 ?_
    refine xX12_outOf_26 ?_
    refine xX12_outOf_27 ?_
    refine xX12_outOf_28 ?_
    refine xX12_outOf_29 (j := (41 * cN + j)) (hM.1 _ _ rfl) (by rw [hc, hx3]; exact i41 (by omega) (by omega)) (by omega) rfl ?_
    rw [hR j (by omega)]
    obtain ⟨bN, hb9, eb⟩ := brS_nat (lw := lwM cs) hV hcn j
    refine xX12_outOf_30 (hM.1 _ _ rfl) rfl rfl rfl (s_X12_badBy hC hc hcn eb hb9 (fun g0 hy0 => ?_))
    refine xX12_outOf_33 rfl ?_
    refine xX12_outOf_35 ?_
    refine xX12_outOf_36 (hM.1 _ _ rfl) ?_
    refine xX12_outOf_39 ?_
    have e43 := congrFun (hy0 53 (by omega) (by omega)) 43
    rw [e43]
    refine xX12_outOf_40 (fun c1 => ?_) (fun c1 => ?_)
    · refine xX12_outOf_49 ?_
      refine xX12_outOf_50 ?_
      refine xX12_outOf_54 rfl ?_
      refine xX12_outOf_56 ?_
      refine xX12_outOf_57 ?_
      refine xX12_outOf_59_f (by decide) ?_
      refine xX12_outOf_62 ?_
      refine xX12_outOf_63 ?_
      try rw [e43]
      refine xX12_outOf_70 (hM.1 _ _ rfl) ?_
      refine xX12_outOf_73 ?_
      refine xX12_outOf_75_f (by decide) ?_
      refine xX12_outOf_78 ?_
      refine xX12_outOf_80 ?_
      refine xX12_outOf_84 rfl ?_
      refine xX12_outOf_85 rfl rfl ?_
      refine xX12_outOf_88 ?_
      refine wp_kill_4 ?_
      refine wp_kill_5 ?_
      refine ih (j + 1) _ _ _ (wgh s (nI j) (badX o (evL (lwM cs)) cN (brS o (evL (lwM cs)) cN j))) (by omega) (by rw [hx3]; exact nI_1 j) (hC.mx (hy0.mx.tr MX.u)) (hf.tr (hy0.mx.tr MX.u)) (fun m hm => by rw [up_row (by omega), hy0.b]; exact hR m hm) ?_ hS
      rw [up_same]
      try rw [hx3]
      first
        | exact WM_n hW c1 (nIm1 (a := j) (by omega))
        | exact WM_f hW c1 (Int32.not_le.mp c2) (nIm1 (a := j) (by omega))
        | exact WM_t hW c1 (Int32.not_lt.mpr c2)
    · refine xX12_outOf_43 ?_
      refine xX12_outOf_45 ?_
      refine xX12_outOf_46 (fun c2 => ?_) (fun c2 => ?_)
      · refine xX12_outOf_53 ?_
        refine xX12_outOf_54 rfl ?_
        refine xX12_outOf_56 ?_
        refine xX12_outOf_57 ?_
        refine xX12_outOf_59_t (by decide) ?_
        refine xX12_outOf_66 ?_
        refine xX12_outOf_67 (hM.1 _ _ rfl) ?_
        try rw [e43]
        refine xX12_outOf_70 (hM.1 _ _ rfl) ?_
        refine xX12_outOf_73 ?_
        refine xX12_outOf_75_t (by decide) ?_
        refine xX12_outOf_83 ?_
        refine xX12_outOf_84 rfl ?_
        refine xX12_outOf_85 rfl rfl ?_
        refine xX12_outOf_88 ?_
        refine wp_kill_4 ?_
        refine wp_kill_5 ?_
        refine ih (j + 1) _ _ _ (wgh s (nI j) (badX o (evL (lwM cs)) cN (brS o (evL (lwM cs)) cN j))) (by omega) (by rw [hx3]; exact nI_1 j) (hC.mx (hy0.mx.tr MX.u)) (hf.tr (hy0.mx.tr MX.u)) (fun m hm => by rw [up_row (by omega), hy0.b]; exact hR m hm) ?_ hS
        rw [up_same]
        try rw [hx3]
        first
          | exact WM_n hW c1 (nIm1 (a := j) (by omega))
          | exact WM_f hW c1 (Int32.not_le.mp c2) (nIm1 (a := j) (by omega))
          | exact WM_t hW c1 (Int32.not_lt.mpr c2)
      · refine xX12_outOf_49 ?_
        refine xX12_outOf_50 ?_
        refine xX12_outOf_54 rfl ?_
        refine xX12_outOf_56 ?_
        refine xX12_outOf_57 ?_
        refine xX12_outOf_59_f (by decide) ?_
        refine xX12_outOf_62 ?_
        refine xX12_outOf_63 ?_
        try rw [e43]
        refine xX12_outOf_70 (hM.1 _ _ rfl) ?_
        refine xX12_outOf_73 ?_
        refine xX12_outOf_75_f (by decide) ?_
        refine xX12_outOf_78 ?_
        refine xX12_outOf_80 ?_
        refine xX12_outOf_84 rfl ?_
        refine xX12_outOf_85 rfl rfl ?_
        refine xX12_outOf_88 ?_
        refine wp_kill_4 ?_
        refine wp_kill_5 ?_
        refine ih (j + 1) _ _ _ (wgh s (nI j) (badX o (evL (lwM cs)) cN (brS o (evL (lwM cs)) cN j))) (by omega) (by rw [hx3]; exact nI_1 j) (hC.mx (hy0.mx.tr MX.u)) (hf.tr (hy0.mx.tr MX.u)) (fun m hm => by rw [up_row (by omega), hy0.b]; exact hR m hm) ?_ hS
        rw [up_same]
        try rw [hx3]
        first
          | exact WM_n hW c1 (nIm1 (a := j) (by omega))
          | exact WM_f hW c1 (Int32.not_le.mp c2) (nIm1 (a := j) (by omega))
          | exact WM_t hW c1 (Int32.not_lt.mpr c2)
theorem s_X12_outOf {d : Nat} {sc : Nat × (Nat → Int32)} {T : List (Nat × Nat)} {rf : Nat → Nat → Option Nat} {o : OV} {nc t : Nat} {cs : Nat → List Int32} {g : Nat → Nat → Int32} {cN : Nat} {c : Int32} {F : Int32 → AH → Prop} (hC : MC T rf g o nc t cs) (hc : c = nI cN) (hcn : cN < nc) (hR : ∀ m, m ≤ nN (o 0 9) → g 73 (41 * cN + m) = brS o (evL (lwM cs)) cN m) (hQ : ∀ g2, MX g g2 → g2 53 43 = lgt (outS o (evL (lwM cs)) cN) 0 → F (lgt (outS o (evL (lwM cs)) cN) 1) (T, rf, g2)) : Mok (d + 4) 0 0 sc kX12_outOf [.ref 53, .int c] (T, rf, g) (Qi F) := by
  have hM := hC.1.1
  refine Mok.ofWp (L := [some (.ref 53), some (.int c), none, none, none, none]) rfl rfl rfl ?_
  refine xX12_outOf_0 ?_
  refine xX12_outOf_1 rfl ?_
  refine xX12_outOf_2 ?_
  refine xX12_outOf_3 ?_
  refine xX12_outOf_4 (hM.1 _ _ rfl) ?_
  refine xX12_outOf_7 ?_
  refine xX12_outOf_8 rfl ?_
  refine lp_X12_outOf hc hcn (fun g2 l h1 h2 => ?_) (nN (o 0 9) + 1) 0 _ _ _ none (by omega) rfl (hC.mx MX.u) MX.u (fun m hm => by rw [up_row (by omega)]; exact hR m hm) ⟨up_same _ _ _ _, rfl⟩ rfl
  rw [← WM_1 (w := 1) h2 (Or.inl (wff_some _ _ _ _ (Or.inr (by omega)))) (by decide)]
  exact hQ _ h1 (WM_0 h2).symm
theorem s_X12_out {d : Nat} {sc : Nat × (Nat → Int32)} {T : List (Nat × Nat)} {rf : Nat → Nat → Option Nat} {o : OV} {nc t : Nat} {cs : Nat → List Int32} {g : Nat → Nat → Int32} {c w : Int32} {F : Int32 → AH → Prop} (hC : MC T rf g o nc t cs) (hQ : ∀ g2, OEq (MOv g2) (o) nc → MV g g2 → F (outP o nc (evL (lwM cs)) c w) (T, rf, g2)) : Mok (d + 6) 0 0 sc kX12_out [.ref 53, .int c, .int w] (T, rf, g) (Qi F) := by
  obtain ⟨hB, hP⟩ := id hC
  obtain ⟨hM, hE, hV, hlw, ht6, hL⟩ := id hB
  have hn8 := hV.2.1
  have e9 : g 53 1 = nI (nN (o 0 9)) := hE.1.2.2.1.trans hV.tN.1
  have ht40 := hV.tN.2.1
  have hcn0 : g 53 3 = nI nc := hE.1.1.trans hV.1
  refine Mok.ofWp (L := [some (.ref 53), some (.int c), some (.int w), none]) rfl rfl rfl ?_
  refine xX12_out_0 ?_
  refine xX12_out_1 ?_
  refine xX12_out_2 (hM.1 _ _ rfl) rfl rfl rfl (s_X12_isCake hM hcn0 (fun hw0 => ?_) (fun nw0 => ?_))
  · obtain ⟨ecN, hcN⟩ := isC_N hw0 hn8
    refine xX12_out_5_t (by decide) ?_
    refine xX12_out_11 ?_
    refine xX12_out_12 ?_
    refine xX12_out_13 ?_
    refine xX12_out_14 rfl rfl rfl (s_X12_in  (fun hw1 => ?_) (fun nw1 => ?_))
    · refine xX12_out_17_t (by decide) ?_
      refine xX12_out_23 ?_
      refine xX12_out_24 (hM.1 _ _ rfl) rfl rfl rfl (s_X12_bakes hC (fun g2 hm2 hb2 => ?_))
      refine xX12_out_27 ?_
      refine xX12_out_28 ?_
      refine xX12_out_29 (hM.1 _ _ rfl) rfl rfl rfl (s_X12_outOf (hC.mz hm2) ecN hcN (hb2 _ hcN) (fun g3 hx3 hl3 => ?_))
      refine xX12_out_32 rfl ?_
      refine xX12_out_33 ?_
      refine xX12_out_34 (fun c34 => ?_) (fun c34 => ?_)
      · refine xX12_out_44 ?_
        refine xX12_out_45 rfl rfl ?_
        have ew : w = 0 ∨ w = 1 := by
          obtain ⟨j, hj, e⟩ := iIn (N := 1) (M := 1) rfl hw1.1 hw1.2
          rcases (by omega : j = 0 ∨ j = 1) with rfl | rfl
          · exact Or.inl e
          · exact Or.inr e
        rcases ew with rfl | rfl
        · first
            | (have q := hQ _ (hx3.mo.tr (hC.mz hm2).1.2.1) (hm2.mv.tr hx3.mv); rw [outP, if_pos hw0, if_pos hw1] at q; exact q)
            | exact absurd rfl c34
        · first
            | (have q := hQ _ (hx3.mo.tr (hC.mz hm2).1.2.1) (hm2.mv.tr hx3.mv); rw [outP, if_pos hw0, if_pos hw1] at q; exact q)
            | exact absurd c34 (by decide)
      · refine xX12_out_37 ?_
        refine xX12_out_38 (hM.1 _ _ rfl) ?_
        rw [hl3]
        refine xX12_out_41 ?_
        refine xX12_out_45 rfl rfl ?_
        have ew : w = 0 ∨ w = 1 := by
          obtain ⟨j, hj, e⟩ := iIn (N := 1) (M := 1) rfl hw1.1 hw1.2
          rcases (by omega : j = 0 ∨ j = 1) with rfl | rfl
          · exact Or.inl e
          · exact Or.inr e
        rcases ew with rfl | rfl
        · first
            | (have q := hQ _ (hx3.mo.tr (hC.mz hm2).1.2.1) (hm2.mv.tr hx3.mv); rw [outP, if_pos hw0, if_pos hw1] at q; exact q)
            | exact absurd rfl c34
        · first
            | (have q := hQ _ (hx3.mo.tr (hC.mz hm2).1.2.1) (hm2.mv.tr hx3.mv); rw [outP, if_pos hw0, if_pos hw1] at q; exact q)
            | exact absurd c34 (by decide)
    · refine xX12_out_17_f (by decide) ?_
      refine xX12_out_20 ?_
      refine xX12_out_22 rfl rfl ?_
      have q := hQ _ (hC.mz (MZ.rf)).1.2.1 (MZ.rf).mv
      rw [outP, if_pos hw0, if_neg nw1] at q
      exact q
  · refine xX12_out_5_f (by decide) ?_
    refine xX12_out_8 ?_
    refine xX12_out_10 rfl rfl ?_
    have q := hQ _ (hC.mz (MZ.rf)).1.2.1 (MZ.rf).mv
    rw [outP, if_neg nw0] at q
    exact q
theorem lp_X12_singly {d : Nat} {sc : Nat × (Nat → Int32)} {T : List (Nat × Nat)} {rf : Nat → Nat → Option Nat} {o : OV} {nc t : Nat} {cs : Nat → List Int32} {F : Int32 → AH → Prop} {g0 : Nat → Nat → Int32} (hQ : ∀ g2, OEq (MOv g2) o nc → MV g0 g2 → F (sumI (fun c => lgt (outS o (evL (lwM cs)) c) 1) nc) (T, rf, g2)) : ∀ (k j : Nat) (x1 x2 : Int32) (g : Nat → Nat → Int32), (j + k = nc) → (x2 = nI j) → (x1 = sumI (fun c => lgt (outS o (evL (lwM cs)) c) 1) j) → (MC T rf g o nc t cs) → (MV g0 g) → (BRm g o (evL (lwM cs)) nc) → Wp (d + 6) 0 0 sc kX12_singly (Qi F) 8 [some (.ref 53), some (.int x1), some (.int x2)] [] (T, rf, g) 0 0 := by
  intro k
  induction k with
  | zero =>
    intro j x1 x2 g hj hx2 hx1 hC hf hR
    obtain ⟨hB, hP⟩ := id hC
    obtain ⟨hM, hE, hV, hlw, ht6, hL⟩ := id hB
    have hn8 := hV.2.1
    have e9 : g 53 1 = nI (nN (o 0 9)) := hE.1.2.2.1.trans hV.tN.1
    have ht40 := hV.tN.2.1
    have hcn0 : g 53 3 = nI nc := hE.1.1.trans hV.1
    refine xX12_singly_8 ?_
    refine xX12_singly_9 ?_
    refine xX12_singly_10 (hM.1 _ _ rfl) ?_
    rw [hcn0]
    refine xX12_singly_13_t (by rw [hx2]; exact nI_le (by omega) (by omega)) ?_
    refine xX12_singly_30 ?_
    refine xX12_singly_31 rfl rfl ?_
    have e : j = nc := by omega
    subst e
    rw [hx1]
    exact hQ _ hE hf
  | succ k ih =>
    intro j x1 x2 g hj hx2 hx1 hC hf hR
    obtain ⟨hB, hP⟩ := id hC
    obtain ⟨hM, hE, hV, hlw, ht6, hL⟩ := id hB
    have hn8 := hV.2.1
    have e9 : g 53 1 = nI (nN (o 0 9)) := hE.1.2.2.1.trans hV.tN.1
    have ht40 := hV.tN.2.1
    have hcn0 : g 53 3 = nI nc := hE.1.1.trans hV.1
    refine xX12_singly_8 ?_
    refine xX12_singly_9 ?_
    refine xX12_singly_10 (hM.1 _ _ rfl) ?_
    rw [hcn0]
    refine xX12_singly_13_f (by rw [hx2]; exact nI_ge (by omega) (by omega)) ?_
    refine xX12_singly_16 ?_
    refine xX12_singly_17 ?_
    refine xX12_singly_18 ?_
    refine xX12_singly_19 (hM.1 _ _ rfl) rfl rfl rfl (s_X12_outOf hC hx2 (by omega) (hR j (by omega)) (fun g0 hx0 hl0 => ?_))
    refine xX12_singly_22 ?_
    refine xX12_singly_23 rfl ?_
    refine xX12_singly_24 rfl rfl ?_
    refine xX12_singly_27 ?_
    exact ih (j + 1) _ _ _ (by omega) (by rw [hx2]; exact nI_1 j) (by rw [hx1]; rfl) (hC.mx hx0) (hf.tr hx0.mv) (hR.row hx0.b)
theorem s_X12_singly {d : Nat} {sc : Nat × (Nat → Int32)} {T : List (Nat × Nat)} {rf : Nat → Nat → Option Nat} {o : OV} {nc t : Nat} {cs : Nat → List Int32} {g : Nat → Nat → Int32} {F : Int32 → AH → Prop} (hC : MC T rf g o nc t cs) (hQ : ∀ g2, OEq (MOv g2) (o) nc → MV g g2 → F (singlyP o nc (evL (lwM cs))) (T, rf, g2)) : Mok (d + 6) 0 0 sc kX12_singly [.ref 53] (T, rf, g) (Qi F) := by
  have hM := hC.1.1
  refine Mok.ofWp (L := [some (.ref 53), none, none]) rfl rfl rfl ?_
  refine xX12_singly_0 ?_
  refine xX12_singly_1 (hM.1 _ _ rfl) rfl rfl rfl (s_X12_bakes hC (fun g0 hm0 hb0 => ?_))
  refine xX12_singly_4 ?_
  refine xX12_singly_5 rfl ?_
  refine xX12_singly_6 ?_
  refine xX12_singly_7 rfl ?_
  exact lp_X12_singly hQ nc 0 _ _ _ (by omega) rfl rfl (hC.mz hm0) hm0.mv hb0
theorem lp_X12_soon {d : Nat} {sc : Nat × (Nat → Int32)} {T : List (Nat × Nat)} {rf : Nat → Nat → Option Nat} {o : OV} {nc t : Nat} {cs : Nat → List Int32} {g : Nat → Nat → Int32} {cN : Nat} {c b S : Int32} {F : Int32 → AH → Prop} (hC : MC T rf g o nc t cs) (hc : c = nI cN) (hcn : cN < nc) (hR : ∀ m, m ≤ nN (o 0 9) → g 73 (41 * cN + m) = brS o (evL (lwM cs)) cN m) (hQ : F S (T, rf, g)) : ∀ (k j : Nat) (x3 : Int32), (j + k = nN (o 0 9) + 1) → (x3 = nI j) → (S = scan (fun m => b ≤ brS o (evL (lwM cs)) cN m) k j) → Wp d 0 0 sc kX12_soon (Qi F) 31 [some (.ref 53), some (.int c), some (.int b), some (.int x3)] [] (T, rf, g) 0 0 := by
  intro k
  induction k with
  | zero =>
    intro j x3 hj hx3 hS
    obtain ⟨hB, hP⟩ := id hC
    obtain ⟨hM, hE, hV, hlw, ht6, hL⟩ := id hB
    have hn8 := hV.2.1
    have e9 : g 53 1 = nI (nN (o 0 9)) := hE.1.2.2.1.trans hV.tN.1
    have ht40 := hV.tN.2.1
    have hcn0 : g 53 3 = nI nc := hE.1.1.trans hV.1
    refine xX12_soon_31 ?_
    refine xX12_soon_32 ?_
    refine xX12_soon_33 (hM.1 _ _ rfl) ?_
    rw [e9]
    refine xX12_soon_36_t (by rw [hx3]; exact nI_lt (by omega) (by omega)) ?_
    refine xX12_soon_62 ?_
    refine xX12_soon_63 rfl rfl ?_
    rw [hS] at hQ
    exact hQ
  | succ k ih =>
    intro j x3 hj hx3 hS
    obtain ⟨hB, hP⟩ := id hC
    obtain ⟨hM, hE, hV, hlw, ht6, hL⟩ := id hB
    have hn8 := hV.2.1
    have e9 : g 53 1 = nI (nN (o 0 9)) := hE.1.2.2.1.trans hV.tN.1
    have ht40 := hV.tN.2.1
    have hcn0 : g 53 3 = nI nc := hE.1.1.trans hV.1
    refine xX12_soon_31 ?_
    refine xX12_soon_32 ?_
    refine xX12_soon_33 (hM.1 _ _ rfl) ?_
    rw [e9]
    refine xX12_soon_36_f (by rw [hx3]; exact Int32.not_lt.mpr (nI_le (by omega) (by omega))) ?_
    refine xX12_soon_39 ?_
    refine xX12_soon_40 (hM.1 _ _ rfl) (hM.2 _ _ _ rfl) ?_
    refine xX12_soon_43 ?_
    refine xX12_soon_45 ?_
    refine xX12_soon_46 ?_
    refine xX12_soon_47 ?_
    refine xX12_soon_48 ?_
    refine xX12_soon_49 (j := (41 * cN + j)) (hM.1 _ _ rfl) (by rw [hc, hx3]; exact i41 (by omega) (by omega)) (by omega) rfl ?_
    refine xX12_soon_50 ?_
    rw [hR j (by omega)]
    refine xX12_soon_51 (fun c51 => ?_) (fun c51 => ?_)
    · have e : scan (fun m => b ≤ brS o (evL (lwM cs)) cN m) (k + 1) j = scan (fun m => b ≤ brS o (evL (lwM cs)) cN m) k (j + 1) := scan_no (p := (fun m => b ≤ brS o (evL (lwM cs)) cN m)) (Int32.not_le.mpr c51)
      refine xX12_soon_56 rfl rfl ?_
      refine xX12_soon_59 ?_
      exact ih (j + 1) _ (by omega) (by rw [hx3]; exact nI_1 _) (hS.trans e)
    · have e : scan (fun m => b ≤ brS o (evL (lwM cs)) cN m) (k + 1) j = nI j := scan_yes (p := (fun m => b ≤ brS o (evL (lwM cs)) cN m)) (Int32.not_lt.mp c51)
      refine xX12_soon_54 ?_
      refine xX12_soon_55 rfl rfl ?_
      rw [hx3, ← e, ← hS]
      exact hQ
theorem s_X12_soon {d : Nat} {sc : Nat × (Nat → Int32)} {T : List (Nat × Nat)} {rf : Nat → Nat → Option Nat} {o : OV} {nc t : Nat} {cs : Nat → List Int32} {g : Nat → Nat → Int32} {c b : Int32} {F : Int32 → AH → Prop} (hC : MC T rf g o nc t cs) (hQ : ∀ g2, OEq (MOv g2) (o) nc → MV g g2 → F (soonP o nc (evL (lwM cs)) c b) (T, rf, g2)) : Mok (d + 6) 0 0 sc kX12_soon [.ref 53, .int c, .int b] (T, rf, g) (Qi F) := by
  obtain ⟨hB, hP⟩ := id hC
  obtain ⟨hM, hE, hV, hlw, ht6, hL⟩ := id hB
  have hn8 := hV.2.1
  have e9 : g 53 1 = nI (nN (o 0 9)) := hE.1.2.2.1.trans hV.tN.1
  have ht40 := hV.tN.2.1
  have hcn0 : g 53 3 = nI nc := hE.1.1.trans hV.1
  refine Mok.ofWp (L := [some (.ref 53), some (.int c), some (.int b), none]) rfl rfl rfl ?_
  refine xX12_soon_0 ?_
  refine xX12_soon_1 ?_
  refine xX12_soon_2 (hM.1 _ _ rfl) rfl rfl rfl (s_X12_isCake hM hcn0 (fun hw0 => ?_) (fun nw0 => ?_))
  · obtain ⟨ecN, hcN⟩ := isC_N hw0 hn8
    refine xX12_soon_5_t (by decide) ?_
    refine xX12_soon_11 ?_
    refine xX12_soon_12 ?_
    refine xX12_soon_13 ?_
    refine xX12_soon_16 rfl rfl rfl (s_X12_in  (fun hw1 => ?_) (fun nw1 => ?_))
    · refine xX12_soon_19_t (by decide) ?_
      refine xX12_soon_25 ?_
      refine xX12_soon_26 (hM.1 _ _ rfl) rfl rfl rfl (s_X12_bakes hC (fun g2 hm2 hb2 => ?_))
      refine xX12_soon_29 ?_
      refine xX12_soon_30 rfl ?_
      refine lp_X12_soon (hC.mz hm2) ecN hcN (hb2 _ hcN) ?_ (nN (o 0 9) + 1) 0 _ (by omega) rfl rfl
      have q := hQ _ (hC.mz hm2).1.2.1 hm2.mv
      rw [soonP, if_pos hw0, if_pos hw1] at q
      exact q
    · refine xX12_soon_19_f (by decide) ?_
      refine xX12_soon_22 ?_
      refine xX12_soon_24 rfl rfl ?_
      have q := hQ _ (hC.mz (MZ.rf)).1.2.1 (MZ.rf).mv
      rw [soonP, if_pos hw0, if_neg nw1] at q
      exact q
  · refine xX12_soon_5_f (by decide) ?_
    refine xX12_soon_8 ?_
    refine xX12_soon_10 rfl rfl ?_
    have q := hQ _ (hC.mz (MZ.rf)).1.2.1 (MZ.rf).mv
    rw [soonP, if_neg nw0] at q
    exact q
