/-- no two cakes on one place -/
def PD (o : OV) (nc : Nat) : Prop := ∀ a b, a < nc → b < nc → o 5 a = o 5 b → a = b
theorem on_own {o : OV} {nc c : Nat} (h : PD o nc) (hc : c < nc) (hn : nc ≤ 8) : onP o nc (o 5 c) = nI c := by
  rcases scan_in (p := fun a => o 5 a = o 5 c) nc 0 with z | ⟨a, h1, h2, h3, h4⟩
  · exfalso
    have : ∀ k j, j ≤ c → c < j + k → scan (fun a => o 5 a = o 5 c) k j ≠ -1 := by
      intro k
      induction k with
      | zero => intro j _ _; omega
      | succ k ih =>
        intro j h1 h2
        by_cases q : o 5 j = o 5 c
        · rw [scan_yes (p := fun a => o 5 a = o 5 c) q]; exact nIm1 (by omega)
        · rw [scan_no (p := fun a => o 5 a = o 5 c) q]
          refine ih (j + 1) ?_ (by omega)
          rcases Nat.lt_or_ge j c with y | y
          · omega
          · exact absurd (by rw [show j = c by omega]) q
    exact this nc 0 (Nat.zero_le _) (by omega) z
  · have := h a c (by omega) hc h3
    subst this
    exact h4
theorem layF_some {o : OV} {nc : Nat} {ev : EV} {c : Int32} : ∀ (k j : Nat) (s : Option (Int32 × Int32)), (s ≠ none ∨ ∃ i, j ≤ i ∧ i < j + k ∧ (onP o nc (nI i) = -1 ∨ onP o nc (nI i) = c)) → layF o nc ev c k j s ≠ none := by
  intro k
  induction k with
  | zero => intro j s h; rcases h with h | ⟨i, h1, h2, -⟩; exact h; omega
  | succ k ih =>
    intro j s h
    by_cases q : onP o nc (nI j) = -1 ∨ onP o nc (nI j) = c
    · rw [layF_yes q]; exact ih (j + 1) _ (Or.inl (wgh_some _ _ _))
    · rw [layF_no q]
      refine ih (j + 1) _ (h.imp_right (fun ⟨i, h1, h2, h3⟩ => ⟨i, ?_, by omega, h3⟩))
      rcases Nat.lt_or_ge j i with y | y
      · omega
      · exact absurd (by rw [show j = i by omega]; exact h3) q
-- plans
/-- the plan's first opening beside -/
def PEq (x o : OV) (nc : Nat) : Prop := ∀ a b, OEq (pl x 0 a b) (pl o 0 a b) nc
theorem PEq.of {x o : OV} {nc : Nat} (h : OEq x o nc) : PEq x o nc := fun _ _ => h.pl
theorem PEq_pl {x y o : OV} {nc : Nat} {a b : Int32} (h : PEq x o nc) (e : OEq y (pl x 0 a b) nc) : PEq y o nc := fun a2 b2 => by
  have := OEq.pl (k := 0) (a := a2) (b := b2) e
  rw [pl_pl] at this
  exact this.tr (h a2 b2)
def PEq2 (x o : OV) (nc : Nat) : Prop := ∀ a b c d, OEq (pl (pl x 0 a b) 1 c d) (pl (pl o 0 a b) 1 c d) nc
theorem PEq2.of {x o : OV} {nc : Nat} (h : OEq x o nc) : PEq2 x o nc := fun _ _ _ _ => h.pl.pl
theorem PEq2_pl {x y o : OV} {nc : Nat} {a b c d : Int32} (h : PEq2 x o nc) (e : OEq y (pl (pl x 0 a b) 1 c d) nc) : PEq2 y o nc := fun a2 b2 c2 d2 => by
  have := OEq.pl (k := 1) (a := c2) (b := d2) (OEq.pl (k := 0) (a := a2) (b := b2) e)
  rw [pl_pl2] at this
  exact this.tr (h a2 b2 c2 d2)
/-- all but the plan alike -/
def OEr (x o : OV) (nc : Nat) : Prop := (x 0 5 = o 0 5 ∧ x 0 9 = o 0 9 ∧ x 0 10 = o 0 10 ∧ x 0 11 = o 0 11) ∧ (∀ i, i < 16 → x 1 i = o 1 i) ∧ ∀ c, c < nc → x 2 c = o 2 c ∧ x 3 c = o 3 c ∧ x 4 c = o 4 c ∧ x 5 c = o 5 c
theorem pl_ne {o : OV} {k r c : Nat} {a b : Int32} (h : r ≠ 6) (h1 : r ≠ 7) (h2 : ¬ (r = 0 ∧ c = 8)) : pl o k a b r c = o r c := by
  unfold pl
  rw [up_ne (fun z => h2 ⟨z.1, z.2⟩), up_ne (fun z => h1 z.1), up_ne (fun z => h z.1)]
theorem PEq.r {x o : OV} {nc : Nat} (h : PEq x o nc) : OEr x o nc := by
  obtain ⟨⟨a1, a2, a3, a4, a5⟩, b, c, d⟩ := h 0 0
  rw [pl_ne (by omega) (by omega) (by omega), pl_ne (by omega) (by omega) (by omega)] at a1 a3 a4 a5
  refine ⟨⟨a1, a3, a4, a5⟩, fun i hi => ?_, fun i hi => ?_⟩
  · have := b i hi
    rw [pl_ne (by omega) (by omega) (by omega), pl_ne (by omega) (by omega) (by omega)] at this
    exact this
  · obtain ⟨c1, c2, c3, c4⟩ := c i hi
    rw [pl_ne (by omega) (by omega) (by omega), pl_ne (by omega) (by omega) (by omega)] at c1 c2 c3 c4
    exact ⟨c1, c2, c3, c4⟩
theorem PEq2.r {x o : OV} {nc : Nat} (h : PEq2 x o nc) : OEr x o nc := by
  obtain ⟨⟨a1, a2, a3, a4, a5⟩, b, c, d⟩ := h 0 0 0 0
  rw [pl_ne (by omega) (by omega) (by omega), pl_ne (by omega) (by omega) (by omega), pl_ne (by omega) (by omega) (by omega), pl_ne (by omega) (by omega) (by omega)] at a1 a3 a4 a5
  refine ⟨⟨a1, a3, a4, a5⟩, fun i hi => ?_, fun i hi => ?_⟩
  · have := b i hi
    rw [pl_ne (by omega) (by omega) (by omega), pl_ne (by omega) (by omega) (by omega), pl_ne (by omega) (by omega) (by omega), pl_ne (by omega) (by omega) (by omega)] at this
    exact this
  · obtain ⟨c1, c2, c3, c4⟩ := c i hi
    rw [pl_ne (by omega) (by omega) (by omega), pl_ne (by omega) (by omega) (by omega), pl_ne (by omega) (by omega) (by omega), pl_ne (by omega) (by omega) (by omega)] at c1 c2 c3 c4
    exact ⟨c1, c2, c3, c4⟩
/-- the plan kept beside -/
def KPl (g : Nat → Nat → Int32) (o : OV) : Prop := g 53 42 = o 0 8 ∧ ∀ k, k < 6 → g 74 k = o 6 k ∧ g 75 k = o 7 k
theorem KPl.mz {g g' : Nat → Nat → Int32} {o : OV} (h : KPl g o) (hf : MZ g g') : KPl g' o := by
  unfold KPl
  rw [hf 53 (by omega) (by omega) (by omega), hf 74 (by omega) (by omega) (by omega), hf 75 (by omega) (by omega) (by omega)]
  exact h
theorem KPl.e {g g' : Nat → Nat → Int32} {o : OV} (h : KPl g o) (h1 : g' 74 = g 74) (h2 : g' 75 = g 75) (h3 : g' 53 42 = g 53 42) : KPl g' o := by
  unfold KPl
  rw [h1, h2, h3]
  exact h
theorem PI_pl {o : OV} {nc : Nat} {a b : Int32} : PI (pl o 0 a b) := by
  intro i j hi hj
  have : pl o 0 a b 0 8 = nI 1 := up_same _ _ _ _
  rw [this, nN_nI (by omega)] at hj
  omega
theorem PI_pl2 {o : OV} {a b : Nat} {c d : Int32} (h : a < b) (hb : b < 100) : PI (pl (pl o 0 (nI a) c) 1 (nI b) d) := by
  intro i j hi hj
  have : pl (pl o 0 (nI a) c) 1 (nI b) d 0 8 = nI 2 := up_same _ _ _ _
  rw [this, nN_nI (by omega)] at hj
  obtain ⟨rfl, rfl⟩ : i = 0 ∧ j = 1 := by omega
  have e1 : pl (pl o 0 (nI a) c) 1 (nI b) d 6 1 = nI b := by unfold pl; simp [up]
  have e0 : pl (pl o 0 (nI a) c) 1 (nI b) d 6 0 = nI a := by unfold pl; simp [up]
  rw [e0, e1, nN_nI (by omega), nN_nI (by omega)]
  exact h
theorem lp_X12_lay {d : Nat} {sc : Nat × (Nat → Int32)} {T : List (Nat × Nat)} {rf : Nat → Nat → Option Nat} {o : OV} {nc t : Nat} {cs : Nat → List Int32} {g0 : Nat → Nat → Int32} {F : Int32 → AH → Prop} {c w x3 : Int32} {S : Option (Int32 × Int32)} (hD : PD o nc) (ecN : c = nI (nN c)) (hcN : nN c < nc) (hx3 : x3 = o 5 (nN c)) (hS0 : S ≠ none) (hQ : ∀ g2, OEq (MOv g2) o nc → MV g0 g2 → F (lgt S w) (T, rf, g2)) : ∀ (k j : Nat) (x4 x5 x6 : Int32) (g : Nat → Nat → Int32) (s : Option (Int32 × Int32)), (j + k = 16) → (x6 = nI j) → (MC T rf g o nc t cs) → (MV g0 g) → (WM 0 s x4 x5) → (layF o nc (evL (lwM cs)) c k j s = S) → Wp (d + 5) 0 0 sc kX12_lay (Qi F) 39 [some (.ref 53), some (.int c), some (.int w), some (.int x3), some (.int x4), some (.int x5), some (.int x6), none, none, none] [] (T, rf, g) 0 0 := by
  intro k
  induction k with
  | zero =>
    intro j x4 x5 x6 g s hj hx6 hC hf hW hS
    obtain ⟨hB, hP⟩ := id hC
    obtain ⟨hM, hE, hV, hlw, ht6, hL⟩ := id hB
    have hn8 := hV.2.1
    have e9 : g 53 1 = nI (nN (o 0 9)) := hE.1.2.2.1.trans hV.tN.1
    have ht40 := hV.tN.2.1
    have hcn0 : g 53 3 = nI nc := hE.1.1.trans hV.1
    subst hx6
    refine xX12_lay_39 ?_
    refine xX12_lay_41 ?_
    refine xX12_lay_43_t (nI_le (a := 16) (by omega) (by omega)) ?_
    refine xX12_lay_158 ?_
    refine xX12_lay_159 (fun cw => ?_) (fun cw => ?_)
    · refine xX12_lay_167 ?_
      refine xX12_lay_169 rfl rfl ?_
      have q := hQ _ hE hf
      have hS9 : s = S := hS
      subst hS9
      first
        | (rw [cw, WM_0 hW] at q; exact q)
        | (rw [WM_1 hW (Or.inl hS0) cw] at q; exact q)
    · refine xX12_lay_162 ?_
      refine xX12_lay_164 ?_
      refine xX12_lay_169 rfl rfl ?_
      have q := hQ _ hE hf
      have hS9 : s = S := hS
      subst hS9
      first
        | (rw [cw, WM_0 hW] at q; exact q)
        | (rw [WM_1 hW (Or.inl hS0) cw] at q; exact q)
  | succ k ih =>
    intro j x4 x5 x6 g s hj hx6 hC hf hW hS
    obtain ⟨hB, hP⟩ := id hC
    obtain ⟨hM, hE, hV, hlw, ht6, hL⟩ := id hB
    have hn8 := hV.2.1
    have e9 : g 53 1 = nI (nN (o 0 9)) := hE.1.2.2.1.trans hV.tN.1
    have ht40 := hV.tN.2.1
    have hcn0 : g 53 3 = nI nc := hE.1.1.trans hV.1
    subst hx6
    refine xX12_lay_39 ?_
    refine xX12_lay_41 ?_
    refine xX12_lay_43_f (nI_ge (b := 16) (by omega) (by omega)) ?_
    refine xX12_lay_46 ?_
    refine xX12_lay_47 ?_
    refine xX12_lay_49 (hM.1 _ _ rfl) rfl rfl rfl (s_X12_whoOn hB ?_)
    refine xX12_lay_52 rfl ?_
    refine xX12_lay_54 ?_
    refine xX12_lay_56 ?_
    refine xX12_lay_57 (fun c57 => ?_) (fun c57 => ?_)
    · have hy : onP o nc (nI j) = -1 ∨ onP o nc (nI j) = c := Or.inr (by rw [c57, hx3, on_own hD hcN hn8]; exact ecN.symm)
      refine xX12_lay_72 ?_
      refine xX12_lay_73 (hM.1 _ _ rfl) (hM.2 _ _ _ rfl) ?_
      refine xX12_lay_76 ?_
      refine xX12_lay_77 ?_
      refine xX12_lay_79 (j := (nN c)) (hM.1 _ _ rfl) ecN (by omega) rfl ?_
      refine xX12_lay_80 ?_
      refine xX12_lay_81 ?_
      have h1 := mcE (g := up g 58 (nN c) (nI j)) hM (MO_5.tr hE.up) (OVk_pc (v := j) (by omega) hV) (PI_up hP (by omega) (by omega)) (by rw [up_ne (by omega)]; exact hlw) ht6 (hL.mv (MV.pu (by omega)))
      refine xX12_lay_82 (hM.1 _ _ rfl) rfl rfl rfl (s_X12_bakesOne h1 ecN hcN (fun g1 hm1 hb1 ho1 => ?_))
      refine xX12_lay_85 ?_
      refine xX12_lay_86 ?_
      refine xX12_lay_87 ?_
      refine xX12_lay_88 ?_
      refine xX12_lay_89 (hM.1 _ _ rfl) rfl rfl rfl (s_X12_endOf (h1.mz hm1) ecN hcN (hb1 _ (Nat.le_refl _)) ?_)
      obtain ⟨bN, hb9, eb⟩ := brS_nat (lw := lwM cs) h1.1.2.2.1 hcN (nN ((up o 5 (nN c) (nI j)) 0 9))
      refine xX12_lay_92 (hM.1 _ _ rfl) rfl rfl rfl (s_X12_badBy (h1.mz hm1) ecN hcN eb hb9 (fun g3 hy3 => ?_))
      refine xX12_lay_95 rfl ?_
      refine xX12_lay_97 ?_
      refine xX12_lay_98 (hM.1 _ _ rfl) (hM.2 _ _ _ rfl) ?_
      refine xX12_lay_101 ?_
      refine xX12_lay_102 ?_
      refine xX12_lay_103 (j := (nN c)) (hM.1 _ _ rfl) ecN (by omega) rfl ?_
      refine xX12_lay_104 ?_
      refine xX12_lay_106 ?_
      refine xX12_lay_107 (fun c1 => ?_) (fun c1 => ?_)
      · refine xX12_lay_117 ?_
        refine xX12_lay_118 ?_
        refine xX12_lay_122 rfl ?_
        refine xX12_lay_124 ?_
        refine xX12_lay_126_f (by decide) ?_
        refine xX12_lay_129 ?_
        refine xX12_lay_131 ?_
        refine xX12_lay_136 rfl ?_
        refine xX12_lay_138 ?_
        refine xX12_lay_140_f (by decide) ?_
        refine xX12_lay_143 ?_
        refine xX12_lay_145 ?_
        refine xX12_lay_150 rfl ?_
        refine xX12_lay_152 rfl rfl ?_
        refine xX12_lay_155 ?_
        refine wp_kill_7 ?_
        refine wp_kill_8 ?_
        refine wp_kill_9 ?_
        have hz := hm1.tr hy3.mz
        have hE9 : OEq (MOv (up g3 58 (nN c) x3)) o nc := MO_5.tr (by rw [hz.mo, hx3]; exact (UEq_put (UEq.of hE) MO_5).back)
        have hf9 : MV g (up g3 58 (nN c) x3) := ((MV.pu (by omega)).tr hz.mv).tr (MV.pu (by omega))
        refine ih (j + 1) _ _ _ _ (wgh s (nI j) (badX (up o 5 (nN c) (nI j)) (evL (lwM cs)) (nN c) (endB (up o 5 (nN c) (nI j)) (evL (lwM cs)) (nN c)))) (by omega) (nI_1 _) (hC.mv hE9 hV hP hlw ht6 (hL.mv hf9)) (hf.tr hf9) ?_ (by rw [layF_yes hy] at hS; exact hS)
        first
          | exact WM_n hW c1 (nIm1 (a := j) (by omega))
          | exact WM_f hW c1 (Int32.not_le.mp c2) (nIm1 (a := j) (by omega))
          | exact WM_t hW c1 (Int32.not_lt.mpr c2)
      · refine xX12_lay_110 ?_
        refine xX12_lay_112 ?_
        refine xX12_lay_114 (fun c2 => ?_) (fun c2 => ?_)
        · refine xX12_lay_121 ?_
          refine xX12_lay_122 rfl ?_
          refine xX12_lay_124 ?_
          refine xX12_lay_126_t (by decide) ?_
          refine xX12_lay_134 ?_
          refine xX12_lay_136 rfl ?_
          refine xX12_lay_138 ?_
          refine xX12_lay_140_t (by decide) ?_
          refine xX12_lay_148 ?_
          refine xX12_lay_150 rfl ?_
          refine xX12_lay_152 rfl rfl ?_
          refine xX12_lay_155 ?_
          refine wp_kill_7 ?_
          refine wp_kill_8 ?_
          refine wp_kill_9 ?_
          have hz := hm1.tr hy3.mz
          have hE9 : OEq (MOv (up g3 58 (nN c) x3)) o nc := MO_5.tr (by rw [hz.mo, hx3]; exact (UEq_put (UEq.of hE) MO_5).back)
          have hf9 : MV g (up g3 58 (nN c) x3) := ((MV.pu (by omega)).tr hz.mv).tr (MV.pu (by omega))
          refine ih (j + 1) _ _ _ _ (wgh s (nI j) (badX (up o 5 (nN c) (nI j)) (evL (lwM cs)) (nN c) (endB (up o 5 (nN c) (nI j)) (evL (lwM cs)) (nN c)))) (by omega) (nI_1 _) (hC.mv hE9 hV hP hlw ht6 (hL.mv hf9)) (hf.tr hf9) ?_ (by rw [layF_yes hy] at hS; exact hS)
          first
            | exact WM_n hW c1 (nIm1 (a := j) (by omega))
            | exact WM_f hW c1 (Int32.not_le.mp c2) (nIm1 (a := j) (by omega))
            | exact WM_t hW c1 (Int32.not_lt.mpr c2)
        · refine xX12_lay_117 ?_
          refine xX12_lay_118 ?_
          refine xX12_lay_122 rfl ?_
          refine xX12_lay_124 ?_
          refine xX12_lay_126_f (by decide) ?_
          refine xX12_lay_129 ?_
          refine xX12_lay_131 ?_
          refine xX12_lay_136 rfl ?_
          refine xX12_lay_138 ?_
          refine xX12_lay_140_f (by decide) ?_
          refine xX12_lay_143 ?_
          refine xX12_lay_145 ?_
          refine xX12_lay_150 rfl ?_
          refine xX12_lay_152 rfl rfl ?_
          refine xX12_lay_155 ?_
          refine wp_kill_7 ?_
          refine wp_kill_8 ?_
          refine wp_kill_9 ?_
          have hz := hm1.tr hy3.mz
          have hE9 : OEq (MOv (up g3 58 (nN c) x3)) o nc := MO_5.tr (by rw [hz.mo, hx3]; exact (UEq_put (UEq.of hE) MO_5).back)
          have hf9 : MV g (up g3 58 (nN c) x3) := ((MV.pu (by omega)).tr hz.mv).tr (MV.pu (by omega))
          refine ih (j + 1) _ _ _ _ (wgh s (nI j) (badX (up o 5 (nN c) (nI j)) (evL (lwM cs)) (nN c) (endB (up o 5 (nN c) (nI j)) (evL (lwM cs)) (nN c)))) (by omega) (nI_1 _) (hC.mv hE9 hV hP hlw ht6 (hL.mv hf9)) (hf.tr hf9) ?_ (by rw [layF_yes hy] at hS; exact hS)
          first
            | exact WM_n hW c1 (nIm1 (a := j) (by omega))
            | exact WM_f hW c1 (Int32.not_le.mp c2) (nIm1 (a := j) (by omega))
            | exact WM_t hW c1 (Int32.not_lt.mpr c2)
    · refine xX12_lay_60 ?_
      refine xX12_lay_62 ?_
      refine xX12_lay_63 (fun c63 => ?_) (fun c63 => ?_)
      · have hy : onP o nc (nI j) = -1 ∨ onP o nc (nI j) = c := Or.inl c63
        refine xX12_lay_72 ?_
        refine xX12_lay_73 (hM.1 _ _ rfl) (hM.2 _ _ _ rfl) ?_
        refine xX12_lay_76 ?_
        refine xX12_lay_77 ?_
        refine xX12_lay_79 (j := (nN c)) (hM.1 _ _ rfl) ecN (by omega) rfl ?_
        refine xX12_lay_80 ?_
        refine xX12_lay_81 ?_
        have h1 := mcE (g := up g 58 (nN c) (nI j)) hM (MO_5.tr hE.up) (OVk_pc (v := j) (by omega) hV) (PI_up hP (by omega) (by omega)) (by rw [up_ne (by omega)]; exact hlw) ht6 (hL.mv (MV.pu (by omega)))
        refine xX12_lay_82 (hM.1 _ _ rfl) rfl rfl rfl (s_X12_bakesOne h1 ecN hcN (fun g4 hm4 hb4 ho4 => ?_))
        refine xX12_lay_85 ?_
        refine xX12_lay_86 ?_
        refine xX12_lay_87 ?_
        refine xX12_lay_88 ?_
        refine xX12_lay_89 (hM.1 _ _ rfl) rfl rfl rfl (s_X12_endOf (h1.mz hm4) ecN hcN (hb4 _ (Nat.le_refl _)) ?_)
        obtain ⟨bN, hb9, eb⟩ := brS_nat (lw := lwM cs) h1.1.2.2.1 hcN (nN ((up o 5 (nN c) (nI j)) 0 9))
        refine xX12_lay_92 (hM.1 _ _ rfl) rfl rfl rfl (s_X12_badBy (h1.mz hm4) ecN hcN eb hb9 (fun g6 hy6 => ?_))
        refine xX12_lay_95 rfl ?_
        refine xX12_lay_97 ?_
        refine xX12_lay_98 (hM.1 _ _ rfl) (hM.2 _ _ _ rfl) ?_
        refine xX12_lay_101 ?_
        refine xX12_lay_102 ?_
        refine xX12_lay_103 (j := (nN c)) (hM.1 _ _ rfl) ecN (by omega) rfl ?_
        refine xX12_lay_104 ?_
        refine xX12_lay_106 ?_
        refine xX12_lay_107 (fun c1 => ?_) (fun c1 => ?_)
        · refine xX12_lay_117 ?_
          refine xX12_lay_118 ?_
          refine xX12_lay_122 rfl ?_
          refine xX12_lay_124 ?_
          refine xX12_lay_126_f (by decide) ?_
          refine xX12_lay_129 ?_
          refine xX12_lay_131 ?_
          refine xX12_lay_136 rfl ?_
          refine xX12_lay_138 ?_
          refine xX12_lay_140_f (by decide) ?_
          refine xX12_lay_143 ?_
          refine xX12_lay_145 ?_
          refine xX12_lay_150 rfl ?_
          refine xX12_lay_152 rfl rfl ?_
          refine xX12_lay_155 ?_
          refine wp_kill_7 ?_
          refine wp_kill_8 ?_
          refine wp_kill_9 ?_
          have hz := hm4.tr hy6.mz
          have hE9 : OEq (MOv (up g6 58 (nN c) x3)) o nc := MO_5.tr (by rw [hz.mo, hx3]; exact (UEq_put (UEq.of hE) MO_5).back)
          have hf9 : MV g (up g6 58 (nN c) x3) := ((MV.pu (by omega)).tr hz.mv).tr (MV.pu (by omega))
          refine ih (j + 1) _ _ _ _ (wgh s (nI j) (badX (up o 5 (nN c) (nI j)) (evL (lwM cs)) (nN c) (endB (up o 5 (nN c) (nI j)) (evL (lwM cs)) (nN c)))) (by omega) (nI_1 _) (hC.mv hE9 hV hP hlw ht6 (hL.mv hf9)) (hf.tr hf9) ?_ (by rw [layF_yes hy] at hS; exact hS)
          first
            | exact WM_n hW c1 (nIm1 (a := j) (by omega))
            | exact WM_f hW c1 (Int32.not_le.mp c2) (nIm1 (a := j) (by omega))
            | exact WM_t hW c1 (Int32.not_lt.mpr c2)
        · refine xX12_lay_110 ?_
          refine xX12_lay_112 ?_
          refine xX12_lay_114 (fun c2 => ?_) (fun c2 => ?_)
          · refine xX12_lay_121 ?_
            refine xX12_lay_122 rfl ?_
            refine xX12_lay_124 ?_
            refine xX12_lay_126_t (by decide) ?_
            refine xX12_lay_134 ?_
            refine xX12_lay_136 rfl ?_
            refine xX12_lay_138 ?_
            refine xX12_lay_140_t (by decide) ?_
            refine xX12_lay_148 ?_
            refine xX12_lay_150 rfl ?_
            refine xX12_lay_152 rfl rfl ?_
            refine xX12_lay_155 ?_
            refine wp_kill_7 ?_
            refine wp_kill_8 ?_
            refine wp_kill_9 ?_
            have hz := hm4.tr hy6.mz
            have hE9 : OEq (MOv (up g6 58 (nN c) x3)) o nc := MO_5.tr (by rw [hz.mo, hx3]; exact (UEq_put (UEq.of hE) MO_5).back)
            have hf9 : MV g (up g6 58 (nN c) x3) := ((MV.pu (by omega)).tr hz.mv).tr (MV.pu (by omega))
            refine ih (j + 1) _ _ _ _ (wgh s (nI j) (badX (up o 5 (nN c) (nI j)) (evL (lwM cs)) (nN c) (endB (up o 5 (nN c) (nI j)) (evL (lwM cs)) (nN c)))) (by omega) (nI_1 _) (hC.mv hE9 hV hP hlw ht6 (hL.mv hf9)) (hf.tr hf9) ?_ (by rw [layF_yes hy] at hS; exact hS)
            first
              | exact WM_n hW c1 (nIm1 (a := j) (by omega))
              | exact WM_f hW c1 (Int32.not_le.mp c2) (nIm1 (a := j) (by omega))
              | exact WM_t hW c1 (Int32.not_lt.mpr c2)
          · refine xX12_lay_117 ?_
            refine xX12_lay_118 ?_
            refine xX12_lay_122 rfl ?_
            refine xX12_lay_124 ?_
            refine xX12_lay_126_f (by decide) ?_
            refine xX12_lay_129 ?_
            refine xX12_lay_131 ?_
            refine xX12_lay_136 rfl ?_
            refine xX12_lay_138 ?_
            refine xX12_lay_140_f (by decide) ?_
            refine xX12_lay_143 ?_
            refine xX12_lay_145 ?_
            refine xX12_lay_150 rfl ?_
            refine xX12_lay_152 rfl rfl ?_
            refine xX12_lay_155 ?_
            refine wp_kill_7 ?_
            refine wp_kill_8 ?_
            refine wp_kill_9 ?_
            have hz := hm4.tr hy6.mz
            have hE9 : OEq (MOv (up g6 58 (nN c) x3)) o nc := MO_5.tr (by rw [hz.mo, hx3]; exact (UEq_put (UEq.of hE) MO_5).back)
            have hf9 : MV g (up g6 58 (nN c) x3) := ((MV.pu (by omega)).tr hz.mv).tr (MV.pu (by omega))
            refine ih (j + 1) _ _ _ _ (wgh s (nI j) (badX (up o 5 (nN c) (nI j)) (evL (lwM cs)) (nN c) (endB (up o 5 (nN c) (nI j)) (evL (lwM cs)) (nN c)))) (by omega) (nI_1 _) (hC.mv hE9 hV hP hlw ht6 (hL.mv hf9)) (hf.tr hf9) ?_ (by rw [layF_yes hy] at hS; exact hS)
            first
              | exact WM_n hW c1 (nIm1 (a := j) (by omega))
              | exact WM_f hW c1 (Int32.not_le.mp c2) (nIm1 (a := j) (by omega))
              | exact WM_t hW c1 (Int32.not_lt.mpr c2)
      · refine xX12_lay_66 ?_
        refine xX12_lay_68 ?_
        refine xX12_lay_69 (fun c69 => ?_) (fun c69 => ?_)
        · have hy : ¬ (onP o nc (nI j) = -1 ∨ onP o nc (nI j) = c) := fun z => z.elim c63 c69
          refine xX12_lay_152 rfl rfl ?_
          refine xX12_lay_155 ?_
          refine wp_kill_7 ?_
          exact ih (j + 1) _ _ _ _ s (by omega) (nI_1 _) hC hf hW (by rw [layF_no hy] at hS; exact hS)
        · have hy : onP o nc (nI j) = -1 ∨ onP o nc (nI j) = c := Or.inr c69
          refine xX12_lay_72 ?_
          refine xX12_lay_73 (hM.1 _ _ rfl) (hM.2 _ _ _ rfl) ?_
          refine xX12_lay_76 ?_
          refine xX12_lay_77 ?_
          refine xX12_lay_79 (j := (nN c)) (hM.1 _ _ rfl) ecN (by omega) rfl ?_
          refine xX12_lay_80 ?_
          refine xX12_lay_81 ?_
          have h1 := mcE (g := up g 58 (nN c) (nI j)) hM (MO_5.tr hE.up) (OVk_pc (v := j) (by omega) hV) (PI_up hP (by omega) (by omega)) (by rw [up_ne (by omega)]; exact hlw) ht6 (hL.mv (MV.pu (by omega)))
          refine xX12_lay_82 (hM.1 _ _ rfl) rfl rfl rfl (s_X12_bakesOne h1 ecN hcN (fun g7 hm7 hb7 ho7 => ?_))
          refine xX12_lay_85 ?_
          refine xX12_lay_86 ?_
          refine xX12_lay_87 ?_
          refine xX12_lay_88 ?_
          refine xX12_lay_89 (hM.1 _ _ rfl) rfl rfl rfl (s_X12_endOf (h1.mz hm7) ecN hcN (hb7 _ (Nat.le_refl _)) ?_)
          obtain ⟨bN, hb9, eb⟩ := brS_nat (lw := lwM cs) h1.1.2.2.1 hcN (nN ((up o 5 (nN c) (nI j)) 0 9))
          refine xX12_lay_92 (hM.1 _ _ rfl) rfl rfl rfl (s_X12_badBy (h1.mz hm7) ecN hcN eb hb9 (fun g9 hy9 => ?_))
          refine xX12_lay_95 rfl ?_
          refine xX12_lay_97 ?_
          refine xX12_lay_98 (hM.1 _ _ rfl) (hM.2 _ _ _ rfl) ?_
          refine xX12_lay_101 ?_
          refine xX12_lay_102 ?_
          refine xX12_lay_103 (j := (nN c)) (hM.1 _ _ rfl) ecN (by omega) rfl ?_
          refine xX12_lay_104 ?_
          refine xX12_lay_106 ?_
          refine xX12_lay_107 (fun c1 => ?_) (fun c1 => ?_)
          · refine xX12_lay_117 ?_
            refine xX12_lay_118 ?_
            refine xX12_lay_122 rfl ?_
            refine xX12_lay_124 ?_
            refine xX12_lay_126_f (by decide) ?_
            refine xX12_lay_129 ?_
            refine xX12_lay_131 ?_
            refine xX12_lay_136 rfl ?_
            refine xX12_lay_138 ?_
            refine xX12_lay_140_f (by decide) ?_
            refine xX12_lay_143 ?_
            refine xX12_lay_145 ?_
            refine xX12_lay_150 rfl ?_
            refine xX12_lay_152 rfl rfl ?_
            refine xX12_lay_155 ?_
            refine wp_kill_7 ?_
            refine wp_kill_8 ?_
            refine wp_kill_9 ?_
            have hz := hm7.tr hy9.mz
            have hE9 : OEq (MOv (up g9 58 (nN c) x3)) o nc := MO_5.tr (by rw [hz.mo, hx3]; exact (UEq_put (UEq.of hE) MO_5).back)
            have hf9 : MV g (up g9 58 (nN c) x3) := ((MV.pu (by omega)).tr hz.mv).tr (MV.pu (by omega))
            refine ih (j + 1) _ _ _ _ (wgh s (nI j) (badX (up o 5 (nN c) (nI j)) (evL (lwM cs)) (nN c) (endB (up o 5 (nN c) (nI j)) (evL (lwM cs)) (nN c)))) (by omega) (nI_1 _) (hC.mv hE9 hV hP hlw ht6 (hL.mv hf9)) (hf.tr hf9) ?_ (by rw [layF_yes hy] at hS; exact hS)
            first
              | exact WM_n hW c1 (nIm1 (a := j) (by omega))
              | exact WM_f hW c1 (Int32.not_le.mp c2) (nIm1 (a := j) (by omega))
              | exact WM_t hW c1 (Int32.not_lt.mpr c2)
          · refine xX12_lay_110 ?_
            refine xX12_lay_112 ?_
            refine xX12_lay_114 (fun c2 => ?_) (fun c2 => ?_)
            · refine xX12_lay_121 ?_
              refine xX12_lay_122 rfl ?_
              refine xX12_lay_124 ?_
              refine xX12_lay_126_t (by decide) ?_
              refine xX12_lay_134 ?_
              refine xX12_lay_136 rfl ?_
              refine xX12_lay_138 ?_
              refine xX12_lay_140_t (by decide) ?_
              refine xX12_lay_148 ?_
              refine xX12_lay_150 rfl ?_
              refine xX12_lay_152 rfl rfl ?_
              refine xX12_lay_155 ?_
              refine wp_kill_7 ?_
              refine wp_kill_8 ?_
              refine wp_kill_9 ?_
              have hz := hm7.tr hy9.mz
              have hE9 : OEq (MOv (up g9 58 (nN c) x3)) o nc := MO_5.tr (by rw [hz.mo, hx3]; exact (UEq_put (UEq.of hE) MO_5).back)
              have hf9 : MV g (up g9 58 (nN c) x3) := ((MV.pu (by omega)).tr hz.mv).tr (MV.pu (by omega))
              refine ih (j + 1) _ _ _ _ (wgh s (nI j) (badX (up o 5 (nN c) (nI j)) (evL (lwM cs)) (nN c) (endB (up o 5 (nN c) (nI j)) (evL (lwM cs)) (nN c)))) (by omega) (nI_1 _) (hC.mv hE9 hV hP hlw ht6 (hL.mv hf9)) (hf.tr hf9) ?_ (by rw [layF_yes hy] at hS; exact hS)
              first
                | exact WM_n hW c1 (nIm1 (a := j) (by omega))
                | exact WM_f hW c1 (Int32.not_le.mp c2) (nIm1 (a := j) (by omega))
                | exact WM_t hW c1 (Int32.not_lt.mpr c2)
            · refine xX12_lay_117 ?_
              refine xX12_lay_118 ?_
              refine xX12_lay_122 rfl ?_
              refine xX12_lay_124 ?_
              refine xX12_lay_126_f (by decide) ?_
              refine xX12_lay_129 ?_
              refine xX12_lay_131 ?_
              refine xX12_lay_136 rfl ?_
              refine xX12_lay_138 ?_
              refine xX12_lay_140_f (by decide) ?_
              refine xX12_lay_143 ?_
              refine xX12_lay_145 ?_
              refine xX12_lay_150 rfl ?_
              refine xX12_lay_152 rfl rfl ?_
              refine xX12_lay_155 ?_
              refine wp_kill_7 ?_
              refine wp_kill_8 ?_
              refine wp_kill_9 ?_
              have hz := hm7.tr hy9.mz
              have hE9 : OEq (MOv (up g9 58 (nN c) x3)) o nc := MO_5.tr (by rw [hz.mo, hx3]; exact (UEq_put (UEq.of hE) MO_5).back)
              have hf9 : MV g (up g9 58 (nN c) x3) := ((MV.pu (by omega)).tr hz.mv).tr (MV.pu (by omega))
              refine ih (j + 1) _ _ _ _ (wgh s (nI j) (badX (up o 5 (nN c) (nI j)) (evL (lwM cs)) (nN c) (endB (up o 5 (nN c) (nI j)) (evL (lwM cs)) (nN c)))) (by omega) (nI_1 _) (hC.mv hE9 hV hP hlw ht6 (hL.mv hf9)) (hf.tr hf9) ?_ (by rw [layF_yes hy] at hS; exact hS)
              first
                | exact WM_n hW c1 (nIm1 (a := j) (by omega))
                | exact WM_f hW c1 (Int32.not_le.mp c2) (nIm1 (a := j) (by omega))
                | exact WM_t hW c1 (Int32.not_lt.mpr c2)
theorem s_X12_lay {d : Nat} {sc : Nat × (Nat → Int32)} {T : List (Nat × Nat)} {rf : Nat → Nat → Option Nat} {o : OV} {nc t : Nat} {cs : Nat → List Int32} {g : Nat → Nat → Int32} {c w : Int32} {F : Int32 → AH → Prop} (hC : MC T rf g o nc t cs) (hD : PD o nc) (hQ : ∀ g2, OEq (MOv g2) (o) nc → MV g g2 → F (layP o nc (evL (lwM cs)) c w) (T, rf, g2)) : Mok (d + 5) 0 0 sc kX12_lay [.ref 53, .int c, .int w] (T, rf, g) (Qi F) := by
  obtain ⟨hB, hP⟩ := id hC
  obtain ⟨hM, hE, hV, hlw, ht6, hL⟩ := id hB
  have hn8 := hV.2.1
  have e9 : g 53 1 = nI (nN (o 0 9)) := hE.1.2.2.1.trans hV.tN.1
  have ht40 := hV.tN.2.1
  have hcn0 : g 53 3 = nI nc := hE.1.1.trans hV.1
  refine Mok.ofWp (L := [some (.ref 53), some (.int c), some (.int w), none, none, none, none, none, none, none]) rfl rfl rfl ?_
  refine xX12_lay_0 ?_
  refine xX12_lay_1 ?_
  refine xX12_lay_2 (hM.1 _ _ rfl) rfl rfl rfl (s_X12_isCake hM hcn0 (fun hw0 => ?_) (fun nw0 => ?_))
  · obtain ⟨ecN, hcN⟩ := isC_N hw0 hn8
    refine xX12_lay_5_t (by decide) ?_
    refine xX12_lay_11 ?_
    refine xX12_lay_12 ?_
    refine xX12_lay_13 ?_
    refine xX12_lay_14 rfl rfl rfl (s_X12_in  (fun hw1 => ?_) (fun nw1 => ?_))
    · refine xX12_lay_17_t (by decide) ?_
      refine xX12_lay_23 ?_
      refine xX12_lay_24 (hM.1 _ _ rfl) (hM.2 _ _ _ rfl) ?_
      refine xX12_lay_27 ?_
      refine xX12_lay_28 (j := (nN c)) (hM.1 _ _ rfl) ecN (by omega) rfl ?_
      refine xX12_lay_29 rfl ?_
      refine xX12_lay_30 ?_
      refine xX12_lay_31 rfl ?_
      refine xX12_lay_33 ?_
      refine xX12_lay_34 rfl ?_
      refine xX12_lay_36 ?_
      refine xX12_lay_37 rfl ?_
      have e5 : g 58 (nN c) = o 5 (nN c) := (hE.2.2.1 _ hcN).2.2.2
      have hp5 := hV.plN hcN
      refine lp_X12_lay hD ecN hcN e5 (layF_some 16 0 none (Or.inr ⟨nN (o 5 (nN c)), Nat.zero_le _, by omega, Or.inr (by rw [← hp5.1, on_own hD hcN hn8]; exact ecN.symm)⟩)) (fun g2 h1 h2 => ?_) 16 0 _ _ _ _ none (by omega) rfl hC MV.rf ⟨rfl, rfl⟩ rfl
      have q := hQ _ h1 h2
      rw [layP, if_pos hw0, if_pos hw1] at q
      exact q
    · refine xX12_lay_17_f (by decide) ?_
      refine xX12_lay_20 ?_
      refine xX12_lay_22 rfl rfl ?_
      have q := hQ _ (hC.mz (MZ.rf)).1.2.1 (MZ.rf).mv
      rw [layP, if_pos hw0, if_neg nw1] at q
      exact q
  · refine xX12_lay_5_f (by decide) ?_
    refine xX12_lay_8 ?_
    refine xX12_lay_10 rfl rfl ?_
    have q := hQ _ (hC.mz (MZ.rf)).1.2.1 (MZ.rf).mv
    rw [layP, if_neg nw0] at q
    exact q
theorem s_X12_swaps {d : Nat} {sc : Nat × (Nat → Int32)} {T : List (Nat × Nat)} {rf : Nat → Nat → Option Nat} {g : Nat → Nat → Int32} {o : OV} {nc : Nat} {a b : Nat} {x1 x2 : Int32} {F : AH → Prop} (hM : MS T rf) (hE : OEq (MOv g) o nc) (hn8 : nc ≤ 8) (h1 : x1 = nI a) (h2 : x2 = nI b) (ha : a < nc) (hb : b < nc) (hQ : ∀ g2, OEq (MOv g2) (sw o a b) nc → MV g g2 → F (T, rf, g2)) : Mok d 0 0 sc kX12_swaps [.ref 53, .int x1, .int x2] (T, rf, g) (Qv F) := by
  refine Mok.ofWp (L := [some (.ref 53), some (.int x1), some (.int x2), none]) rfl rfl rfl ?_
  refine xX12_swaps_0 ?_
  refine xX12_swaps_1 (hM.1 _ _ rfl) (hM.2 _ _ _ rfl) ?_
  refine xX12_swaps_4 ?_
  refine xX12_swaps_5 (j := a) (hM.1 _ _ rfl) h1 (by omega) rfl ?_
  refine xX12_swaps_6 rfl ?_
  refine xX12_swaps_7 ?_
  refine xX12_swaps_8 (hM.1 _ _ rfl) (hM.2 _ _ _ rfl) ?_
  refine xX12_swaps_11 ?_
  refine xX12_swaps_12 ?_
  refine xX12_swaps_13 (hM.1 _ _ rfl) (hM.2 _ _ _ rfl) ?_
  refine xX12_swaps_16 ?_
  refine xX12_swaps_17 (j := b) (hM.1 _ _ rfl) h2 (by omega) rfl ?_
  refine xX12_swaps_18 (j := a) (hM.1 _ _ rfl) h1 (by omega) rfl ?_
  refine xX12_swaps_19 ?_
  refine xX12_swaps_20 (hM.1 _ _ rfl) (hM.2 _ _ _ rfl) ?_
  refine xX12_swaps_23 ?_
  refine xX12_swaps_24 ?_
  refine xX12_swaps_25 (j := b) (hM.1 _ _ rfl) h2 (by omega) rfl ?_
  refine xX12_swaps_26 rfl rfl ?_
  exact hQ _ (by rw [sw, ← show g 58 b = o 5 b from (hE.2.2.1 _ hb).2.2.2, ← show g 58 a = o 5 a from (hE.2.2.1 _ ha).2.2.2]; exact MO_5.tr (MO_5.tr hE.up).up) ((MV.pu (by omega)).tr (MV.pu (by omega)))
theorem lp_X12_swap1 {d : Nat} {sc : Nat × (Nat → Int32)} {T : List (Nat × Nat)} {rf : Nat → Nat → Option Nat} {o : OV} {nc t : Nat} {cs : Nat → List Int32} {g0 : Nat → Nat → Int32} {F : Int32 → AH → Prop} {w x4 : Int32} {m : Nat} {S : Option (Int32 × Int32)} (hx4 : x4 = nI m) (hm : m < nc) (hQ : ∀ x2 x3 g, MC T rf g o nc t cs → MV g0 g → some (x2, x3) = S → Wp (d + 7) 0 0 sc kX12_swap (Qi F) 106 [some (.ref 53), some (.int w), some (.int x2), some (.int x3), some (.int x4), none, none] [] (T, rf, g) 0 0) : ∀ (k j : Nat) (x2 x3 x5 : Int32) (g : Nat → Nat → Int32), (j + k = nc) → (m < j) → (x5 = nI j) → (MC T rf g o nc t cs) → (MV g0 g) → (wff (sw1 o nc (evL (lwM cs)) m) k j (some (x2, x3)) = S) → Wp (d + 7) 0 0 sc kX12_swap (Qi F) 37 [some (.ref 53), some (.int w), some (.int x2), some (.int x3), some (.int x4), some (.int x5), none] [] (T, rf, g) 0 0 := by
  intro k
  induction k with
  | zero =>
    intro j x2 x3 x5 g hj hmj hx5 hC hf hZ
    obtain ⟨hB, hP⟩ := id hC
    obtain ⟨hM, hE, hV, hlw, ht6, hL⟩ := id hB
    have hn8 := hV.2.1
    have e9 : g 53 1 = nI (nN (o 0 9)) := hE.1.2.2.1.trans hV.tN.1
    have ht40 := hV.tN.2.1
    have hcn0 : g 53 3 = nI nc := hE.1.1.trans hV.1
    subst hx5
    subst hx4
    refine xX12_swap_37 ?_
    refine xX12_swap_39 ?_
    refine xX12_swap_40 (hM.1 _ _ rfl) ?_
    rw [hcn0]
    refine xX12_swap_43_t (nI_le (by omega) (by omega)) ?_
    refine wp_kill_5 ?_
    exact hQ _ _ _ hC hf hZ
  | succ k ih =>
    intro j x2 x3 x5 g hj hmj hx5 hC hf hZ
    obtain ⟨hB, hP⟩ := id hC
    obtain ⟨hM, hE, hV, hlw, ht6, hL⟩ := id hB
    have hn8 := hV.2.1
    have e9 : g 53 1 = nI (nN (o 0 9)) := hE.1.2.2.1.trans hV.tN.1
    have ht40 := hV.tN.2.1
    have hcn0 : g 53 3 = nI nc := hE.1.1.trans hV.1
    subst hx5
    subst hx4
    refine xX12_swap_37 ?_
    refine xX12_swap_39 ?_
    refine xX12_swap_40 (hM.1 _ _ rfl) ?_
    rw [hcn0]
    refine xX12_swap_43_f (nI_ge (by omega) (by omega)) ?_
    refine xX12_swap_46 ?_
    refine xX12_swap_47 ?_
    refine xX12_swap_49 ?_
    refine xX12_swap_51 (hM.1 _ _ rfl) rfl rfl rfl (s_X12_swaps hM hE hn8 rfl rfl hm (by omega) (fun g0 he0 hv0 => ?_))
    refine xX12_swap_54 ?_
    have h1 := mcE hM he0 (OVk_sw hV hm (by omega)) (by unfold sw; exact PI_up (PI_up hP (by omega) (by omega)) (by omega) (by omega)) (by unfold sw; rw [up_ne (by omega), up_ne (by omega)]; exact hlw) ht6 (hL.mv hv0)
    refine xX12_swap_55 (hM.1 _ _ rfl) rfl rfl rfl (s_X12_badNow h1 (fun g1 hm1 hb1 => ?_))
    refine xX12_swap_58 rfl ?_
    refine xX12_swap_60 ?_
    refine xX12_swap_61 ?_
    refine xX12_swap_63 ?_
    have hE2 := (h1.mz hm1).1.2.1
    refine xX12_swap_65 (hM.1 _ _ rfl) rfl rfl rfl (s_X12_swaps hM hE2 hn8 rfl rfl hm (by omega) (fun g2 he2 hv2 => ?_))
    refine xX12_swap_68 ?_
    refine xX12_swap_70 ?_
    refine xX12_swap_71 (fun c71 => ?_) (fun c71 => ?_)
    · refine xX12_swap_85 ?_
      refine xX12_swap_86 rfl ?_
      refine xX12_swap_87 ?_
      refine xX12_swap_89 ?_
      refine xX12_swap_90 (fun c90 => ?_) (fun c90 => ?_)
      · refine xX12_swap_98 ?_
        refine xX12_swap_99 rfl ?_
        refine xX12_swap_100 rfl rfl ?_
        refine xX12_swap_103 ?_
        refine wp_kill_6 ?_
        have hf9 := (hv0.tr hm1.mv).tr hv2
        have hE9 : OEq (MOv g2) o nc := by
          have := he2
          rw [sw_sw (by omega)] at this
          exact this
        have h9 := hC.mv hE9 hV hP hlw ht6 (hL.mv hf9)
        first
          | exact absurd c71 c90
          | exact absurd c90 c71
          | exact ih (j + 1) _ _ _ _ (by omega) (by omega) (nI_1 _) h9 (hf.tr hf9) (by rw [← hZ]; show _ = wff (sw1 o nc (evL (lwM cs)) m) k (j + 1) (if (badP (sw o m j) (evL (lwM cs)) nc) < x3 then some (10 * nI m + nI j, (badP (sw o m j) (evL (lwM cs)) nc)) else some (x2, x3)); rw [if_neg (Int32.not_lt.mpr c71)])
          | exact ih (j + 1) _ _ _ _ (by omega) (by omega) (nI_1 _) h9 (hf.tr hf9) (by rw [← hZ]; show _ = wff (sw1 o nc (evL (lwM cs)) m) k (j + 1) (if (badP (sw o m j) (evL (lwM cs)) nc) < x3 then some (10 * nI m + nI j, (badP (sw o m j) (evL (lwM cs)) nc)) else some (x2, x3)); rw [if_pos (Int32.not_le.mp c71)])
      · refine xX12_swap_93 ?_
        refine xX12_swap_95 ?_
        refine xX12_swap_99 rfl ?_
        refine xX12_swap_100 rfl rfl ?_
        refine xX12_swap_103 ?_
        refine wp_kill_6 ?_
        have hf9 := (hv0.tr hm1.mv).tr hv2
        have hE9 : OEq (MOv g2) o nc := by
          have := he2
          rw [sw_sw (by omega)] at this
          exact this
        have h9 := hC.mv hE9 hV hP hlw ht6 (hL.mv hf9)
        first
          | exact absurd c71 c90
          | exact absurd c90 c71
          | exact ih (j + 1) _ _ _ _ (by omega) (by omega) (nI_1 _) h9 (hf.tr hf9) (by rw [← hZ]; show _ = wff (sw1 o nc (evL (lwM cs)) m) k (j + 1) (if (badP (sw o m j) (evL (lwM cs)) nc) < x3 then some (10 * nI m + nI j, (badP (sw o m j) (evL (lwM cs)) nc)) else some (x2, x3)); rw [if_neg (Int32.not_lt.mpr c71)])
          | exact ih (j + 1) _ _ _ _ (by omega) (by omega) (nI_1 _) h9 (hf.tr hf9) (by rw [← hZ]; show _ = wff (sw1 o nc (evL (lwM cs)) m) k (j + 1) (if (badP (sw o m j) (evL (lwM cs)) nc) < x3 then some (10 * nI m + nI j, (badP (sw o m j) (evL (lwM cs)) nc)) else some (x2, x3)); rw [if_pos (Int32.not_le.mp c71)])
    · refine xX12_swap_74 ?_
      refine xX12_swap_76 ?_
      refine xX12_swap_78 ?_
      refine xX12_swap_79 ?_
      refine xX12_swap_81 ?_
      refine xX12_swap_82 ?_
      refine xX12_swap_86 rfl ?_
      refine xX12_swap_87 ?_
      refine xX12_swap_89 ?_
      refine xX12_swap_90 (fun c90 => ?_) (fun c90 => ?_)
      · refine xX12_swap_98 ?_
        refine xX12_swap_99 rfl ?_
        refine xX12_swap_100 rfl rfl ?_
        refine xX12_swap_103 ?_
        refine wp_kill_6 ?_
        have hf9 := (hv0.tr hm1.mv).tr hv2
        have hE9 : OEq (MOv g2) o nc := by
          have := he2
          rw [sw_sw (by omega)] at this
          exact this
        have h9 := hC.mv hE9 hV hP hlw ht6 (hL.mv hf9)
        first
          | exact absurd c71 c90
          | exact absurd c90 c71
          | exact ih (j + 1) _ _ _ _ (by omega) (by omega) (nI_1 _) h9 (hf.tr hf9) (by rw [← hZ]; show _ = wff (sw1 o nc (evL (lwM cs)) m) k (j + 1) (if (badP (sw o m j) (evL (lwM cs)) nc) < x3 then some (10 * nI m + nI j, (badP (sw o m j) (evL (lwM cs)) nc)) else some (x2, x3)); rw [if_neg (Int32.not_lt.mpr c71)])
          | exact ih (j + 1) _ _ _ _ (by omega) (by omega) (nI_1 _) h9 (hf.tr hf9) (by rw [← hZ]; show _ = wff (sw1 o nc (evL (lwM cs)) m) k (j + 1) (if (badP (sw o m j) (evL (lwM cs)) nc) < x3 then some (10 * nI m + nI j, (badP (sw o m j) (evL (lwM cs)) nc)) else some (x2, x3)); rw [if_pos (Int32.not_le.mp c71)])
      · refine xX12_swap_93 ?_
        refine xX12_swap_95 ?_
        refine xX12_swap_99 rfl ?_
        refine xX12_swap_100 rfl rfl ?_
        refine xX12_swap_103 ?_
        refine wp_kill_6 ?_
        have hf9 := (hv0.tr hm1.mv).tr hv2
        have hE9 : OEq (MOv g2) o nc := by
          have := he2
          rw [sw_sw (by omega)] at this
          exact this
        have h9 := hC.mv hE9 hV hP hlw ht6 (hL.mv hf9)
        first
          | exact absurd c71 c90
          | exact absurd c90 c71
          | exact ih (j + 1) _ _ _ _ (by omega) (by omega) (nI_1 _) h9 (hf.tr hf9) (by rw [← hZ]; show _ = wff (sw1 o nc (evL (lwM cs)) m) k (j + 1) (if (badP (sw o m j) (evL (lwM cs)) nc) < x3 then some (10 * nI m + nI j, (badP (sw o m j) (evL (lwM cs)) nc)) else some (x2, x3)); rw [if_neg (Int32.not_lt.mpr c71)])
          | exact ih (j + 1) _ _ _ _ (by omega) (by omega) (nI_1 _) h9 (hf.tr hf9) (by rw [← hZ]; show _ = wff (sw1 o nc (evL (lwM cs)) m) k (j + 1) (if (badP (sw o m j) (evL (lwM cs)) nc) < x3 then some (10 * nI m + nI j, (badP (sw o m j) (evL (lwM cs)) nc)) else some (x2, x3)); rw [if_pos (Int32.not_le.mp c71)])
theorem lp_X12_swap {d : Nat} {sc : Nat × (Nat → Int32)} {T : List (Nat × Nat)} {rf : Nat → Nat → Option Nat} {o : OV} {nc t : Nat} {cs : Nat → List Int32} {g0 : Nat → Nat → Int32} {F : Int32 → AH → Prop} {w : Int32} {S : Option (Int32 × Int32)} (hQ : ∀ g2, OEq (MOv g2) o nc → MV g0 g2 → F (lgt S w) (T, rf, g2)) : ∀ (k j : Nat) (x2 x3 x4 : Int32) (g : Nat → Nat → Int32), (j + k = nc) → (x4 = nI j) → (MC T rf g o nc t cs) → (MV g0 g) → (sw2 o nc (evL (lwM cs)) nc k j (some (x2, x3)) = S) → Wp (d + 7) 0 0 sc kX12_swap (Qi F) 22 [some (.ref 53), some (.int w), some (.int x2), some (.int x3), some (.int x4), none, none] [] (T, rf, g) 0 0 := by
  intro k
  induction k with
  | zero =>
    intro j x2 x3 x4 g hj hx4 hC hf hZ
    obtain ⟨hB, hP⟩ := id hC
    obtain ⟨hM, hE, hV, hlw, ht6, hL⟩ := id hB
    have hn8 := hV.2.1
    have e9 : g 53 1 = nI (nN (o 0 9)) := hE.1.2.2.1.trans hV.tN.1
    have ht40 := hV.tN.2.1
    have hcn0 : g 53 3 = nI nc := hE.1.1.trans hV.1
    refine xX12_swap_22 ?_
    refine xX12_swap_24 ?_
    refine xX12_swap_25 (hM.1 _ _ rfl) ?_
    rw [hcn0]
    refine xX12_swap_28_t (by rw [hx4]; exact nI_le (by omega) (by omega)) ?_
    refine xX12_swap_112 ?_
    refine xX12_swap_113 (fun cw => ?_) (fun cw => ?_)
    · refine xX12_swap_120 ?_
      refine xX12_swap_121 rfl rfl ?_
      have q := hQ _ hE hf
      have hS9 : some (x2, x3) = S := hZ
      subst hS9
      first
        | (rw [cw] at q; exact q)
        | (rw [show lgt (some (x2, x3)) w = x3 from if_neg cw] at q; exact q)
    · refine xX12_swap_116 ?_
      refine xX12_swap_117 ?_
      refine xX12_swap_121 rfl rfl ?_
      have q := hQ _ hE hf
      have hS9 : some (x2, x3) = S := hZ
      subst hS9
      first
        | (rw [cw] at q; exact q)
        | (rw [show lgt (some (x2, x3)) w = x3 from if_neg cw] at q; exact q)
  | succ k ih =>
    intro j x2 x3 x4 g hj hx4 hC hf hZ
    obtain ⟨hB, hP⟩ := id hC
    obtain ⟨hM, hE, hV, hlw, ht6, hL⟩ := id hB
    have hn8 := hV.2.1
    have e9 : g 53 1 = nI (nN (o 0 9)) := hE.1.2.2.1.trans hV.tN.1
    have ht40 := hV.tN.2.1
    have hcn0 : g 53 3 = nI nc := hE.1.1.trans hV.1
    refine xX12_swap_22 ?_
    refine xX12_swap_24 ?_
    refine xX12_swap_25 (hM.1 _ _ rfl) ?_
    rw [hcn0]
    refine xX12_swap_28_f (by rw [hx4]; exact nI_ge (by omega) (by omega)) ?_
    refine xX12_swap_31 ?_
    refine xX12_swap_33 ?_
    refine xX12_swap_34 ?_
    refine xX12_swap_35 rfl ?_
    refine lp_X12_swap1 hx4 (by omega) (S := wff (sw1 o nc (evL (lwM cs)) j) (nc - (j + 1)) (j + 1) (some (x2, x3))) (fun y2 y3 g9 h1 h2 h3 => ?_) (nc - (j + 1)) (j + 1) _ _ _ _ (by omega) (by omega) (by rw [hx4]; exact nI_1 _) hC hf rfl
    refine xX12_swap_106 rfl rfl ?_
    refine xX12_swap_109 ?_
    exact ih (j + 1) _ _ _ _ (by omega) (by rw [hx4]; exact nI_1 _) h1 h2 (by rw [h3]; exact hZ)
theorem s_X12_swap {d : Nat} {sc : Nat × (Nat → Int32)} {T : List (Nat × Nat)} {rf : Nat → Nat → Option Nat} {o : OV} {nc t : Nat} {cs : Nat → List Int32} {g : Nat → Nat → Int32} {w : Int32} {F : Int32 → AH → Prop} (hC : MC T rf g o nc t cs) (hQ : ∀ g2, OEq (MOv g2) (o) nc → MV g g2 → F (swapP o nc (evL (lwM cs)) w) (T, rf, g2)) : Mok (d + 7) 0 0 sc kX12_swap [.ref 53, .int w] (T, rf, g) (Qi F) := by
  obtain ⟨hB, hP⟩ := id hC
  obtain ⟨hM, hE, hV, hlw, ht6, hL⟩ := id hB
  have hn8 := hV.2.1
  have e9 : g 53 1 = nI (nN (o 0 9)) := hE.1.2.2.1.trans hV.tN.1
  have ht40 := hV.tN.2.1
  have hcn0 : g 53 3 = nI nc := hE.1.1.trans hV.1
  refine Mok.ofWp (L := [some (.ref 53), some (.int w), none, none, none, none, none]) rfl rfl rfl ?_
  refine xX12_swap_0 ?_
  refine xX12_swap_1 ?_
  refine xX12_swap_2 ?_
  refine xX12_swap_3 rfl rfl rfl (s_X12_in  (fun hw0 => ?_) (fun nw0 => ?_))
  · refine xX12_swap_6_t (by decide) ?_
    refine xX12_swap_12 ?_
    refine xX12_swap_13 rfl ?_
    refine xX12_swap_14 ?_
    refine xX12_swap_15 (hM.1 _ _ rfl) rfl rfl rfl (s_X12_badNow hC (fun g1 hm1 hb1 => ?_))
    refine xX12_swap_18 rfl ?_
    refine xX12_swap_19 ?_
    refine xX12_swap_20 rfl ?_
    refine lp_X12_swap (fun g2 h1 h2 => ?_) nc 0 _ _ _ _ (by omega) rfl (hC.mz hm1) hm1.mv rfl
    have q := hQ _ h1 h2
    rw [swapP, if_pos hw0] at q
    exact q
  · refine xX12_swap_6_f (by decide) ?_
    refine xX12_swap_9 ?_
    refine xX12_swap_11 rfl rfl ?_
    have q := hQ _ (hC.mz (MZ.rf)).1.2.1 (MZ.rf).mv
    rw [swapP, if_neg nw0] at q
    exact q
