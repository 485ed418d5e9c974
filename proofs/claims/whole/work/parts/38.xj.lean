def layF (o : OV) (nc : Nat) (ev : EV) (c : Int32) : Nat → Nat → Option (Int32 × Int32) → Option (Int32 × Int32)
  | 0, _, s => s
  | k + 1, j, s => if onP o nc (nI j) = -1 ∨ onP o nc (nI j) = c then layF o nc ev c k (j + 1) (wgh s (nI j) (badX (up o 5 (nN c) (nI j)) ev (nN c) (endB (up o 5 (nN c) (nI j)) ev (nN c)))) else layF o nc ev c k (j + 1) s
theorem layF_yes {o : OV} {nc k j : Nat} {ev : EV} {c : Int32} {s : Option (Int32 × Int32)} (h : onP o nc (nI j) = -1 ∨ onP o nc (nI j) = c) : layF o nc ev c (k + 1) j s = layF o nc ev c k (j + 1) (wgh s (nI j) (badX (up o 5 (nN c) (nI j)) ev (nN c) (endB (up o 5 (nN c) (nI j)) ev (nN c)))) := if_pos h
theorem layF_no {o : OV} {nc k j : Nat} {ev : EV} {c : Int32} {s : Option (Int32 × Int32)} (h : ¬ (onP o nc (nI j) = -1 ∨ onP o nc (nI j) = c)) : layF o nc ev c (k + 1) j s = layF o nc ev c k (j + 1) s := if_neg h
def layP (o : OV) (nc : Nat) (ev : EV) (c w : Int32) : Int32 := if 0 ≤ c ∧ c ≤ nI nc - 1 then (if 0 ≤ w ∧ w ≤ 1 then lgt (layF o nc ev c 16 0 none) w else -7) else -5
def sw (o : OV) (a b : Nat) : OV := up (up o 5 a (o 5 b)) 5 b (o 5 a)
theorem sw_sw {o : OV} {a b : Nat} (h : a ≠ b) : sw (sw o a b) a b = o := by
  have e1 : sw o a b 5 a = o 5 b := by unfold sw; rw [up_ne (by omega), up_same]
  have e2 : sw o a b 5 b = o 5 a := up_same _ _ _ _
  show up (up (sw o a b) 5 a (sw o a b 5 b)) 5 b (sw o a b 5 a) = o
  rw [e1, e2]
  funext r k
  unfold sw up
  by_cases q1 : r = 5 ∧ k = b
  · simp only [if_pos q1]; rw [q1.1, q1.2]
  · by_cases q2 : r = 5 ∧ k = a
    · simp only [if_neg q1, if_pos q2]; rw [q2.1, q2.2]
    · simp only [if_neg q1, if_neg q2]
theorem OEq_sw {x y : OV} {nc a b : Nat} (h : OEq x y nc) (ha : a < nc) (hb : b < nc) : OEq (sw x a b) (sw y a b) nc := by
  have e1 := (h.2.2.1 a ha).2.2.2
  have e2 := (h.2.2.1 b hb).2.2.2
  unfold sw
  rw [e1, e2]
  exact h.up.up
theorem OVk_sw {o : OV} {nc a b : Nat} (h : OVk o nc) (ha : a < nc) (hb : b < nc) : OVk (sw o a b) nc := by
  obtain ⟨-, -, -, -, -, -, -, -, h9, -⟩ := id h
  obtain ⟨p, hp, ep⟩ := h9 a ha
  obtain ⟨q, hq, eq⟩ := h9 b hb
  unfold sw
  rw [ep, eq]
  exact OVk_pc hp (OVk_pc hq h)
def sw1 (o : OV) (nc : Nat) (ev : EV) (a : Nat) : Nat → Int32 × Int32 := fun b => (10 * nI a + nI b, badP (sw o a b) ev nc)
def sw2 (o : OV) (nc : Nat) (ev : EV) (n : Nat) : Nat → Nat → Option (Int32 × Int32) → Option (Int32 × Int32)
  | 0, _, s => s
  | k + 1, j, s => sw2 o nc ev n k (j + 1) (wff (sw1 o nc ev j) (n - (j + 1)) (j + 1) s)
def swapP (o : OV) (nc : Nat) (ev : EV) (w : Int32) : Int32 := if 0 ≤ w ∧ w ≤ 1 then lgt (sw2 o nc ev nc nc 0 (wgh none (-1) (badP o ev nc))) w else -2
theorem sw_lw {o : OV} {a b : Nat} : sw o a b 0 11 = o 0 11 := by
  unfold sw
  rw [up_ne (by omega), up_ne (by omega)]
theorem lp_X11_lay {d : Nat} {sc : Nat × (Nat → Int32)} {T : List (Nat × Nat)} {rf0 : Nat → Nat → Option Nat} {g0 : Nat → Nat → Int32} {nc tc t : Nat} {o : OV} {lws : Nat → Nat → List Int32} {F : Int32 → AH → Prop} {w : Int32} {S : Option (Int32 × Int32)} {c : Int32} (ecN : c = nI (nN c)) (hcN : nN c < nc) (hQ : ∀ rf2 g2, ZR T rf0 rf2 → VF g0 g2 → F (lgt S w) (T, rf2, g2)) : ∀ (k j : Nat) (x3 : Int32) (rf : Nat → Nat → Option Nat) (g : Nat → Nat → Int32) (s : Option (Int32 × Int32)), (j + k = 16) → (x3 = nI j) → (OB T rf g 1 o nc tc lws t) → (ZR T rf0 rf) → (VF g0 g) → (OEu g 5 (nN c) o nc) → (WG g s) → (layF o nc (evL (lws t)) c k j s = S) → Wp (d + 7) 0 0 sc kX11_lay (Qi F) 33 [some (.ref 0), some (.int c), some (.int w), some (.int x3), none] [] (T, rf, g) 0 0 := by
  intro k
  induction k with
  | zero =>
    intro j x3 rf g s hj hx3 hO hr hf hU hg_ hZ
    obtain ⟨hX, -, hS, hE, hV, hlw, htc⟩ := id hO
    have hn8 : nc ≤ 8 := hV.2.1
    have hcn : g 1 5 = nI nc := hE.1.1.trans hV.1
    refine xX11_lay_33 ?_
    refine xX11_lay_34 ?_
    refine xX11_lay_36_t (by rw [hx3]; exact nI_le (a := 16) (by omega) (by omega)) ?_
    refine xX11_lay_105 ?_
    refine xX11_lay_106 ?_
    refine xX11_lay_107 (hX.1 _ _ rfl) rfl rfl rfl (s_X11_lightest hX hg_ ?_)
    refine xX11_lay_110 rfl rfl ?_
    have q := hQ _ _ hr hf
    rw [← hZ] at q
    exact q
  | succ k ih =>
    intro j x3 rf g s hj hx3 hO hr hf hU hg_ hZ
    obtain ⟨hX, -, hS, hE, hV, hlw, htc⟩ := id hO
    have hn8 : nc ≤ 8 := hV.2.1
    have hcn : g 1 5 = nI nc := hE.1.1.trans hV.1
    refine xX11_lay_33 ?_
    refine xX11_lay_34 ?_
    refine xX11_lay_36_f (by rw [hx3]; exact nI_ge (b := 16) (by omega) (by omega)) ?_
    refine xX11_lay_39 ?_
    refine xX11_lay_40 (hX.1 _ _ rfl) (hX.2 _ _ _ rfl) ?_
    refine xX11_lay_43 ?_
    refine xX11_lay_44 (hX.1 _ _ rfl) rfl rfl rfl (s_X5_cakeOn (OvT.of hX (Or.inl rfl)) hE hV ?_)
    refine xX11_lay_47 rfl ?_
    refine xX11_lay_49 ?_
    refine xX11_lay_51 ?_
    refine xX11_lay_52 (fun c52 => ?_) (fun c52 => ?_)
    · have e := layF_yes (ev := evL (lws t)) (k := k) (s := s) (Or.inl (hx3 ▸ c52) : onP o nc (nI j) = -1 ∨ onP o nc (nI j) = c)
      refine xX11_lay_61 ?_
      refine xX11_lay_62 (hX.1 _ _ rfl) (hX.2 _ _ _ rfl) ?_
      refine xX11_lay_65 (hX.1 _ _ rfl) (hX.2 _ _ _ rfl) ?_
      refine xX11_lay_68 ?_
      refine xX11_lay_69 ?_
      refine xX11_lay_70 (j := (nN c)) (hX.1 _ _ rfl) ecN (by omega) rfl ?_
      refine xX11_lay_71 ?_
      refine xX11_lay_72 ?_
      refine xX11_lay_73 (hX.1 _ _ rfl) (hX.2 _ _ _ rfl) ?_
      refine xX11_lay_76 ?_
      refine xX11_lay_77 (hX.1 _ _ rfl) (hX.2 _ _ _ rfl) ?_
      refine xX11_lay_80 (hX.1 _ _ rfl) ?_
      have h9 := hO.th (g' := up g 14 (nN c) x3) ⟨hX, fun _ _ => rfl⟩ (VF.up (by omega)) (o' := up o 5 (nN c) (nI j)) (by rw [hx3]; exact OEu_eq hU) (OVk_pc (by omega) hV) (t' := t) (by rw [up_ne (by omega)]; exact hlw) htc
      refine xX11_lay_83 (hX.1 _ _ rfl) rfl rfl rfl (s_X11_bake h9 (h9.2.2.2.1.1.2.2.1.trans h9.2.2.2.2.1.tN.1) h9.2.2.2.2.1.tN.2.1 (fun rf1 g1 hr1 hz1 hk1 => ?_))
      refine xX11_lay_86 ?_
      refine xX11_lay_87 ?_
      refine xX11_lay_88 ?_
      refine xX11_lay_89 (hX.1 _ _ rfl) (hr1.1.2 _ _ _ rfl) ?_
      refine xX11_lay_92 ?_
      refine xX11_lay_93 (hX.1 _ _ rfl) rfl rfl rfl (t_X0_badnessOf hk1 ecN hcN (fun g2 hk2 hz2 => ?_))
      refine xX11_lay_96 (hX.1 _ _ rfl) rfl rfl rfl (s_X11_weigh hr1.1 (((hg_.row (up_row (by omega))).zf hz1).zf hz2) (fun g3 hg3 hy3 => ?_))
      refine xX11_lay_99 rfl rfl ?_
      refine xX11_lay_102 ?_
      refine wp_kill_4 ?_
      exact ih (j + 1) _ _ _ _ (by omega) (by rw [hx3]; exact nI_1 _) (hO.vf hr1 ((((VF.up (g := g) (a := 14) (k := (nN c)) (v := x3) (by omega)).tr hz1.vf).tr hz2.vf).tr hy3.vf)) (hr.tr hr1) (hf.tr ((((VF.up (g := g) (a := 14) (k := (nN c)) (v := x3) (by omega)).tr hz1.vf).tr hz2.vf).tr hy3.vf)) ((((OEu_up hU).tf hz1.tf).tf hz2.tf).tf hy3.tf) hg3 (by rw [← hZ, e, hx3]; rfl)
    · refine xX11_lay_55 ?_
      refine xX11_lay_57 ?_
      refine xX11_lay_58 (fun c58 => ?_) (fun c58 => ?_)
      · have e := layF_no (ev := evL (lws t)) (k := k) (s := s) (fun z => z.elim (hx3 ▸ c52) (hx3 ▸ c58) : ¬ (onP o nc (nI j) = -1 ∨ onP o nc (nI j) = c))
        refine xX11_lay_99 rfl rfl ?_
        refine xX11_lay_102 ?_
        refine wp_kill_4 ?_
        exact ih (j + 1) _ _ _ _ (by omega) (by rw [hx3]; exact nI_1 _) hO hr hf hU hg_ (by rw [← hZ, e])
      · have e := layF_yes (ev := evL (lws t)) (k := k) (s := s) (Or.inr (hx3 ▸ c58) : onP o nc (nI j) = -1 ∨ onP o nc (nI j) = c)
        refine xX11_lay_61 ?_
        refine xX11_lay_62 (hX.1 _ _ rfl) (hX.2 _ _ _ rfl) ?_
        refine xX11_lay_65 (hX.1 _ _ rfl) (hX.2 _ _ _ rfl) ?_
        refine xX11_lay_68 ?_
        refine xX11_lay_69 ?_
        refine xX11_lay_70 (j := (nN c)) (hX.1 _ _ rfl) ecN (by omega) rfl ?_
        refine xX11_lay_71 ?_
        refine xX11_lay_72 ?_
        refine xX11_lay_73 (hX.1 _ _ rfl) (hX.2 _ _ _ rfl) ?_
        refine xX11_lay_76 ?_
        refine xX11_lay_77 (hX.1 _ _ rfl) (hX.2 _ _ _ rfl) ?_
        refine xX11_lay_80 (hX.1 _ _ rfl) ?_
        have h9 := hO.th (g' := up g 14 (nN c) x3) ⟨hX, fun _ _ => rfl⟩ (VF.up (by omega)) (o' := up o 5 (nN c) (nI j)) (by rw [hx3]; exact OEu_eq hU) (OVk_pc (by omega) hV) (t' := t) (by rw [up_ne (by omega)]; exact hlw) htc
        refine xX11_lay_83 (hX.1 _ _ rfl) rfl rfl rfl (s_X11_bake h9 (h9.2.2.2.1.1.2.2.1.trans h9.2.2.2.2.1.tN.1) h9.2.2.2.2.1.tN.2.1 (fun rf4 g4 hr4 hz4 hk4 => ?_))
        refine xX11_lay_86 ?_
        refine xX11_lay_87 ?_
        refine xX11_lay_88 ?_
        refine xX11_lay_89 (hX.1 _ _ rfl) (hr4.1.2 _ _ _ rfl) ?_
        refine xX11_lay_92 ?_
        refine xX11_lay_93 (hX.1 _ _ rfl) rfl rfl rfl (t_X0_badnessOf hk4 ecN hcN (fun g5 hk5 hz5 => ?_))
        refine xX11_lay_96 (hX.1 _ _ rfl) rfl rfl rfl (s_X11_weigh hr4.1 (((hg_.row (up_row (by omega))).zf hz4).zf hz5) (fun g6 hg6 hy6 => ?_))
        refine xX11_lay_99 rfl rfl ?_
        refine xX11_lay_102 ?_
        refine wp_kill_4 ?_
        exact ih (j + 1) _ _ _ _ (by omega) (by rw [hx3]; exact nI_1 _) (hO.vf hr4 ((((VF.up (g := g) (a := 14) (k := (nN c)) (v := x3) (by omega)).tr hz4.vf).tr hz5.vf).tr hy6.vf)) (hr.tr hr4) (hf.tr ((((VF.up (g := g) (a := 14) (k := (nN c)) (v := x3) (by omega)).tr hz4.vf).tr hz5.vf).tr hy6.vf)) ((((OEu_up hU).tf hz4.tf).tf hz5.tf).tf hy6.tf) hg6 (by rw [← hZ, e, hx3]; rfl)
theorem s_X11_lay {d : Nat} {sc : Nat × (Nat → Int32)} {T : List (Nat × Nat)} {rf : Nat → Nat → Option Nat} {g : Nat → Nat → Int32} {nc tc t : Nat} {o : OV} {lws : Nat → Nat → List Int32} {c w : Int32} {F : Int32 → AH → Prop} (hO : OB T rf g 1 o nc tc lws t) (hQ : ∀ rf2 g2, ZR T rf rf2 → VF g g2 → F (layP o nc (evL (lws t)) c w) (T, rf2, g2)) : Mok (d + 7) 0 0 sc kX11_lay [.ref 0, .int c, .int w] (T, rf, g) (Qi F) := by
  obtain ⟨hX, -, hS, hE, hV, hlw, htc⟩ := id hO
  have hn8 : nc ≤ 8 := hV.2.1
  have hcn : g 1 5 = nI nc := hE.1.1.trans hV.1
  refine Mok.ofWp (L := [some (.ref 0), some (.int c), some (.int w), none, none]) rfl rfl rfl ?_
  refine xX11_lay_0 ?_
  refine xX11_lay_1 ?_
  refine xX11_lay_2 (hX.1 _ _ rfl) rfl rfl rfl (t_X11_isCake hX hcn (fun hw0 => ?_) (fun nw0 => ?_))
  · obtain ⟨ecN, hcN⟩ := isC_N hw0 hn8
    refine xX11_lay_5_t (by decide) ?_
    refine xX11_lay_11 ?_
    refine xX11_lay_12 ?_
    refine xX11_lay_13 ?_
    refine xX11_lay_14 rfl rfl rfl (s_X11_within  (fun hw1 => ?_) (fun nw1 => ?_))
    · refine xX11_lay_17_t (by decide) ?_
      refine xX11_lay_23 ?_
      refine xX11_lay_24 (hX.1 _ _ rfl) rfl rfl rfl (s_X11_imagine hX (fun g2 he2 hj2 => ?_))
      refine xX11_lay_27 ?_
      refine xX11_lay_28 (hX.1 _ _ rfl) rfl rfl rfl (s_X11_weighNone hX (fun g3 hg3 hy3 => ?_))
      refine xX11_lay_31 ?_
      refine xX11_lay_32 rfl ?_
      refine lp_X11_lay ecN hcN (fun rf2 g2 h1 h2 => ?_) 16 0 _ _ _ _ (by omega) rfl (hO.vf ⟨hX, fun _ _ => rfl⟩ ((VF.f9 hj2).tr hy3.vf)) ⟨hX, fun _ _ => rfl⟩ ((VF.f9 hj2).tr hy3.vf) ((OEu.of ((he2.le hn8).tr hE)).tf hy3.tf) hg3 rfl
      have q := hQ _ _ h1 h2
      rw [layP, if_pos hw0, if_pos hw1] at q
      exact q
    · refine xX11_lay_17_f (by decide) ?_
      refine xX11_lay_20 ?_
      refine xX11_lay_22 rfl rfl ?_
      have q := hQ _ _ ⟨hX, fun _ _ => rfl⟩ VF.rf
      rw [layP, if_pos hw0, if_neg nw1] at q
      exact q
  · refine xX11_lay_5_f (by decide) ?_
    refine xX11_lay_8 ?_
    refine xX11_lay_10 rfl rfl ?_
    have q := hQ _ _ ⟨hX, fun _ _ => rfl⟩ VF.rf
    rw [layP, if_neg nw0] at q
    exact q
theorem s_X5_swapPlaces {d : Nat} {sc : Nat × (Nat → Int32)} {T : List (Nat × Nat)} {rf : Nat → Nat → Option Nat} {g : Nat → Nat → Int32} {b : Nat} {F : AH → Prop} {x y : Int32} {aN bN : Nat} (hOv : OvT T rf b) (hx : x = nI aN) (ha : aN < 8) (hy : y = nI bN) (hb : bN < 8) (hQ : ∀ g2, XO g2 b = sw (XO g b) aN bN → (∀ q, (q < b ∨ b + 7 < q) → g2 q = g q) → F (T, rf, g2)) : Mok d 0 0 sc kX5_swapPlaces [.ref b, .int x, .int y] (T, rf, g) (Qv F) := by
  refine Mok.ofWp (L := [some (.ref b), some (.int x), some (.int y), none]) rfl rfl rfl ?_
  refine xX5_swapPlaces_0 ?_
  refine xX5_swapPlaces_1 hOv.1 hOv.2.2.2.2.2.2.2.2.2.2.2.2.1 ?_
  refine xX5_swapPlaces_4 ?_
  refine xX5_swapPlaces_5 (j := aN) hOv.2.2.2.2.2.1 hx ha rfl ?_
  refine xX5_swapPlaces_6 rfl ?_
  refine xX5_swapPlaces_7 ?_
  refine xX5_swapPlaces_8 hOv.1 hOv.2.2.2.2.2.2.2.2.2.2.2.2.1 ?_
  refine xX5_swapPlaces_11 ?_
  refine xX5_swapPlaces_12 ?_
  refine xX5_swapPlaces_13 hOv.1 hOv.2.2.2.2.2.2.2.2.2.2.2.2.1 ?_
  refine xX5_swapPlaces_16 ?_
  refine xX5_swapPlaces_17 (j := bN) hOv.2.2.2.2.2.1 hy hb rfl ?_
  refine xX5_swapPlaces_18 (j := aN) hOv.2.2.2.2.2.1 hx ha rfl ?_
  refine xX5_swapPlaces_19 ?_
  refine xX5_swapPlaces_20 hOv.1 hOv.2.2.2.2.2.2.2.2.2.2.2.2.1 ?_
  refine xX5_swapPlaces_23 ?_
  refine xX5_swapPlaces_24 ?_
  refine xX5_swapPlaces_25 (j := bN) hOv.2.2.2.2.2.1 hy hb rfl ?_
  refine xX5_swapPlaces_26 rfl rfl ?_
  exact hQ _ (by unfold sw; rw [XO_up, XO_up]; rfl) (fun q hq => by rw [up_row (by omega), up_row (by omega)])
theorem lp_X11_swap1 {d : Nat} {sc : Nat × (Nat → Int32)} {T : List (Nat × Nat)} {rf0 : Nat → Nat → Option Nat} {g0 : Nat → Nat → Int32} {nc tc t : Nat} {o : OV} {lws : Nat → Nat → List Int32} {F : Int32 → AH → Prop} {w x2 : Int32} {m : Nat} {S : Option (Int32 × Int32)} (hx2 : x2 = nI m) (hQ : ∀ rf g, OB T rf g 1 o nc tc lws t → ZR T rf0 rf → VF g0 g → OEq (XO g 9) o nc → WG g S → Wp (d + 7) 0 0 sc kX11_swap (Qi F) 103 [some (.ref 0), some (.int w), some (.int x2), none] [] (T, rf, g) 0 0) : ∀ (k j : Nat) (x3 : Int32) (rf : Nat → Nat → Option Nat) (g : Nat → Nat → Int32) (s : Option (Int32 × Int32)), (j + k = nc) → (x3 = nI j) → (m < j) → (OB T rf g 1 o nc tc lws t) → (ZR T rf0 rf) → (VF g0 g) → (OEq (XO g 9) o nc) → (WG g s) → (wff (sw1 o nc (evL (lws t)) m) k j s = S) → Wp (d + 7) 0 0 sc kX11_swap (Qi F) 50 [some (.ref 0), some (.int w), some (.int x2), some (.int x3)] [] (T, rf, g) 0 0 := by
  intro k
  induction k with
  | zero =>
    intro j x3 rf g s hj hx3 hmj hO hr hf hU hg_ hZ
    obtain ⟨hX, -, hS, hE, hV, hlw, htc⟩ := id hO
    have hn8 : nc ≤ 8 := hV.2.1
    have hcn : g 1 5 = nI nc := hE.1.1.trans hV.1
    refine xX11_swap_50 ?_
    refine xX11_swap_51 ?_
    refine xX11_swap_52 (hX.1 _ _ rfl) (hX.2 _ _ _ rfl) ?_
    refine xX11_swap_55 (hX.1 _ _ rfl) ?_
    rw [hcn]
    refine xX11_swap_58_t (by rw [hx3]; exact nI_le (by omega) (by omega)) ?_
    refine wp_kill_3 ?_
    exact hQ _ _ hO hr hf hU (hZ ▸ hg_)
  | succ k ih =>
    intro j x3 rf g s hj hx3 hmj hO hr hf hU hg_ hZ
    obtain ⟨hX, -, hS, hE, hV, hlw, htc⟩ := id hO
    have hn8 : nc ≤ 8 := hV.2.1
    have hcn : g 1 5 = nI nc := hE.1.1.trans hV.1
    refine xX11_swap_50 ?_
    refine xX11_swap_51 ?_
    refine xX11_swap_52 (hX.1 _ _ rfl) (hX.2 _ _ _ rfl) ?_
    refine xX11_swap_55 (hX.1 _ _ rfl) ?_
    rw [hcn]
    refine xX11_swap_58_f (by rw [hx3]; exact nI_ge (by omega) (by omega)) ?_
    refine xX11_swap_61 ?_
    refine xX11_swap_62 (hX.1 _ _ rfl) (hX.2 _ _ _ rfl) ?_
    refine xX11_swap_65 ?_
    refine xX11_swap_66 ?_
    refine xX11_swap_67 (hX.1 _ _ rfl) rfl rfl rfl (s_X5_swapPlaces (OvT.of hX (Or.inr (Or.inl rfl))) hx2 (by omega) hx3 (by omega) (fun g0 hp0 hj0 => ?_))
    refine xX11_swap_70 ?_
    refine xX11_swap_71 ?_
    refine xX11_swap_73 ?_
    refine xX11_swap_74 ?_
    refine xX11_swap_75 ?_
    refine xX11_swap_76 ?_
    refine xX11_swap_77 ?_
    refine xX11_swap_78 ?_
    refine xX11_swap_79 (hX.1 _ _ rfl) (hX.2 _ _ _ rfl) ?_
    have h9 := hO.th ⟨hX, fun _ _ => rfl⟩ (VF.f9 hj0) (o' := sw o m j) (by rw [hp0]; exact OEq_sw hU (by omega) (by omega)) (OVk_sw hV (by omega) (by omega)) (t' := t) (sw_lw.trans hlw) htc
    refine xX11_swap_82 (hX.1 _ _ rfl) rfl rfl rfl (s_X11_badnessOf h9 (fun rf1 g1 hr1 hz1 => ?_))
    refine xX11_swap_85 (hX.1 _ _ rfl) rfl rfl rfl (s_X11_weigh hr1.1 ((hg_.row (hj0 0 (by omega))).zf hz1) (fun g2 hg2 hy2 => ?_))
    refine xX11_swap_88 ?_
    refine xX11_swap_89 (hX.1 _ _ rfl) (hr1.1.2 _ _ _ rfl) ?_
    refine xX11_swap_92 ?_
    refine xX11_swap_93 ?_
    refine xX11_swap_94 (hX.1 _ _ rfl) rfl rfl rfl (s_X5_swapPlaces (OvT.of hr1.1 (Or.inr (Or.inl rfl))) hx2 (by omega) hx3 (by omega) (fun g3 hp3 hj3 => ?_))
    refine xX11_swap_97 rfl rfl ?_
    refine xX11_swap_100 ?_
    have q := OEq_sw (h9.2.2.2.1.rows (hz1.tf.tr hy2.tf).x9) (a := m) (b := j) (by omega) (by omega)
    rw [sw_sw (by omega), ← hp3] at q
    exact ih (j + 1) _ _ _ _ (by omega) (by rw [hx3]; exact nI_1 _) (by omega) (hO.vf hr1 ((((VF.f9 hj0).tr hz1.vf).tr hy2.vf).tr (VF.f9 hj3))) (hr.tr hr1) (hf.tr ((((VF.f9 hj0).tr hz1.vf).tr hy2.vf).tr (VF.f9 hj3))) q (hg2.row (hj3 0 (by omega))) (by
      rw [← hZ, hx2, hx3]
      rfl)
theorem lp_X11_swap {d : Nat} {sc : Nat × (Nat → Int32)} {T : List (Nat × Nat)} {rf0 : Nat → Nat → Option Nat} {g0 : Nat → Nat → Int32} {nc tc t : Nat} {o : OV} {lws : Nat → Nat → List Int32} {F : Int32 → AH → Prop} {w : Int32} {S : Option (Int32 × Int32)} (hQ : ∀ rf2 g2, ZR T rf0 rf2 → VF g0 g2 → F (lgt S w) (T, rf2, g2)) : ∀ (k j : Nat) (x2 : Int32) (rf : Nat → Nat → Option Nat) (g : Nat → Nat → Int32) (s : Option (Int32 × Int32)), (j + k = nc) → (x2 = nI j) → (OB T rf g 1 o nc tc lws t) → (ZR T rf0 rf) → (VF g0 g) → (OEq (XO g 9) o nc) → (WG g s) → (sw2 o nc (evL (lws t)) nc k j s = S) → Wp (d + 7) 0 0 sc kX11_swap (Qi F) 35 [some (.ref 0), some (.int w), some (.int x2), none] [] (T, rf, g) 0 0 := by
  intro k
  induction k with
  | zero =>
    intro j x2 rf g s hj hx2 hO hr hf hU hg_ hZ
    obtain ⟨hX, -, hS, hE, hV, hlw, htc⟩ := id hO
    have hn8 : nc ≤ 8 := hV.2.1
    have hcn : g 1 5 = nI nc := hE.1.1.trans hV.1
    refine xX11_swap_35 ?_
    refine xX11_swap_36 ?_
    refine xX11_swap_37 (hX.1 _ _ rfl) (hX.2 _ _ _ rfl) ?_
    refine xX11_swap_40 (hX.1 _ _ rfl) ?_
    rw [hcn]
    refine xX11_swap_43_t (by rw [hx2]; exact nI_le (by omega) (by omega)) ?_
    refine xX11_swap_109 ?_
    refine xX11_swap_110 ?_
    refine xX11_swap_111 (hX.1 _ _ rfl) rfl rfl rfl (s_X11_lightest hX hg_ ?_)
    refine xX11_swap_114 rfl rfl ?_
    have q := hQ _ _ hr hf
    rw [← hZ] at q
    exact q
  | succ k ih =>
    intro j x2 rf g s hj hx2 hO hr hf hU hg_ hZ
    obtain ⟨hX, -, hS, hE, hV, hlw, htc⟩ := id hO
    have hn8 : nc ≤ 8 := hV.2.1
    have hcn : g 1 5 = nI nc := hE.1.1.trans hV.1
    refine xX11_swap_35 ?_
    refine xX11_swap_36 ?_
    refine xX11_swap_37 (hX.1 _ _ rfl) (hX.2 _ _ _ rfl) ?_
    refine xX11_swap_40 (hX.1 _ _ rfl) ?_
    rw [hcn]
    refine xX11_swap_43_f (by rw [hx2]; exact nI_ge (by omega) (by omega)) ?_
    refine xX11_swap_46 ?_
    refine xX11_swap_47 ?_
    refine xX11_swap_48 ?_
    refine xX11_swap_49 rfl ?_
    refine lp_X11_swap1 hx2 (fun rf g hO hr hf hU hg_ => ?_) (nc - (j + 1)) (j + 1) _ _ _ _ (by omega) (by rw [hx2]; exact nI_1 _) (by omega) hO hr hf hU hg_ rfl
    refine xX11_swap_103 rfl rfl ?_
    refine xX11_swap_106 ?_
    exact ih (j + 1) _ _ _ _ (by omega) (by rw [hx2]; exact nI_1 _) hO hr hf hU hg_ hZ
theorem s_X11_swap {d : Nat} {sc : Nat × (Nat → Int32)} {T : List (Nat × Nat)} {rf : Nat → Nat → Option Nat} {g : Nat → Nat → Int32} {nc tc t : Nat} {o : OV} {lws : Nat → Nat → List Int32} {w : Int32} {F : Int32 → AH → Prop} (hO : OB T rf g 1 o nc tc lws t) (hQ : ∀ rf2 g2, ZR T rf rf2 → VF g g2 → F (swapP o nc (evL (lws t)) w) (T, rf2, g2)) : Mok (d + 7) 0 0 sc kX11_swap [.ref 0, .int w] (T, rf, g) (Qi F) := by
  obtain ⟨hX, -, hS, hE, hV, hlw, htc⟩ := id hO
  have hn8 : nc ≤ 8 := hV.2.1
  have hcn : g 1 5 = nI nc := hE.1.1.trans hV.1
  refine Mok.ofWp (L := [some (.ref 0), some (.int w), none, none]) rfl rfl rfl ?_
  refine xX11_swap_0 ?_
  refine xX11_swap_1 ?_
  refine xX11_swap_2 ?_
  refine xX11_swap_3 rfl rfl rfl (s_X11_within  (fun hw0 => ?_) (fun nw0 => ?_))
  · refine xX11_swap_6_t (by decide) ?_
    refine xX11_swap_12 ?_
    refine xX11_swap_13 (hX.1 _ _ rfl) rfl rfl rfl (s_X11_imagine hX (fun g1 he1 hj1 => ?_))
    refine xX11_swap_16 ?_
    refine xX11_swap_17 (hX.1 _ _ rfl) rfl rfl rfl (s_X11_weighNone hX (fun g2 hg2 hy2 => ?_))
    refine xX11_swap_20 ?_
    refine xX11_swap_21 ?_
    refine xX11_swap_22 ?_
    refine xX11_swap_23 ?_
    refine xX11_swap_24 (hX.1 _ _ rfl) (hX.2 _ _ _ rfl) ?_
    refine xX11_swap_27 (hX.1 _ _ rfl) rfl rfl rfl (s_X11_badnessOf (hO.vf ⟨hX, fun _ _ => rfl⟩ ((VF.f9 hj1).tr hy2.vf)) (fun rf3 g3 hr3 hz3 => ?_))
    refine xX11_swap_30 (hX.1 _ _ rfl) rfl rfl rfl (s_X11_weigh hr3.1 (hg2.zf hz3) (fun g4 hg4 hy4 => ?_))
    refine xX11_swap_33 ?_
    refine xX11_swap_34 rfl ?_
    refine lp_X11_swap (fun rf2 g2 h1 h2 => ?_) nc 0 _ _ _ _ (by omega) rfl (hO.vf hr3 ((((VF.f9 hj1).tr hy2.vf).tr hz3.vf).tr hy4.vf)) hr3 ((((VF.f9 hj1).tr hy2.vf).tr hz3.vf).tr hy4.vf) (((he1.le hn8).tr hE).rows ((hy2.tf.tr hz3.tf).tr hy4.tf).x9) hg4 rfl
    have q := hQ _ _ h1 h2
    rw [swapP, if_pos hw0] at q
    exact q
  · refine xX11_swap_6_f (by decide) ?_
    refine xX11_swap_9 ?_
    refine xX11_swap_11 rfl rfl ?_
    have q := hQ _ _ ⟨hX, fun _ _ => rfl⟩ VF.rf
    rw [swapP, if_neg nw0] at q
    exact q
