theorem lp_X11_few {d : Nat} {sc : Nat × (Nat → Int32)} {T : List (Nat × Nat)} {rf0 : Nat → Nat → Option Nat} {g0 : Nat → Nat → Int32} {nc tc t : Nat} {o : OV} {lws : Nat → Nat → List Int32} {F : Int32 → AH → Prop} {far : Int32} {S : Int32} (hQ : ∀ rf2 g2, ZR T rf0 rf2 → VF g0 g2 → F S (T, rf2, g2)) : ∀ (k j : Nat) (x2 : Int32) (rf : Nat → Nat → Option Nat) (g : Nat → Nat → Int32), (j + k = nN (o 0 8) + 1) → (x2 = nI j) → (OB T rf g 1 o nc tc lws t) → (ZR T rf0 rf) → (VF g0 g) → (OEu g 0 8 o nc) → (S = scan (fun n => apP (up o 0 8 (nI n)) (evL (lws t)) nc ≤ far) k j) → Wp (d + 7) 0 0 sc kX11_few (Qi F) 20 [some (.ref 0), some (.int far), some (.int x2)] [] (T, rf, g) 0 0 := by
  intro k
  induction k with
  | zero =>
    intro j x2 rf g hj hx2 hO hr hf hU hZ
    obtain ⟨hX, -, hS, hE, hV, hlw, htc⟩ := id hO
    have hn8 : nc ≤ 8 := hV.2.1
    have hcn : g 1 5 = nI nc := hE.1.1.trans hV.1
    have n6 := hV.no
    refine xX11_few_20 ?_
    refine xX11_few_21 ?_
    refine xX11_few_22 (hX.1 _ _ rfl) (hX.2 _ _ _ rfl) ?_
    refine xX11_few_25 (hX.1 _ _ rfl) ?_
    rw [show g 1 8 = nI (nN (o 0 8)) from hE.1.2.1.trans hV.nI8]
    refine xX11_few_28_t (by rw [hx2]; exact nI_lt (by omega) (by omega)) ?_
    refine xX11_few_59 ?_
    refine xX11_few_60 rfl rfl ?_
    have q := hQ _ _ hr hf
    rw [hZ] at q
    exact q
  | succ k ih =>
    intro j x2 rf g hj hx2 hO hr hf hU hZ
    obtain ⟨hX, -, hS, hE, hV, hlw, htc⟩ := id hO
    have hn8 : nc ≤ 8 := hV.2.1
    have hcn : g 1 5 = nI nc := hE.1.1.trans hV.1
    have n6 := hV.no
    refine xX11_few_20 ?_
    refine xX11_few_21 ?_
    refine xX11_few_22 (hX.1 _ _ rfl) (hX.2 _ _ _ rfl) ?_
    refine xX11_few_25 (hX.1 _ _ rfl) ?_
    rw [show g 1 8 = nI (nN (o 0 8)) from hE.1.2.1.trans hV.nI8]
    refine xX11_few_28_f (by rw [hx2]; exact Int32.not_lt.mpr (nI_le (by omega) (by omega))) ?_
    refine xX11_few_31 ?_
    refine xX11_few_32 (hX.1 _ _ rfl) (hX.2 _ _ _ rfl) ?_
    refine xX11_few_35 ?_
    refine xX11_few_36 (hX.1 _ _ rfl) ?_
    refine xX11_few_39 ?_
    refine xX11_few_40 ?_
    refine xX11_few_41 (hX.1 _ _ rfl) (hX.2 _ _ _ rfl) ?_
    have h9 := hO.th (g' := up g 9 8 x2) ⟨hX, fun _ _ => rfl⟩ (VF.up (by omega)) (o' := up o 0 8 (nI j)) (by rw [hx2]; exact OEu_eq hU) (OVk_op (by omega) hV) (t' := t) (by rw [up_ne (by omega)]; exact hlw) htc
    refine xX11_few_44 (hX.1 _ _ rfl) rfl rfl rfl (s_X11_apartOf h9 (fun rf0 g0 hr0 hz0 => ?_))
    refine xX11_few_47 ?_
    refine xX11_few_48 (fun c48 => ?_) (fun c48 => ?_)
    · have e : scan (fun n => apP (up o 0 8 (nI n)) (evL (lws t)) nc ≤ far) (k + 1) j = scan (fun n => apP (up o 0 8 (nI n)) (evL (lws t)) nc ≤ far) k (j + 1) := scan_no (p := (fun n => apP (up o 0 8 (nI n)) (evL (lws t)) nc ≤ far)) (Int32.not_le.mpr c48)
      refine xX11_few_53 rfl rfl ?_
      refine xX11_few_56 ?_
      exact ih (j + 1) _ _ _ (by omega) (by rw [hx2]; exact nI_1 _) (hO.vf hr0 ((VF.up (g := g) (a := 9) (k := 8) (v := x2) (by omega)).tr hz0.vf)) (hr.tr hr0) (hf.tr ((VF.up (g := g) (a := 9) (k := 8) (v := x2) (by omega)).tr hz0.vf)) ((OEu_up hU).tf hz0.tf) (hZ.trans e)
    · have e : scan (fun n => apP (up o 0 8 (nI n)) (evL (lws t)) nc ≤ far) (k + 1) j = nI j := scan_yes (p := (fun n => apP (up o 0 8 (nI n)) (evL (lws t)) nc ≤ far)) (Int32.not_lt.mp c48)
      refine xX11_few_51 ?_
      refine xX11_few_52 rfl rfl ?_
      rw [hx2, ← e, ← hZ]
      exact hQ _ _ (hr.tr hr0) (hf.tr ((VF.up (g := g) (a := 9) (k := 8) (v := x2) (by omega)).tr hz0.vf))
theorem s_X11_few {d : Nat} {sc : Nat × (Nat → Int32)} {T : List (Nat × Nat)} {rf : Nat → Nat → Option Nat} {g : Nat → Nat → Int32} {nc tc t : Nat} {o : OV} {lws : Nat → Nat → List Int32} {far : Int32} {F : Int32 → AH → Prop} (hO : OB T rf g 1 o nc tc lws t) (hQ : ∀ rf2 g2, ZR T rf rf2 → VF g g2 → F (fewP o nc (evL (lws t)) far) (T, rf2, g2)) : Mok (d + 7) 0 0 sc kX11_few [.ref 0, .int far] (T, rf, g) (Qi F) := by
  obtain ⟨hX, -, hS, hE, hV, hlw, htc⟩ := id hO
  have hn8 : nc ≤ 8 := hV.2.1
  have hcn : g 1 5 = nI nc := hE.1.1.trans hV.1
  refine Mok.ofWp (L := [some (.ref 0), some (.int far), none]) rfl rfl rfl ?_
  refine xX11_few_0 ?_
  refine xX11_few_1 ?_
  refine xX11_few_2 ?_
  refine xX11_few_5 rfl rfl rfl (s_X11_within  (fun hw0 => ?_) (fun nw0 => ?_))
  · refine xX11_few_8_t (by decide) ?_
    refine xX11_few_14 ?_
    refine xX11_few_15 (hX.1 _ _ rfl) rfl rfl rfl (s_X11_imagine hX (fun g1 he1 hj1 => ?_))
    refine xX11_few_18 ?_
    refine xX11_few_19 rfl ?_
    refine lp_X11_few (fun rf2 g2 h1 h2 => ?_) (nN (o 0 8) + 1) 0 _ _ _ (by omega) rfl (hO.vf ⟨hX, fun _ _ => rfl⟩ (VF.f9 hj1)) ⟨hX, fun _ _ => rfl⟩ (VF.f9 hj1) (OEu.of ((he1.le hn8).tr hE)) rfl
    have q := hQ _ _ h1 h2
    rw [fewP, if_pos hw0] at q
    exact q
  · refine xX11_few_8_f (by decide) ?_
    refine xX11_few_11 ?_
    refine xX11_few_13 rfl rfl ?_
    have q := hQ _ _ ⟨hX, fun _ _ => rfl⟩ VF.rf
    rw [fewP, if_neg nw0] at q
    exact q
theorem lp_X11_fan {d : Nat} {sc : Nat × (Nat → Int32)} {T : List (Nat × Nat)} {rf : Nat → Nat → Option Nat} {nc : Nat} {o : OV} {g0 : Nat → Nat → Int32} {x1 : Int32} {F : Int32 → AH → Prop} (hX : XS T rf) (hQ : ∀ g2 x2, VF g0 g2 → OEq (XO g2 9) (hotO o (fun _ => x1 / 16) 16) nc → Wp d 0 0 sc kX11_fan (Qi F) 59 [some (.ref 0), some (.int x1), some (.int x2)] [] (T, rf, g2) 0 0) : ∀ (k j : Nat) (x2 : Int32) (g : Nat → Nat → Int32), (j + k = 16) → (x2 = nI j) → (VF g0 g) → (OEq (XO g 9) (hotO o (fun _ => x1 / 16) j) nc) → Wp d 0 0 sc kX11_fan (Qi F) 34 [some (.ref 0), some (.int x1), some (.int x2)] [] (T, rf, g) 0 0 := by
  intro k
  induction k with
  | zero =>
    intro j x2 g hj hx2 hf hE9
    refine xX11_fan_34 ?_
    refine xX11_fan_35 ?_
    refine xX11_fan_37_t (by rw [hx2]; exact nI_le (a := 16) (by omega) (by omega)) ?_
    have e : j = 16 := by omega
    subst e
    exact hQ _ _ hf hE9
  | succ k ih =>
    intro j x2 g hj hx2 hf hE9
    refine xX11_fan_34 ?_
    refine xX11_fan_35 ?_
    refine xX11_fan_37_f (by rw [hx2]; exact nI_ge (b := 16) (by omega) (by omega)) ?_
    refine xX11_fan_40 ?_
    refine xX11_fan_41 (hX.1 _ _ rfl) (hX.2 _ _ _ rfl) ?_
    refine xX11_fan_44 (hX.1 _ _ rfl) (hX.2 _ _ _ rfl) ?_
    refine xX11_fan_47 ?_
    refine xX11_fan_48 ?_
    refine xX11_fan_49 ?_
    refine xX11_fan_51 (by decide) ?_
    refine xX11_fan_52 (j := j) (hX.1 _ _ rfl) hx2 (by omega) rfl ?_
    refine xX11_fan_53 rfl rfl ?_
    refine xX11_fan_56 ?_
    exact ih (j + 1) _ _ (by omega) (by rw [hx2]; exact nI_1 _) (hf.tr (VF.up (g := g) (a := 10) (k := j) (v := (x1 / 16)) (by omega))) (by rw [show XO (up g 10 j (x1 / 16)) 9 = up (XO g 9) 1 j (x1 / 16) from XO_up (b := 9) (r := 1), ← hotO_up]; exact hE9.up)
theorem lp_X11_fan0 {d : Nat} {sc : Nat × (Nat → Int32)} {T : List (Nat × Nat)} {rf : Nat → Nat → Option Nat} {o : OV} {g : Nat → Nat → Int32} {F : Int32 → AH → Prop} (hX : XS T rf) (h1 : ∀ i, i < 16 → g 2 i = o 1 i) (hQ : Wp d 0 0 sc kX11_fan (Qi F) 34 [some (.ref 0), some (.int (sumI (o 1) 16)), some (.int 0)] [] (T, rf, g) 0 0) : ∀ (k j : Nat) (x1 x2 : Int32), (j + k = 16) → (x2 = nI j) → (x1 = sumI (o 1) j) → Wp d 0 0 sc kX11_fan (Qi F) 8 [some (.ref 0), some (.int x1), some (.int x2)] [] (T, rf, g) 0 0 := by
  intro k
  induction k with
  | zero =>
    intro j x1 x2 hj hx2 hx1
    refine xX11_fan_8 ?_
    refine xX11_fan_9 ?_
    refine xX11_fan_11_t (by rw [hx2]; exact nI_le (a := 16) (by omega) (by omega)) ?_
    refine xX11_fan_32 ?_
    refine xX11_fan_33 rfl ?_
    have e : j = 16 := by omega
    subst e
    rw [hx1]
    exact hQ
  | succ k ih =>
    intro j x1 x2 hj hx2 hx1
    refine xX11_fan_8 ?_
    refine xX11_fan_9 ?_
    refine xX11_fan_11_f (by rw [hx2]; exact nI_ge (b := 16) (by omega) (by omega)) ?_
    refine xX11_fan_14 ?_
    refine xX11_fan_15 ?_
    refine xX11_fan_16 (hX.1 _ _ rfl) (hX.2 _ _ _ rfl) ?_
    refine xX11_fan_19 (hX.1 _ _ rfl) (hX.2 _ _ _ rfl) ?_
    refine xX11_fan_22 ?_
    refine xX11_fan_23 (j := j) (hX.1 _ _ rfl) hx2 (by omega) rfl ?_
    rw [h1 j (by omega)]
    refine xX11_fan_24 ?_
    refine xX11_fan_25 rfl ?_
    refine xX11_fan_26 rfl rfl ?_
    refine xX11_fan_29 ?_
    exact ih (j + 1) _ _ (by omega) (by rw [hx2]; exact nI_1 _) (by rw [hx1]; rfl)
theorem s_X11_fan {d : Nat} {sc : Nat × (Nat → Int32)} {T : List (Nat × Nat)} {rf : Nat → Nat → Option Nat} {g : Nat → Nat → Int32} {nc tc t : Nat} {o : OV} {lws : Nat → Nat → List Int32} {F : Int32 → AH → Prop} (hO : OB T rf g 1 o nc tc lws t) (hQ : ∀ rf2 g2, ZR T rf rf2 → VF g g2 → F (fanP o nc (evL (lws t))) (T, rf2, g2)) : Mok (d + 7) 0 0 sc kX11_fan [.ref 0] (T, rf, g) (Qi F) := by
  obtain ⟨hX, -, hS, hE, hV, hlw, htc⟩ := id hO
  have hn8 : nc ≤ 8 := hV.2.1
  have hcn : g 1 5 = nI nc := hE.1.1.trans hV.1
  refine Mok.ofWp (L := [some (.ref 0), none, none]) rfl rfl rfl ?_
  refine xX11_fan_0 ?_
  refine xX11_fan_1 (hX.1 _ _ rfl) rfl rfl rfl (s_X11_imagine hX (fun g0 he0 hj0 => ?_))
  refine xX11_fan_4 ?_
  refine xX11_fan_5 rfl ?_
  refine xX11_fan_6 ?_
  refine xX11_fan_7 rfl ?_
  refine lp_X11_fan0 hX (o := o) (fun i hi => (congrFun ((VF.f9 hj0).x1 1 (by omega)) i).trans (hE.2.1 i hi)) ?_ 16 0 _ _ (by omega) rfl rfl
  refine lp_X11_fan (o := o) (nc := nc) hX (fun g2 x2 hv he9 => ?_) 16 0 _ _ (by omega) rfl (VF.f9 hj0) (by rw [hotO_0]; exact (he0.le hn8).tr hE)
  refine xX11_fan_59 ?_
  refine xX11_fan_60 ?_
  refine xX11_fan_61 (hX.1 _ _ rfl) (hX.2 _ _ _ rfl) ?_
  have hO1 := hO.vf ⟨hX, fun _ _ => rfl⟩ hv
  obtain ⟨sm, hsm, esm⟩ := sumH hV 16 (Nat.le_refl _)
  have hO9 := hO.th ⟨hX, fun _ _ => rfl⟩ hv he9 (OVk_hotO (fun k hk => ⟨sm / 16, by omega, by rw [esm]; exact div16 (by omega)⟩) hV) (t' := t) hlw htc
  refine xX11_fan_64 (hX.1 _ _ rfl) rfl rfl rfl (s_X11_badnessOf hO1 (fun rf0 g0 hr0 hz0 => ?_))
  refine xX11_fan_67 ?_
  refine xX11_fan_68 ?_
  refine xX11_fan_69 (hX.1 _ _ rfl) (hr0.1.2 _ _ _ rfl) ?_
  refine xX11_fan_72 (hX.1 _ _ rfl) rfl rfl rfl (s_X11_badnessOf (hO9.keep hr0 hz0) (fun rf1 g1 hr1 hz1 => ?_))
  refine xX11_fan_75 ?_
  refine xX11_fan_76 rfl rfl ?_
  have q := hQ _ _ (hr0.tr hr1) ((hv.tr hz0.vf).tr hz1.vf)
  rw [fanP] at q
  exact q
