theorem bff_yes {f : Nat → Int32} {k j : Nat} {b : Int32} (h : f j = -1) : bff f (k + 1) j b = bff f k (j + 1) (b ||| (1 : Int32) <<< (nI j &&& 31)) := by
  show bff f k (j + 1) (b ||| (if f j = -1 then (1 : Int32) <<< (nI j &&& 31) else 0)) = _
  rw [if_pos h]
theorem bff_no {f : Nat → Int32} {k j : Nat} {b : Int32} (h : ¬ f j = -1) : bff f (k + 1) j b = bff f k (j + 1) (b ||| 0) := by
  show bff f k (j + 1) (b ||| (if f j = -1 then (1 : Int32) <<< (nI j &&& 31) else 0)) = _
  rw [if_neg h]
theorem bfl_yes {f : Nat → Int32} {k j : Nat} {b : Int64} (h : f j = -1) : bfl f (k + 1) j b = bfl f k (j + 1) (b ||| (1 : Int64) <<< ((nI j).toInt64 &&& 63)) := by
  show bfl f k (j + 1) (b ||| (if f j = -1 then (1 : Int64) <<< ((nI j).toInt64 &&& 63) else 0)) = _
  rw [if_pos h]
theorem bfl_no {f : Nat → Int32} {k j : Nat} {b : Int64} (h : ¬ f j = -1) : bfl f (k + 1) j b = bfl f k (j + 1) (b ||| 0) := by
  show bfl f k (j + 1) (b ||| (if f j = -1 then (1 : Int64) <<< ((nI j).toInt64 &&& 63) else 0)) = _
  rw [if_neg h]
def hff (f : Nat → Int32) : Nat → Nat → Int32 → Int32 → Int32 → Int32 × Int32 × Int32
  | 0, _, a, l, h => (a, l, h)
  | k + 1, j, a, l, h => if f j = -1 then hff f k (j + 1) (a + 1) (if l = -1 then nI j else l) (nI j) else hff f k (j + 1) a l h
def whichP (o : OV) (nc : Nat) (ev : EV) (w : Int32) : Int32 := if 0 ≤ w ∧ w ≤ 1 then lgt (wff (fun q => (nI q, badP (up o 0 10 (nI q)) ev nc)) 4 0 none) w else -2
def rowS (sh : Nat → Nat → Int32) (s : Int32) : Nat → Int32 := fun c => sh (nN s) (2 + c)
def howP (sh : Nat → Nat → Int32) (o : OV) (nc : Nat) (ev : EV) (s : Int32) : Int32 := if refS sh nc s = 0 then bff (fun q => fstO (rowS sh s) (up o 0 10 (nI q)) ev nc) 4 0 0 else refS sh nc s
def lawsP (sh : Nat → Nat → Int32) (o : OV) (nc tc : Nat) (lws : Nat → Nat → List Int32) (s : Int32) : Int32 := if refS sh nc s = 0 then bff (fun q => fstO (rowS sh s) (up o 0 11 (nI q)) (evL (lws q)) nc) tc 0 0 else refS sh nc s
def kindsP (sh : Nat → Nat → Int32) (o : OV) (nc : Nat) (ev : EV) (s c w : Int32) : Int32 := if refS sh nc s = 0 then (if 0 ≤ c ∧ c ≤ nI nc - 1 then (if 0 ≤ w ∧ w ≤ 1 then (if w = 0 then bff (fun q => fstO (rowS sh s) (up o 2 (nN c) (nI q)) ev nc) 6 0 0 else bff (fun q => fstO (rowS sh s) (up o 3 (nN c) (nI q)) ev nc) 10 0 0) else -7) else -5) else refS sh nc s
def heatsF (sh : Nat → Nat → Int32) (o : OV) (nc : Nat) (ev : EV) (s p : Int32) : Int32 × Int32 × Int32 := hff (fun q => fstO (rowS sh s) (up o 1 (nN p) (nI q)) ev nc) 100 0 0 (-1) (-1)
def heatsP (sh : Nat → Nat → Int32) (o : OV) (nc : Nat) (ev : EV) (s p w : Int32) : Int32 := if refS sh nc s = 0 then (if 0 ≤ p ∧ p ≤ 15 then (if 0 ≤ w ∧ w ≤ 2 then (if w = 0 then (heatsF sh o nc ev s p).1 else if w = 1 then (heatsF sh o nc ev s p).2.1 else (heatsF sh o nc ev s p).2.2) else -7) else -6) else refS sh nc s
def turnedP (sh : Nat → Nat → Int32) (o : OV) (nc : Nat) (ev : EV) (s : Int32) : Int64 := if refS sh nc s = 0 then bfl (fun m => fstO (rowS sh s) (pl o 0 (nI m) 2) ev nc) (nN (o 0 9)) 0 0 else -4611686018427387904
def fewP (o : OV) (nc : Nat) (ev : EV) (f : Int32) : Int32 := if 0 ≤ f ∧ f ≤ 999 then scan (fun n => apP (up o 0 8 (nI n)) ev nc ≤ f) (nN (o 0 8) + 1) 0 else -2
def fanO (o : OV) (v : Int32) (n : Nat) : OV := fun r k => if r = 1 ∧ k < n then v else o r k
def fanP (o : OV) (nc : Nat) (ev : EV) : Int32 := badP o ev nc - badP (fanO o (sumI (o 1) 16 / 16) 16) ev nc

theorem lp_X11_which {d : Nat} {sc : Nat × (Nat → Int32)} {T : List (Nat × Nat)} {rf0 : Nat → Nat → Option Nat} {g0 : Nat → Nat → Int32} {nc tc t : Nat} {o : OV} {lws : Nat → Nat → List Int32} {F : Int32 → AH → Prop} {w : Int32} {S : Option (Int32 × Int32)} (hQ : ∀ rf2 g2, ZR T rf0 rf2 → VF g0 g2 → F (lgt S w) (T, rf2, g2)) : ∀ (k j : Nat) (x2 : Int32) (rf : Nat → Nat → Option Nat) (g : Nat → Nat → Int32) (s : Option (Int32 × Int32)), (j + k = 4) → (x2 = nI j) → (OB T rf g 1 o nc tc lws t) → (ZR T rf0 rf) → (VF g0 g) → (OEu g 0 10 o nc) → (WG g s) → (wff (fun q => (nI q, badP (up o 0 10 (nI q)) (evL (lws t)) nc)) k j s = S) → Wp (d + 7) 0 0 sc kX11_which (Qi F) 22 [some (.ref 0), some (.int w), some (.int x2)] [] (T, rf, g) 0 0 := by
  intro k
  induction k with
  | zero =>
    intro j x2 rf g s hj hx2 hO hr hf hU hw hZ
    obtain ⟨hX, -, hS, hE, hV, hlw, htc⟩ := id hO
    have hn8 : nc ≤ 8 := hV.2.1
    have hcn : g 1 5 = nI nc := hE.1.1.trans hV.1
    refine xX11_which_22 ?_
    refine xX11_which_23 ?_
    refine xX11_which_24_t (by rw [hx2]; exact nI_lt (a := 3) (by omega) (by omega)) ?_
    refine xX11_which_54 ?_
    refine xX11_which_55 ?_
    refine xX11_which_56 (hX.1 _ _ rfl) rfl rfl rfl (s_X11_lightest hX hw ?_)
    refine xX11_which_59 rfl rfl ?_
    have q := hQ _ _ hr hf
    rw [← hZ] at q
    exact q
  | succ k ih =>
    intro j x2 rf g s hj hx2 hO hr hf hU hw hZ
    obtain ⟨hX, -, hS, hE, hV, hlw, htc⟩ := id hO
    have hn8 : nc ≤ 8 := hV.2.1
    have hcn : g 1 5 = nI nc := hE.1.1.trans hV.1
    refine xX11_which_22 ?_
    refine xX11_which_23 ?_
    refine xX11_which_24_f (by rw [hx2]; exact Int32.not_lt.mpr (nI_le (b := 3) (by omega) (by omega))) ?_
    refine xX11_which_27 ?_
    refine xX11_which_28 (hX.1 _ _ rfl) (hX.2 _ _ _ rfl) ?_
    refine xX11_which_31 ?_
    refine xX11_which_32 (hX.1 _ _ rfl) ?_
    refine xX11_which_35 ?_
    refine xX11_which_36 ?_
    refine xX11_which_37 ?_
    refine xX11_which_38 ?_
    refine xX11_which_39 (hX.1 _ _ rfl) (hX.2 _ _ _ rfl) ?_
    have h9 := hO.th (g' := up g 9 10 x2) ⟨hX, fun _ _ => rfl⟩ (VF.up (by omega)) (o' := up o 0 10 (nI j)) (by rw [hx2]; exact OEu_eq hU) (OVk_li (by omega) hV) (t' := t) (by rw [up_ne (by omega)]; exact hlw) htc
    refine xX11_which_42 (hX.1 _ _ rfl) rfl rfl rfl (s_X11_badnessOf h9 (fun rf0 g0 hr0 hz0 => ?_))
    refine xX11_which_45 (hX.1 _ _ rfl) rfl rfl rfl (s_X11_weigh hr0.1 ((hw.row (up_row (by omega))).zf hz0) (fun g1 hg1 hy1 => ?_))
    refine xX11_which_48 rfl rfl ?_
    refine xX11_which_51 ?_
    exact ih (j + 1) _ _ _ _ (by omega) (by rw [hx2]; exact nI_1 _) (hO.vf hr0 (((VF.up (g := g) (a := 9) (k := 10) (v := x2) (by omega)).tr hz0.vf).tr hy1.vf)) (hr.tr hr0) (hf.tr (((VF.up (g := g) (a := 9) (k := 10) (v := x2) (by omega)).tr hz0.vf).tr hy1.vf)) (((OEu_up hU).tf hz0.tf).tf hy1.tf) hg1 (by rw [hx2]; exact hZ)
theorem s_X11_which {d : Nat} {sc : Nat × (Nat → Int32)} {T : List (Nat × Nat)} {rf : Nat → Nat → Option Nat} {g : Nat → Nat → Int32} {nc tc t : Nat} {o : OV} {lws : Nat → Nat → List Int32} {w : Int32} {F : Int32 → AH → Prop} (hO : OB T rf g 1 o nc tc lws t) (hQ : ∀ rf2 g2, ZR T rf rf2 → VF g g2 → F (whichP o nc (evL (lws t)) w) (T, rf2, g2)) : Mok (d + 7) 0 0 sc kX11_which [.ref 0, .int w] (T, rf, g) (Qi F) := by
  obtain ⟨hX, -, hS, hE, hV, hlw, htc⟩ := id hO
  have hn8 : nc ≤ 8 := hV.2.1
  have hcn : g 1 5 = nI nc := hE.1.1.trans hV.1
  refine Mok.ofWp (L := [some (.ref 0), some (.int w), none]) rfl rfl rfl ?_
  refine xX11_which_0 ?_
  refine xX11_which_1 ?_
  refine xX11_which_2 ?_
  refine xX11_which_3 rfl rfl rfl (s_X11_within  (fun hw0 => ?_) (fun nw0 => ?_))
  · refine xX11_which_6_t (by decide) ?_
    refine xX11_which_12 ?_
    refine xX11_which_13 (hX.1 _ _ rfl) rfl rfl rfl (s_X11_imagine hX (fun g1 he1 hj1 => ?_))
    refine xX11_which_16 ?_
    refine xX11_which_17 (hX.1 _ _ rfl) rfl rfl rfl (s_X11_weighNone hX (fun g2 hg2 hy2 => ?_))
    refine xX11_which_20 ?_
    refine xX11_which_21 rfl ?_
    refine lp_X11_which (fun rf2 g2 h1 h2 => ?_) 4 0 _ _ _ _ (by omega) rfl (hO.vf ⟨hX, fun _ _ => rfl⟩ ((VF.f9 hj1).tr hy2.vf)) ⟨hX, fun _ _ => rfl⟩ ((VF.f9 hj1).tr hy2.vf) ((OEu.of ((he1.le hn8).tr hE)).tf hy2.tf) hg2 rfl
    have q := hQ _ _ h1 h2
    rw [whichP, if_pos hw0] at q
    exact q
  · refine xX11_which_6_f (by decide) ?_
    refine xX11_which_9 ?_
    refine xX11_which_11 rfl rfl ?_
    have q := hQ _ _ ⟨hX, fun _ _ => rfl⟩ VF.rf
    rw [whichP, if_neg nw0] at q
    exact q
theorem lp_X11_how {d : Nat} {sc : Nat × (Nat → Int32)} {T : List (Nat × Nat)} {rf0 : Nat → Nat → Option Nat} {g0 : Nat → Nat → Int32} {nc tc t : Nat} {o : OV} {lws : Nat → Nat → List Int32} {F : Int32 → AH → Prop} {s : Int32} {sh : Nat → Nat → Int32} (hs : s = nI (nN s)) (hs4 : nN s < 4) (hH : XH g0 sh) {S : Int32} (hQ : ∀ rf2 g2, ZR T rf0 rf2 → VF g0 g2 → F S (T, rf2, g2)) : ∀ (k j : Nat) (b x4 : Int32) (rf : Nat → Nat → Option Nat) (g : Nat → Nat → Int32), (j + k = 4) → (x4 = nI j) → (OB T rf g 1 o nc tc lws t) → (ZR T rf0 rf) → (VF g0 g) → (OEu g 0 10 o nc) → (bff (fun q => fstO (rowS sh s) (up o 0 10 (nI q)) (evL (lws t)) nc) k j b = S) → Wp (d + 7) 0 0 sc kX11_how (Qi F) 21 [some (.ref 0), some (.int s), none, some (.int b), some (.int x4)] [] (T, rf, g) 0 0 := by
  intro k
  induction k with
  | zero =>
    intro j b x4 rf g hj hx4 hO hr hf hU hZ
    obtain ⟨hX, -, hS, hE, hV, hlw, htc⟩ := id hO
    have hn8 : nc ≤ 8 := hV.2.1
    have hcn : g 1 5 = nI nc := hE.1.1.trans hV.1
    refine xX11_how_21 ?_
    refine xX11_how_23 ?_
    refine xX11_how_24_t (by rw [hx4]; exact nI_lt (a := 3) (by omega) (by omega)) ?_
    refine xX11_how_66 ?_
    refine xX11_how_67 rfl rfl ?_
    have q := hQ _ _ hr hf
    rw [← hZ] at q
    exact q
  | succ k ih =>
    intro j b x4 rf g hj hx4 hO hr hf hU hZ
    obtain ⟨hX, -, hS, hE, hV, hlw, htc⟩ := id hO
    have hn8 : nc ≤ 8 := hV.2.1
    have hcn : g 1 5 = nI nc := hE.1.1.trans hV.1
    refine xX11_how_21 ?_
    refine xX11_how_23 ?_
    refine xX11_how_24_f (by rw [hx4]; exact Int32.not_lt.mpr (nI_le (b := 3) (by omega) (by omega))) ?_
    refine xX11_how_27 ?_
    refine xX11_how_28 (hX.1 _ _ rfl) (hX.2 _ _ _ rfl) ?_
    refine xX11_how_31 ?_
    refine xX11_how_33 (hX.1 _ _ rfl) ?_
    refine xX11_how_36 ?_
    refine xX11_how_37 ?_
    refine xX11_how_38 ?_
    refine xX11_how_39 ?_
    refine xX11_how_40 (hX.1 _ _ rfl) (hX.2 _ _ _ rfl) ?_
    have h9 := hO.th (g' := up g 9 10 x4) ⟨hX, fun _ _ => rfl⟩ (VF.up (by omega)) (o' := up o 0 10 (nI j)) (by rw [hx4]; exact OEu_eq hU) (OVk_li (by omega) hV) (t' := t) (by rw [up_ne (by omega)]; exact hlw) htc
    refine xX11_how_43 (hX.1 _ _ rfl) rfl rfl rfl (s_X11_firstOtherwise h9 hs hs4 ((VF.xh (VF.up (by omega)) (hf.xh hH))) (fun rf0 g0 hr0 hz0 => ?_))
    refine xX11_how_46 ?_
    refine xX11_how_47 (fun cc => ?_) (fun cc => ?_)
    · have e : bff (fun q => fstO (rowS sh s) (up o 0 10 (nI q)) (evL (lws t)) nc) (k + 1) j b = bff (fun q => fstO (rowS sh s) (up o 0 10 (nI q)) (evL (lws t)) nc) k (j + 1) (b ||| 0) := bff_no (f := (fun q => fstO (rowS sh s) (up o 0 10 (nI q)) (evL (lws t)) nc)) cc
      refine xX11_how_57 ?_
      refine xX11_how_58 ?_
      refine xX11_how_59 rfl ?_
      refine xX11_how_60 rfl rfl ?_
      refine xX11_how_63 ?_
      exact ih (j + 1) _ _ _ _ (by omega) (by rw [hx4]; exact nI_1 _) (hO.vf hr0 ((VF.up (g := g) (a := 9) (k := 10) (v := x4) (by omega)).tr hz0.vf)) (hr.tr hr0) (hf.tr ((VF.up (g := g) (a := 9) (k := 10) (v := x4) (by omega)).tr hz0.vf)) ((OEu_up hU).tf hz0.tf) (by first | rw [← hZ, e, hx4] | rw [← hZ, e])
    · have e : bff (fun q => fstO (rowS sh s) (up o 0 10 (nI q)) (evL (lws t)) nc) (k + 1) j b = bff (fun q => fstO (rowS sh s) (up o 0 10 (nI q)) (evL (lws t)) nc) k (j + 1) (b ||| (1 : Int32) <<< (nI j &&& 31)) := bff_yes (f := (fun q => fstO (rowS sh s) (up o 0 10 (nI q)) (evL (lws t)) nc)) cc
      refine xX11_how_50 ?_
      refine xX11_how_51 ?_
      refine xX11_how_53 ?_
      refine xX11_how_54 ?_
      refine xX11_how_58 ?_
      refine xX11_how_59 rfl ?_
      refine xX11_how_60 rfl rfl ?_
      refine xX11_how_63 ?_
      exact ih (j + 1) _ _ _ _ (by omega) (by rw [hx4]; exact nI_1 _) (hO.vf hr0 ((VF.up (g := g) (a := 9) (k := 10) (v := x4) (by omega)).tr hz0.vf)) (hr.tr hr0) (hf.tr ((VF.up (g := g) (a := 9) (k := 10) (v := x4) (by omega)).tr hz0.vf)) ((OEu_up hU).tf hz0.tf) (by first | rw [← hZ, e, hx4] | rw [← hZ, e])
theorem s_X11_how {d : Nat} {sc : Nat × (Nat → Int32)} {T : List (Nat × Nat)} {rf : Nat → Nat → Option Nat} {g : Nat → Nat → Int32} {nc tc t : Nat} {o : OV} {lws : Nat → Nat → List Int32} {s : Int32} {sh : Nat → Nat → Int32} {F : Int32 → AH → Prop} (hO : OB T rf g 1 o nc tc lws t) (hH : XH g sh) (hQ : ∀ rf2 g2, ZR T rf rf2 → VF g g2 → F (howP sh o nc (evL (lws t)) s) (T, rf2, g2)) : Mok (d + 7) 0 0 sc kX11_how [.ref 0, .int s] (T, rf, g) (Qi F) := by
  obtain ⟨hX, -, hS, hE, hV, hlw, htc⟩ := id hO
  have hn8 : nc ≤ 8 := hV.2.1
  have hcn : g 1 5 = nI nc := hE.1.1.trans hV.1
  refine Mok.ofWp (L := [some (.ref 0), some (.int s), none, none, none]) rfl rfl rfl ?_
  refine xX11_how_0 ?_
  refine xX11_how_1 ?_
  refine xX11_how_2 (hX.1 _ _ rfl) rfl rfl rfl (s_X11_refusal hX hcn hH ?_)
  refine xX11_how_5 rfl ?_
  refine xX11_how_6 ?_
  refine xX11_how_7 (fun hz0 => ?_) (fun hz0 => ?_)
  · refine xX11_how_12 ?_
    refine xX11_how_13 (hX.1 _ _ rfl) rfl rfl rfl (s_X11_imagine hX (fun g1 he1 hj1 => ?_))
    refine xX11_how_16 ?_
    refine xX11_how_17 rfl ?_
    refine xX11_how_18 ?_
    refine xX11_how_19 rfl ?_
    refine wp_kill_2 ?_
    refine lp_X11_how (refS_0 hz0).1 (refS_0 hz0).2.1 hH (fun rf2 g2 h1 h2 => ?_) 4 0 _ _ _ _ (by omega) rfl (hO.vf ⟨hX, fun _ _ => rfl⟩ (VF.f9 hj1)) ⟨hX, fun _ _ => rfl⟩ (VF.f9 hj1) (OEu.of ((he1.le hn8).tr hE)) rfl
    have q := hQ _ _ h1 h2
    rw [howP, if_pos hz0] at q
    exact q
  · refine xX11_how_10 ?_
    refine xX11_how_11 rfl rfl ?_
    have q := hQ _ _ ⟨hX, fun _ _ => rfl⟩ VF.rf
    rw [howP, if_neg hz0] at q
    exact q
theorem lp_X11_laws {d : Nat} {sc : Nat × (Nat → Int32)} {T : List (Nat × Nat)} {rf0 : Nat → Nat → Option Nat} {g0 : Nat → Nat → Int32} {nc tc t : Nat} {o : OV} {lws : Nat → Nat → List Int32} {F : Int32 → AH → Prop} (htx : g0 0 7 = nI tc) {s : Int32} {sh : Nat → Nat → Int32} (hs : s = nI (nN s)) (hs4 : nN s < 4) (hH : XH g0 sh) {S : Int32} (hQ : ∀ rf2 g2, ZR T rf0 rf2 → VF g0 g2 → F S (T, rf2, g2)) : ∀ (k j : Nat) (b x4 : Int32) (rf : Nat → Nat → Option Nat) (g : Nat → Nat → Int32), (j + k = tc) → (x4 = nI j) → (OB T rf g 1 o nc tc lws t) → (ZR T rf0 rf) → (VF g0 g) → (OEu g 0 11 o nc) → (bff (fun q => fstO (rowS sh s) (up o 0 11 (nI q)) (evL (lws q)) nc) k j b = S) → Wp (d + 7) 0 0 sc kX11_laws (Qi F) 21 [some (.ref 0), some (.int s), none, some (.int b), some (.int x4)] [] (T, rf, g) 0 0 := by
  intro k
  induction k with
  | zero =>
    intro j b x4 rf g hj hx4 hO hr hf hU hZ
    obtain ⟨hX, -, hS, hE, hV, hlw, htc⟩ := id hO
    have hn8 : nc ≤ 8 := hV.2.1
    have hcn : g 1 5 = nI nc := hE.1.1.trans hV.1
    have htc6 : tc ≤ 6 := hS.1
    refine xX11_laws_21 ?_
    refine xX11_laws_23 ?_
    refine xX11_laws_24 (hX.1 _ _ rfl) ?_
    rw [show g 0 7 = nI tc from (hf.2 7 (by omega)).trans htx]
    refine xX11_laws_27_t (by rw [hx4]; exact nI_le (by omega) (by omega)) ?_
    refine xX11_laws_69 ?_
    refine xX11_laws_70 rfl rfl ?_
    have q := hQ _ _ hr hf
    rw [← hZ] at q
    exact q
  | succ k ih =>
    intro j b x4 rf g hj hx4 hO hr hf hU hZ
    obtain ⟨hX, -, hS, hE, hV, hlw, htc⟩ := id hO
    have hn8 : nc ≤ 8 := hV.2.1
    have hcn : g 1 5 = nI nc := hE.1.1.trans hV.1
    have htc6 : tc ≤ 6 := hS.1
    refine xX11_laws_21 ?_
    refine xX11_laws_23 ?_
    refine xX11_laws_24 (hX.1 _ _ rfl) ?_
    rw [show g 0 7 = nI tc from (hf.2 7 (by omega)).trans htx]
    refine xX11_laws_27_f (by rw [hx4]; exact nI_ge (by omega) (by omega)) ?_
    refine xX11_laws_30 ?_
    refine xX11_laws_31 (hX.1 _ _ rfl) (hX.2 _ _ _ rfl) ?_
    refine xX11_laws_34 ?_
    refine xX11_laws_36 (hX.1 _ _ rfl) ?_
    refine xX11_laws_39 ?_
    refine xX11_laws_40 ?_
    refine xX11_laws_41 ?_
    refine xX11_laws_42 ?_
    refine xX11_laws_43 (hX.1 _ _ rfl) (hX.2 _ _ _ rfl) ?_
    have h9 := hO.th (g' := up g 9 11 x4) ⟨hX, fun _ _ => rfl⟩ (VF.up (by omega)) (o' := up o 0 11 (nI j)) (by rw [hx4]; exact OEu_eq hU) (OVk_lw hV) (t' := j) (up_same _ _ _ _) (by omega)
    refine xX11_laws_46 (hX.1 _ _ rfl) rfl rfl rfl (s_X11_firstOtherwise h9 hs hs4 ((VF.xh (VF.up (by omega)) (hf.xh hH))) (fun rf0 g0 hr0 hz0 => ?_))
    refine xX11_laws_49 ?_
    refine xX11_laws_50 (fun cc => ?_) (fun cc => ?_)
    · have e : bff (fun q => fstO (rowS sh s) (up o 0 11 (nI q)) (evL (lws q)) nc) (k + 1) j b = bff (fun q => fstO (rowS sh s) (up o 0 11 (nI q)) (evL (lws q)) nc) k (j + 1) (b ||| 0) := bff_no (f := (fun q => fstO (rowS sh s) (up o 0 11 (nI q)) (evL (lws q)) nc)) cc
      refine xX11_laws_60 ?_
      refine xX11_laws_61 ?_
      refine xX11_laws_62 rfl ?_
      refine xX11_laws_63 rfl rfl ?_
      refine xX11_laws_66 ?_
      exact ih (j + 1) _ _ _ _ (by omega) (by rw [hx4]; exact nI_1 _) (hO.vf hr0 ((VF.up (g := g) (a := 9) (k := 11) (v := x4) (by omega)).tr hz0.vf)) (hr.tr hr0) (hf.tr ((VF.up (g := g) (a := 9) (k := 11) (v := x4) (by omega)).tr hz0.vf)) ((OEu_up hU).tf hz0.tf) (by first | rw [← hZ, e, hx4] | rw [← hZ, e])
    · have e : bff (fun q => fstO (rowS sh s) (up o 0 11 (nI q)) (evL (lws q)) nc) (k + 1) j b = bff (fun q => fstO (rowS sh s) (up o 0 11 (nI q)) (evL (lws q)) nc) k (j + 1) (b ||| (1 : Int32) <<< (nI j &&& 31)) := bff_yes (f := (fun q => fstO (rowS sh s) (up o 0 11 (nI q)) (evL (lws q)) nc)) cc
      refine xX11_laws_53 ?_
      refine xX11_laws_54 ?_
      refine xX11_laws_56 ?_
      refine xX11_laws_57 ?_
      refine xX11_laws_61 ?_
      refine xX11_laws_62 rfl ?_
      refine xX11_laws_63 rfl rfl ?_
      refine xX11_laws_66 ?_
      exact ih (j + 1) _ _ _ _ (by omega) (by rw [hx4]; exact nI_1 _) (hO.vf hr0 ((VF.up (g := g) (a := 9) (k := 11) (v := x4) (by omega)).tr hz0.vf)) (hr.tr hr0) (hf.tr ((VF.up (g := g) (a := 9) (k := 11) (v := x4) (by omega)).tr hz0.vf)) ((OEu_up hU).tf hz0.tf) (by first | rw [← hZ, e, hx4] | rw [← hZ, e])
theorem s_X11_laws {d : Nat} {sc : Nat × (Nat → Int32)} {T : List (Nat × Nat)} {rf : Nat → Nat → Option Nat} {g : Nat → Nat → Int32} {nc tc t : Nat} {o : OV} {lws : Nat → Nat → List Int32} {s : Int32} {sh : Nat → Nat → Int32} {F : Int32 → AH → Prop} (hO : OB T rf g 1 o nc tc lws t) (hH : XH g sh) (htx : g 0 7 = nI tc) (hQ : ∀ rf2 g2, ZR T rf rf2 → VF g g2 → F (lawsP sh o nc tc lws s) (T, rf2, g2)) : Mok (d + 7) 0 0 sc kX11_laws [.ref 0, .int s] (T, rf, g) (Qi F) := by
  obtain ⟨hX, -, hS, hE, hV, hlw, htc⟩ := id hO
  have hn8 : nc ≤ 8 := hV.2.1
  have hcn : g 1 5 = nI nc := hE.1.1.trans hV.1
  refine Mok.ofWp (L := [some (.ref 0), some (.int s), none, none, none]) rfl rfl rfl ?_
  refine xX11_laws_0 ?_
  refine xX11_laws_1 ?_
  refine xX11_laws_2 (hX.1 _ _ rfl) rfl rfl rfl (s_X11_refusal hX hcn hH ?_)
  refine xX11_laws_5 rfl ?_
  refine xX11_laws_6 ?_
  refine xX11_laws_7 (fun hz0 => ?_) (fun hz0 => ?_)
  · refine xX11_laws_12 ?_
    refine xX11_laws_13 (hX.1 _ _ rfl) rfl rfl rfl (s_X11_imagine hX (fun g1 he1 hj1 => ?_))
    refine xX11_laws_16 ?_
    refine xX11_laws_17 rfl ?_
    refine xX11_laws_18 ?_
    refine xX11_laws_19 rfl ?_
    refine wp_kill_2 ?_
    refine lp_X11_laws htx (refS_0 hz0).1 (refS_0 hz0).2.1 hH (fun rf2 g2 h1 h2 => ?_) tc 0 _ _ _ _ (by omega) rfl (hO.vf ⟨hX, fun _ _ => rfl⟩ (VF.f9 hj1)) ⟨hX, fun _ _ => rfl⟩ (VF.f9 hj1) (OEu.of ((he1.le hn8).tr hE)) rfl
    have q := hQ _ _ h1 h2
    rw [lawsP, if_pos hz0] at q
    exact q
  · refine xX11_laws_10 ?_
    refine xX11_laws_11 rfl rfl ?_
    have q := hQ _ _ ⟨hX, fun _ _ => rfl⟩ VF.rf
    rw [lawsP, if_neg hz0] at q
    exact q
