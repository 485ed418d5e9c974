theorem BAK.r0 {T : List (Nat × Nat)} {rf : Nat → Nat → Option Nat} {g g' : Nat → Nat → Int32} {b nc m : Nat} {o : OV} {lw : Nat → List Int32} (h : BAK T rf g b o nc m lw) (hr : R0 g g') : BAK T rf g' b o nc m lw := by
  obtain ⟨la, n, hB, hG, hE, hV, hK, h1, h2⟩ := h
  have hb := hB.2.1
  have hla := hB.2.2.2.2.2.2
  have e : XO g' b = XO g b := funext fun r => hr.1 (b + r) (by omega)
  refine ⟨la, n, hB, ⟨hG.1.keep (hr.1 _ (by omega)) (hr.1 _ (by omega)), rfl, rfl, rfl, rfl, rfl, rfl, rfl, rfl⟩, by rw [e]; exact hE, hV, ?_, h1, h2⟩
  unfold BK at hK ⊢
  rw [e, hr.1 25 (by omega), hr.1 26 (by omega)]
  exact hK
theorem VF.c1 {g g' : Nat → Nat → Int32} (h : VF g g') (k : Nat) : g' 1 k = g 1 k := congrFun (h.x1 0 (by omega)) k
theorem VF.xh {g g' : Nat → Nat → Int32} {sh : Nat → Nat → Int32} (h : VF g g') (hx : XH g sh) : XH g' sh := hx.keep (fun a h1 h2 => h.1 a (by omega) (by omega) (by omega) (by omega) (by omega) (by omega))
theorem WG.l1 {g : Nat → Nat → Int32} {s : Option (Int32 × Int32)} (h : WG g s) : g 0 10 = lgt s 1 := by
  cases s with
  | none => exact h.2.1
  | some q => exact h.2.1
def sumI (f : Nat → Int32) : Nat → Int32
  | 0 => 0
  | n + 1 => sumI f n + f n
def outF (o : OV) (ev : EV) (c : Nat) : Nat → Int32 × Int32 := fun m => (nI m, badX o ev c (brS o ev c m))
def outS (o : OV) (ev : EV) (c : Nat) : Option (Int32 × Int32) := wff (outF o ev c) (nN (o 0 9) + 1) 0 none
def outP (o : OV) (nc : Nat) (ev : EV) (c w : Int32) : Int32 := if 0 ≤ c ∧ c ≤ nI nc - 1 then (if 0 ≤ w ∧ w ≤ 1 then lgt (outS o ev (nN c)) w else -7) else -5
def singlyP (o : OV) (nc : Nat) (ev : EV) : Int32 := sumI (fun c => lgt (outS o ev c) 1) nc
def untilP (o : OV) (nc : Nat) (ev : EV) (w : Int32) : Int32 := if 0 ≤ w ∧ w ≤ 1 then lgt (wff (fun m => (nI m, badAll o ev (fun c => brS o ev c m) nc)) 40 1 none) w else -2
def soonP (o : OV) (nc : Nat) (ev : EV) (c b : Int32) : Int32 := if 0 ≤ c ∧ c ≤ nI nc - 1 then (if 0 ≤ b ∧ b ≤ 999 then scan (fun m => b ≤ brS o ev (nN c) m) (nN (o 0 9) + 1) 0 else -7) else -5
def costP (o : OV) (nc : Nat) (ev : EV) : Int32 := badP o ev nc - badP (up o 0 8 0) ev nc
def judgeP (sh : Nat → Nat → Int32) (o : OV) (nc : Nat) (ev : EV) (s : Int32) : Int32 := if refS sh nc s = 0 then fstO (fun c => sh (nN s) (2 + c)) o ev nc else refS sh nc s
theorem WG.row {g g' : Nat → Nat → Int32} {s : Option (Int32 × Int32)} (h : WG g s) (e : g' 0 = g 0) : WG g' s := by
  unfold WG at h ⊢
  rw [e]
  exact h
theorem ZF.r0 {g g' : Nat → Nat → Int32} (h : ZF g g') : g' 0 = g 0 := h 0 (by omega) (by omega) (by omega) (by omega)
theorem WG.zf {g g' : Nat → Nat → Int32} {s : Option (Int32 × Int32)} (h : WG g s) (hz : ZF g g') : WG g' s := h.row hz.r0
theorem lp_X11_firstOtherwise {d : Nat} {sc : Nat × (Nat → Int32)} {T : List (Nat × Nat)} {rf : Nat → Nat → Option Nat} {g : Nat → Nat → Int32} {b nc sN : Nat} {s : Int32} {o : OV} {lw : Nat → List Int32} {sh : Nat → Nat → Int32} {F : Int32 → AH → Prop} (hX : XS T rf) (hOv : OvT T rf b) (hs : s = nI sN) (hs4 : sN < 4) (hH : XH g sh) (hcb : g b 5 = nI nc) (hn8 : nc ≤ 8) (hbr : ∀ c, c < nc → g 26 c = endB o (evL lw) c) (hQ : F (fstO (fun c => sh sN (2 + c)) o (evL lw) nc) (T, rf, g)) : ∀ (k j : Nat) (x3 : Int32), (j + k = nc) → (x3 = nI j) → (fstO (fun c => sh sN (2 + c)) o (evL lw) nc = scan (fun c => sh sN (2 + c) ≠ endB o (evL lw) c) k j) → Wp (d + 1) 0 0 sc kX11_firstOtherwise (Qi F) 11 [some (.ref 0), some (.int s), some (.ref b), some (.int x3)] [] (T, rf, g) 0 0 := by
  intro k
  induction k with
  | zero =>
    intro j x3 hj hx3 hsc
    refine xX11_firstOtherwise_11 ?_
    refine xX11_firstOtherwise_12 ?_
    refine xX11_firstOtherwise_13 hOv.1 ?_
    rw [hcb]
    refine xX11_firstOtherwise_16_t (by rw [hx3]; exact nI_le (by omega) (by omega)) ?_
    refine xX11_firstOtherwise_49 ?_
    refine xX11_firstOtherwise_50 rfl rfl ?_
    rw [hsc] at hQ
    exact hQ
  | succ k ih =>
    intro j x3 hj hx3 hsc
    refine xX11_firstOtherwise_11 ?_
    refine xX11_firstOtherwise_12 ?_
    refine xX11_firstOtherwise_13 hOv.1 ?_
    rw [hcb]
    refine xX11_firstOtherwise_16_f (by rw [hx3]; exact nI_ge (by omega) (by omega)) ?_
    refine xX11_firstOtherwise_19 ?_
    refine xX11_firstOtherwise_20 (hX.1 _ _ rfl) (hX.2 _ _ _ rfl) ?_
    refine xX11_firstOtherwise_23 ?_
    refine xX11_firstOtherwise_24 (j := sN) (hX.1 _ _ rfl) rfl rfl hs hs4 rfl (ShT hX hs4).2.2.2 ?_
    refine xX11_firstOtherwise_25 ?_
    refine xX11_firstOtherwise_26 (ShT hX hs4).1 rfl rfl rfl (s_X7_cellAt ⟨(ShT hX hs4).1, (ShT hX hs4).2.1, (ShT hX hs4).2.2.1⟩ hx3 (by omega) ?_)
    refine xX11_firstOtherwise_29 ?_
    refine xX11_firstOtherwise_30 (hX.1 _ _ rfl) (hX.2 _ _ _ rfl) ?_
    refine xX11_firstOtherwise_33 (hX.1 _ _ rfl) (hX.2 _ _ _ rfl) ?_
    refine xX11_firstOtherwise_36 ?_
    refine xX11_firstOtherwise_37 (j := j) (hX.1 _ _ rfl) hx3 (by omega) rfl ?_
    rw [(hH sN hs4).2.2 j (by omega), hbr j (by omega)]
    refine xX11_firstOtherwise_38 (fun c38 => ?_) (fun c38 => ?_)
    · have e : scan (fun c => sh sN (2 + c) ≠ endB o (evL lw) c) (k + 1) j = scan (fun c => sh sN (2 + c) ≠ endB o (evL lw) c) k (j + 1) := scan_no (p := (fun c => sh sN (2 + c) ≠ endB o (evL lw) c)) (fun z => z c38)
      refine xX11_firstOtherwise_43 rfl rfl ?_
      refine xX11_firstOtherwise_46 ?_
      exact ih (j + 1) _ (by omega) (by rw [hx3]; exact nI_1 j) (hsc.trans e)
    · have e : scan (fun c => sh sN (2 + c) ≠ endB o (evL lw) c) (k + 1) j = nI j := scan_yes (p := (fun c => sh sN (2 + c) ≠ endB o (evL lw) c)) c38
      refine xX11_firstOtherwise_41 ?_
      refine xX11_firstOtherwise_42 rfl rfl ?_
      rw [hx3, ← e, ← hsc]
      exact hQ
theorem s_X11_firstOtherwise {d : Nat} {sc : Nat × (Nat → Int32)} {T : List (Nat × Nat)} {rf : Nat → Nat → Option Nat} {g : Nat → Nat → Int32} {b nc tc t : Nat} {o : OV} {lws : Nat → Nat → List Int32} {sN : Nat} {s : Int32} {sh : Nat → Nat → Int32} {F : Int32 → AH → Prop} (hO : OB T rf g b o nc tc lws t) (hs : s = nI sN) (hs4 : sN < 4) (hH : XH g sh) (hQ : ∀ rf2 g2, ZR T rf rf2 → ZF g g2 → F (fstO (fun c => sh sN (2 + c)) o (evL (lws t)) nc) (T, rf2, g2)) : Mok (d + 6) 0 0 sc kX11_firstOtherwise [.ref 0, .int s, .ref b] (T, rf, g) (Qi F) := by
  have hX := hO.1
  have hOv := OvT.of hX hO.2.1
  have hV := hO.2.2.2.2.1
  have hE := hO.2.2.2.1
  have htm : g b 9 = nI (nN (o 0 9)) := hE.1.2.2.1.trans hV.tN.1
  have hbc := hO.2.1
  refine Mok.ofWp (L := [some (.ref 0), some (.int s), some (.ref b), none]) rfl rfl rfl ?_
  refine xX11_firstOtherwise_0 ?_
  refine xX11_firstOtherwise_1 ?_
  refine xX11_firstOtherwise_2 ?_
  refine xX11_firstOtherwise_3 hOv.1 ?_
  refine xX11_firstOtherwise_6 (hX.1 _ _ rfl) rfl rfl rfl (s_X11_bake hO htm hV.tN.2.1 (fun rf0 g0 hr0 hz0 hk0 => ?_))
  refine xX11_firstOtherwise_9 ?_
  refine xX11_firstOtherwise_10 rfl ?_
  exact lp_X11_firstOtherwise hr0.1 (OvT.of hr0.1 hbc) hs hs4 (hz0.vf.xh hH) (((congrFun (XO.zf hz0 hbc 0 (by omega)) 5).trans hE.1.1).trans hV.1) hV.2.1 (fun c hc => hk0.br hc) (hQ _ _ hr0 hz0) nc 0 _ (by omega) rfl rfl
theorem s_X11_refusal {d : Nat} {sc : Nat × (Nat → Int32)} {T : List (Nat × Nat)} {rf : Nat → Nat → Option Nat} {g : Nat → Nat → Int32} {nc : Nat} {s : Int32} {sh : Nat → Nat → Int32} {F : Int32 → AH → Prop} (hX : XS T rf) (hcn : g 1 5 = nI nc) (hH : XH g sh) (hQ : F (refS sh nc s) (T, rf, g)) : Mok (d + 1) 0 0 sc kX11_refusal [.ref 0, .int s] (T, rf, g) (Qi F) := by
  refine Mok.ofWp (L := [some (.ref 0), some (.int s)]) rfl rfl rfl ?_
  refine xX11_refusal_0 ?_
  refine xX11_refusal_1 ?_
  refine xX11_refusal_2 ?_
  refine xX11_refusal_3 rfl rfl rfl (s_X11_within  (fun hw0 => ?_) (fun nw0 => ?_))
  · refine xX11_refusal_6_t (by decide) ?_
    refine xX11_refusal_12 ?_
    refine xX11_refusal_13 (hX.1 _ _ rfl) (hX.2 _ _ _ rfl) ?_
    refine xX11_refusal_16 ?_
    refine xX11_refusal_17 (j := nN s) (hX.1 _ _ rfl) rfl rfl (inN hw0).1 (Nat.lt_succ_of_le (inN hw0).2) rfl (ShT hX (Nat.lt_succ_of_le (inN hw0).2)).2.2.2 ?_
    refine xX11_refusal_18 (ShT hX (Nat.lt_succ_of_le (inN hw0).2)).1 ?_
    refine xX11_refusal_21 ?_
    rw [(hH (nN s) (Nat.lt_succ_of_le (inN hw0).2)).1]
    refine xX11_refusal_22 (fun c22 => ?_) (fun c22 => ?_)
    · refine xX11_refusal_28 ?_
      refine xX11_refusal_29 (hX.1 _ _ rfl) (hX.2 _ _ _ rfl) ?_
      refine xX11_refusal_32 ?_
      refine xX11_refusal_33 (j := nN s) (hX.1 _ _ rfl) rfl rfl (inN hw0).1 (Nat.lt_succ_of_le (inN hw0).2) rfl (ShT hX (Nat.lt_succ_of_le (inN hw0).2)).2.2.2 ?_
      refine xX11_refusal_34 (ShT hX (Nat.lt_succ_of_le (inN hw0).2)).1 ?_
      rw [(hH (nN s) (Nat.lt_succ_of_le (inN hw0).2)).2.1]
      refine xX11_refusal_37 ?_
      refine xX11_refusal_38 (hX.1 _ _ rfl) (hX.2 _ _ _ rfl) ?_
      refine xX11_refusal_41 (hX.1 _ _ rfl) ?_
      rw [hcn]
      refine xX11_refusal_44 (fun c44 => ?_) (fun c44 => ?_)
      · refine xX11_refusal_52 ?_
        refine xX11_refusal_53 rfl rfl ?_
        first | (rw [refS, if_neg (fun z => z hw0), if_neg c22, if_pos c44] at hQ; exact hQ) | (rw [refS, if_neg (fun z => z hw0), if_neg c22, if_neg c44] at hQ; exact hQ)
      · refine xX11_refusal_47 ?_
        refine xX11_refusal_49 ?_
        refine xX11_refusal_53 rfl rfl ?_
        first | (rw [refS, if_neg (fun z => z hw0), if_neg c22, if_pos c44] at hQ; exact hQ) | (rw [refS, if_neg (fun z => z hw0), if_neg c22, if_neg c44] at hQ; exact hQ)
    · refine xX11_refusal_25 ?_
      refine xX11_refusal_27 rfl rfl ?_
      rw [refS, if_neg (fun z => z hw0), if_pos c22] at hQ
      exact hQ
  · refine xX11_refusal_6_f (by decide) ?_
    refine xX11_refusal_9 ?_
    refine xX11_refusal_11 rfl rfl ?_
    rw [refS, if_pos nw0] at hQ
    exact hQ
theorem lp_X11_weighOut {d : Nat} {sc : Nat × (Nat → Int32)} {T : List (Nat × Nat)} {rf : Nat → Nat → Option Nat} {nc : Nat} {o : OV} {lw : Nat → List Int32} {g0 : Nat → Nat → Int32} {F : AH → Prop} {c : Int32} {cN tm : Nat} (hX : XS T rf) (hc : c = nI cN) (hcn : cN < nc) (htm : g0 1 9 = nI tm) (ht40 : tm ≤ 40) {S : Option (Int32 × Int32)} (hQ : ∀ g2, WG g2 S → VF g0 g2 → F (T, rf, g2)) : ∀ (k j : Nat) (x2 : Int32) (g : Nat → Nat → Int32) (s : Option (Int32 × Int32)), (j + k = tm) → (x2 = nI (j + 1)) → (VF g0 g) → (BAK T rf g 1 o nc j lw) → (WG g s) → (wff (outF o (evL lw) cN) k (j + 1) s = S) → Wp (d + 5) 0 0 sc kX11_weighOut (Qv F) 27 [some (.ref 0), some (.int c), some (.int x2)] [] (T, rf, g) 0 0 := by
  intro k
  induction k with
  | zero =>
    intro j x2 g s hj hx2 hf hK hw hS
    have e9 : g 1 9 = nI tm := (hf.c1 9).trans htm
    refine xX11_weighOut_27 ?_
    refine xX11_weighOut_28 ?_
    refine xX11_weighOut_29 (hX.1 _ _ rfl) (hX.2 _ _ _ rfl) ?_
    refine xX11_weighOut_32 (hX.1 _ _ rfl) ?_
    rw [e9]
    refine xX11_weighOut_35_t (by rw [hx2]; exact nI_lt (by omega) (by omega)) ?_
    refine xX11_weighOut_64 rfl rfl ?_
    exact hQ _ (hS ▸ hw) hf
  | succ k ih =>
    intro j x2 g s hj hx2 hf hK hw hS
    have e9 : g 1 9 = nI tm := (hf.c1 9).trans htm
    refine xX11_weighOut_27 ?_
    refine xX11_weighOut_28 ?_
    refine xX11_weighOut_29 (hX.1 _ _ rfl) (hX.2 _ _ _ rfl) ?_
    refine xX11_weighOut_32 (hX.1 _ _ rfl) ?_
    rw [e9]
    refine xX11_weighOut_35_f (by rw [hx2]; exact Int32.not_lt.mpr (nI_le (by omega) (by omega))) ?_
    refine xX11_weighOut_38 ?_
    refine xX11_weighOut_39 (hX.1 _ _ rfl) (hX.2 _ _ _ rfl) ?_
    refine xX11_weighOut_42 (hX.1 _ _ rfl) rfl rfl rfl (t_X0_step hK (by omega) (fun g0 hk0 hz0 => ?_))
    refine xX11_weighOut_45 ?_
    refine xX11_weighOut_46 ?_
    refine xX11_weighOut_47 ?_
    refine xX11_weighOut_48 (hX.1 _ _ rfl) (hX.2 _ _ _ rfl) ?_
    refine xX11_weighOut_51 ?_
    refine xX11_weighOut_52 (hX.1 _ _ rfl) rfl rfl rfl (t_X0_badnessOf hk0 hc hcn (fun g1 hk1 hz1 => ?_))
    refine xX11_weighOut_55 (hX.1 _ _ rfl) rfl rfl rfl (s_X11_weigh hX ((hw.zf hz0).zf hz1) (fun g2 hg2 hy2 => ?_))
    refine xX11_weighOut_58 rfl rfl ?_
    refine xX11_weighOut_61 ?_
    exact ih (j + 1) _ _ _ (by omega) (by rw [hx2]; exact nI_1 _) (hf.tr ((hz0.vf.tr hz1.vf).tr hy2.vf)) (hk1.r0 hy2) hg2 (by rw [hx2]; exact hS)
theorem s_X11_weighOut {d : Nat} {sc : Nat × (Nat → Int32)} {T : List (Nat × Nat)} {rf : Nat → Nat → Option Nat} {g : Nat → Nat → Int32} {nc tc t : Nat} {o : OV} {lws : Nat → Nat → List Int32} {c : Int32} {cN : Nat} {F : AH → Prop} (hO : OB T rf g 1 o nc tc lws t) (hc : c = nI cN) (hcn1 : cN < nc) (hQ : ∀ rf2 g2, WG g2 (outS o (evL (lws t)) cN) → ZR T rf rf2 → VF g g2 → F (T, rf2, g2)) : Mok (d + 5) 0 0 sc kX11_weighOut [.ref 0, .int c] (T, rf, g) (Qv F) := by
  obtain ⟨hX, -, hS, hE, hV, hlw, htc⟩ := id hO
  have hn8 : nc ≤ 8 := hV.2.1
  have hcn : g 1 5 = nI nc := hE.1.1.trans hV.1
  refine Mok.ofWp (L := [some (.ref 0), some (.int c), none]) rfl rfl rfl ?_
  refine xX11_weighOut_0 ?_
  refine xX11_weighOut_1 ?_
  refine xX11_weighOut_2 (hX.1 _ _ rfl) (hX.2 _ _ _ rfl) ?_
  refine xX11_weighOut_5 (hX.1 _ _ rfl) rfl rfl rfl (s_X11_startBaking hO (fun rf0 g0 hr0 hz0 hk0 => ?_))
  refine xX11_weighOut_8 ?_
  refine xX11_weighOut_9 (hX.1 _ _ rfl) rfl rfl rfl (s_X11_weighNone hr0.1 (fun g1 hg1 hy1 => ?_))
  refine xX11_weighOut_12 ?_
  refine xX11_weighOut_13 ?_
  refine xX11_weighOut_14 ?_
  refine xX11_weighOut_15 (hX.1 _ _ rfl) (hr0.1.2 _ _ _ rfl) ?_
  refine xX11_weighOut_18 ?_
  refine xX11_weighOut_19 (hX.1 _ _ rfl) rfl rfl rfl (t_X0_badnessOf (hk0.r0 hy1) hc hcn1 (fun g2 hk2 hz2 => ?_))
  refine xX11_weighOut_22 (hX.1 _ _ rfl) rfl rfl rfl (s_X11_weigh hr0.1 (hg1.zf hz2) (fun g3 hg3 hy3 => ?_))
  refine xX11_weighOut_25 ?_
  refine xX11_weighOut_26 rfl ?_
  refine lp_X11_weighOut hr0.1 hc hcn1 (htm := ((((hz0.vf.tr hy1.vf).tr hz2.vf).tr hy3.vf).c1 9).trans (hE.1.2.2.1.trans hV.tN.1)) hV.tN.2.1 (S := outS o (evL (lws t)) cN) (fun g2 h1 h2 => hQ _ _ h1 hr0 ((((hz0.vf.tr hy1.vf).tr hz2.vf).tr hy3.vf).tr h2)) (nN (o 0 9)) 0 _ _ _ (by omega) rfl VF.rf (hk2.r0 hy3) hg3 rfl
theorem s_X11_out {d : Nat} {sc : Nat × (Nat → Int32)} {T : List (Nat × Nat)} {rf : Nat → Nat → Option Nat} {g : Nat → Nat → Int32} {nc tc t : Nat} {o : OV} {lws : Nat → Nat → List Int32} {c w : Int32} {F : Int32 → AH → Prop} (hO : OB T rf g 1 o nc tc lws t) (hQ : ∀ rf2 g2, ZR T rf rf2 → VF g g2 → F (outP o nc (evL (lws t)) c w) (T, rf2, g2)) : Mok (d + 6) 0 0 sc kX11_out [.ref 0, .int c, .int w] (T, rf, g) (Qi F) := by
  obtain ⟨hX, -, hS, hE, hV, hlw, htc⟩ := id hO
  have hn8 : nc ≤ 8 := hV.2.1
  have hcn : g 1 5 = nI nc := hE.1.1.trans hV.1
  refine Mok.ofWp (L := [some (.ref 0), some (.int c), some (.int w)]) rfl rfl rfl ?_
  refine xX11_out_0 ?_
  refine xX11_out_1 ?_
  refine xX11_out_2 (hX.1 _ _ rfl) rfl rfl rfl (t_X11_isCake hX hcn (fun hw0 => ?_) (fun nw0 => ?_))
  · obtain ⟨ecN, hcN⟩ := isC_N hw0 hn8
    refine xX11_out_5_t (by decide) ?_
    refine xX11_out_11 ?_
    refine xX11_out_12 ?_
    refine xX11_out_13 ?_
    refine xX11_out_14 rfl rfl rfl (s_X11_within  (fun hw1 => ?_) (fun nw1 => ?_))
    · refine xX11_out_17_t (by decide) ?_
      refine xX11_out_23 ?_
      refine xX11_out_24 ?_
      refine xX11_out_25 (hX.1 _ _ rfl) rfl rfl rfl (s_X11_weighOut hO ecN hcN (fun rf2 g2 hg2 hr2 hv2 => ?_))
      refine xX11_out_28 ?_
      refine xX11_out_29 ?_
      refine xX11_out_30 (hX.1 _ _ rfl) rfl rfl rfl (s_X11_lightest hr2.1 hg2 ?_)
      refine xX11_out_33 rfl rfl ?_
      have q := hQ _ _ hr2 hv2
      rw [outP, if_pos hw0, if_pos hw1] at q
      exact q
    · refine xX11_out_17_f (by decide) ?_
      refine xX11_out_20 ?_
      refine xX11_out_22 rfl rfl ?_
      have q := hQ _ _ ⟨hX, fun _ _ => rfl⟩ VF.rf
      rw [outP, if_pos hw0, if_neg nw1] at q
      exact q
  · refine xX11_out_5_f (by decide) ?_
    refine xX11_out_8 ?_
    refine xX11_out_10 rfl rfl ?_
    have q := hQ _ _ ⟨hX, fun _ _ => rfl⟩ VF.rf
    rw [outP, if_neg nw0] at q
    exact q
theorem lp_X11_singly {d : Nat} {sc : Nat × (Nat → Int32)} {T : List (Nat × Nat)} {rf0 : Nat → Nat → Option Nat} {g0 : Nat → Nat → Int32} {nc tc t : Nat} {o : OV} {lws : Nat → Nat → List Int32} {F : Int32 → AH → Prop} (hQ : ∀ rf2 g2, ZR T rf0 rf2 → VF g0 g2 → F (sumI (fun c => lgt (outS o (evL (lws t)) c) 1) nc) (T, rf2, g2)) : ∀ (k j : Nat) (x1 x2 : Int32) (rf : Nat → Nat → Option Nat) (g : Nat → Nat → Int32), (j + k = nc) → (x2 = nI j) → (OB T rf g 1 o nc tc lws t) → (ZR T rf0 rf) → (VF g0 g) → (x1 = sumI (fun c => lgt (outS o (evL (lws t)) c) 1) j) → Wp (d + 6) 0 0 sc kX11_singly (Qi F) 4 [some (.ref 0), some (.int x1), some (.int x2)] [] (T, rf, g) 0 0 := by
  intro k
  induction k with
  | zero =>
    intro j x1 x2 rf g hj hx2 hO hr hf hx1
    obtain ⟨hX, -, hS, hE, hV, hlw, htc⟩ := id hO
    have hn8 : nc ≤ 8 := hV.2.1
    have hcn : g 1 5 = nI nc := hE.1.1.trans hV.1
    refine xX11_singly_4 ?_
    refine xX11_singly_5 ?_
    refine xX11_singly_6 (hX.1 _ _ rfl) (hX.2 _ _ _ rfl) ?_
    refine xX11_singly_9 (hX.1 _ _ rfl) ?_
    rw [hcn]
    refine xX11_singly_12_t (by rw [hx2]; exact nI_le (by omega) (by omega)) ?_
    refine xX11_singly_33 ?_
    refine xX11_singly_34 rfl rfl ?_
    have e : j = nc := by omega
    subst e
    rw [hx1]
    exact hQ _ _ hr hf
  | succ k ih =>
    intro j x1 x2 rf g hj hx2 hO hr hf hx1
    obtain ⟨hX, -, hS, hE, hV, hlw, htc⟩ := id hO
    have hn8 : nc ≤ 8 := hV.2.1
    have hcn : g 1 5 = nI nc := hE.1.1.trans hV.1
    refine xX11_singly_4 ?_
    refine xX11_singly_5 ?_
    refine xX11_singly_6 (hX.1 _ _ rfl) (hX.2 _ _ _ rfl) ?_
    refine xX11_singly_9 (hX.1 _ _ rfl) ?_
    rw [hcn]
    refine xX11_singly_12_f (by rw [hx2]; exact nI_ge (by omega) (by omega)) ?_
    refine xX11_singly_15 ?_
    refine xX11_singly_16 ?_
    refine xX11_singly_17 (hX.1 _ _ rfl) rfl rfl rfl (s_X11_weighOut hO hx2 (by omega) (fun rf0 g0 hg0 hr0 hv0 => ?_))
    refine xX11_singly_20 ?_
    refine xX11_singly_21 ?_
    refine xX11_singly_22 (hX.1 _ _ rfl) ?_
    rw [hg0.l1]
    refine xX11_singly_25 ?_
    refine xX11_singly_26 rfl ?_
    refine xX11_singly_27 rfl rfl ?_
    refine xX11_singly_30 ?_
    exact ih (j + 1) _ _ _ _ (by omega) (by rw [hx2]; exact nI_1 j) (hO.vf hr0 hv0) (hr.tr hr0) (hf.tr hv0) (by rw [hx1]; rfl)
theorem s_X11_singly {d : Nat} {sc : Nat × (Nat → Int32)} {T : List (Nat × Nat)} {rf : Nat → Nat → Option Nat} {g : Nat → Nat → Int32} {nc tc t : Nat} {o : OV} {lws : Nat → Nat → List Int32} {F : Int32 → AH → Prop} (hO : OB T rf g 1 o nc tc lws t) (hQ : ∀ rf2 g2, ZR T rf rf2 → VF g g2 → F (singlyP o nc (evL (lws t))) (T, rf2, g2)) : Mok (d + 6) 0 0 sc kX11_singly [.ref 0] (T, rf, g) (Qi F) := by
  obtain ⟨hX, -, hS, hE, hV, hlw, htc⟩ := id hO
  have hn8 : nc ≤ 8 := hV.2.1
  have hcn : g 1 5 = nI nc := hE.1.1.trans hV.1
  refine Mok.ofWp (L := [some (.ref 0), none, none]) rfl rfl rfl ?_
  refine xX11_singly_0 ?_
  refine xX11_singly_1 rfl ?_
  refine xX11_singly_2 ?_
  refine xX11_singly_3 rfl ?_
  exact lp_X11_singly hQ nc 0 _ _ _ _ (by omega) rfl hO ⟨hX, fun _ _ => rfl⟩ VF.rf rfl
theorem lp_X11_until {d : Nat} {sc : Nat × (Nat → Int32)} {T : List (Nat × Nat)} {rf : Nat → Nat → Option Nat} {nc : Nat} {o : OV} {lw : Nat → List Int32} {g0 : Nat → Nat → Int32} {F : Int32 → AH → Prop} {w : Int32} (hX : XS T rf) {S : Option (Int32 × Int32)} (hQ : ∀ g2, VF g0 g2 → F (lgt S w) (T, rf, g2)) : ∀ (k j : Nat) (x2 : Int32) (g : Nat → Nat → Int32) (s : Option (Int32 × Int32)), (j + k = 40) → (x2 = nI (j + 1)) → (VF g0 g) → (BAK T rf g 1 o nc j lw) → (WG g s) → (wff (fun m => (nI m, badAll o (evL lw) (fun c => brS o (evL lw) c m) nc)) k (j + 1) s = S) → Wp (d + 5) 0 0 sc kX11_until (Qi F) 26 [some (.ref 0), some (.int w), some (.int x2)] [] (T, rf, g) 0 0 := by
  intro k
  induction k with
  | zero =>
    intro j x2 g s hj hx2 hf hK hw hS
    refine xX11_until_26 ?_
    refine xX11_until_27 ?_
    refine xX11_until_29_t (by rw [hx2]; exact nI_lt (a := 40) (by omega) (by omega)) ?_
    refine xX11_until_57 ?_
    refine xX11_until_58 ?_
    refine xX11_until_59 (hX.1 _ _ rfl) rfl rfl rfl (s_X11_lightest hX hw ?_)
    refine xX11_until_62 rfl rfl ?_
    have q := hQ _ hf
    rw [← hS] at q
    exact q
  | succ k ih =>
    intro j x2 g s hj hx2 hf hK hw hS
    refine xX11_until_26 ?_
    refine xX11_until_27 ?_
    refine xX11_until_29_f (by rw [hx2]; exact Int32.not_lt.mpr (nI_le (b := 40) (by omega) (by omega))) ?_
    refine xX11_until_32 ?_
    refine xX11_until_33 (hX.1 _ _ rfl) (hX.2 _ _ _ rfl) ?_
    refine xX11_until_36 (hX.1 _ _ rfl) rfl rfl rfl (t_X0_step hK (by omega) (fun g0 hk0 hz0 => ?_))
    refine xX11_until_39 ?_
    refine xX11_until_40 ?_
    refine xX11_until_41 ?_
    refine xX11_until_42 (hX.1 _ _ rfl) (hX.2 _ _ _ rfl) ?_
    refine xX11_until_45 (hX.1 _ _ rfl) rfl rfl rfl (t_X0_badness hk0 (fun g1 hk1 hz1 => ?_))
    refine xX11_until_48 (hX.1 _ _ rfl) rfl rfl rfl (s_X11_weigh hX ((hw.zf hz0).zf hz1) (fun g2 hg2 hy2 => ?_))
    refine xX11_until_51 rfl rfl ?_
    refine xX11_until_54 ?_
    exact ih (j + 1) _ _ _ (by omega) (by rw [hx2]; exact nI_1 _) (hf.tr ((hz0.vf.tr hz1.vf).tr hy2.vf)) (hk1.r0 hy2) hg2 (by rw [hx2]; exact hS)
theorem s_X11_until {d : Nat} {sc : Nat × (Nat → Int32)} {T : List (Nat × Nat)} {rf : Nat → Nat → Option Nat} {g : Nat → Nat → Int32} {nc tc t : Nat} {o : OV} {lws : Nat → Nat → List Int32} {w : Int32} {F : Int32 → AH → Prop} (hO : OB T rf g 1 o nc tc lws t) (hQ : ∀ rf2 g2, ZR T rf rf2 → VF g g2 → F (untilP o nc (evL (lws t)) w) (T, rf2, g2)) : Mok (d + 6) 0 0 sc kX11_until [.ref 0, .int w] (T, rf, g) (Qi F) := by
  obtain ⟨hX, -, hS, hE, hV, hlw, htc⟩ := id hO
  have hn8 : nc ≤ 8 := hV.2.1
  have hcn : g 1 5 = nI nc := hE.1.1.trans hV.1
  refine Mok.ofWp (L := [some (.ref 0), some (.int w), none]) rfl rfl rfl ?_
  refine xX11_until_0 ?_
  refine xX11_until_1 ?_
  refine xX11_until_2 ?_
  refine xX11_until_3 rfl rfl rfl (s_X11_within  (fun hw0 => ?_) (fun nw0 => ?_))
  · refine xX11_until_6_t (by decide) ?_
    refine xX11_until_12 ?_
    refine xX11_until_13 ?_
    refine xX11_until_14 (hX.1 _ _ rfl) (hX.2 _ _ _ rfl) ?_
    refine xX11_until_17 (hX.1 _ _ rfl) rfl rfl rfl (s_X11_startBaking hO (fun rf1 g1 hr1 hz1 hk1 => ?_))
    refine xX11_until_20 ?_
    refine xX11_until_21 (hX.1 _ _ rfl) rfl rfl rfl (s_X11_weighNone hr1.1 (fun g2 hg2 hy2 => ?_))
    refine xX11_until_24 ?_
    refine xX11_until_25 rfl ?_
    refine lp_X11_until hr1.1 (fun g2 h2 => ?_) 40 0 _ _ _ (by omega) rfl VF.rf (hk1.r0 hy2) hg2 rfl
    have q := hQ _ _ hr1 ((hz1.vf.tr hy2.vf).tr h2)
    rw [untilP, if_pos hw0] at q
    exact q
  · refine xX11_until_6_f (by decide) ?_
    refine xX11_until_9 ?_
    refine xX11_until_11 rfl rfl ?_
    have q := hQ _ _ ⟨hX, fun _ _ => rfl⟩ VF.rf
    rw [untilP, if_neg nw0] at q
    exact q
theorem lp_X11_soon {d : Nat} {sc : Nat × (Nat → Int32)} {T : List (Nat × Nat)} {rf : Nat → Nat → Option Nat} {nc : Nat} {o : OV} {lw : Nat → List Int32} {g0 : Nat → Nat → Int32} {F : Int32 → AH → Prop} {c b : Int32} {cN tm : Nat} (hX : XS T rf) (hc : c = nI cN) (hcn : cN < nc) (hn8 : nc ≤ 8) (htm : g0 1 9 = nI tm) (ht40 : tm ≤ 40) {S : Int32} (hQ : ∀ g2, VF g0 g2 → F S (T, rf, g2)) : ∀ (k j : Nat) (x3 : Int32) (g : Nat → Nat → Int32), (j + k = tm + 1) → (x3 = nI j) → (VF g0 g) → (BAK T rf g 1 o nc j lw) → (S = scan (fun m => b ≤ brS o (evL lw) cN m) k j) → Wp (d + 5) 0 0 sc kX11_soon (Qi F) 35 [some (.ref 0), some (.int c), some (.int b), some (.int x3)] [] (T, rf, g) 0 0 := by
  intro k
  induction k with
  | zero =>
    intro j x3 g hj hx3 hf hK hS
    have e9 : g 1 9 = nI tm := (hf.c1 9).trans htm
    refine xX11_soon_35 ?_
    refine xX11_soon_36 ?_
    refine xX11_soon_37 (hX.1 _ _ rfl) (hX.2 _ _ _ rfl) ?_
    refine xX11_soon_40 (hX.1 _ _ rfl) ?_
    rw [e9]
    refine xX11_soon_43_t (by rw [hx3]; exact nI_lt (by omega) (by omega)) ?_
    refine xX11_soon_74 ?_
    refine xX11_soon_75 rfl rfl ?_
    have q := hQ _ hf
    rw [hS] at q
    exact q
  | succ k ih =>
    intro j x3 g hj hx3 hf hK hS
    have e9 : g 1 9 = nI tm := (hf.c1 9).trans htm
    refine xX11_soon_35 ?_
    refine xX11_soon_36 ?_
    refine xX11_soon_37 (hX.1 _ _ rfl) (hX.2 _ _ _ rfl) ?_
    refine xX11_soon_40 (hX.1 _ _ rfl) ?_
    rw [e9]
    refine xX11_soon_43_f (by rw [hx3]; exact Int32.not_lt.mpr (nI_le (by omega) (by omega))) ?_
    refine xX11_soon_46 ?_
    refine xX11_soon_47 (hX.1 _ _ rfl) (hX.2 _ _ _ rfl) ?_
    refine xX11_soon_50 (hX.1 _ _ rfl) (hX.2 _ _ _ rfl) ?_
    refine xX11_soon_53 ?_
    refine xX11_soon_54 (j := cN) (hX.1 _ _ rfl) hc (by omega) rfl ?_
    refine xX11_soon_55 ?_
    rw [hK.br hcn]
    refine xX11_soon_56 (fun c56 => ?_) (fun c56 => ?_)
    · have e : scan (fun m => b ≤ brS o (evL lw) cN m) (k + 1) j = scan (fun m => b ≤ brS o (evL lw) cN m) k (j + 1) := scan_no (p := (fun m => b ≤ brS o (evL lw) cN m)) (Int32.not_le.mpr c56)
      refine xX11_soon_61 ?_
      refine xX11_soon_62 (hX.1 _ _ rfl) (hX.2 _ _ _ rfl) ?_
      refine xX11_soon_65 (hX.1 _ _ rfl) rfl rfl rfl (t_X0_step hK (by omega) (fun g0 hk0 hz0 => ?_))
      refine xX11_soon_68 rfl rfl ?_
      refine xX11_soon_71 ?_
      exact ih (j + 1) _ _ (by omega) (by rw [hx3]; exact nI_1 _) (hf.tr hz0.vf) hk0 (hS.trans e)
    · have e : scan (fun m => b ≤ brS o (evL lw) cN m) (k + 1) j = nI j := scan_yes (p := (fun m => b ≤ brS o (evL lw) cN m)) (Int32.not_lt.mp c56)
      refine xX11_soon_59 ?_
      refine xX11_soon_60 rfl rfl ?_
      rw [hx3, ← e, ← hS]
      exact hQ _ hf
theorem s_X11_soon {d : Nat} {sc : Nat × (Nat → Int32)} {T : List (Nat × Nat)} {rf : Nat → Nat → Option Nat} {g : Nat → Nat → Int32} {nc tc t : Nat} {o : OV} {lws : Nat → Nat → List Int32} {c b : Int32} {F : Int32 → AH → Prop} (hO : OB T rf g 1 o nc tc lws t) (hQ : ∀ rf2 g2, ZR T rf rf2 → VF g g2 → F (soonP o nc (evL (lws t)) c b) (T, rf2, g2)) : Mok (d + 6) 0 0 sc kX11_soon [.ref 0, .int c, .int b] (T, rf, g) (Qi F) := by
  obtain ⟨hX, -, hS, hE, hV, hlw, htc⟩ := id hO
  have hn8 : nc ≤ 8 := hV.2.1
  have hcn : g 1 5 = nI nc := hE.1.1.trans hV.1
  refine Mok.ofWp (L := [some (.ref 0), some (.int c), some (.int b), none]) rfl rfl rfl ?_
  refine xX11_soon_0 ?_
  refine xX11_soon_1 ?_
  refine xX11_soon_2 (hX.1 _ _ rfl) rfl rfl rfl (t_X11_isCake hX hcn (fun hw0 => ?_) (fun nw0 => ?_))
  · obtain ⟨ecN, hcN⟩ := isC_N hw0 hn8
    refine xX11_soon_5_t (by decide) ?_
    refine xX11_soon_11 ?_
    refine xX11_soon_12 ?_
    refine xX11_soon_13 ?_
    refine xX11_soon_16 rfl rfl rfl (s_X11_within  (fun hw1 => ?_) (fun nw1 => ?_))
    · refine xX11_soon_19_t (by decide) ?_
      refine xX11_soon_25 ?_
      refine xX11_soon_26 ?_
      refine xX11_soon_27 (hX.1 _ _ rfl) (hX.2 _ _ _ rfl) ?_
      refine xX11_soon_30 (hX.1 _ _ rfl) rfl rfl rfl (s_X11_startBaking hO (fun rf2 g2 hr2 hz2 hk2 => ?_))
      refine xX11_soon_33 ?_
      refine xX11_soon_34 rfl ?_
      refine lp_X11_soon hr2.1 ecN hcN hn8 ((hz2.vf.c1 9).trans (hE.1.2.2.1.trans hV.tN.1)) hV.tN.2.1 (fun g2 h2 => ?_) (nN (o 0 9) + 1) 0 _ _ (by omega) rfl VF.rf hk2 rfl
      have q := hQ _ _ hr2 (hz2.vf.tr h2)
      rw [soonP, if_pos hw0, if_pos hw1] at q
      exact q
    · refine xX11_soon_19_f (by decide) ?_
      refine xX11_soon_22 ?_
      refine xX11_soon_24 rfl rfl ?_
      have q := hQ _ _ ⟨hX, fun _ _ => rfl⟩ VF.rf
      rw [soonP, if_pos hw0, if_neg nw1] at q
      exact q
  · refine xX11_soon_5_f (by decide) ?_
    refine xX11_soon_8 ?_
    refine xX11_soon_10 rfl rfl ?_
    have q := hQ _ _ ⟨hX, fun _ _ => rfl⟩ VF.rf
    rw [soonP, if_neg nw0] at q
    exact q
theorem s_X11_cost {d : Nat} {sc : Nat × (Nat → Int32)} {T : List (Nat × Nat)} {rf : Nat → Nat → Option Nat} {g : Nat → Nat → Int32} {nc tc t : Nat} {o : OV} {lws : Nat → Nat → List Int32} {F : Int32 → AH → Prop} (hO : OB T rf g 1 o nc tc lws t) (hQ : ∀ rf2 g2, ZR T rf rf2 → VF g g2 → F (costP o nc (evL (lws t))) (T, rf2, g2)) : Mok (d + 7) 0 0 sc kX11_cost [.ref 0] (T, rf, g) (Qi F) := by
  obtain ⟨hX, -, hS, hE, hV, hlw, htc⟩ := id hO
  have hn8 : nc ≤ 8 := hV.2.1
  have hcn : g 1 5 = nI nc := hE.1.1.trans hV.1
  refine Mok.ofWp (L := [some (.ref 0)]) rfl rfl rfl ?_
  refine xX11_cost_0 ?_
  refine xX11_cost_1 (hX.1 _ _ rfl) rfl rfl rfl (s_X11_imagine hX (fun g0 he0 hj0 => ?_))
  refine xX11_cost_4 ?_
  refine xX11_cost_5 (hX.1 _ _ rfl) (hX.2 _ _ _ rfl) ?_
  refine xX11_cost_8 ?_
  refine xX11_cost_9 (hX.1 _ _ rfl) ?_
  refine xX11_cost_12 ?_
  refine xX11_cost_13 ?_
  refine xX11_cost_14 (hX.1 _ _ rfl) (hX.2 _ _ _ rfl) ?_
  have hO1 := hO.vf ⟨hX, fun _ _ => rfl⟩ ((VF.f9 hj0).tr (VF.up (g := g0) (a := 9) (k := 8) (v := 0) (by omega)))
  have hO9 := hO.th ⟨hX, fun _ _ => rfl⟩ ((VF.f9 hj0).tr (VF.up (g := g0) (a := 9) (k := 8) (v := 0) (by omega))) (o' := up o 0 8 0) ((XO_up (b := 9) (r := 0)) ▸ ((he0.le hn8).tr hE).up) (OVk_op (n := 0) (Nat.zero_le _) hV) (t' := t) (by rw [up_ne (by decide)]; exact hlw) htc
  refine xX11_cost_17 (hX.1 _ _ rfl) rfl rfl rfl (s_X11_badnessOf hO1 (fun rf1 g1 hr1 hz1 => ?_))
  refine xX11_cost_20 ?_
  refine xX11_cost_21 ?_
  refine xX11_cost_22 (hX.1 _ _ rfl) (hr1.1.2 _ _ _ rfl) ?_
  refine xX11_cost_25 (hX.1 _ _ rfl) rfl rfl rfl (s_X11_badnessOf (hO9.keep hr1 hz1) (fun rf2 g2 hr2 hz2 => ?_))
  refine xX11_cost_28 ?_
  refine xX11_cost_29 rfl rfl ?_
  have q := hQ _ _ (hr1.tr hr2) ((((VF.f9 hj0).tr (VF.up (g := g0) (a := 9) (k := 8) (v := 0) (by omega))).tr hz1.vf).tr hz2.vf)
  rw [costP] at q
  exact q
theorem s_X11_judge {d : Nat} {sc : Nat × (Nat → Int32)} {T : List (Nat × Nat)} {rf : Nat → Nat → Option Nat} {g : Nat → Nat → Int32} {nc tc t : Nat} {o : OV} {lws : Nat → Nat → List Int32} {s : Int32} {sh : Nat → Nat → Int32} {F : Int32 → AH → Prop} (hO : OB T rf g 1 o nc tc lws t) (hH : XH g sh) (hQ : ∀ rf2 g2, ZR T rf rf2 → VF g g2 → F (judgeP sh o nc (evL (lws t)) s) (T, rf2, g2)) : Mok (d + 7) 0 0 sc kX11_judge [.ref 0, .int s] (T, rf, g) (Qi F) := by
  obtain ⟨hX, -, hS, hE, hV, hlw, htc⟩ := id hO
  have hn8 : nc ≤ 8 := hV.2.1
  have hcn : g 1 5 = nI nc := hE.1.1.trans hV.1
  refine Mok.ofWp (L := [some (.ref 0), some (.int s), none]) rfl rfl rfl ?_
  refine xX11_judge_0 ?_
  refine xX11_judge_1 ?_
  refine xX11_judge_2 (hX.1 _ _ rfl) rfl rfl rfl (s_X11_refusal hX hcn hH ?_)
  refine xX11_judge_5 rfl ?_
  refine xX11_judge_6 ?_
  refine xX11_judge_7 (fun c7 => ?_) (fun c7 => ?_)
  · refine xX11_judge_14 ?_
    refine xX11_judge_15 ?_
    refine xX11_judge_16 ?_
    refine xX11_judge_17 (hX.1 _ _ rfl) (hX.2 _ _ _ rfl) ?_
    refine xX11_judge_20 (hX.1 _ _ rfl) rfl rfl rfl (s_X11_firstOtherwise hO (refS_0 c7).1 (refS_0 c7).2.1 hH (fun rf1 g1 hr1 hz1 => ?_))
    refine xX11_judge_23 rfl rfl ?_
    have q := hQ _ _ hr1 hz1.vf
    rw [judgeP, if_pos c7] at q
    exact q
  · refine xX11_judge_10 ?_
    refine xX11_judge_11 ?_
    refine xX11_judge_23 rfl rfl ?_
    have q := hQ _ _ ⟨hX, fun _ _ => rfl⟩ VF.rf
    rw [judgeP, if_neg c7] at q
    exact q
