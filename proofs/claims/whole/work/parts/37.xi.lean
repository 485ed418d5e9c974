def whenF (o : OV) (nc : Nat) (ev : EV) (goal : Int32) : Nat → Int32 × Int32 := fun k => (100 * nI (k / 4) + nI (k % 4), if goal = 0 then apP (pl o 0 (nI (k / 4)) (nI (k % 4))) ev nc else badP (pl o 0 (nI (k / 4)) (nI (k % 4))) ev nc)
theorem whenF_at {o : OV} {nc : Nat} {ev : EV} {goal : Int32} {m j : Nat} (h : j < 4) : whenF o nc ev goal (4 * m + j) = (100 * nI m + nI j, if goal = 0 then apP (pl o 0 (nI m) (nI j)) ev nc else badP (pl o 0 (nI m) (nI j)) ev nc) := by
  unfold whenF
  rw [show (4 * m + j) / 4 = m by omega, show (4 * m + j) % 4 = j by omega]
def whenP (o : OV) (nc : Nat) (ev : EV) (goal w : Int32) : Int32 := if 0 ≤ goal ∧ goal ≤ 1 then (if 0 ≤ w ∧ w ≤ 1 then lgt (wff (whenF o nc ev goal) (4 * nN (o 0 9)) 0 none) w else -2) else -2
def tw1 (o : OV) (nc : Nat) (ev : EV) (a : Nat) : Nat → Int32 × Int32 := fun b => (100 * nI a + nI b, apP (pl (pl o 0 (nI a) 2) 1 (nI b) 2) ev nc)
/-- the firsts from j on, k of them, n in all -/
def tw2 (o : OV) (nc : Nat) (ev : EV) (n : Nat) : Nat → Nat → Option (Int32 × Int32) → Option (Int32 × Int32)
  | 0, _, s => s
  | k + 1, j, s => tw2 o nc ev n k (j + 1) (wff (tw1 o nc ev j) (n - (j + 1)) (j + 1) s)
def twiceP (o : OV) (nc : Nat) (ev : EV) (w : Int32) : Int32 := if 0 ≤ w ∧ w ≤ 1 then lgt (tw2 o nc ev (nN (o 0 9)) (nN (o 0 9)) 0 none) w else -2
theorem pl_lw {o : OV} {k : Nat} {a b : Int32} : pl o k a b 0 11 = o 0 11 := by
  unfold pl
  rw [up_ne (by omega), up_ne (by omega), up_ne (by omega)]
theorem lp_X11_turned {d : Nat} {sc : Nat × (Nat → Int32)} {T : List (Nat × Nat)} {rf0 : Nat → Nat → Option Nat} {g0 : Nat → Nat → Int32} {nc tc t : Nat} {o : OV} {lws : Nat → Nat → List Int32} {F : Int64 → AH → Prop} {s : Int32} {sh : Nat → Nat → Int32} (hs : s = nI (nN s)) (hs4 : nN s < 4) (hH : XH g0 sh) {S : Int64} (hQ : ∀ rf2 g2, ZR T rf0 rf2 → VF g0 g2 → F S (T, rf2, g2)) : ∀ (k j : Nat) (b : Int64) (x4 : Int32) (rf : Nat → Nat → Option Nat) (g : Nat → Nat → Int32), (j + k = nN (o 0 9)) → (x4 = nI j) → (OB T rf g 1 o nc tc lws t) → (ZR T rf0 rf) → (VF g0 g) → (OEp g 0 o nc) → (bfl (fun m => fstO (rowS sh s) (pl o 0 (nI m) 2) (evL (lws t)) nc) k j b = S) → Wp (d + 7) 0 0 sc kX11_turned (Ql F) 21 [some (.ref 0), some (.int s), some (.long b), none, some (.int x4)] [] (T, rf, g) 0 0 := by
  intro k
  induction k with
  | zero =>
    intro j b x4 rf g hj hx4 hO hr hf hU hZ
    obtain ⟨hX, -, hS, hE, hV, hlw, htc⟩ := id hO
    have hn8 : nc ≤ 8 := hV.2.1
    have hcn : g 1 5 = nI nc := hE.1.1.trans hV.1
    have e9 : g 1 9 = nI (nN (o 0 9)) := hE.1.2.2.1.trans hV.tN.1
    have ht40 := hV.tN.2.1
    refine xX11_turned_21 ?_
    refine xX11_turned_23 ?_
    refine xX11_turned_24 (hX.1 _ _ rfl) (hX.2 _ _ _ rfl) ?_
    refine xX11_turned_27 (hX.1 _ _ rfl) ?_
    rw [e9]
    refine xX11_turned_30_t (by rw [hx4]; exact nI_le (by omega) (by omega)) ?_
    refine xX11_turned_74 ?_
    refine xX11_turned_75 rfl rfl ?_
    have q := hQ _ _ hr hf
    rw [← hZ] at q
    exact q
  | succ k ih =>
    intro j b x4 rf g hj hx4 hO hr hf hU hZ
    obtain ⟨hX, -, hS, hE, hV, hlw, htc⟩ := id hO
    have hn8 : nc ≤ 8 := hV.2.1
    have hcn : g 1 5 = nI nc := hE.1.1.trans hV.1
    have e9 : g 1 9 = nI (nN (o 0 9)) := hE.1.2.2.1.trans hV.tN.1
    have ht40 := hV.tN.2.1
    refine xX11_turned_21 ?_
    refine xX11_turned_23 ?_
    refine xX11_turned_24 (hX.1 _ _ rfl) (hX.2 _ _ _ rfl) ?_
    refine xX11_turned_27 (hX.1 _ _ rfl) ?_
    rw [e9]
    refine xX11_turned_30_f (by rw [hx4]; exact nI_ge (by omega) (by omega)) ?_
    refine xX11_turned_33 ?_
    refine xX11_turned_34 (hX.1 _ _ rfl) (hX.2 _ _ _ rfl) ?_
    refine xX11_turned_37 ?_
    refine xX11_turned_38 ?_
    refine xX11_turned_40 ?_
    refine xX11_turned_41 (hX.1 _ _ rfl) rfl rfl rfl (s_X5_plan (OvT.of hX (Or.inr (Or.inl rfl))) rfl (by decide) (fun g0 hp0 hj0 => ?_))
    refine xX11_turned_44 ?_
    refine xX11_turned_45 ?_
    refine xX11_turned_46 ?_
    refine xX11_turned_47 ?_
    refine xX11_turned_48 (hX.1 _ _ rfl) (hX.2 _ _ _ rfl) ?_
    have h9 := hO.th ⟨hX, fun _ _ => rfl⟩ (VF.f9 hj0) (o' := pl o 0 (nI j) 2) (by rw [hp0, hx4]; exact hU _ _) (OVk_pl (q := 2) hV (by omega) (by omega)) (t' := t) (pl_lw.trans hlw) htc
    refine xX11_turned_51 (hX.1 _ _ rfl) rfl rfl rfl (s_X11_firstOtherwise h9 hs hs4 ((VF.f9 hj0).xh (hf.xh hH)) (fun rf1 g1 hr1 hz1 => ?_))
    refine xX11_turned_54 ?_
    refine xX11_turned_55 (fun cc => ?_) (fun cc => ?_)
    · have e : bfl (fun m => fstO (rowS sh s) (pl o 0 (nI m) 2) (evL (lws t)) nc) (k + 1) j b = bfl (fun m => fstO (rowS sh s) (pl o 0 (nI m) 2) (evL (lws t)) nc) k (j + 1) (b ||| 0) := bfl_no (f := (fun m => fstO (rowS sh s) (pl o 0 (nI m) 2) (evL (lws t)) nc)) cc
      refine xX11_turned_65 ?_
      refine xX11_turned_66 ?_
      refine xX11_turned_67 rfl ?_
      refine xX11_turned_68 rfl rfl ?_
      refine xX11_turned_71 ?_
      exact ih (j + 1) _ _ _ _ (by omega) (by rw [hx4]; exact nI_1 _) (hO.vf hr1 ((VF.f9 hj0).tr hz1.vf)) (hr.tr hr1) (hf.tr ((VF.f9 hj0).tr hz1.vf)) ((OEp_pl hU hp0).tf hz1.tf) (by first | rw [← hZ, e, hx4] | rw [← hZ, e])
    · have e : bfl (fun m => fstO (rowS sh s) (pl o 0 (nI m) 2) (evL (lws t)) nc) (k + 1) j b = bfl (fun m => fstO (rowS sh s) (pl o 0 (nI m) 2) (evL (lws t)) nc) k (j + 1) (b ||| (1 : Int64) <<< ((nI j).toInt64 &&& 63)) := bfl_yes (f := (fun m => fstO (rowS sh s) (pl o 0 (nI m) 2) (evL (lws t)) nc)) cc
      refine xX11_turned_58 ?_
      refine xX11_turned_59 ?_
      refine xX11_turned_61 ?_
      refine xX11_turned_62 ?_
      refine xX11_turned_66 ?_
      refine xX11_turned_67 rfl ?_
      refine xX11_turned_68 rfl rfl ?_
      refine xX11_turned_71 ?_
      exact ih (j + 1) _ _ _ _ (by omega) (by rw [hx4]; exact nI_1 _) (hO.vf hr1 ((VF.f9 hj0).tr hz1.vf)) (hr.tr hr1) (hf.tr ((VF.f9 hj0).tr hz1.vf)) ((OEp_pl hU hp0).tf hz1.tf) (by first | rw [← hZ, e, hx4] | rw [← hZ, e])
theorem s_X11_turned {d : Nat} {sc : Nat × (Nat → Int32)} {T : List (Nat × Nat)} {rf : Nat → Nat → Option Nat} {g : Nat → Nat → Int32} {nc tc t : Nat} {o : OV} {lws : Nat → Nat → List Int32} {s : Int32} {sh : Nat → Nat → Int32} {F : Int64 → AH → Prop} (hO : OB T rf g 1 o nc tc lws t) (hH : XH g sh) (hQ : ∀ rf2 g2, ZR T rf rf2 → VF g g2 → F (turnedP sh o nc (evL (lws t)) s) (T, rf2, g2)) : Mok (d + 7) 0 0 sc kX11_turned [.ref 0, .int s] (T, rf, g) (Ql F) := by
  obtain ⟨hX, -, hS, hE, hV, hlw, htc⟩ := id hO
  have hn8 : nc ≤ 8 := hV.2.1
  have hcn : g 1 5 = nI nc := hE.1.1.trans hV.1
  refine Mok.ofWp (L := [some (.ref 0), some (.int s), none, none, none]) rfl rfl rfl ?_
  refine xX11_turned_0 ?_
  refine xX11_turned_1 ?_
  refine xX11_turned_2 (hX.1 _ _ rfl) rfl rfl rfl (s_X11_refusal hX hcn hH ?_)
  refine xX11_turned_5 (fun hz0 => ?_) (fun hz0 => ?_)
  · refine xX11_turned_12 ?_
    refine xX11_turned_13 (hX.1 _ _ rfl) rfl rfl rfl (s_X11_imagine hX (fun g1 he1 hj1 => ?_))
    refine xX11_turned_16 ?_
    refine xX11_turned_17 rfl ?_
    refine xX11_turned_18 ?_
    refine xX11_turned_19 rfl ?_
    refine lp_X11_turned (refS_0 hz0).1 (refS_0 hz0).2.1 hH (fun rf2 g2 h1 h2 => ?_) (nN (o 0 9)) 0 _ _ _ _ (by omega) rfl (hO.vf ⟨hX, fun _ _ => rfl⟩ (VF.f9 hj1)) ⟨hX, fun _ _ => rfl⟩ (VF.f9 hj1) (OEp.of ((he1.le hn8).tr hE)) rfl
    have q := hQ _ _ h1 h2
    rw [turnedP, if_pos hz0] at q
    exact q
  · refine xX11_turned_8 ?_
    refine xX11_turned_11 rfl rfl ?_
    have q := hQ _ _ ⟨hX, fun _ _ => rfl⟩ VF.rf
    rw [turnedP, if_neg hz0] at q
    exact q
theorem lp_X11_when1 {d : Nat} {sc : Nat × (Nat → Int32)} {T : List (Nat × Nat)} {rf0 : Nat → Nat → Option Nat} {g0 : Nat → Nat → Int32} {nc tc t : Nat} {o : OV} {lws : Nat → Nat → List Int32} {F : Int32 → AH → Prop} {goal w x3 : Int32} {m R : Nat} {S : Option (Int32 × Int32)} (hx3 : x3 = nI m) (hm : m < 40) (hQ : ∀ rf g s, OB T rf g 1 o nc tc lws t → ZR T rf0 rf → VF g0 g → OEp g 0 o nc → WG g s → wff (whenF o nc (evL (lws t)) goal) R (4 * m + 4) s = S → Wp (d + 7) 0 0 sc kX11_when (Qi F) 102 [some (.ref 0), some (.int goal), some (.int w), some (.int x3), none] [] (T, rf, g) 0 0) : ∀ (k j : Nat) (x4 : Int32) (rf : Nat → Nat → Option Nat) (g : Nat → Nat → Int32) (s : Option (Int32 × Int32)), (j + k = 4) → (x4 = nI j) → (OB T rf g 1 o nc tc lws t) → (ZR T rf0 rf) → (VF g0 g) → (OEp g 0 o nc) → (WG g s) → (wff (whenF o nc (evL (lws t)) goal) (R + k) (4 * m + j) s = S) → Wp (d + 7) 0 0 sc kX11_when (Qi F) 45 [some (.ref 0), some (.int goal), some (.int w), some (.int x3), some (.int x4)] [] (T, rf, g) 0 0 := by
  intro k
  induction k with
  | zero =>
    intro j x4 rf g s hj hx4 hO hr hf hU hg_ hZ
    obtain ⟨hX, -, hS, hE, hV, hlw, htc⟩ := id hO
    have hn8 : nc ≤ 8 := hV.2.1
    have hcn : g 1 5 = nI nc := hE.1.1.trans hV.1
    refine xX11_when_45 ?_
    refine xX11_when_47 ?_
    refine xX11_when_48_t (by rw [hx4]; exact nI_lt (a := 3) (by omega) (by omega)) ?_
    refine wp_kill_4 ?_
    have e : j = 4 := by omega
    subst e
    exact hQ _ _ _ hO hr hf hU hg_ hZ
  | succ k ih =>
    intro j x4 rf g s hj hx4 hO hr hf hU hg_ hZ
    obtain ⟨hX, -, hS, hE, hV, hlw, htc⟩ := id hO
    have hn8 : nc ≤ 8 := hV.2.1
    have hcn : g 1 5 = nI nc := hE.1.1.trans hV.1
    refine xX11_when_45 ?_
    refine xX11_when_47 ?_
    refine xX11_when_48_f (by rw [hx4]; exact Int32.not_lt.mpr (nI_le (b := 3) (by omega) (by omega))) ?_
    refine xX11_when_51 ?_
    refine xX11_when_52 (hX.1 _ _ rfl) (hX.2 _ _ _ rfl) ?_
    refine xX11_when_55 ?_
    refine xX11_when_56 ?_
    refine xX11_when_57 ?_
    refine xX11_when_59 (hX.1 _ _ rfl) rfl rfl rfl (s_X5_plan (OvT.of hX (Or.inr (Or.inl rfl))) rfl (by decide) (fun g0 hp0 hj0 => ?_))
    refine xX11_when_62 ?_
    refine xX11_when_63 ?_
    refine xX11_when_65 ?_
    refine xX11_when_66 ?_
    refine xX11_when_67 ?_
    refine xX11_when_69 ?_
    refine xX11_when_70 ?_
    refine xX11_when_71 (fun cg => ?_) (fun cg => ?_)
    · refine xX11_when_85 ?_
      refine xX11_when_86 ?_
      refine xX11_when_87 (hX.1 _ _ rfl) (hX.2 _ _ _ rfl) ?_
      have h9 := hO.th ⟨hX, fun _ _ => rfl⟩ (VF.f9 hj0) (o' := pl o 0 (nI m) (nI j)) (by rw [hp0, hx3, hx4]; exact hU _ _) (OVk_pl hV (by omega) (by omega)) (t' := t) (pl_lw.trans hlw) htc
      refine xX11_when_90 (hX.1 _ _ rfl) rfl rfl rfl (s_X11_badnessOf h9 (fun rf1 g1 hr1 hz1 => ?_))
      refine xX11_when_93 (hX.1 _ _ rfl) rfl rfl rfl (s_X11_weigh hr1.1 ((hg_.row (hj0 0 (by omega))).zf hz1) (fun g2 hg2 hy2 => ?_))
      refine xX11_when_96 rfl rfl ?_
      refine xX11_when_99 ?_
      exact ih (j + 1) _ _ _ _ (by omega) (by rw [hx4]; exact nI_1 _) (hO.vf hr1 (((VF.f9 hj0).tr hz1.vf).tr hy2.vf)) (hr.tr hr1) (hf.tr (((VF.f9 hj0).tr hz1.vf).tr hy2.vf)) (((OEp_pl hU hp0).tf hz1.tf).tf hy2.tf) hg2 (by
        rw [← hZ]
        show _ = wff (whenF o nc (evL (lws t)) goal) (R + k) (4 * m + j + 1) (wgh s ((whenF o nc (evL (lws t)) goal) (4 * m + j)).1 ((whenF o nc (evL (lws t)) goal) (4 * m + j)).2)
        rw [whenF_at (by omega), hx3, hx4]
        first | rw [if_pos cg] | rw [if_neg cg]
        rfl)
    · refine xX11_when_74 ?_
      refine xX11_when_75 ?_
      refine xX11_when_76 (hX.1 _ _ rfl) (hX.2 _ _ _ rfl) ?_
      have h9 := hO.th ⟨hX, fun _ _ => rfl⟩ (VF.f9 hj0) (o' := pl o 0 (nI m) (nI j)) (by rw [hp0, hx3, hx4]; exact hU _ _) (OVk_pl hV (by omega) (by omega)) (t' := t) (pl_lw.trans hlw) htc
      refine xX11_when_79 (hX.1 _ _ rfl) rfl rfl rfl (s_X11_apartOf h9 (fun rf3 g3 hr3 hz3 => ?_))
      refine xX11_when_82 ?_
      refine xX11_when_93 (hX.1 _ _ rfl) rfl rfl rfl (s_X11_weigh hr3.1 ((hg_.row (hj0 0 (by omega))).zf hz3) (fun g4 hg4 hy4 => ?_))
      refine xX11_when_96 rfl rfl ?_
      refine xX11_when_99 ?_
      exact ih (j + 1) _ _ _ _ (by omega) (by rw [hx4]; exact nI_1 _) (hO.vf hr3 (((VF.f9 hj0).tr hz3.vf).tr hy4.vf)) (hr.tr hr3) (hf.tr (((VF.f9 hj0).tr hz3.vf).tr hy4.vf)) (((OEp_pl hU hp0).tf hz3.tf).tf hy4.tf) hg4 (by
        rw [← hZ]
        show _ = wff (whenF o nc (evL (lws t)) goal) (R + k) (4 * m + j + 1) (wgh s ((whenF o nc (evL (lws t)) goal) (4 * m + j)).1 ((whenF o nc (evL (lws t)) goal) (4 * m + j)).2)
        rw [whenF_at (by omega), hx3, hx4]
        first | rw [if_pos cg] | rw [if_neg cg]
        rfl)
theorem lp_X11_when {d : Nat} {sc : Nat × (Nat → Int32)} {T : List (Nat × Nat)} {rf0 : Nat → Nat → Option Nat} {g0 : Nat → Nat → Int32} {nc tc t : Nat} {o : OV} {lws : Nat → Nat → List Int32} {F : Int32 → AH → Prop} {goal w : Int32} {S : Option (Int32 × Int32)} (hQ : ∀ rf2 g2, ZR T rf0 rf2 → VF g0 g2 → F (lgt S w) (T, rf2, g2)) : ∀ (k j : Nat) (x3 : Int32) (rf : Nat → Nat → Option Nat) (g : Nat → Nat → Int32) (s : Option (Int32 × Int32)), (j + k = nN (o 0 9)) → (x3 = nI j) → (OB T rf g 1 o nc tc lws t) → (ZR T rf0 rf) → (VF g0 g) → (OEp g 0 o nc) → (WG g s) → (wff (whenF o nc (evL (lws t)) goal) (4 * k) (4 * j) s = S) → Wp (d + 7) 0 0 sc kX11_when (Qi F) 31 [some (.ref 0), some (.int goal), some (.int w), some (.int x3), none] [] (T, rf, g) 0 0 := by
  intro k
  induction k with
  | zero =>
    intro j x3 rf g s hj hx3 hO hr hf hU hg_ hZ
    obtain ⟨hX, -, hS, hE, hV, hlw, htc⟩ := id hO
    have hn8 : nc ≤ 8 := hV.2.1
    have hcn : g 1 5 = nI nc := hE.1.1.trans hV.1
    have e9 : g 1 9 = nI (nN (o 0 9)) := hE.1.2.2.1.trans hV.tN.1
    have ht40 := hV.tN.2.1
    refine xX11_when_31 ?_
    refine xX11_when_32 ?_
    refine xX11_when_33 (hX.1 _ _ rfl) (hX.2 _ _ _ rfl) ?_
    refine xX11_when_36 (hX.1 _ _ rfl) ?_
    rw [e9]
    refine xX11_when_39_t (by rw [hx3]; exact nI_le (by omega) (by omega)) ?_
    refine xX11_when_108 ?_
    refine xX11_when_109 ?_
    refine xX11_when_110 (hX.1 _ _ rfl) rfl rfl rfl (s_X11_lightest hX hg_ ?_)
    refine xX11_when_113 rfl rfl ?_
    have q := hQ _ _ hr hf
    rw [← hZ] at q
    exact q
  | succ k ih =>
    intro j x3 rf g s hj hx3 hO hr hf hU hg_ hZ
    obtain ⟨hX, -, hS, hE, hV, hlw, htc⟩ := id hO
    have hn8 : nc ≤ 8 := hV.2.1
    have hcn : g 1 5 = nI nc := hE.1.1.trans hV.1
    have e9 : g 1 9 = nI (nN (o 0 9)) := hE.1.2.2.1.trans hV.tN.1
    have ht40 := hV.tN.2.1
    refine xX11_when_31 ?_
    refine xX11_when_32 ?_
    refine xX11_when_33 (hX.1 _ _ rfl) (hX.2 _ _ _ rfl) ?_
    refine xX11_when_36 (hX.1 _ _ rfl) ?_
    rw [e9]
    refine xX11_when_39_f (by rw [hx3]; exact nI_ge (by omega) (by omega)) ?_
    refine xX11_when_42 ?_
    refine xX11_when_43 rfl ?_
    refine lp_X11_when1 hx3 (by omega) (R := 4 * k) (S := S) (fun rf g s hO hr hf hU hg_ hZ => ?_) 4 0 _ _ _ _ (by omega) rfl hO hr hf hU hg_ (by rw [← hZ]; rfl)
    refine xX11_when_102 rfl rfl ?_
    refine xX11_when_105 ?_
    exact ih (j + 1) _ _ _ _ (by omega) (by rw [hx3]; exact nI_1 _) hO hr hf hU hg_ (hZ)
theorem s_X11_when {d : Nat} {sc : Nat × (Nat → Int32)} {T : List (Nat × Nat)} {rf : Nat → Nat → Option Nat} {g : Nat → Nat → Int32} {nc tc t : Nat} {o : OV} {lws : Nat → Nat → List Int32} {goal w : Int32} {F : Int32 → AH → Prop} (hO : OB T rf g 1 o nc tc lws t) (hQ : ∀ rf2 g2, ZR T rf rf2 → VF g g2 → F (whenP o nc (evL (lws t)) goal w) (T, rf2, g2)) : Mok (d + 7) 0 0 sc kX11_when [.ref 0, .int goal, .int w] (T, rf, g) (Qi F) := by
  obtain ⟨hX, -, hS, hE, hV, hlw, htc⟩ := id hO
  have hn8 : nc ≤ 8 := hV.2.1
  have hcn : g 1 5 = nI nc := hE.1.1.trans hV.1
  refine Mok.ofWp (L := [some (.ref 0), some (.int goal), some (.int w), none, none]) rfl rfl rfl ?_
  refine xX11_when_0 ?_
  refine xX11_when_1 ?_
  refine xX11_when_2 ?_
  refine xX11_when_3 rfl rfl rfl (s_X11_within  (fun hw0 => ?_) (fun nw0 => ?_))
  · refine xX11_when_6_f (by decide) ?_
    refine xX11_when_9 ?_
    refine xX11_when_10 ?_
    refine xX11_when_11 ?_
    refine xX11_when_12 rfl rfl rfl (s_X11_within  (fun hw1 => ?_) (fun nw1 => ?_))
    · refine xX11_when_15_t (by decide) ?_
      refine xX11_when_21 ?_
      refine xX11_when_22 (hX.1 _ _ rfl) rfl rfl rfl (s_X11_imagine hX (fun g2 he2 hj2 => ?_))
      refine xX11_when_25 ?_
      refine xX11_when_26 (hX.1 _ _ rfl) rfl rfl rfl (s_X11_weighNone hX (fun g3 hg3 hy3 => ?_))
      refine xX11_when_29 ?_
      refine xX11_when_30 rfl ?_
      refine lp_X11_when (fun rf2 g2 h1 h2 => ?_) (nN (o 0 9)) 0 _ _ _ _ (by omega) rfl (hO.vf ⟨hX, fun _ _ => rfl⟩ ((VF.f9 hj2).tr hy3.vf)) ⟨hX, fun _ _ => rfl⟩ ((VF.f9 hj2).tr hy3.vf) ((OEp.of ((he2.le hn8).tr hE)).tf hy3.tf) hg3 rfl
      have q := hQ _ _ h1 h2
      rw [whenP, if_pos hw0, if_pos hw1] at q
      exact q
    · refine xX11_when_15_f (by decide) ?_
      refine xX11_when_18 ?_
      refine xX11_when_20 rfl rfl ?_
      have q := hQ _ _ ⟨hX, fun _ _ => rfl⟩ VF.rf
      rw [whenP, if_pos hw0, if_neg nw1] at q
      exact q
  · refine xX11_when_6_t (by decide) ?_
    refine xX11_when_18 ?_
    refine xX11_when_20 rfl rfl ?_
    have q := hQ _ _ ⟨hX, fun _ _ => rfl⟩ VF.rf
    rw [whenP, if_neg nw0] at q
    exact q
theorem pl2_pl {x : OV} {a b c d e f : Int32} : pl (pl (pl x 0 c d) 1 e f) 0 a b = up (up (pl x 0 a b) 6 1 e) 7 1 f := by
  funext r k
  unfold pl up
  by_cases q1 : r = 0 ∧ k = 8
  · have q2 : ¬ (r = 7 ∧ k = 1) := by omega
    have q3 : ¬ (r = 6 ∧ k = 1) := by omega
    simp only [if_pos q1, if_neg q2, if_neg q3]
  · by_cases q2 : r = 7 ∧ k = 0
    · have q3 : ¬ (r = 7 ∧ k = 1) := by omega
      have q4 : ¬ (r = 6 ∧ k = 1) := by omega
      simp only [if_neg q1, if_pos q2, if_neg q3, if_neg q4]
    · by_cases q3 : r = 6 ∧ k = 0
      · have q4 : ¬ (r = 7 ∧ k = 1) := by omega
        have q5 : ¬ (r = 6 ∧ k = 1) := by omega
        simp only [if_neg q1, if_neg q2, if_pos q3, if_neg q4, if_neg q5]
      · by_cases q4 : r = 7 ∧ k = 1
        · simp only [if_neg q1, if_neg q2, if_neg q3, if_pos q4]
        · by_cases q5 : r = 6 ∧ k = 1
          · simp only [if_neg q1, if_neg q2, if_neg q3, if_neg q4, if_pos q5]
          · simp only [if_neg q1, if_neg q2, if_neg q3, if_neg q4, if_neg q5]
theorem pl_pl2 {x : OV} {a b c d a2 b2 c2 d2 : Int32} : pl (pl (pl (pl x 0 a b) 1 c d) 0 a2 b2) 1 c2 d2 = pl (pl x 0 a2 b2) 1 c2 d2 := by
  rw [pl2_pl]
  funext r k
  unfold pl up
  by_cases q1 : r = 0 ∧ k = 8
  · simp only [if_pos q1]
  · by_cases q2 : r = 7 ∧ k = 1
    · simp only [if_neg q1, if_pos q2]
    · by_cases q3 : r = 6 ∧ k = 1
      · simp only [if_neg q1, if_neg q2, if_pos q3]
      · simp only [if_neg q1, if_neg q2, if_neg q3]
/-- the thought oven but for its plan's first two openings -/
def OEq2 (g : Nat → Nat → Int32) (o : OV) (nc : Nat) : Prop := ∀ a b c d, OEq (pl (pl (XO g 9) 0 a b) 1 c d) (pl (pl o 0 a b) 1 c d) nc
theorem OEq2.of {g : Nat → Nat → Int32} {nc : Nat} {o : OV} (h : OEq (XO g 9) o nc) : OEq2 g o nc := fun _ _ _ _ => h.pl.pl
theorem OEq2_pl {g g' : Nat → Nat → Int32} {nc : Nat} {o : OV} {a b c d : Int32} (h : OEq2 g o nc) (e : XO g' 9 = pl (pl (XO g 9) 0 a b) 1 c d) : OEq2 g' o nc := fun x y z w => by rw [e, pl_pl2]; exact h x y z w
theorem OEq2.tf {g g' : Nat → Nat → Int32} {nc : Nat} {o : OV} (h : OEq2 g o nc) (hf : TF g g') : OEq2 g' o nc := fun a b c d => (h a b c d).rows (fun q hq => by funext k; exact up_in (up_in (up_in (up_in (up_in (up_in (congrFun (hf.x9 q hq) k)))))))
theorem lp_X11_twice1 {d : Nat} {sc : Nat × (Nat → Int32)} {T : List (Nat × Nat)} {rf0 : Nat → Nat → Option Nat} {g0 : Nat → Nat → Int32} {nc tc t : Nat} {o : OV} {lws : Nat → Nat → List Int32} {F : Int32 → AH → Prop} {w x2 : Int32} {m : Nat} {S : Option (Int32 × Int32)} (hx2 : x2 = nI m) (hm : m < nN (o 0 9)) (hQ : ∀ rf g, OB T rf g 1 o nc tc lws t → ZR T rf0 rf → VF g0 g → OEq2 g o nc → WG g S → Wp (d + 7) 0 0 sc kX11_twice (Qi F) 92 [some (.ref 0), some (.int w), some (.int x2), none] [] (T, rf, g) 0 0) : ∀ (k j : Nat) (x3 : Int32) (rf : Nat → Nat → Option Nat) (g : Nat → Nat → Int32) (s : Option (Int32 × Int32)), (j + k = nN (o 0 9)) → (x3 = nI j) → (OB T rf g 1 o nc tc lws t) → (ZR T rf0 rf) → (VF g0 g) → (OEq2 g o nc) → (WG g s) → (wff (tw1 o nc (evL (lws t)) m) k j s = S) → Wp (d + 7) 0 0 sc kX11_twice (Qi F) 37 [some (.ref 0), some (.int w), some (.int x2), some (.int x3)] [] (T, rf, g) 0 0 := by
  intro k
  induction k with
  | zero =>
    intro j x3 rf g s hj hx3 hO hr hf hU hg_ hZ
    obtain ⟨hX, -, hS, hE, hV, hlw, htc⟩ := id hO
    have hn8 : nc ≤ 8 := hV.2.1
    have hcn : g 1 5 = nI nc := hE.1.1.trans hV.1
    have e9 : g 1 9 = nI (nN (o 0 9)) := hE.1.2.2.1.trans hV.tN.1
    have ht40 := hV.tN.2.1
    refine xX11_twice_37 ?_
    refine xX11_twice_38 ?_
    refine xX11_twice_39 (hX.1 _ _ rfl) (hX.2 _ _ _ rfl) ?_
    refine xX11_twice_42 (hX.1 _ _ rfl) ?_
    rw [e9]
    refine xX11_twice_45_t (by rw [hx3]; exact nI_le (by omega) (by omega)) ?_
    refine wp_kill_3 ?_
    exact hQ _ _ hO hr hf hU (hZ ▸ hg_)
  | succ k ih =>
    intro j x3 rf g s hj hx3 hO hr hf hU hg_ hZ
    obtain ⟨hX, -, hS, hE, hV, hlw, htc⟩ := id hO
    have hn8 : nc ≤ 8 := hV.2.1
    have hcn : g 1 5 = nI nc := hE.1.1.trans hV.1
    have e9 : g 1 9 = nI (nN (o 0 9)) := hE.1.2.2.1.trans hV.tN.1
    have ht40 := hV.tN.2.1
    refine xX11_twice_37 ?_
    refine xX11_twice_38 ?_
    refine xX11_twice_39 (hX.1 _ _ rfl) (hX.2 _ _ _ rfl) ?_
    refine xX11_twice_42 (hX.1 _ _ rfl) ?_
    rw [e9]
    refine xX11_twice_45_f (by rw [hx3]; exact nI_ge (by omega) (by omega)) ?_
    refine xX11_twice_48 ?_
    refine xX11_twice_49 (hX.1 _ _ rfl) (hX.2 _ _ _ rfl) ?_
    refine xX11_twice_52 ?_
    refine xX11_twice_53 ?_
    refine xX11_twice_54 ?_
    refine xX11_twice_55 (hX.1 _ _ rfl) rfl rfl rfl (s_X5_plan (OvT.of hX (Or.inr (Or.inl rfl))) rfl (by decide) (fun g0 hp0 hj0 => ?_))
    refine xX11_twice_58 ?_
    refine xX11_twice_59 (hX.1 _ _ rfl) (hX.2 _ _ _ rfl) ?_
    refine xX11_twice_62 ?_
    refine xX11_twice_63 ?_
    refine xX11_twice_64 ?_
    refine xX11_twice_65 (hX.1 _ _ rfl) rfl rfl rfl (s_X5_plan (OvT.of hX (Or.inr (Or.inl rfl))) rfl (by decide) (fun g1 hp1 hj1 => ?_))
    refine xX11_twice_68 ?_
    refine xX11_twice_69 ?_
    refine xX11_twice_71 ?_
    refine xX11_twice_72 ?_
    refine xX11_twice_73 ?_
    refine xX11_twice_74 ?_
    refine xX11_twice_75 ?_
    refine xX11_twice_76 ?_
    refine xX11_twice_77 (hX.1 _ _ rfl) (hX.2 _ _ _ rfl) ?_
    have h9 := hO.th ⟨hX, fun _ _ => rfl⟩ ((VF.f9 hj0).tr (VF.f9 hj1)) (o' := pl (pl o 0 (nI m) 2) 1 (nI j) 2) (by rw [hp1, hp0, hx2, hx3]; exact hU _ _ _ _) (OVk_pl2 (q := 2) (q2 := 2) hV (by omega) (by omega) (by omega) (by omega)) (t' := t) (pl_lw.trans (pl_lw.trans hlw)) htc
    refine xX11_twice_80 (hX.1 _ _ rfl) rfl rfl rfl (s_X11_apartOf h9 (fun rf2 g2 hr2 hz2 => ?_))
    refine xX11_twice_83 (hX.1 _ _ rfl) rfl rfl rfl (s_X11_weigh hr2.1 ((hg_.row ((hj1 0 (by omega)).trans (hj0 0 (by omega)))).zf hz2) (fun g3 hg3 hy3 => ?_))
    refine xX11_twice_86 rfl rfl ?_
    refine xX11_twice_89 ?_
    exact ih (j + 1) _ _ _ _ (by omega) (by rw [hx3]; exact nI_1 _) (hO.vf hr2 ((((VF.f9 hj0).tr (VF.f9 hj1)).tr hz2.vf).tr hy3.vf)) (hr.tr hr2) (hf.tr ((((VF.f9 hj0).tr (VF.f9 hj1)).tr hz2.vf).tr hy3.vf)) (((OEq2_pl hU (by rw [hp1, hp0])).tf hz2.tf).tf hy3.tf) hg3 (by
      rw [← hZ, hx2, hx3]
      rfl)
theorem lp_X11_twice {d : Nat} {sc : Nat × (Nat → Int32)} {T : List (Nat × Nat)} {rf0 : Nat → Nat → Option Nat} {g0 : Nat → Nat → Int32} {nc tc t : Nat} {o : OV} {lws : Nat → Nat → List Int32} {F : Int32 → AH → Prop} {w : Int32} {S : Option (Int32 × Int32)} (hQ : ∀ rf2 g2, ZR T rf0 rf2 → VF g0 g2 → F (lgt S w) (T, rf2, g2)) : ∀ (k j : Nat) (x2 : Int32) (rf : Nat → Nat → Option Nat) (g : Nat → Nat → Int32) (s : Option (Int32 × Int32)), (j + k = nN (o 0 9)) → (x2 = nI j) → (OB T rf g 1 o nc tc lws t) → (ZR T rf0 rf) → (VF g0 g) → (OEq2 g o nc) → (WG g s) → (tw2 o nc (evL (lws t)) (nN (o 0 9)) k j s = S) → Wp (d + 7) 0 0 sc kX11_twice (Qi F) 22 [some (.ref 0), some (.int w), some (.int x2), none] [] (T, rf, g) 0 0 := by
  intro k
  induction k with
  | zero =>
    intro j x2 rf g s hj hx2 hO hr hf hU hg_ hZ
    obtain ⟨hX, -, hS, hE, hV, hlw, htc⟩ := id hO
    have hn8 : nc ≤ 8 := hV.2.1
    have hcn : g 1 5 = nI nc := hE.1.1.trans hV.1
    have e9 : g 1 9 = nI (nN (o 0 9)) := hE.1.2.2.1.trans hV.tN.1
    have ht40 := hV.tN.2.1
    refine xX11_twice_22 ?_
    refine xX11_twice_23 ?_
    refine xX11_twice_24 (hX.1 _ _ rfl) (hX.2 _ _ _ rfl) ?_
    refine xX11_twice_27 (hX.1 _ _ rfl) ?_
    rw [e9]
    refine xX11_twice_30_t (by rw [hx2]; exact nI_le (by omega) (by omega)) ?_
    refine xX11_twice_98 ?_
    refine xX11_twice_99 ?_
    refine xX11_twice_100 (hX.1 _ _ rfl) rfl rfl rfl (s_X11_lightest hX hg_ ?_)
    refine xX11_twice_103 rfl rfl ?_
    have q := hQ _ _ hr hf
    rw [← hZ] at q
    exact q
  | succ k ih =>
    intro j x2 rf g s hj hx2 hO hr hf hU hg_ hZ
    obtain ⟨hX, -, hS, hE, hV, hlw, htc⟩ := id hO
    have hn8 : nc ≤ 8 := hV.2.1
    have hcn : g 1 5 = nI nc := hE.1.1.trans hV.1
    have e9 : g 1 9 = nI (nN (o 0 9)) := hE.1.2.2.1.trans hV.tN.1
    have ht40 := hV.tN.2.1
    refine xX11_twice_22 ?_
    refine xX11_twice_23 ?_
    refine xX11_twice_24 (hX.1 _ _ rfl) (hX.2 _ _ _ rfl) ?_
    refine xX11_twice_27 (hX.1 _ _ rfl) ?_
    rw [e9]
    refine xX11_twice_30_f (by rw [hx2]; exact nI_ge (by omega) (by omega)) ?_
    refine xX11_twice_33 ?_
    refine xX11_twice_34 ?_
    refine xX11_twice_35 ?_
    refine xX11_twice_36 rfl ?_
    refine lp_X11_twice1 hx2 (by omega) (fun rf g hO hr hf hU hg_ => ?_) (nN (o 0 9) - (j + 1)) (j + 1) _ _ _ _ (by omega) (by rw [hx2]; exact nI_1 _) hO hr hf hU hg_ rfl
    refine xX11_twice_92 rfl rfl ?_
    refine xX11_twice_95 ?_
    exact ih (j + 1) _ _ _ _ (by omega) (by rw [hx2]; exact nI_1 _) hO hr hf hU hg_ (hZ)
theorem s_X11_twice {d : Nat} {sc : Nat × (Nat → Int32)} {T : List (Nat × Nat)} {rf : Nat → Nat → Option Nat} {g : Nat → Nat → Int32} {nc tc t : Nat} {o : OV} {lws : Nat → Nat → List Int32} {w : Int32} {F : Int32 → AH → Prop} (hO : OB T rf g 1 o nc tc lws t) (hQ : ∀ rf2 g2, ZR T rf rf2 → VF g g2 → F (twiceP o nc (evL (lws t)) w) (T, rf2, g2)) : Mok (d + 7) 0 0 sc kX11_twice [.ref 0, .int w] (T, rf, g) (Qi F) := by
  obtain ⟨hX, -, hS, hE, hV, hlw, htc⟩ := id hO
  have hn8 : nc ≤ 8 := hV.2.1
  have hcn : g 1 5 = nI nc := hE.1.1.trans hV.1
  refine Mok.ofWp (L := [some (.ref 0), some (.int w), none, none]) rfl rfl rfl ?_
  refine xX11_twice_0 ?_
  refine xX11_twice_1 ?_
  refine xX11_twice_2 ?_
  refine xX11_twice_3 rfl rfl rfl (s_X11_within  (fun hw0 => ?_) (fun nw0 => ?_))
  · refine xX11_twice_6_t (by decide) ?_
    refine xX11_twice_12 ?_
    refine xX11_twice_13 (hX.1 _ _ rfl) rfl rfl rfl (s_X11_imagine hX (fun g1 he1 hj1 => ?_))
    refine xX11_twice_16 ?_
    refine xX11_twice_17 (hX.1 _ _ rfl) rfl rfl rfl (s_X11_weighNone hX (fun g2 hg2 hy2 => ?_))
    refine xX11_twice_20 ?_
    refine xX11_twice_21 rfl ?_
    refine lp_X11_twice (fun rf2 g2 h1 h2 => ?_) (nN (o 0 9)) 0 _ _ _ _ (by omega) rfl (hO.vf ⟨hX, fun _ _ => rfl⟩ ((VF.f9 hj1).tr hy2.vf)) ⟨hX, fun _ _ => rfl⟩ ((VF.f9 hj1).tr hy2.vf) ((OEq2.of ((he1.le hn8).tr hE)).tf hy2.tf) hg2 rfl
    have q := hQ _ _ h1 h2
    rw [twiceP, if_pos hw0] at q
    exact q
  · refine xX11_twice_6_f (by decide) ?_
    refine xX11_twice_9 ?_
    refine xX11_twice_11 rfl rfl ?_
    have q := hQ _ _ ⟨hX, fun _ _ => rfl⟩ VF.rf
    rw [twiceP, if_neg nw0] at q
    exact q
