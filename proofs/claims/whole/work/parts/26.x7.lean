theorem OVk.tm {o : OV} {nc : Nat} (h : OVk o nc) : ∃ tm, 1 ≤ tm ∧ tm ≤ 40 ∧ o 0 9 = nI tm := h.2.2.2.1
theorem OVk.li {o : OV} {nc : Nat} (h : OVk o nc) : ∃ li, li < 4 ∧ o 0 10 = nI li := h.2.2.2.2.1
theorem OVk.tN {o : OV} {nc : Nat} (h : OVk o nc) : o 0 9 = nI (nN (o 0 9)) ∧ nN (o 0 9) ≤ 40 ∧ 1 ≤ nN (o 0 9) := by
  obtain ⟨tm, h1, h2, h3⟩ := h.tm
  rw [h3, nN_nI (by omega)]
  exact ⟨rfl, h2, h1⟩
theorem s_X11_startBaking {d : Nat} {sc : Nat × (Nat → Int32)} {T : List (Nat × Nat)} {rf : Nat → Nat → Option Nat} {g : Nat → Nat → Int32} {b nc tc t : Nat} {o : OV} {lws : Nat → Nat → List Int32} {F : AH → Prop} (hO : OB T rf g b o nc tc lws t) (hQ : ∀ rf2 g2, ZR T rf rf2 → ZF g g2 → BAK T rf2 g2 b o nc 0 (lws t) → F (T, rf2, g2)) : Mok (d + 2) 0 0 sc kX11_startBaking [.ref 0, .ref b] (T, rf, g) (Qv F) := by
  obtain ⟨hX, hbc, hS, hE, hV, hlw, htc⟩ := id hO
  have hOv := OvT.of hX hbc
  have hb17 : b ≤ 17 := by omega
  obtain ⟨la, n, hla0, hL, hn, hla, hl1, hl2, hw⟩ := hS.2 t htc
  have ht6 : t < 6 := Nat.lt_of_lt_of_le htc hS.1
  have hbl : g b 11 = nI t := hE.1.2.2.2.2.trans hlw
  refine Mok.ofWp (L := [some (.ref 0), some (.ref b), none]) rfl rfl rfl ?_
  refine xX11_startBaking_0 ?_
  refine xX11_startBaking_1 hOv.1 ?_
  refine xX11_startBaking_4 ?_
  refine xX11_startBaking_5 ?_
  refine xX11_startBaking_6 rfl rfl rfl (s_X11_within  (fun hw0 => ?_) (fun hw0 => ?_))
  · refine xX11_startBaking_9_f (by decide) ?_
    refine xX11_startBaking_12 ?_
    refine xX11_startBaking_13 (hX.1 _ _ rfl) (hX.2 _ _ _ rfl) ?_
    refine xX11_startBaking_16 ?_
    refine xX11_startBaking_17 hOv.1 ?_
    refine xX11_startBaking_20 (j := t) (hX.1 _ _ rfl) rfl rfl hbl (by omega) rfl hla0 ?_
    refine xX11_startBaking_21 ?_
    refine xX11_startBaking_25 rfl ?_
    refine xX11_startBaking_26 ?_
    refine xX11_startBaking_27 (hX.1 _ _ rfl) (hX.2 _ _ _ rfl) ?_
    refine xX11_startBaking_30 ?_
    refine xX11_startBaking_31 ?_
    refine xX11_startBaking_32 (hX.1 _ _ rfl) rfl rfl rfl (s_X0_start hX hOv.1 hL.1 hb17 (fun g1 ha1 hz1 hc1 hd1 he1 hk1 => ?_))
    refine xX11_startBaking_35 rfl rfl ?_
    have hz : ZF g g1 := fun a p q _ _ => ha1 a p q
    obtain ⟨li, hli, eli⟩ := hV.li
    have e10 : g b 10 = nI li := hE.1.2.2.2.1.trans eli
    have e10' : g1 b 10 = g b 10 := congrFun (hz b (by omega) (by omega) (by omega) (by omega)) 10
    refine hQ _ _ (ZR.rb hX) hz ⟨la, n, ⟨hX.rb, hbc, ?_, ?_, hL.zr (ZR.rb hX).2 hla, hn, hla⟩, ⟨hw.keep (ha1 _ (by omega) (by omega)) (ha1 _ (by omega) (by omega)), rfl, rfl, rfl, rfl, rfl, rfl, rfl, rfl⟩, hE.rows (XO.zf hz hbc), hV, ⟨hz1, ?_, hd1, he1, fun c hc' => hk1 c (by have := hV.2.1; omega)⟩, hl1, hl2⟩
    · unfold RB; rw [ur_ne (by omega), ur_same]
    · unfold RB; rw [ur_same]
    · rw [hc1]
      show _ = nI (nN (g1 b 10))
      rw [e10', e10, nN_nI (by omega)]
  · exact absurd ⟨by rw [hbl]; exact nI_le (a := 0) (by omega) (by omega), by rw [hbl]; exact nI_le (b := 5) (by omega) (by omega)⟩ hw0
theorem lp_X11_bake {d : Nat} {sc : Nat × (Nat → Int32)} {T : List (Nat × Nat)} {rf : Nat → Nat → Option Nat} {b nc M : Nat} {o : OV} {lw : Nat → List Int32} {F : AH → Prop} {g0 : Nat → Nat → Int32} {x2 : Int32} (hX : XS T rf) (hx2 : x2 = nI M) (hM : M ≤ 40) (hQ : ∀ g2, ZF g0 g2 → BAK T rf g2 b o nc M lw → F (T, rf, g2)) : ∀ (k j : Nat) (x3 : Int32) (g : Nat → Nat → Int32), (j + k = M) → (x3 = nI j) → (ZF g0 g) → (BAK T rf g b o nc j lw) → Wp (d + 5) 0 0 sc kX11_bake (Qv F) 7 [some (.ref 0), some (.ref b), some (.int x2), some (.int x3)] [] (T, rf, g) 0 0 := by
  intro k
  induction k with
  | zero =>
    intro j x3 g hj hx3 hf hK
    refine xX11_bake_7 ?_
    refine xX11_bake_8 ?_
    refine xX11_bake_9_t (by rw [hx3, hx2]; exact nI_le (by omega) (by omega)) ?_
    refine xX11_bake_25 rfl rfl ?_
    have e : j = M := by omega
    subst e
    exact hQ _ hf hK
  | succ k ih =>
    intro j x3 g hj hx3 hf hK
    refine xX11_bake_7 ?_
    refine xX11_bake_8 ?_
    refine xX11_bake_9_f (by rw [hx3, hx2]; exact nI_ge (by omega) (by omega)) ?_
    refine xX11_bake_12 ?_
    refine xX11_bake_13 (hX.1 _ _ rfl) (hX.2 _ _ _ rfl) ?_
    refine xX11_bake_16 (hX.1 _ _ rfl) rfl rfl rfl (t_X0_step hK (by omega) (fun g0 hk0 hf0 => ?_))
    refine xX11_bake_19 rfl rfl ?_
    refine xX11_bake_22 ?_
    exact ih (j + 1) _ _ (by omega) (by rw [hx3]; exact nI_1 j) (hf.tr hf0) hk0
theorem s_X11_bake {d : Nat} {sc : Nat × (Nat → Int32)} {T : List (Nat × Nat)} {rf : Nat → Nat → Option Nat} {g : Nat → Nat → Int32} {b nc tc t : Nat} {o : OV} {lws : Nat → Nat → List Int32} {M : Nat} {x2 : Int32} {F : AH → Prop} (hO : OB T rf g b o nc tc lws t) (hx2 : x2 = nI M) (hM : M ≤ 40) (hQ : ∀ rf2 g2, ZR T rf rf2 → ZF g g2 → BAK T rf2 g2 b o nc M (lws t) → F (T, rf2, g2)) : Mok (d + 5) 0 0 sc kX11_bake [.ref 0, .ref b, .int x2] (T, rf, g) (Qv F) := by
  have hX := hO.1
  have hOv := OvT.of hX hO.2.1
  refine Mok.ofWp (L := [some (.ref 0), some (.ref b), some (.int x2), none]) rfl rfl rfl ?_
  refine xX11_bake_0 ?_
  refine xX11_bake_1 ?_
  refine xX11_bake_2 (hX.1 _ _ rfl) rfl rfl rfl (s_X11_startBaking hO (fun rf0 g0 hr0 hf0 hk0 => ?_))
  refine xX11_bake_5 ?_
  refine xX11_bake_6 rfl ?_
  exact lp_X11_bake hr0.1 hx2 hM (fun g2 hf2 hk2 => hQ _ g2 hr0 (hf0.tr hf2) hk2) M 0 _ _ (by omega) rfl ZF.rf hk0
theorem s_X11_badnessOf {d : Nat} {sc : Nat × (Nat → Int32)} {T : List (Nat × Nat)} {rf : Nat → Nat → Option Nat} {g : Nat → Nat → Int32} {b nc tc t : Nat} {o : OV} {lws : Nat → Nat → List Int32} {F : Int32 → AH → Prop} (hO : OB T rf g b o nc tc lws t) (hQ : ∀ rf2 g2, ZR T rf rf2 → ZF g g2 → F (badP o (evL (lws t)) nc) (T, rf2, g2)) : Mok (d + 6) 0 0 sc kX11_badnessOf [.ref 0, .ref b] (T, rf, g) (Qi F) := by
  have hX := hO.1
  have hOv := OvT.of hX hO.2.1
  have hV := hO.2.2.2.2.1
  have hE := hO.2.2.2.1
  have htm : g b 9 = nI (nN (o 0 9)) := hE.1.2.2.1.trans hV.tN.1
  refine Mok.ofWp (L := [some (.ref 0), some (.ref b)]) rfl rfl rfl ?_
  refine xX11_badnessOf_0 ?_
  refine xX11_badnessOf_1 ?_
  refine xX11_badnessOf_2 ?_
  refine xX11_badnessOf_3 hOv.1 ?_
  refine xX11_badnessOf_6 (hX.1 _ _ rfl) rfl rfl rfl (s_X11_bake hO htm hV.tN.2.1 (fun rf0 g0 hr0 hf0 hk0 => ?_))
  refine xX11_badnessOf_9 ?_
  refine xX11_badnessOf_10 (hX.1 _ _ rfl) (hr0.1.2 _ _ _ rfl) ?_
  refine xX11_badnessOf_13 (hX.1 _ _ rfl) rfl rfl rfl (t_X0_badness hk0 (fun g1 hk1 hf1 => ?_))
  refine xX11_badnessOf_16 rfl rfl ?_
  exact hQ _ _ hr0 (hf0.tr hf1)
theorem s_X11_apartOf {d : Nat} {sc : Nat × (Nat → Int32)} {T : List (Nat × Nat)} {rf : Nat → Nat → Option Nat} {g : Nat → Nat → Int32} {b nc tc t : Nat} {o : OV} {lws : Nat → Nat → List Int32} {F : Int32 → AH → Prop} (hO : OB T rf g b o nc tc lws t) (hQ : ∀ rf2 g2, ZR T rf rf2 → ZF g g2 → F (apP o (evL (lws t)) nc) (T, rf2, g2)) : Mok (d + 6) 0 0 sc kX11_apartOf [.ref 0, .ref b] (T, rf, g) (Qi F) := by
  have hX := hO.1
  have hOv := OvT.of hX hO.2.1
  have hV := hO.2.2.2.2.1
  have hE := hO.2.2.2.1
  have htm : g b 9 = nI (nN (o 0 9)) := hE.1.2.2.1.trans hV.tN.1
  refine Mok.ofWp (L := [some (.ref 0), some (.ref b)]) rfl rfl rfl ?_
  refine xX11_apartOf_0 ?_
  refine xX11_apartOf_1 ?_
  refine xX11_apartOf_2 ?_
  refine xX11_apartOf_3 hOv.1 ?_
  refine xX11_apartOf_6 (hX.1 _ _ rfl) rfl rfl rfl (s_X11_bake hO htm hV.tN.2.1 (fun rf0 g0 hr0 hf0 hk0 => ?_))
  refine xX11_apartOf_9 ?_
  refine xX11_apartOf_10 (hX.1 _ _ rfl) (hr0.1.2 _ _ _ rfl) ?_
  refine xX11_apartOf_13 (hX.1 _ _ rfl) rfl rfl rfl (t_X0_apart hk0 ?_)
  refine xX11_apartOf_16 rfl rfl ?_
  exact hQ _ _ hr0 hf0
theorem s_X5_become9 {d : Nat} {sc : Nat × (Nat → Int32)} {T : List (Nat × Nat)} {rf : Nat → Nat → Option Nat} {g : Nat → Nat → Int32} {F : AH → Prop} (hX : XS T rf) (hQ : ∀ g2, OEq (XO g2 9) (XO g 1) 8 → (∀ a, (a < 9 ∨ 16 < a) → g2 a = g a) → F (T, rf, g2)) : Mok (d + 1) 0 0 sc kX5_become [.ref 9, .ref 1] (T, rf, g) (Qv F) := by
  refine Mok.ofWp (L := [some (.ref 9), some (.ref 1)]) rfl rfl rfl ?_
  refine xX5_become_0 ?_
  refine xX5_become_1 (hX.1 _ _ rfl) (hX.2 _ _ _ rfl) ?_
  refine xX5_become_4 ?_
  refine xX5_become_5 ?_
  refine xX5_become_6 (hX.1 _ _ rfl) (hX.2 _ _ _ rfl) ?_
  refine xX5_become_9 ?_
  refine xX5_become_10 ?_
  refine xX5_become_12 (isp := 0) (idp := 0) (im := 16) (hX.1 _ _ rfl) (hX.1 _ _ rfl) rfl rfl rfl (by decide) (by decide) rfl rfl rfl ?_
  refine xX5_become_15 ?_
  refine xX5_become_16 (hX.1 _ _ rfl) (hX.2 _ _ _ rfl) ?_
  refine xX5_become_19 ?_
  refine xX5_become_20 ?_
  refine xX5_become_21 (hX.1 _ _ rfl) (hX.2 _ _ _ rfl) ?_
  refine xX5_become_24 ?_
  refine xX5_become_25 ?_
  refine xX5_become_27 (isp := 0) (idp := 0) (im := 8) (hX.1 _ _ rfl) (hX.1 _ _ rfl) rfl rfl rfl (by decide) (by decide) rfl rfl rfl ?_
  refine xX5_become_30 ?_
  refine xX5_become_31 (hX.1 _ _ rfl) (hX.2 _ _ _ rfl) ?_
  refine xX5_become_34 ?_
  refine xX5_become_35 ?_
  refine xX5_become_36 (hX.1 _ _ rfl) (hX.2 _ _ _ rfl) ?_
  refine xX5_become_39 ?_
  refine xX5_become_40 ?_
  refine xX5_become_42 (isp := 0) (idp := 0) (im := 8) (hX.1 _ _ rfl) (hX.1 _ _ rfl) rfl rfl rfl (by decide) (by decide) rfl rfl rfl ?_
  refine xX5_become_45 ?_
  refine xX5_become_46 (hX.1 _ _ rfl) (hX.2 _ _ _ rfl) ?_
  refine xX5_become_49 ?_
  refine xX5_become_50 ?_
  refine xX5_become_51 (hX.1 _ _ rfl) (hX.2 _ _ _ rfl) ?_
  refine xX5_become_54 ?_
  refine xX5_become_55 ?_
  refine xX5_become_57 (isp := 0) (idp := 0) (im := 8) (hX.1 _ _ rfl) (hX.1 _ _ rfl) rfl rfl rfl (by decide) (by decide) rfl rfl rfl ?_
  refine xX5_become_60 ?_
  refine xX5_become_61 (hX.1 _ _ rfl) (hX.2 _ _ _ rfl) ?_
  refine xX5_become_64 ?_
  refine xX5_become_65 ?_
  refine xX5_become_66 (hX.1 _ _ rfl) (hX.2 _ _ _ rfl) ?_
  refine xX5_become_69 ?_
  refine xX5_become_70 ?_
  refine xX5_become_72 (isp := 0) (idp := 0) (im := 8) (hX.1 _ _ rfl) (hX.1 _ _ rfl) rfl rfl rfl (by decide) (by decide) rfl rfl rfl ?_
  refine xX5_become_75 ?_
  refine xX5_become_76 ?_
  refine xX5_become_77 (hX.1 _ _ rfl) ?_
  refine xX5_become_80 (hX.1 _ _ rfl) ?_
  refine xX5_become_83 ?_
  refine xX5_become_84 (hX.1 _ _ rfl) (hX.2 _ _ _ rfl) ?_
  refine xX5_become_87 ?_
  refine xX5_become_88 ?_
  refine xX5_become_89 (hX.1 _ _ rfl) (hX.2 _ _ _ rfl) ?_
  refine xX5_become_92 ?_
  refine xX5_become_93 ?_
  refine xX5_become_95 (isp := 0) (idp := 0) (im := 6) (hX.1 _ _ rfl) (hX.1 _ _ rfl) rfl rfl rfl (by decide) (by decide) rfl rfl rfl ?_
  refine xX5_become_98 ?_
  refine xX5_become_99 (hX.1 _ _ rfl) (hX.2 _ _ _ rfl) ?_
  refine xX5_become_102 ?_
  refine xX5_become_103 ?_
  refine xX5_become_104 (hX.1 _ _ rfl) (hX.2 _ _ _ rfl) ?_
  refine xX5_become_107 ?_
  refine xX5_become_108 ?_
  refine xX5_become_110 (isp := 0) (idp := 0) (im := 6) (hX.1 _ _ rfl) (hX.1 _ _ rfl) rfl rfl rfl (by decide) (by decide) rfl rfl rfl ?_
  refine xX5_become_113 ?_
  refine xX5_become_114 ?_
  refine xX5_become_115 (hX.1 _ _ rfl) ?_
  refine xX5_become_118 (hX.1 _ _ rfl) ?_
  refine xX5_become_121 ?_
  refine xX5_become_122 ?_
  refine xX5_become_123 (hX.1 _ _ rfl) ?_
  refine xX5_become_126 (hX.1 _ _ rfl) ?_
  refine xX5_become_129 ?_
  refine xX5_become_130 ?_
  refine xX5_become_131 (hX.1 _ _ rfl) ?_
  refine xX5_become_134 (hX.1 _ _ rfl) ?_
  refine xX5_become_137 ?_
  refine xX5_become_138 ?_
  refine xX5_become_139 (hX.1 _ _ rfl) ?_
  refine xX5_become_142 (hX.1 _ _ rfl) ?_
  refine xX5_become_145 rfl rfl ?_
  refine hQ _ ⟨⟨?_, ?_, ?_, ?_, ?_⟩, fun i hi => ?_, fun c hc => ⟨?_, ?_, ?_, ?_⟩, fun k hk => ⟨?_, ?_⟩⟩ (fun a ha => ?_)
  · simp [XO, up, cpy]
  · simp [XO, up, cpy]
  · simp [XO, up, cpy]
  · simp [XO, up, cpy]
  · simp [XO, up, cpy]
  · simp [XO, up, cpy, hi]
  · simp [XO, up, cpy, hc]
  · simp [XO, up, cpy, hc]
  · simp [XO, up, cpy, hc]
  · simp [XO, up, cpy, hc]
  · simp [XO, up, cpy, hk]
  · simp [XO, up, cpy, hk]
  · funext k
    rw [up_ne (by omega), up_ne (by omega), up_ne (by omega), up_ne (by omega), cpy_row (by omega), cpy_row (by omega), up_ne (by omega), cpy_row (by omega), cpy_row (by omega), cpy_row (by omega), cpy_row (by omega), cpy_row (by omega)]
theorem s_X5_become17 {d : Nat} {sc : Nat × (Nat → Int32)} {T : List (Nat × Nat)} {rf : Nat → Nat → Option Nat} {g : Nat → Nat → Int32} {F : AH → Prop} (hX : XS T rf) (hQ : ∀ g2, OEq (XO g2 17) (XO g 1) 8 → (∀ a, (a < 17 ∨ 24 < a) → g2 a = g a) → F (T, rf, g2)) : Mok (d + 1) 0 0 sc kX5_become [.ref 17, .ref 1] (T, rf, g) (Qv F) := by
  refine Mok.ofWp (L := [some (.ref 17), some (.ref 1)]) rfl rfl rfl ?_
  refine xX5_become_0 ?_
  refine xX5_become_1 (hX.1 _ _ rfl) (hX.2 _ _ _ rfl) ?_
  refine xX5_become_4 ?_
  refine xX5_become_5 ?_
  refine xX5_become_6 (hX.1 _ _ rfl) (hX.2 _ _ _ rfl) ?_
  refine xX5_become_9 ?_
  refine xX5_become_10 ?_
  refine xX5_become_12 (isp := 0) (idp := 0) (im := 16) (hX.1 _ _ rfl) (hX.1 _ _ rfl) rfl rfl rfl (by decide) (by decide) rfl rfl rfl ?_
  refine xX5_become_15 ?_
  refine xX5_become_16 (hX.1 _ _ rfl) (hX.2 _ _ _ rfl) ?_
  refine xX5_become_19 ?_
  refine xX5_become_20 ?_
  refine xX5_become_21 (hX.1 _ _ rfl) (hX.2 _ _ _ rfl) ?_
  refine xX5_become_24 ?_
  refine xX5_become_25 ?_
  refine xX5_become_27 (isp := 0) (idp := 0) (im := 8) (hX.1 _ _ rfl) (hX.1 _ _ rfl) rfl rfl rfl (by decide) (by decide) rfl rfl rfl ?_
  refine xX5_become_30 ?_
  refine xX5_become_31 (hX.1 _ _ rfl) (hX.2 _ _ _ rfl) ?_
  refine xX5_become_34 ?_
  refine xX5_become_35 ?_
  refine xX5_become_36 (hX.1 _ _ rfl) (hX.2 _ _ _ rfl) ?_
  refine xX5_become_39 ?_
  refine xX5_become_40 ?_
  refine xX5_become_42 (isp := 0) (idp := 0) (im := 8) (hX.1 _ _ rfl) (hX.1 _ _ rfl) rfl rfl rfl (by decide) (by decide) rfl rfl rfl ?_
  refine xX5_become_45 ?_
  refine xX5_become_46 (hX.1 _ _ rfl) (hX.2 _ _ _ rfl) ?_
  refine xX5_become_49 ?_
  refine xX5_become_50 ?_
  refine xX5_become_51 (hX.1 _ _ rfl) (hX.2 _ _ _ rfl) ?_
  refine xX5_become_54 ?_
  refine xX5_become_55 ?_
  refine xX5_become_57 (isp := 0) (idp := 0) (im := 8) (hX.1 _ _ rfl) (hX.1 _ _ rfl) rfl rfl rfl (by decide) (by decide) rfl rfl rfl ?_
  refine xX5_become_60 ?_
  refine xX5_become_61 (hX.1 _ _ rfl) (hX.2 _ _ _ rfl) ?_
  refine xX5_become_64 ?_
  refine xX5_become_65 ?_
  refine xX5_become_66 (hX.1 _ _ rfl) (hX.2 _ _ _ rfl) ?_
  refine xX5_become_69 ?_
  refine xX5_become_70 ?_
  refine xX5_become_72 (isp := 0) (idp := 0) (im := 8) (hX.1 _ _ rfl) (hX.1 _ _ rfl) rfl rfl rfl (by decide) (by decide) rfl rfl rfl ?_
  refine xX5_become_75 ?_
  refine xX5_become_76 ?_
  refine xX5_become_77 (hX.1 _ _ rfl) ?_
  refine xX5_become_80 (hX.1 _ _ rfl) ?_
  refine xX5_become_83 ?_
  refine xX5_become_84 (hX.1 _ _ rfl) (hX.2 _ _ _ rfl) ?_
  refine xX5_become_87 ?_
  refine xX5_become_88 ?_
  refine xX5_become_89 (hX.1 _ _ rfl) (hX.2 _ _ _ rfl) ?_
  refine xX5_become_92 ?_
  refine xX5_become_93 ?_
  refine xX5_become_95 (isp := 0) (idp := 0) (im := 6) (hX.1 _ _ rfl) (hX.1 _ _ rfl) rfl rfl rfl (by decide) (by decide) rfl rfl rfl ?_
  refine xX5_become_98 ?_
  refine xX5_become_99 (hX.1 _ _ rfl) (hX.2 _ _ _ rfl) ?_
  refine xX5_become_102 ?_
  refine xX5_become_103 ?_
  refine xX5_become_104 (hX.1 _ _ rfl) (hX.2 _ _ _ rfl) ?_
  refine xX5_become_107 ?_
  refine xX5_become_108 ?_
  refine xX5_become_110 (isp := 0) (idp := 0) (im := 6) (hX.1 _ _ rfl) (hX.1 _ _ rfl) rfl rfl rfl (by decide) (by decide) rfl rfl rfl ?_
  refine xX5_become_113 ?_
  refine xX5_become_114 ?_
  refine xX5_become_115 (hX.1 _ _ rfl) ?_
  refine xX5_become_118 (hX.1 _ _ rfl) ?_
  refine xX5_become_121 ?_
  refine xX5_become_122 ?_
  refine xX5_become_123 (hX.1 _ _ rfl) ?_
  refine xX5_become_126 (hX.1 _ _ rfl) ?_
  refine xX5_become_129 ?_
  refine xX5_become_130 ?_
  refine xX5_become_131 (hX.1 _ _ rfl) ?_
  refine xX5_become_134 (hX.1 _ _ rfl) ?_
  refine xX5_become_137 ?_
  refine xX5_become_138 ?_
  refine xX5_become_139 (hX.1 _ _ rfl) ?_
  refine xX5_become_142 (hX.1 _ _ rfl) ?_
  refine xX5_become_145 rfl rfl ?_
  refine hQ _ ⟨⟨?_, ?_, ?_, ?_, ?_⟩, fun i hi => ?_, fun c hc => ⟨?_, ?_, ?_, ?_⟩, fun k hk => ⟨?_, ?_⟩⟩ (fun a ha => ?_)
  · simp [XO, up, cpy]
  · simp [XO, up, cpy]
  · simp [XO, up, cpy]
  · simp [XO, up, cpy]
  · simp [XO, up, cpy]
  · simp [XO, up, cpy, hi]
  · simp [XO, up, cpy, hc]
  · simp [XO, up, cpy, hc]
  · simp [XO, up, cpy, hc]
  · simp [XO, up, cpy, hc]
  · simp [XO, up, cpy, hk]
  · simp [XO, up, cpy, hk]
  · funext k
    rw [up_ne (by omega), up_ne (by omega), up_ne (by omega), up_ne (by omega), cpy_row (by omega), cpy_row (by omega), up_ne (by omega), cpy_row (by omega), cpy_row (by omega), cpy_row (by omega), cpy_row (by omega), cpy_row (by omega)]
theorem s_X5_become1 {d : Nat} {sc : Nat × (Nat → Int32)} {T : List (Nat × Nat)} {rf : Nat → Nat → Option Nat} {g : Nat → Nat → Int32} {F : AH → Prop} (hX : XS T rf) (hQ : ∀ g2, OEq (XO g2 1) (XO g 17) 8 → (∀ a, (a < 1 ∨ 8 < a) → g2 a = g a) → F (T, rf, g2)) : Mok (d + 1) 0 0 sc kX5_become [.ref 1, .ref 17] (T, rf, g) (Qv F) := by
  refine Mok.ofWp (L := [some (.ref 1), some (.ref 17)]) rfl rfl rfl ?_
  refine xX5_become_0 ?_
  refine xX5_become_1 (hX.1 _ _ rfl) (hX.2 _ _ _ rfl) ?_
  refine xX5_become_4 ?_
  refine xX5_become_5 ?_
  refine xX5_become_6 (hX.1 _ _ rfl) (hX.2 _ _ _ rfl) ?_
  refine xX5_become_9 ?_
  refine xX5_become_10 ?_
  refine xX5_become_12 (isp := 0) (idp := 0) (im := 16) (hX.1 _ _ rfl) (hX.1 _ _ rfl) rfl rfl rfl (by decide) (by decide) rfl rfl rfl ?_
  refine xX5_become_15 ?_
  refine xX5_become_16 (hX.1 _ _ rfl) (hX.2 _ _ _ rfl) ?_
  refine xX5_become_19 ?_
  refine xX5_become_20 ?_
  refine xX5_become_21 (hX.1 _ _ rfl) (hX.2 _ _ _ rfl) ?_
  refine xX5_become_24 ?_
  refine xX5_become_25 ?_
  refine xX5_become_27 (isp := 0) (idp := 0) (im := 8) (hX.1 _ _ rfl) (hX.1 _ _ rfl) rfl rfl rfl (by decide) (by decide) rfl rfl rfl ?_
  refine xX5_become_30 ?_
  refine xX5_become_31 (hX.1 _ _ rfl) (hX.2 _ _ _ rfl) ?_
  refine xX5_become_34 ?_
  refine xX5_become_35 ?_
  refine xX5_become_36 (hX.1 _ _ rfl) (hX.2 _ _ _ rfl) ?_
  refine xX5_become_39 ?_
  refine xX5_become_40 ?_
  refine xX5_become_42 (isp := 0) (idp := 0) (im := 8) (hX.1 _ _ rfl) (hX.1 _ _ rfl) rfl rfl rfl (by decide) (by decide) rfl rfl rfl ?_
  refine xX5_become_45 ?_
  refine xX5_become_46 (hX.1 _ _ rfl) (hX.2 _ _ _ rfl) ?_
  refine xX5_become_49 ?_
  refine xX5_become_50 ?_
  refine xX5_become_51 (hX.1 _ _ rfl) (hX.2 _ _ _ rfl) ?_
  refine xX5_become_54 ?_
  refine xX5_become_55 ?_
  refine xX5_become_57 (isp := 0) (idp := 0) (im := 8) (hX.1 _ _ rfl) (hX.1 _ _ rfl) rfl rfl rfl (by decide) (by decide) rfl rfl rfl ?_
  refine xX5_become_60 ?_
  refine xX5_become_61 (hX.1 _ _ rfl) (hX.2 _ _ _ rfl) ?_
  refine xX5_become_64 ?_
  refine xX5_become_65 ?_
  refine xX5_become_66 (hX.1 _ _ rfl) (hX.2 _ _ _ rfl) ?_
  refine xX5_become_69 ?_
  refine xX5_become_70 ?_
  refine xX5_become_72 (isp := 0) (idp := 0) (im := 8) (hX.1 _ _ rfl) (hX.1 _ _ rfl) rfl rfl rfl (by decide) (by decide) rfl rfl rfl ?_
  refine xX5_become_75 ?_
  refine xX5_become_76 ?_
  refine xX5_become_77 (hX.1 _ _ rfl) ?_
  refine xX5_become_80 (hX.1 _ _ rfl) ?_
  refine xX5_become_83 ?_
  refine xX5_become_84 (hX.1 _ _ rfl) (hX.2 _ _ _ rfl) ?_
  refine xX5_become_87 ?_
  refine xX5_become_88 ?_
  refine xX5_become_89 (hX.1 _ _ rfl) (hX.2 _ _ _ rfl) ?_
  refine xX5_become_92 ?_
  refine xX5_become_93 ?_
  refine xX5_become_95 (isp := 0) (idp := 0) (im := 6) (hX.1 _ _ rfl) (hX.1 _ _ rfl) rfl rfl rfl (by decide) (by decide) rfl rfl rfl ?_
  refine xX5_become_98 ?_
  refine xX5_become_99 (hX.1 _ _ rfl) (hX.2 _ _ _ rfl) ?_
  refine xX5_become_102 ?_
  refine xX5_become_103 ?_
  refine xX5_become_104 (hX.1 _ _ rfl) (hX.2 _ _ _ rfl) ?_
  refine xX5_become_107 ?_
  refine xX5_become_108 ?_
  refine xX5_become_110 (isp := 0) (idp := 0) (im := 6) (hX.1 _ _ rfl) (hX.1 _ _ rfl) rfl rfl rfl (by decide) (by decide) rfl rfl rfl ?_
  refine xX5_become_113 ?_
  refine xX5_become_114 ?_
  refine xX5_become_115 (hX.1 _ _ rfl) ?_
  refine xX5_become_118 (hX.1 _ _ rfl) ?_
  refine xX5_become_121 ?_
  refine xX5_become_122 ?_
  refine xX5_become_123 (hX.1 _ _ rfl) ?_
  refine xX5_become_126 (hX.1 _ _ rfl) ?_
  refine xX5_become_129 ?_
  refine xX5_become_130 ?_
  refine xX5_become_131 (hX.1 _ _ rfl) ?_
  refine xX5_become_134 (hX.1 _ _ rfl) ?_
  refine xX5_become_137 ?_
  refine xX5_become_138 ?_
  refine xX5_become_139 (hX.1 _ _ rfl) ?_
  refine xX5_become_142 (hX.1 _ _ rfl) ?_
  refine xX5_become_145 rfl rfl ?_
  refine hQ _ ⟨⟨?_, ?_, ?_, ?_, ?_⟩, fun i hi => ?_, fun c hc => ⟨?_, ?_, ?_, ?_⟩, fun k hk => ⟨?_, ?_⟩⟩ (fun a ha => ?_)
  · simp [XO, up, cpy]
  · simp [XO, up, cpy]
  · simp [XO, up, cpy]
  · simp [XO, up, cpy]
  · simp [XO, up, cpy]
  · simp [XO, up, cpy, hi]
  · simp [XO, up, cpy, hc]
  · simp [XO, up, cpy, hc]
  · simp [XO, up, cpy, hc]
  · simp [XO, up, cpy, hc]
  · simp [XO, up, cpy, hk]
  · simp [XO, up, cpy, hk]
  · funext k
    rw [up_ne (by omega), up_ne (by omega), up_ne (by omega), up_ne (by omega), cpy_row (by omega), cpy_row (by omega), up_ne (by omega), cpy_row (by omega), cpy_row (by omega), cpy_row (by omega), cpy_row (by omega), cpy_row (by omega)]
