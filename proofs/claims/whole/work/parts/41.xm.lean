theorem nI_mulN {a b : Nat} (h : a * b < 2147483648) (ha : a < 2147483648) (hb : b < 2147483648) : nI a * nI b = nI (a * b) := by
  apply Int32.toInt_inj.mp
  rw [Int32.toInt_mul, iT ha, iT hb, iT h, ← Int.natCast_mul]
  generalize a * b = q at h
  exact iBm (by omega) (by omega)
theorem nI_divN {a b : Nat} (ha : a < 2147483648) (hb : b < 2147483648) : nI a / nI b = nI (a / b) := by
  have h0 := Nat.div_le_self a b
  apply Int32.toInt_inj.mp
  rw [Int32.toInt_div, iT ha, iT hb, ← Int.ofNat_tdiv]
  generalize a / b = q at h0
  rw [iT (by omega)]
  exact iBm (by omega) (by omega)
theorem mx0_nat {x : Int32} : 0 ≤ (mx0 x).toInt ∧ (mx0 x).toInt = max 0 x.toInt := by
  unfold mx0
  split
  · rename_i h
    have := iLt.mp h
    have : 0 < x.toInt := this
    omega
  · rename_i h
    have : ¬ (0 < x.toInt) := fun q => h (iLt.mpr q)
    show 0 ≤ (0 : Int) ∧ (0 : Int) = max 0 x.toInt
    omega
theorem evL_nat (lw : Nat → List Int32) (p : Nat) (nm : Nat → Int32) : ∃ s, s ≤ 99 ∧ evL lw p nm = nI s := by
  unfold evL clX
  generalize hd0 (evX nm (lw p) []) = x
  have h := mx0_nat (x := if x < 99 then x else 99)
  have h2 : (if x < 99 then x else (99 : Int32)).toInt ≤ 99 := by
    split
    · rename_i q
      have := iLt.mp q
      have : x.toInt < 99 := this
      omega
    · exact Int.le_refl _
  exact ⟨(mx0 (if x < 99 then x else 99)).toInt.toNat, by omega, iN h.1⟩
theorem kGains_nat {k s b m : Nat} (hk : k < 6) (hs : s ≤ 99) (hb : b ≤ 999) (hm : m < 10) : ∃ q, q ≤ 400 ∧ kGains (nI k) (nI s) (nI b) (nI m) = nI q := by
  have e1 : nI s * 2 / 3 = nI (s * 2 / 3) := by
    rw [show (2 : Int32) = nI 2 from rfl, show (3 : Int32) = nI 3 from rfl, nI_mulN (by omega) (by omega) (by omega), nI_divN (by omega) (by omega)]
  have e2 : nI s + nI m / 2 = nI (s + m / 2) := by
    rw [show (2 : Int32) = nI 2 from rfl, nI_divN (by omega) (by omega), nI_add]
  have e3 : 3 * nI (s + m / 2) = nI (3 * (s + m / 2)) := by
    rw [show (3 : Int32) = nI 3 from rfl, nI_mulN (by omega) (by omega) (by omega)]
  rcases (by omega : k = 0 ∨ k = 1 ∨ k = 2 ∨ k = 3 ∨ k = 4 ∨ k = 5) with rfl | rfl | rfl | rfl | rfl | rfl
  · exact ⟨s, by omega, kG0 _ _ _⟩
  · exact ⟨s * 2 / 3, by omega, (kG1 _ _ _).trans e1⟩
  · exact ⟨s + m / 2, by omega, (kG2 _ _ _).trans e2⟩
  · exact ⟨s * 2 / 3, by omega, (kG3 _ _ _).trans e1⟩
  · rw [kG4, e2, e3]
    split
    · exact ⟨_, by omega, rfl⟩
    · exact ⟨_, by omega, rfl⟩
  · exact ⟨s, by omega, kG5 _ _ _⟩
theorem brS_nat {o : OV} {nc : Nat} {lw : Nat → List Int32} (h : OVk o nc) {c : Nat} (hc : c < nc) : ∀ m, ∃ b, b ≤ 999 ∧ brS o (evL lw) c m = nI b := by
  obtain ⟨-, -, -, -, -, h6, h7, -, -, -⟩ := h
  obtain ⟨k, hk, ek⟩ := h6 c hc
  obtain ⟨mo, hmo, emo⟩ := h7 c hc
  intro m
  induction m with
  | zero => exact ⟨0, by omega, rfl⟩
  | succ m ih =>
    obtain ⟨b, hb, eb⟩ := ih
    show ∃ x, x ≤ 999 ∧ bk1 o (evL lw) c m _ _ (brS o (evL lw) c m) = nI x
    rw [eb]
    unfold bk1
    split
    · exact ⟨b, hb, rfl⟩
    · rw [ek, emo]
      obtain ⟨s, hs, es⟩ := evL_nat lw 0 (nm6 (heat1 o (evL lw) c m (opn o (m + 1)).1 (opn o (m + 1)).2.1 (nI b)) (nI m) (nI b) (nI mo) (nI (sinceN m (opn o (m + 1)).2.1)) (o 0 8))
      obtain ⟨q, hq, eq⟩ := kGains_nat hk hs hb hmo
      rw [es, eq]
      have e0 : mx0 (nI q) = nI q := by
        apply Int32.toInt_inj.mp
        have := (mx0_nat (x := nI q)).2
        rw [iT (by omega)] at this ⊢
        omega
      rw [e0, nI_add]
      unfold mn999
      split
      · rename_i z
        have z2 := iLt.mp z
        rw [iT (by omega)] at z2
        have z2 : ((b + q : Nat) : Int) < 999 := z2
        exact ⟨b + q, by omega, rfl⟩
      · exact ⟨999, by omega, rfl⟩
theorem put1 {b : Nat} (h : b ≤ 999) : putV 1 (nI b) = nI b := by
  show (nI b).toInt16.toInt32 = nI b
  apply Int32.toInt_inj.mp
  rw [Int16.toInt_toInt32, Int32.toInt_toInt16, iT (by omega)]
  apply Int.bmod_eq_of_le <;> omega
def filmS (sh : Nat → Nat → Int32) (o : OV) (nc : Nat) (ev : EV) (s m n : Nat) : Nat → Nat → Int32 := fun i k => if i = s then (if k = 0 then 1 else if k = 1 then nI nc else if k - 2 < n then brS o ev (k - 2) m else 0) else sh i k
theorem film_0 {sh : Nat → Nat → Int32} {o : OV} {nc s m : Nat} {ev : EV} : clr sh s 1 (nI nc) = filmS sh o nc ev s m 0 := by
  funext i k
  unfold clr filmS
  split
  · split
    · rfl
    · split
      · rfl
      · rw [if_neg (by omega)]
  · rfl
theorem film_s {sh : Nat → Nat → Int32} {o : OV} {nc s m j : Nat} {ev : EV} : stC (filmS sh o nc ev s m j) s j (brS o ev j m) = filmS sh o nc ev s m (j + 1) := by
  funext i k
  unfold stC filmS
  by_cases q : i = s
  · by_cases q2 : k = 2 + j
    · rw [if_pos ⟨q, q2⟩, if_pos q, if_neg (by omega), if_neg (by omega), if_pos (by omega), show k - 2 = j by omega]
    · rw [if_neg (fun z => q2 z.2), if_pos q, if_pos q]
      by_cases q3 : k = 0
      · rw [if_pos q3, if_pos q3]
      · rw [if_neg q3, if_neg q3]
        by_cases q4 : k = 1
        · rw [if_pos q4, if_pos q4]
        · rw [if_neg q4, if_neg q4]
          by_cases q5 : k - 2 < j
          · rw [if_pos q5, if_pos (by omega)]
          · rw [if_neg q5, if_neg (by omega)]
  · rw [if_neg (fun z => q z.1), if_neg q, if_neg q]
def filmP (o : OV) (nc : Nat) (s m : Int32) : Int32 := if 0 ≤ s ∧ s ≤ 3 then (if 0 ≤ m ∧ m ≤ o 0 9 then nI nc else -2) else -2
def filmX (sh : Nat → Nat → Int32) (o : OV) (nc : Nat) (ev : EV) (s m : Int32) : Nat → Nat → Int32 := if 0 ≤ s ∧ s ≤ 3 then (if 0 ≤ m ∧ m ≤ o 0 9 then filmS sh o nc ev (nN s) (nN m) nc else sh) else sh

/-- as VF, but for the sheets -/
def SF (g g' : Nat → Nat → Int32) : Prop := (∀ a, a ≠ 0 → (a < 9 ∨ 16 < a) → (a < 41 ∨ 48 < a) → a ≠ 25 → a ≠ 26 → a ≠ 34 → (a < 49 ∨ (53 ≤ a ∧ a < 77) ∨ a % 4 = 2 ∨ a % 4 = 3) → g' a = g a) ∧ ∀ k, k < 9 → g' 0 k = g 0 k
theorem VF.sf {g g' : Nat → Nat → Int32} (h : VF g g') : SF g g' := ⟨fun a p q _ r s t u => h.1 a p q r s t u, h.2⟩
theorem HF.sf {g g' : Nat → Nat → Int32} (h : HF g g') : SF g g' := ⟨fun a _ _ q _ _ _ _ => h a q, fun k _ => congrFun (h 0 (by omega)) k⟩
theorem SF.tr {g1 g2 g3 : Nat → Nat → Int32} (h1 : SF g1 g2) (h2 : SF g2 g3) : SF g1 g3 := ⟨fun a p q x r s t u => (h2.1 a p q x r s t u).trans (h1.1 a p q x r s t u), fun k hk => (h2.2 k hk).trans (h1.2 k hk)⟩
theorem lp_X11_film {d : Nat} {sc : Nat × (Nat → Int32)} {T : List (Nat × Nat)} {rf : Nat → Nat → Option Nat} {nc m : Nat} {o : OV} {lw : Nat → List Int32} {g0 : Nat → Nat → Int32} {sh : Nat → Nat → Int32} {s mm : Int32} {F : Int32 → AH → Prop} (hX : XS T rf) (es : s = nI (nN s)) (hs4 : nN s < 4) (hV : OVk o nc) (hcn0 : g0 1 5 = nI nc) (hb0 : ∀ c, c < nc → g0 26 c = brS o (evL lw) c m) (hQ : ∀ g2, XH g2 (filmS sh o nc (evL lw) (nN s) m nc) → HF g0 g2 → F (nI nc) (T, rf, g2)) : ∀ (k j : Nat) (x3 : Int32) (g : Nat → Nat → Int32), (j + k = nc) → (x3 = nI j) → (XH g (filmS sh o nc (evL lw) (nN s) m j)) → (HF g0 g) → Wp (d + 1) 0 0 sc kX11_film (Qi F) 55 [some (.ref 0), some (.int s), some (.int mm), some (.int x3)] [] (T, rf, g) 0 0 := by
  intro k
  induction k with
  | zero =>
    intro j x3 g hj hx3 hH hf
    have hn8 : nc ≤ 8 := hV.2.1
    have hcn : g 1 5 = nI nc := by rw [hf 1 (by omega)]; exact hcn0
    have hbr : ∀ c, c < nc → g 26 c = brS o (evL lw) c m := fun c hc => by rw [hf 26 (by omega)]; exact hb0 c hc
    refine xX11_film_55 ?_
    refine xX11_film_56 ?_
    refine xX11_film_57 (hX.1 _ _ rfl) (hX.2 _ _ _ rfl) ?_
    refine xX11_film_60 (hX.1 _ _ rfl) ?_
    rw [hcn]
    refine xX11_film_63_t (by rw [hx3]; exact nI_le (by omega) (by omega)) ?_
    refine xX11_film_91 ?_
    refine xX11_film_92 (hX.1 _ _ rfl) (hX.2 _ _ _ rfl) ?_
    refine xX11_film_95 (hX.1 _ _ rfl) ?_
    rw [hcn]
    refine xX11_film_98 rfl rfl ?_
    have e : j = nc := by omega
    subst e
    exact hQ _ hH hf
  | succ k ih =>
    intro j x3 g hj hx3 hH hf
    have hn8 : nc ≤ 8 := hV.2.1
    have hcn : g 1 5 = nI nc := by rw [hf 1 (by omega)]; exact hcn0
    have hbr : ∀ c, c < nc → g 26 c = brS o (evL lw) c m := fun c hc => by rw [hf 26 (by omega)]; exact hb0 c hc
    refine xX11_film_55 ?_
    refine xX11_film_56 ?_
    refine xX11_film_57 (hX.1 _ _ rfl) (hX.2 _ _ _ rfl) ?_
    refine xX11_film_60 (hX.1 _ _ rfl) ?_
    rw [hcn]
    refine xX11_film_63_f (by rw [hx3]; exact nI_ge (by omega) (by omega)) ?_
    refine xX11_film_66 ?_
    refine xX11_film_67 (hX.1 _ _ rfl) (hX.2 _ _ _ rfl) ?_
    refine xX11_film_70 ?_
    refine xX11_film_71 (j := nN s) (hX.1 _ _ rfl) rfl rfl es hs4 rfl (ShT hX hs4).2.2.2 ?_
    refine xX11_film_72 ?_
    refine xX11_film_73 ?_
    refine xX11_film_74 (hX.1 _ _ rfl) (hX.2 _ _ _ rfl) ?_
    refine xX11_film_77 (hX.1 _ _ rfl) (hX.2 _ _ _ rfl) ?_
    refine xX11_film_80 ?_
    refine xX11_film_81 (j := j) (hX.1 _ _ rfl) hx3 (by omega) rfl ?_
    rw [hbr j (by omega)]
    refine xX11_film_82 (ShT hX hs4).1 rfl rfl rfl (s_X7_put ⟨(ShT hX hs4).1, (ShT hX hs4).2.1, (ShT hX hs4).2.2.1⟩ hx3 (by omega) ?_)
    refine xX11_film_85 rfl rfl ?_
    refine xX11_film_88 ?_
    have e1 : putV (g (41 + 2 * nN s) 1) (brS o (evL lw) j m) = brS o (evL lw) j m := by
      rw [(hH _ hs4).1]
      obtain ⟨b, hb, eb⟩ := brS_nat (lw := lw) hV (show j < nc by omega) m
      rw [eb]
      have : filmS sh o nc (evL lw) (nN s) m j (nN s) 0 = 1 := by simp [filmS]
      rw [this]
      exact put1 hb
    rw [e1]
    exact ih (j + 1) _ _ (by omega) (by rw [hx3]; exact nI_1 _) (film_s ▸ XH_st hH) (fun a ha => by rw [up_row (by omega)]; exact hf a ha)
theorem s_X11_film {d : Nat} {sc : Nat × (Nat → Int32)} {T : List (Nat × Nat)} {rf : Nat → Nat → Option Nat} {g : Nat → Nat → Int32} {nc tc t : Nat} {o : OV} {lws : Nat → Nat → List Int32} {s m : Int32} {sh : Nat → Nat → Int32} {F : Int32 → AH → Prop} (hO : OB T rf g 1 o nc tc lws t) (hH : XH g sh) (hQ : ∀ rf2 g2, ZR T rf rf2 → XH g2 (filmX sh o nc (evL (lws t)) s m) → SF g g2 → F (filmP o nc s m) (T, rf2, g2)) : Mok (d + 6) 0 0 sc kX11_film [.ref 0, .int s, .int m] (T, rf, g) (Qi F) := by
  obtain ⟨hX, -, hS, hE, hV, hlw, htc⟩ := id hO
  have hn8 : nc ≤ 8 := hV.2.1
  have hcn : g 1 5 = nI nc := hE.1.1.trans hV.1
  refine Mok.ofWp (L := [some (.ref 0), some (.int s), some (.int m), none]) rfl rfl rfl ?_
  refine xX11_film_0 ?_
  refine xX11_film_1 ?_
  refine xX11_film_2 ?_
  refine xX11_film_3 rfl rfl rfl (s_X11_within  (fun hw0 => ?_) (fun nw0 => ?_))
  · have hs4 : nN s < 4 := Nat.lt_succ_of_le (inN hw0).2
    refine xX11_film_6_f (by decide) ?_
    refine xX11_film_9 ?_
    refine xX11_film_10 ?_
    refine xX11_film_11 ?_
    refine xX11_film_12 (hX.1 _ _ rfl) (hX.2 _ _ _ rfl) ?_
    refine xX11_film_15 (hX.1 _ _ rfl) ?_
    rw [show g 1 9 = o 0 9 from hE.1.2.2.1]
    refine xX11_film_18 rfl rfl rfl (s_X11_within  (fun hw1 => ?_) (fun nw1 => ?_))
    · refine xX11_film_21_t (by decide) ?_
      refine xX11_film_27 ?_
      refine xX11_film_28 ?_
      refine xX11_film_29 (hX.1 _ _ rfl) (hX.2 _ _ _ rfl) ?_
      refine xX11_film_32 ?_
      refine xX11_film_33 (hX.1 _ _ rfl) rfl rfl rfl (s_X11_bake hO (inN hw1).1 (Nat.le_trans (inN hw1).2 hV.tN.2.1) (fun rf2 g2 hr2 hz2 hk2 => ?_))
      refine xX11_film_36 ?_
      refine xX11_film_37 (hX.1 _ _ rfl) (hr2.1.2 _ _ _ rfl) ?_
      refine xX11_film_40 ?_
      refine xX11_film_41 (j := nN s) (hX.1 _ _ rfl) rfl rfl (inN hw0).1 hs4 rfl (ShT hr2.1 hs4).2.2.2 ?_
      refine xX11_film_42 ?_
      refine xX11_film_43 ?_
      refine xX11_film_44 (hX.1 _ _ rfl) (hr2.1.2 _ _ _ rfl) ?_
      refine xX11_film_47 (hX.1 _ _ rfl) ?_
      have hcn1 : g2 1 5 = nI nc := (hz2.vf.c1 5).trans hcn
      rw [hcn1]
      refine xX11_film_50 (ShT hX hs4).1 rfl rfl rfl (s_X7_become ⟨(ShT hr2.1 hs4).1, (ShT hr2.1 hs4).2.1, (ShT hr2.1 hs4).2.2.1⟩ (fun g3 ha3 hb3 hq3 hc3 => ?_))
      refine xX11_film_53 ?_
      refine xX11_film_54 rfl ?_
      have hfr : HF _ g3 := fun a ha => hc3 a (by omega) (by omega)
      refine lp_X11_film (sh := sh) (m := nN m) hr2.1 (inN hw0).1 hs4 hV (by rw [hfr 1 (by omega)]; exact hcn1) (fun c hc => by rw [hfr 26 (by omega)]; exact hk2.br hc) (fun g2 h1 h2 => ?_) nc 0 _ _ (by omega) rfl (film_0 ▸ XH_clr (hz2.vf.xh hH) ha3 hb3 hq3 hc3) (fun _ _ => rfl)
      have q := hQ _ g2 hr2 (by rw [filmX, if_pos hw0, if_pos hw1]; exact h1) ((hz2.vf.sf.tr hfr.sf).tr h2.sf)
      rw [filmP, if_pos hw0, if_pos hw1] at q
      exact q
    · refine xX11_film_21_f (by decide) ?_
      refine xX11_film_24 ?_
      refine xX11_film_26 rfl rfl ?_
      have q := hQ _ g ⟨hX, fun _ _ => rfl⟩ (by rw [filmX, if_pos hw0, if_neg nw1]; exact hH) VF.rf.sf
      rw [filmP, if_pos hw0, if_neg nw1] at q
      exact q
  · refine xX11_film_6_t (by decide) ?_
    refine xX11_film_24 ?_
    refine xX11_film_26 rfl rfl ?_
    have q := hQ _ g ⟨hX, fun _ _ => rfl⟩ (by rw [filmX, if_neg nw0]; exact hH) VF.rf.sf
    rw [filmP, if_neg nw0] at q
    exact q
