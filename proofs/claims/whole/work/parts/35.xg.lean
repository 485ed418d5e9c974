theorem hff_yes {f : Nat → Int32} {k j : Nat} {a l h : Int32} (q : f j = -1) : hff f (k + 1) j a l h = hff f k (j + 1) (a + 1) (if l = -1 then nI j else l) (nI j) := if_pos q
theorem hff_no {f : Nat → Int32} {k j : Nat} {a l h : Int32} (q : ¬ f j = -1) : hff f (k + 1) j a l h = hff f k (j + 1) a l h := if_neg q
def hotO (o : OV) (f : Nat → Int32) (n : Nat) : OV := fun r k => if r = 1 ∧ k < n then f k else o r k
theorem hotO_0 {o : OV} {f : Nat → Int32} : hotO o f 0 = o := by
  funext r k
  exact if_neg (fun z => absurd z.2 (Nat.not_lt_zero k))
theorem hotO_up {o : OV} {f : Nat → Int32} {j : Nat} : up (hotO o f j) 1 j (f j) = hotO o f (j + 1) := by
  funext r k
  unfold up hotO
  by_cases q : r = 1 ∧ k = j
  · rw [if_pos q, if_pos ⟨q.1, by omega⟩, q.2]
  · rw [if_neg q]
    by_cases q2 : r = 1 ∧ k < j
    · rw [if_pos q2, if_pos ⟨q2.1, by omega⟩]
    · rw [if_neg q2, if_neg (fun z => q ⟨z.1, by have := z.2; have : ¬ k < j := fun y => q2 ⟨z.1, y⟩; omega⟩)]
theorem OVk_hotO {o : OV} {nc n : Nat} {f : Nat → Int32} (hf : ∀ k, k < 16 → ∃ w, w < 100 ∧ f k = nI w) (h : OVk o nc) : OVk (hotO o f n) nc := by
  obtain ⟨h1, h2, ⟨no, h3, h31, h32, h33⟩, h4, h5, h6, h7, h8, h9, h10⟩ := h
  have e : ∀ r k, r ≠ 1 → hotO o f n r k = o r k := fun r k q => if_neg (fun z => q z.1)
  refine ⟨by rw [e _ _ (by decide)]; exact h1, h2, ⟨no, h3, by rw [e _ _ (by decide)]; exact h31, fun i hi => by rw [e _ _ (by decide)]; exact h32 i hi, fun i hi => by rw [e _ _ (by decide)]; exact h33 i hi⟩, by rw [e _ _ (by decide)]; exact h4, by rw [e _ _ (by decide)]; exact h5, fun i hi => by rw [e _ _ (by decide)]; exact h6 i hi, fun i hi => by rw [e _ _ (by decide)]; exact h7 i hi, fun i hi => by rw [e _ _ (by decide)]; exact h8 i hi, fun i hi => by rw [e _ _ (by decide)]; exact h9 i hi, fun i hi => ?_⟩
  by_cases q : i < n
  · rw [show hotO o f n 1 i = f i from if_pos ⟨rfl, q⟩]; exact hf i hi
  · rw [show hotO o f n 1 i = o 1 i from if_neg (fun z => q z.2)]; exact h10 i hi
theorem sumH {o : OV} {nc : Nat} (h : OVk o nc) : ∀ n, n ≤ 16 → ∃ s, s ≤ 99 * n ∧ sumI (o 1) n = nI s := by
  intro n
  induction n with
  | zero => intro _; exact ⟨0, by omega, rfl⟩
  | succ n ih =>
    intro hn
    obtain ⟨s, h1, h2⟩ := ih (by omega)
    obtain ⟨-, -, -, -, -, -, -, -, -, h10⟩ := h
    obtain ⟨k, hk, ek⟩ := h10 n (by omega)
    exact ⟨s + k, by omega, by show sumI (o 1) n + o 1 n = _; rw [h2, ek, nI_add]⟩
theorem div16 {s : Nat} (h : s < 2000) : nI s / 16 = nI (s / 16) := by
  apply Int32.toInt_inj.mp
  rw [Int32.toInt_div, iT (by omega), iT (by omega)]
  rw [show (16 : Int32).toInt = 16 from rfl, iBm]
  · rw [show (16 : Int) = ((16 : Nat) : Int) from rfl, ← Int.ofNat_tdiv]
  · rw [show (16 : Int) = ((16 : Nat) : Int) from rfl, ← Int.ofNat_tdiv]; omega
  · rw [show (16 : Int) = ((16 : Nat) : Int) from rfl, ← Int.ofNat_tdiv]; omega

theorem lp_X11_kinds0 {d : Nat} {sc : Nat × (Nat → Int32)} {T : List (Nat × Nat)} {rf0 : Nat → Nat → Option Nat} {g0 : Nat → Nat → Int32} {nc tc t : Nat} {o : OV} {lws : Nat → Nat → List Int32} {F : Int32 → AH → Prop} {c : Int32} (ecN : c = nI (nN c)) (hcN : nN c < nc) {s : Int32} {sh : Nat → Nat → Int32} (hs : s = nI (nN s)) (hs4 : nN s < 4) (hH : XH g0 sh) {S : Int32} (hQ : ∀ rf2 g2, ZR T rf0 rf2 → VF g0 g2 → F S (T, rf2, g2)) : ∀ (k j : Nat) (b x6 : Int32) (rf : Nat → Nat → Option Nat) (g : Nat → Nat → Int32), (j + k = 6) → (x6 = nI j) → (OB T rf g 1 o nc tc lws t) → (ZR T rf0 rf) → (VF g0 g) → (OEu g 2 (nN c) o nc) → (bff (fun q => fstO (rowS sh s) (up o 2 (nN c) (nI q)) (evL (lws t)) nc) k j b = S) → Wp (d + 7) 0 0 sc kX11_kinds (Qi F) 48 [some (.ref 0), some (.int s), some (.int c), some (.int 0), none, some (.int b), some (.int x6)] [] (T, rf, g) 0 0 := by
  intro k
  induction k with
  | zero =>
    intro j b x6 rf g hj hx6 hO hr hf hU hZ
    obtain ⟨hX, -, hS, hE, hV, hlw, htc⟩ := id hO
    have hn8 : nc ≤ 8 := hV.2.1
    have hcn : g 1 5 = nI nc := hE.1.1.trans hV.1
    refine xX11_kinds_48 ?_
    refine xX11_kinds_50 ?_
    refine xX11_kinds_51_f (by decide) ?_
    refine xX11_kinds_54 ?_
    refine xX11_kinds_55 ?_
    refine xX11_kinds_60_t (by rw [hx6]; exact nI_lt (a := 5) (by omega) (by omega)) ?_
    refine xX11_kinds_124 ?_
    refine xX11_kinds_126 rfl rfl ?_
    have q := hQ _ _ hr hf
    rw [← hZ] at q
    exact q
  | succ k ih =>
    intro j b x6 rf g hj hx6 hO hr hf hU hZ
    obtain ⟨hX, -, hS, hE, hV, hlw, htc⟩ := id hO
    have hn8 : nc ≤ 8 := hV.2.1
    have hcn : g 1 5 = nI nc := hE.1.1.trans hV.1
    refine xX11_kinds_48 ?_
    refine xX11_kinds_50 ?_
    refine xX11_kinds_51_f (by decide) ?_
    refine xX11_kinds_54 ?_
    refine xX11_kinds_55 ?_
    refine xX11_kinds_60_f (by rw [hx6]; exact Int32.not_lt.mpr (nI_le (b := 5) (by omega) (by omega))) ?_
    refine xX11_kinds_63 ?_
    refine xX11_kinds_64_f (by decide) ?_
    refine xX11_kinds_67 ?_
    refine xX11_kinds_68 (hX.1 _ _ rfl) (hX.2 _ _ _ rfl) ?_
    refine xX11_kinds_71 (hX.1 _ _ rfl) (hX.2 _ _ _ rfl) ?_
    refine xX11_kinds_74 ?_
    refine xX11_kinds_75 ?_
    refine xX11_kinds_77 (j := (nN c)) (hX.1 _ _ rfl) ecN (by omega) rfl ?_
    refine xX11_kinds_78 ?_
    refine xX11_kinds_92 ?_
    refine xX11_kinds_94 ?_
    refine xX11_kinds_95 ?_
    refine xX11_kinds_96 ?_
    refine xX11_kinds_97 (hX.1 _ _ rfl) (hX.2 _ _ _ rfl) ?_
    have h9 := hO.th (g' := up g 11 (nN c) x6) ⟨hX, fun _ _ => rfl⟩ (VF.up (by omega)) (o' := up o 2 (nN c) (nI j)) (by rw [hx6]; exact OEu_eq hU) (OVk_ki (by omega) hV) (t' := t) (by rw [up_ne (by omega)]; exact hlw) htc
    refine xX11_kinds_100 (hX.1 _ _ rfl) rfl rfl rfl (s_X11_firstOtherwise h9 hs hs4 ((VF.xh (VF.up (by omega)) (hf.xh hH))) (fun rf0 g0 hr0 hz0 => ?_))
    refine xX11_kinds_103 ?_
    refine xX11_kinds_104 (fun cc => ?_) (fun cc => ?_)
    · have e : bff (fun q => fstO (rowS sh s) (up o 2 (nN c) (nI q)) (evL (lws t)) nc) (k + 1) j b = bff (fun q => fstO (rowS sh s) (up o 2 (nN c) (nI q)) (evL (lws t)) nc) k (j + 1) (b ||| 0) := bff_no (f := (fun q => fstO (rowS sh s) (up o 2 (nN c) (nI q)) (evL (lws t)) nc)) cc
      refine xX11_kinds_114 ?_
      refine xX11_kinds_115 ?_
      refine xX11_kinds_116 rfl ?_
      refine xX11_kinds_118 rfl rfl ?_
      refine xX11_kinds_121 ?_
      exact ih (j + 1) _ _ _ _ (by omega) (by rw [hx6]; exact nI_1 _) (hO.vf hr0 ((VF.up (g := g) (a := 11) (k := (nN c)) (v := x6) (by omega)).tr hz0.vf)) (hr.tr hr0) (hf.tr ((VF.up (g := g) (a := 11) (k := (nN c)) (v := x6) (by omega)).tr hz0.vf)) ((OEu_up hU).tf hz0.tf) (by first | rw [← hZ, e, hx6] | rw [← hZ, e])
    · have e : bff (fun q => fstO (rowS sh s) (up o 2 (nN c) (nI q)) (evL (lws t)) nc) (k + 1) j b = bff (fun q => fstO (rowS sh s) (up o 2 (nN c) (nI q)) (evL (lws t)) nc) k (j + 1) (b ||| (1 : Int32) <<< (nI j &&& 31)) := bff_yes (f := (fun q => fstO (rowS sh s) (up o 2 (nN c) (nI q)) (evL (lws t)) nc)) cc
      refine xX11_kinds_107 ?_
      refine xX11_kinds_108 ?_
      refine xX11_kinds_110 ?_
      refine xX11_kinds_111 ?_
      refine xX11_kinds_115 ?_
      refine xX11_kinds_116 rfl ?_
      refine xX11_kinds_118 rfl rfl ?_
      refine xX11_kinds_121 ?_
      exact ih (j + 1) _ _ _ _ (by omega) (by rw [hx6]; exact nI_1 _) (hO.vf hr0 ((VF.up (g := g) (a := 11) (k := (nN c)) (v := x6) (by omega)).tr hz0.vf)) (hr.tr hr0) (hf.tr ((VF.up (g := g) (a := 11) (k := (nN c)) (v := x6) (by omega)).tr hz0.vf)) ((OEu_up hU).tf hz0.tf) (by first | rw [← hZ, e, hx6] | rw [← hZ, e])
theorem lp_X11_kinds1 {d : Nat} {sc : Nat × (Nat → Int32)} {T : List (Nat × Nat)} {rf0 : Nat → Nat → Option Nat} {g0 : Nat → Nat → Int32} {nc tc t : Nat} {o : OV} {lws : Nat → Nat → List Int32} {F : Int32 → AH → Prop} {c : Int32} (ecN : c = nI (nN c)) (hcN : nN c < nc) {s : Int32} {sh : Nat → Nat → Int32} (hs : s = nI (nN s)) (hs4 : nN s < 4) (hH : XH g0 sh) {S : Int32} (hQ : ∀ rf2 g2, ZR T rf0 rf2 → VF g0 g2 → F S (T, rf2, g2)) : ∀ (k j : Nat) (b x6 : Int32) (rf : Nat → Nat → Option Nat) (g : Nat → Nat → Int32), (j + k = 10) → (x6 = nI j) → (OB T rf g 1 o nc tc lws t) → (ZR T rf0 rf) → (VF g0 g) → (OEu g 3 (nN c) o nc) → (bff (fun q => fstO (rowS sh s) (up o 3 (nN c) (nI q)) (evL (lws t)) nc) k j b = S) → Wp (d + 7) 0 0 sc kX11_kinds (Qi F) 48 [some (.ref 0), some (.int s), some (.int c), some (.int 1), none, some (.int b), some (.int x6)] [] (T, rf, g) 0 0 := by
  intro k
  induction k with
  | zero =>
    intro j b x6 rf g hj hx6 hO hr hf hU hZ
    obtain ⟨hX, -, hS, hE, hV, hlw, htc⟩ := id hO
    have hn8 : nc ≤ 8 := hV.2.1
    have hcn : g 1 5 = nI nc := hE.1.1.trans hV.1
    refine xX11_kinds_48 ?_
    refine xX11_kinds_50 ?_
    refine xX11_kinds_51_t (by decide) ?_
    refine xX11_kinds_58 ?_
    refine xX11_kinds_60_t (by rw [hx6]; exact nI_lt (a := 9) (by omega) (by omega)) ?_
    refine xX11_kinds_124 ?_
    refine xX11_kinds_126 rfl rfl ?_
    have q := hQ _ _ hr hf
    rw [← hZ] at q
    exact q
  | succ k ih =>
    intro j b x6 rf g hj hx6 hO hr hf hU hZ
    obtain ⟨hX, -, hS, hE, hV, hlw, htc⟩ := id hO
    have hn8 : nc ≤ 8 := hV.2.1
    have hcn : g 1 5 = nI nc := hE.1.1.trans hV.1
    refine xX11_kinds_48 ?_
    refine xX11_kinds_50 ?_
    refine xX11_kinds_51_t (by decide) ?_
    refine xX11_kinds_58 ?_
    refine xX11_kinds_60_f (by rw [hx6]; exact Int32.not_lt.mpr (nI_le (b := 9) (by omega) (by omega))) ?_
    refine xX11_kinds_63 ?_
    refine xX11_kinds_64_t (by decide) ?_
    refine xX11_kinds_81 ?_
    refine xX11_kinds_82 (hX.1 _ _ rfl) (hX.2 _ _ _ rfl) ?_
    refine xX11_kinds_85 (hX.1 _ _ rfl) (hX.2 _ _ _ rfl) ?_
    refine xX11_kinds_88 ?_
    refine xX11_kinds_89 ?_
    refine xX11_kinds_91 (j := (nN c)) (hX.1 _ _ rfl) ecN (by omega) rfl ?_
    refine xX11_kinds_92 ?_
    refine xX11_kinds_94 ?_
    refine xX11_kinds_95 ?_
    refine xX11_kinds_96 ?_
    refine xX11_kinds_97 (hX.1 _ _ rfl) (hX.2 _ _ _ rfl) ?_
    have h9 := hO.th (g' := up g 12 (nN c) x6) ⟨hX, fun _ _ => rfl⟩ (VF.up (by omega)) (o' := up o 3 (nN c) (nI j)) (by rw [hx6]; exact OEu_eq hU) (OVk_mo (by omega) hV) (t' := t) (by rw [up_ne (by omega)]; exact hlw) htc
    refine xX11_kinds_100 (hX.1 _ _ rfl) rfl rfl rfl (s_X11_firstOtherwise h9 hs hs4 ((VF.xh (VF.up (by omega)) (hf.xh hH))) (fun rf0 g0 hr0 hz0 => ?_))
    refine xX11_kinds_103 ?_
    refine xX11_kinds_104 (fun cc => ?_) (fun cc => ?_)
    · have e : bff (fun q => fstO (rowS sh s) (up o 3 (nN c) (nI q)) (evL (lws t)) nc) (k + 1) j b = bff (fun q => fstO (rowS sh s) (up o 3 (nN c) (nI q)) (evL (lws t)) nc) k (j + 1) (b ||| 0) := bff_no (f := (fun q => fstO (rowS sh s) (up o 3 (nN c) (nI q)) (evL (lws t)) nc)) cc
      refine xX11_kinds_114 ?_
      refine xX11_kinds_115 ?_
      refine xX11_kinds_116 rfl ?_
      refine xX11_kinds_118 rfl rfl ?_
      refine xX11_kinds_121 ?_
      exact ih (j + 1) _ _ _ _ (by omega) (by rw [hx6]; exact nI_1 _) (hO.vf hr0 ((VF.up (g := g) (a := 12) (k := (nN c)) (v := x6) (by omega)).tr hz0.vf)) (hr.tr hr0) (hf.tr ((VF.up (g := g) (a := 12) (k := (nN c)) (v := x6) (by omega)).tr hz0.vf)) ((OEu_up hU).tf hz0.tf) (by first | rw [← hZ, e, hx6] | rw [← hZ, e])
    · have e : bff (fun q => fstO (rowS sh s) (up o 3 (nN c) (nI q)) (evL (lws t)) nc) (k + 1) j b = bff (fun q => fstO (rowS sh s) (up o 3 (nN c) (nI q)) (evL (lws t)) nc) k (j + 1) (b ||| (1 : Int32) <<< (nI j &&& 31)) := bff_yes (f := (fun q => fstO (rowS sh s) (up o 3 (nN c) (nI q)) (evL (lws t)) nc)) cc
      refine xX11_kinds_107 ?_
      refine xX11_kinds_108 ?_
      refine xX11_kinds_110 ?_
      refine xX11_kinds_111 ?_
      refine xX11_kinds_115 ?_
      refine xX11_kinds_116 rfl ?_
      refine xX11_kinds_118 rfl rfl ?_
      refine xX11_kinds_121 ?_
      exact ih (j + 1) _ _ _ _ (by omega) (by rw [hx6]; exact nI_1 _) (hO.vf hr0 ((VF.up (g := g) (a := 12) (k := (nN c)) (v := x6) (by omega)).tr hz0.vf)) (hr.tr hr0) (hf.tr ((VF.up (g := g) (a := 12) (k := (nN c)) (v := x6) (by omega)).tr hz0.vf)) ((OEu_up hU).tf hz0.tf) (by first | rw [← hZ, e, hx6] | rw [← hZ, e])
theorem s_X11_kinds {d : Nat} {sc : Nat × (Nat → Int32)} {T : List (Nat × Nat)} {rf : Nat → Nat → Option Nat} {g : Nat → Nat → Int32} {nc tc t : Nat} {o : OV} {lws : Nat → Nat → List Int32} {s c w : Int32} {sh : Nat → Nat → Int32} {F : Int32 → AH → Prop} (hO : OB T rf g 1 o nc tc lws t) (hH : XH g sh) (hQ : ∀ rf2 g2, ZR T rf rf2 → VF g g2 → F (kindsP sh o nc (evL (lws t)) s c w) (T, rf2, g2)) : Mok (d + 7) 0 0 sc kX11_kinds [.ref 0, .int s, .int c, .int w] (T, rf, g) (Qi F) := by
  obtain ⟨hX, -, hS, hE, hV, hlw, htc⟩ := id hO
  have hn8 : nc ≤ 8 := hV.2.1
  have hcn : g 1 5 = nI nc := hE.1.1.trans hV.1
  refine Mok.ofWp (L := [some (.ref 0), some (.int s), some (.int c), some (.int w), none, none, none]) rfl rfl rfl ?_
  refine xX11_kinds_0 ?_
  refine xX11_kinds_1 ?_
  refine xX11_kinds_2 (hX.1 _ _ rfl) rfl rfl rfl (s_X11_refusal hX hcn hH ?_)
  refine xX11_kinds_5 rfl ?_
  refine xX11_kinds_7 ?_
  refine xX11_kinds_9 (fun hz0 => ?_) (fun hz0 => ?_)
  · refine xX11_kinds_15 ?_
    refine xX11_kinds_16 ?_
    refine xX11_kinds_17 (hX.1 _ _ rfl) rfl rfl rfl (t_X11_isCake hX hcn (fun hw1 => ?_) (fun nw1 => ?_))
    · obtain ⟨ecN, hcN⟩ := isC_N hw1 hn8
      refine xX11_kinds_20_t (by decide) ?_
      refine xX11_kinds_26 ?_
      refine xX11_kinds_27 ?_
      refine xX11_kinds_28 ?_
      refine xX11_kinds_29 rfl rfl rfl (s_X11_within  (fun hw2 => ?_) (fun nw2 => ?_))
      · refine xX11_kinds_32_t (by decide) ?_
        refine xX11_kinds_38 ?_
        refine xX11_kinds_39 (hX.1 _ _ rfl) rfl rfl rfl (s_X11_imagine hX (fun g3 he3 hj3 => ?_))
        refine xX11_kinds_42 ?_
        refine xX11_kinds_43 rfl ?_
        refine xX11_kinds_45 ?_
        refine xX11_kinds_46 rfl ?_
        refine wp_kill_4 ?_
        have e01 : w = 0 ∨ w = 1 := by
          obtain ⟨h1, h2⟩ := inN hw2
          have h2 : nN w ≤ 1 := h2
          rcases (by omega : nN w = 0 ∨ nN w = 1) with q | q
          · exact Or.inl (by rw [h1, q]; rfl)
          · exact Or.inr (by rw [h1, q]; rfl)
        rcases e01 with rfl | rfl
        ·   refine lp_X11_kinds0 ecN hcN (refS_0 hz0).1 (refS_0 hz0).2.1 hH (fun rf2 g2 h1 h2 => ?_) 6 0 _ _ _ _ (by omega) rfl (hO.vf ⟨hX, fun _ _ => rfl⟩ (VF.f9 hj3)) ⟨hX, fun _ _ => rfl⟩ (VF.f9 hj3) (OEu.of ((he3.le hn8).tr hE)) rfl
            have q := hQ _ _ h1 h2
            rw [kindsP, if_pos hz0, if_pos hw1, if_pos hw2, if_pos rfl] at q
            exact q
        ·   refine lp_X11_kinds1 ecN hcN (refS_0 hz0).1 (refS_0 hz0).2.1 hH (fun rf2 g2 h1 h2 => ?_) 10 0 _ _ _ _ (by omega) rfl (hO.vf ⟨hX, fun _ _ => rfl⟩ (VF.f9 hj3)) ⟨hX, fun _ _ => rfl⟩ (VF.f9 hj3) (OEu.of ((he3.le hn8).tr hE)) rfl
            have q := hQ _ _ h1 h2
            rw [kindsP, if_pos hz0, if_pos hw1, if_pos hw2, if_neg (by decide)] at q
            exact q
      · refine xX11_kinds_32_f (by decide) ?_
        refine xX11_kinds_35 ?_
        refine xX11_kinds_37 rfl rfl ?_
        have q := hQ _ _ ⟨hX, fun _ _ => rfl⟩ VF.rf
        rw [kindsP, if_pos hz0, if_pos hw1, if_neg nw2] at q
        exact q
    · refine xX11_kinds_20_f (by decide) ?_
      refine xX11_kinds_23 ?_
      refine xX11_kinds_25 rfl rfl ?_
      have q := hQ _ _ ⟨hX, fun _ _ => rfl⟩ VF.rf
      rw [kindsP, if_pos hz0, if_neg nw1] at q
      exact q
  · refine xX11_kinds_12 ?_
    refine xX11_kinds_14 rfl rfl ?_
    have q := hQ _ _ ⟨hX, fun _ _ => rfl⟩ VF.rf
    rw [kindsP, if_neg hz0] at q
    exact q
theorem lp_X11_heats {d : Nat} {sc : Nat × (Nat → Int32)} {T : List (Nat × Nat)} {rf0 : Nat → Nat → Option Nat} {g0 : Nat → Nat → Int32} {nc tc t : Nat} {o : OV} {lws : Nat → Nat → List Int32} {F : Int32 → AH → Prop} {p w : Int32} (epN : p = nI (nN p)) (hpN : nN p < 16) {s : Int32} {sh : Nat → Nat → Int32} (hs : s = nI (nN s)) (hs4 : nN s < 4) (hH : XH g0 sh) {S : Int32 × Int32 × Int32} (hQ : ∀ rf2 g2, ZR T rf0 rf2 → VF g0 g2 → F (if w = 0 then S.1 else if w = 1 then S.2.1 else S.2.2) (T, rf2, g2)) : ∀ (k j : Nat) (a l hh x8 : Int32) (rf : Nat → Nat → Option Nat) (g : Nat → Nat → Int32), (j + k = 100) → (x8 = nI j) → (OB T rf g 1 o nc tc lws t) → (ZR T rf0 rf) → (VF g0 g) → (OEu g 1 (nN p) o nc) → (hff (fun q => fstO (rowS sh s) (up o 1 (nN p) (nI q)) (evL (lws t)) nc) k j a l hh = S) → Wp (d + 7) 0 0 sc kX11_heats (Qi F) 56 [some (.ref 0), some (.int s), some (.int p), some (.int w), none, some (.int a), some (.int l), some (.int hh), some (.int x8)] [] (T, rf, g) 0 0 := by
  intro k
  induction k with
  | zero =>
    intro j a l hh x8 rf g hj hx8 hO hr hf hU hZ
    obtain ⟨hX, -, hS, hE, hV, hlw, htc⟩ := id hO
    have hn8 : nc ≤ 8 := hV.2.1
    have hcn : g 1 5 = nI nc := hE.1.1.trans hV.1
    refine xX11_heats_56 ?_
    refine xX11_heats_58 ?_
    refine xX11_heats_60_t (by rw [hx8]; exact nI_lt (a := 99) (by omega) (by omega)) ?_
    refine xX11_heats_115 ?_
    refine xX11_heats_116 (fun c116 => ?_) (fun c116 => ?_)
    · refine xX11_heats_124 ?_
      refine xX11_heats_125 ?_
      refine xX11_heats_126 (fun c126 => ?_) (fun c126 => ?_)
      · refine xX11_heats_134 ?_
        refine xX11_heats_136 rfl rfl ?_
        have q := hQ _ _ hr hf
        rw [← hZ] at q
        first | (rw [if_pos c116] at q; exact q) | (rw [if_neg c116, if_pos c126] at q; exact q) | (rw [if_neg c116, if_neg c126] at q; exact q)
      · refine xX11_heats_129 ?_
        refine xX11_heats_131 ?_
        refine xX11_heats_136 rfl rfl ?_
        have q := hQ _ _ hr hf
        rw [← hZ] at q
        first | (rw [if_pos c116] at q; exact q) | (rw [if_neg c116, if_pos c126] at q; exact q) | (rw [if_neg c116, if_neg c126] at q; exact q)
    · refine xX11_heats_119 ?_
      refine xX11_heats_121 ?_
      refine xX11_heats_136 rfl rfl ?_
      have q := hQ _ _ hr hf
      rw [← hZ] at q
      first | (rw [if_pos c116] at q; exact q) | (rw [if_neg c116, if_pos c126] at q; exact q) | (rw [if_neg c116, if_neg c126] at q; exact q)
  | succ k ih =>
    intro j a l hh x8 rf g hj hx8 hO hr hf hU hZ
    obtain ⟨hX, -, hS, hE, hV, hlw, htc⟩ := id hO
    have hn8 : nc ≤ 8 := hV.2.1
    have hcn : g 1 5 = nI nc := hE.1.1.trans hV.1
    refine xX11_heats_56 ?_
    refine xX11_heats_58 ?_
    refine xX11_heats_60_f (by rw [hx8]; exact Int32.not_lt.mpr (nI_le (b := 99) (by omega) (by omega))) ?_
    refine xX11_heats_63 ?_
    refine xX11_heats_64 (hX.1 _ _ rfl) (hX.2 _ _ _ rfl) ?_
    refine xX11_heats_67 (hX.1 _ _ rfl) (hX.2 _ _ _ rfl) ?_
    refine xX11_heats_70 ?_
    refine xX11_heats_71 ?_
    refine xX11_heats_73 (j := (nN p)) (hX.1 _ _ rfl) epN (by omega) rfl ?_
    refine xX11_heats_74 ?_
    refine xX11_heats_75 ?_
    refine xX11_heats_76 ?_
    refine xX11_heats_77 (hX.1 _ _ rfl) (hX.2 _ _ _ rfl) ?_
    have h9 := hO.th (g' := up g 10 (nN p) x8) ⟨hX, fun _ _ => rfl⟩ (VF.up (by omega)) (o' := up o 1 (nN p) (nI j)) (by rw [hx8]; exact OEu_eq hU) (OVk_ho (by omega) hV) (t' := t) (by rw [up_ne (by omega)]; exact hlw) htc
    refine xX11_heats_80 (hX.1 _ _ rfl) rfl rfl rfl (s_X11_firstOtherwise h9 hs hs4 ((VF.xh (VF.up (by omega)) (hf.xh hH))) (fun rf0 g0 hr0 hz0 => ?_))
    refine xX11_heats_83 ?_
    refine xX11_heats_84 (fun cc => ?_) (fun cc => ?_)
    · have e : hff (fun q => fstO (rowS sh s) (up o 1 (nN p) (nI q)) (evL (lws t)) nc) (k + 1) j a l hh = hff (fun q => fstO (rowS sh s) (up o 1 (nN p) (nI q)) (evL (lws t)) nc) k (j + 1) a l hh := hff_no (f := (fun q => fstO (rowS sh s) (up o 1 (nN p) (nI q)) (evL (lws t)) nc)) cc
      refine xX11_heats_109 rfl rfl ?_
      refine xX11_heats_112 ?_
      exact ih (j + 1) _ _ _ _ _ _ (by omega) (by rw [hx8]; exact nI_1 _) (hO.vf hr0 ((VF.up (g := g) (a := 10) (k := (nN p)) (v := x8) (by omega)).tr hz0.vf)) (hr.tr hr0) (hf.tr ((VF.up (g := g) (a := 10) (k := (nN p)) (v := x8) (by omega)).tr hz0.vf)) ((OEu_up hU).tf hz0.tf) (by first | rw [← hZ, e, hx8] | rw [← hZ, e])
    · have e : hff (fun q => fstO (rowS sh s) (up o 1 (nN p) (nI q)) (evL (lws t)) nc) (k + 1) j a l hh = hff (fun q => fstO (rowS sh s) (up o 1 (nN p) (nI q)) (evL (lws t)) nc) k (j + 1) (a + 1) (if l = -1 then nI j else l) (nI j) := hff_yes (f := (fun q => fstO (rowS sh s) (up o 1 (nN p) (nI q)) (evL (lws t)) nc)) cc
      refine xX11_heats_87 rfl rfl ?_
      refine xX11_heats_90 ?_
      refine xX11_heats_92 ?_
      refine xX11_heats_93 (fun cl => ?_) (fun cl => ?_)
      · rw [if_neg cl] at e
        refine xX11_heats_101 ?_
        refine xX11_heats_103 rfl ?_
        refine xX11_heats_105 ?_
        refine xX11_heats_107 rfl ?_
        refine xX11_heats_109 rfl rfl ?_
        refine xX11_heats_112 ?_
        exact ih (j + 1) _ _ _ _ _ _ (by omega) (by rw [hx8]; exact nI_1 _) (hO.vf hr0 ((VF.up (g := g) (a := 10) (k := (nN p)) (v := x8) (by omega)).tr hz0.vf)) (hr.tr hr0) (hf.tr ((VF.up (g := g) (a := 10) (k := (nN p)) (v := x8) (by omega)).tr hz0.vf)) ((OEu_up hU).tf hz0.tf) (by first | rw [← hZ, e, hx8] | rw [← hZ, e])
      · rw [if_pos cl] at e
        refine xX11_heats_96 ?_
        refine xX11_heats_98 ?_
        refine xX11_heats_103 rfl ?_
        refine xX11_heats_105 ?_
        refine xX11_heats_107 rfl ?_
        refine xX11_heats_109 rfl rfl ?_
        refine xX11_heats_112 ?_
        exact ih (j + 1) _ _ _ _ _ _ (by omega) (by rw [hx8]; exact nI_1 _) (hO.vf hr0 ((VF.up (g := g) (a := 10) (k := (nN p)) (v := x8) (by omega)).tr hz0.vf)) (hr.tr hr0) (hf.tr ((VF.up (g := g) (a := 10) (k := (nN p)) (v := x8) (by omega)).tr hz0.vf)) ((OEu_up hU).tf hz0.tf) (by first | rw [← hZ, e, hx8] | rw [← hZ, e])
theorem s_X11_heats {d : Nat} {sc : Nat × (Nat → Int32)} {T : List (Nat × Nat)} {rf : Nat → Nat → Option Nat} {g : Nat → Nat → Int32} {nc tc t : Nat} {o : OV} {lws : Nat → Nat → List Int32} {s p w : Int32} {sh : Nat → Nat → Int32} {F : Int32 → AH → Prop} (hO : OB T rf g 1 o nc tc lws t) (hH : XH g sh) (hQ : ∀ rf2 g2, ZR T rf rf2 → VF g g2 → F (heatsP sh o nc (evL (lws t)) s p w) (T, rf2, g2)) : Mok (d + 7) 0 0 sc kX11_heats [.ref 0, .int s, .int p, .int w] (T, rf, g) (Qi F) := by
  obtain ⟨hX, -, hS, hE, hV, hlw, htc⟩ := id hO
  have hn8 : nc ≤ 8 := hV.2.1
  have hcn : g 1 5 = nI nc := hE.1.1.trans hV.1
  refine Mok.ofWp (L := [some (.ref 0), some (.int s), some (.int p), some (.int w), none, none, none, none, none]) rfl rfl rfl ?_
  refine xX11_heats_0 ?_
  refine xX11_heats_1 ?_
  refine xX11_heats_2 (hX.1 _ _ rfl) rfl rfl rfl (s_X11_refusal hX hcn hH ?_)
  refine xX11_heats_5 rfl ?_
  refine xX11_heats_7 ?_
  refine xX11_heats_9 (fun hz0 => ?_) (fun hz0 => ?_)
  · refine xX11_heats_15 ?_
    refine xX11_heats_16 ?_
    refine xX11_heats_17 ?_
    refine xX11_heats_19 rfl rfl rfl (s_X11_within  (fun hw1 => ?_) (fun nw1 => ?_))
    · refine xX11_heats_22_t (by decide) ?_
      refine xX11_heats_28 ?_
      refine xX11_heats_29 ?_
      refine xX11_heats_30 ?_
      refine xX11_heats_31 rfl rfl rfl (s_X11_within  (fun hw2 => ?_) (fun nw2 => ?_))
      · refine xX11_heats_34_t (by decide) ?_
        refine xX11_heats_40 ?_
        refine xX11_heats_41 (hX.1 _ _ rfl) rfl rfl rfl (s_X11_imagine hX (fun g3 he3 hj3 => ?_))
        refine xX11_heats_44 ?_
        refine xX11_heats_45 rfl ?_
        refine xX11_heats_47 ?_
        refine xX11_heats_48 rfl ?_
        refine xX11_heats_50 ?_
        refine xX11_heats_51 rfl ?_
        refine xX11_heats_53 ?_
        refine xX11_heats_54 rfl ?_
        refine wp_kill_4 ?_
        refine lp_X11_heats (inN hw1).1 (Nat.lt_succ_of_le (inN hw1).2) (refS_0 hz0).1 (refS_0 hz0).2.1 hH (S := heatsF sh o nc (evL (lws t)) s p) (fun rf2 g2 h1 h2 => ?_) 100 0 _ _ _ _ _ _ (by omega) rfl (hO.vf ⟨hX, fun _ _ => rfl⟩ (VF.f9 hj3)) ⟨hX, fun _ _ => rfl⟩ (VF.f9 hj3) (OEu.of ((he3.le hn8).tr hE)) rfl
        have q := hQ _ _ h1 h2
        rw [heatsP, if_pos hz0, if_pos hw1, if_pos hw2] at q
        exact q
      · refine xX11_heats_34_f (by decide) ?_
        refine xX11_heats_37 ?_
        refine xX11_heats_39 rfl rfl ?_
        have q := hQ _ _ ⟨hX, fun _ _ => rfl⟩ VF.rf
        rw [heatsP, if_pos hz0, if_pos hw1, if_neg nw2] at q
        exact q
    · refine xX11_heats_22_f (by decide) ?_
      refine xX11_heats_25 ?_
      refine xX11_heats_27 rfl rfl ?_
      have q := hQ _ _ ⟨hX, fun _ _ => rfl⟩ VF.rf
      rw [heatsP, if_pos hz0, if_neg nw1] at q
      exact q
  · refine xX11_heats_12 ?_
    refine xX11_heats_14 rfl rfl ?_
    have q := hQ _ _ ⟨hX, fun _ _ => rfl⟩ VF.rf
    rw [heatsP, if_neg hz0] at q
    exact q
