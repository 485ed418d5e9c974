theorem OVk_ck {o : OV} {nc a b w p : Nat} (h : OVk o nc) (h8 : nc < 8) (ha : a < 6) (hb : b < 10) (hw : w < 1000) (hp : p < 16) : OVk (ck o nc (nI a) (nI b) (nI w) (nI p)) (nc + 1) := by
  obtain ⟨h1, h2, ⟨no, h3, h31, h32, h33⟩, h4, h5, h6, h7, h8', h9, h10⟩ := h
  unfold ck
  refine ⟨up_same _ _ _ _, by omega, ⟨no, h3, by rw [up_ne (by omega), up_ne (by omega), up_ne (by omega), up_ne (by omega), up_ne (by omega)]; exact h31, fun i hi => by rw [up_ne (by omega), up_ne (by omega), up_ne (by omega), up_ne (by omega), up_ne (by omega)]; exact h32 i hi, fun i hi => by rw [up_ne (by omega), up_ne (by omega), up_ne (by omega), up_ne (by omega), up_ne (by omega)]; exact h33 i hi⟩, by rw [up_ne (by omega), up_ne (by omega), up_ne (by omega), up_ne (by omega), up_ne (by omega)]; exact h4, by rw [up_ne (by omega), up_ne (by omega), up_ne (by omega), up_ne (by omega), up_ne (by omega)]; exact h5, fun i hi => ?_, fun i hi => ?_, fun i hi => ?_, fun i hi => ?_, fun i hi => by rw [up_ne (by omega), up_ne (by omega), up_ne (by omega), up_ne (by omega), up_ne (by omega)]; exact h10 i hi⟩
  · rw [up_ne (by omega), up_ne (by omega), up_ne (by omega), up_ne (by omega)]
    by_cases q : i = nc
    · subst q; exact ⟨a, ha, up_same _ _ _ _⟩
    · rw [up_ne (fun z => q z.2)]; exact h6 i (by omega)
  · rw [up_ne (by omega), up_ne (by omega), up_ne (by omega)]
    by_cases q : i = nc
    · subst q; exact ⟨b, hb, up_same _ _ _ _⟩
    · rw [up_ne (fun z => q z.2), up_ne (by omega)]; exact h7 i (by omega)
  · rw [up_ne (by omega), up_ne (by omega)]
    by_cases q : i = nc
    · subst q; exact ⟨w, hw, up_same _ _ _ _⟩
    · rw [up_ne (fun z => q z.2), up_ne (by omega), up_ne (by omega)]; exact h8' i (by omega)
  · rw [up_ne (by omega)]
    by_cases q : i = nc
    · subst q; exact ⟨p, hp, up_same _ _ _ _⟩
    · rw [up_ne (fun z => q z.2), up_ne (by omega), up_ne (by omega), up_ne (by omega)]; exact h9 i (by omega)
theorem remI_nat {a m : Nat} (ha : a < 2147483648) (hm : m < 2147483648) : remI (nI a) (nI m) = nI (a % m) := by
  have hmul : a / m * m + a % m = a := Nat.div_add_mod' a m
  unfold remI
  rw [nI_divN ha hm]
  have h0 := Nat.div_le_self a m
  rw [nI_mulN (by omega) (by omega) hm]
  apply Int32.toInt_inj.mp
  generalize a / m * m = q at hmul ⊢
  generalize a % m = r at hmul ⊢
  rw [iSub (by rw [iT (by omega), iT (by omega)]; omega) (by rw [iT (by omega), iT (by omega)]; omega), iT (by omega), iT (by omega), iT (by omega)]
  omega
theorem OVk_cakeX {o o2 : OV} {nc n2 : Nat} {km w p : Int32} (h : OVk o nc) (hx : cakeX o nc km w p o2 n2) : OVk o2 n2 := by
  rcases hx with ⟨⟨c1, c2, c3, -, c5⟩, rfl, rfl⟩ | ⟨-, rfl, rfl⟩
  · have a1 := inN c1
    have a2 := inN c2
    have a3 := inN c3
    have b1 : nN km ≤ 59 := a1.2
    have b2 : nN w ≤ 999 := a2.2
    have b3 : nN p ≤ 15 := a3.2
    rw [a1.1, a2.1, a3.1, show (10 : Int32) = nI 10 from rfl, nI_divN (by omega) (by omega), remI_nat (by omega) (by omega)]
    exact OVk_ck h c5 (by omega) (by omega) (by omega) (by omega)
  · exact h
theorem cakeX_lw {o o2 : OV} {nc n2 : Nat} {km w p : Int32} (hx : cakeX o nc km w p o2 n2) : o2 0 11 = o 0 11 := by
  rcases hx with ⟨-, rfl, -⟩ | ⟨-, rfl, -⟩
  · unfold ck
    rw [up_ne (by omega), up_ne (by omega), up_ne (by omega), up_ne (by omega), up_ne (by omega)]
  · rfl
theorem cakeX_det {o o2 o3 : OV} {nc n2 n3 : Nat} {km w p : Int32} (h : cakeX o nc km w p o2 n2) (h' : cakeX o nc km w p o3 n3) : o2 = o3 ∧ n2 = n3 := by
  rcases h with ⟨c, rfl, rfl⟩ | ⟨c, rfl, rfl⟩ <;> rcases h' with ⟨c', rfl, rfl⟩ | ⟨c', rfl, rfl⟩
  · exact ⟨rfl, rfl⟩
  · exact absurd c c'
  · exact absurd c' c
  · exact ⟨rfl, rfl⟩

theorem OB.uf {T : List (Nat × Nat)} {rf : Nat → Nat → Option Nat} {g g' : Nat → Nat → Int32} {nc n2 tc t : Nat} {o o2 : OV} {lws : Nat → Nat → List Int32} (h : OB T rf g 1 o nc tc lws t) (hu : UF g g') (hE : OEq (XO g' 1) o2 n2) (hV : OVk o2 n2) (hl : o2 0 11 = o 0 11) : OB T rf g' 1 o2 n2 tc lws t := by
  obtain ⟨h1, h2, h3, -, -, h6, h7⟩ := h
  exact ⟨h1, h2, h3.keep (fun _ _ => rfl) (fun a h1 _ _ => hu a (by omega)), hE, hV, hl.trans h6, h7⟩
def cbyB (sh : Nat → Nat → Int32) (s j : Nat) (at_ : Int32) : Prop := at_ < 0 ∨ sh s 1 - 3 * (nI j + 1) < at_
def cbyR (sh : Nat → Nat → Int32) (s : Nat) (at_ : Int32) : Nat → Nat → OV → Nat → Int32 → OV → Nat → Int32 → Prop
  | 0, _, o, nc, c, o2, n2, r => o2 = o ∧ n2 = nc ∧ r = c
  | k + 1, j, o, nc, c, o2, n2, r => (cbyB sh s j at_ ∧ o2 = o ∧ n2 = nc ∧ r = -12) ∨ (¬ cbyB sh s j at_ ∧ ∃ o1 n1, cakeX o nc (sh s (2 + (nN at_ + 3 * j))) (sh s (2 + (nN at_ + 3 * j + 1))) (sh s (2 + (nN at_ + 3 * j + 2))) o1 n1 ∧ cbyR sh s at_ k (j + 1) o1 n1 (c + (if 0 ≤ cakeP o nc (sh s (2 + (nN at_ + 3 * j))) (sh s (2 + (nN at_ + 3 * j + 1))) (sh s (2 + (nN at_ + 3 * j + 2))) then 1 else 0)) o2 n2 r)
theorem cbyB_no {sh : Nat → Nat → Int32} {s j k : Nat} {at_ : Int32} (h : ¬ cbyB sh s j at_) (hk : sh s 1 = nI k) (hk4 : k ≤ 40) (hj : j < 100) : at_ = nI (nN at_) ∧ nN at_ + 3 * j + 3 ≤ 40 := by
  have h1 := nneg (fun z => h (Or.inl z))
  have h2 := iLe.mp (Int32.not_lt.mp (fun z => h (Or.inr z)))
  rw [hk, show nI j + 1 = nI (j + 1) from nI_1 j, show (3 : Int32) = nI 3 from rfl, nI_mulN (by omega) (by omega) (by omega)] at h2
  rw [iSub (by rw [iT (by omega), iT (by omega)]; omega) (by rw [iT (by omega), iT (by omega)]; omega), iT (by omega), iT (by omega)] at h2
  exact ⟨h1.1, by omega⟩
theorem lp_X11_cakesBy {d : Nat} {sc : Nat × (Nat → Int32)} {T : List (Nat × Nat)} {rf : Nat → Nat → Option Nat} {tc t N : Nat} {lws : Nat → Nat → List Int32} {g0 : Nat → Nat → Int32} {sh : Nat → Nat → Int32} {s so at_ n : Int32} {F : Int32 → AH → Prop} {o0 : OV} {nc0 : Nat} (hs4 : nN s < 4) (hz4 : ∀ a, a < 4 → ∃ n, n ≤ 40 ∧ sh a 1 = nI n) (hn : n = nI N) (hN8 : N ≤ 8) (hQ : ∀ g2 o2 n2 r, cbyR sh (nN s) at_ N 0 o0 nc0 0 o2 n2 r → OEq (XO g2 1) o2 n2 → UF g0 g2 → F r (T, rf, g2)) : ∀ (k j : Nat) (c x7 : Int32) (g : Nat → Nat → Int32) (o : OV) (nc : Nat), (j + k = N) → (x7 = nI j) → (OB T rf g 1 o nc tc lws t) → (XH g sh) → (UF g0 g) → (∀ o2 n2 r, cbyR sh (nN s) at_ k j o nc c o2 n2 r → cbyR sh (nN s) at_ N 0 o0 nc0 0 o2 n2 r) → Wp (d + 3) 0 0 sc kX11_cakesBy (Qi F) 70 [some (.ref 0), some (.int s), some (.int so), some (.int at_), some (.int n), some (.ref (41 + 2 * nN s)), some (.int c), some (.int x7), none] [] (T, rf, g) 0 0 := by
  intro k
  induction k with
  | zero =>
    intro j c x7 g o nc hj hx7 hO hH hf hR
    obtain ⟨hX, -, hS, hE, hV, hlw, htc⟩ := id hO
    have hn8 : nc ≤ 8 := hV.2.1
    have hcn : g 1 5 = nI nc := hE.1.1.trans hV.1
    refine xX11_cakesBy_70 ?_
    refine xX11_cakesBy_72 ?_
    refine xX11_cakesBy_74_t (by rw [hn, hx7]; exact nI_le (by omega) (by omega)) ?_
    refine xX11_cakesBy_156 ?_
    refine xX11_cakesBy_158 rfl rfl ?_
    exact hQ g _ _ _ (hR _ _ _ ⟨rfl, rfl, rfl⟩) hE hf
  | succ k ih =>
    intro j c x7 g o nc hj hx7 hO hH hf hR
    obtain ⟨hX, -, hS, hE, hV, hlw, htc⟩ := id hO
    have hn8 : nc ≤ 8 := hV.2.1
    have hcn : g 1 5 = nI nc := hE.1.1.trans hV.1
    refine xX11_cakesBy_70 ?_
    refine xX11_cakesBy_72 ?_
    refine xX11_cakesBy_74_f (by rw [hn, hx7]; exact nI_ge (by omega) (by omega)) ?_
    refine xX11_cakesBy_77 ?_
    refine xX11_cakesBy_78 (fun c78 => ?_) (fun c78 => ?_)
    · refine xX11_cakesBy_97 ?_
      refine xX11_cakesBy_99 rfl rfl ?_
      first
        | exact hQ g _ _ _ (hR _ _ _ (Or.inl ⟨Or.inl c78, rfl, rfl, rfl⟩)) hE hf
        | exact hQ g _ _ _ (hR _ _ _ (Or.inl ⟨Or.inr (by rw [← hx7]; exact Int32.not_le.mp c94), rfl, rfl, rfl⟩)) hE hf
    · refine xX11_cakesBy_81 ?_
      refine xX11_cakesBy_82 ?_
      refine xX11_cakesBy_84 (ShT hX hs4).1 ?_
      refine xX11_cakesBy_87 ?_
      refine xX11_cakesBy_88 ?_
      refine xX11_cakesBy_90 ?_
      refine xX11_cakesBy_91 ?_
      refine xX11_cakesBy_92 ?_
      refine xX11_cakesBy_93 ?_
      rw [(hH (nN s) hs4).2.1]
      refine xX11_cakesBy_94 (fun c94 => ?_) (fun c94 => ?_)
      · have nb : ¬ cbyB sh (nN s) j at_ := fun z => z.elim c78 (Int32.not_lt.mpr (by rw [← hx7]; exact c94))
        obtain ⟨k4, hk4, ek4⟩ := hz4 (nN s) hs4
        obtain ⟨ea, la40⟩ := cbyB_no nb ek4 hk4 (by omega)
        have e8 : at_ + 3 * x7 = nI (nN at_ + 3 * j) := by rw [hx7, show (3 : Int32) = nI 3 from rfl, nI_mulN (by omega) (by omega) (by omega)]; exact (congrArg (· + nI (3 * j)) ea).trans (nI_add _ _)
        refine xX11_cakesBy_100 ?_
        refine xX11_cakesBy_101 ?_
        refine xX11_cakesBy_102 ?_
        refine xX11_cakesBy_104 ?_
        refine xX11_cakesBy_105 ?_
        refine xX11_cakesBy_106 rfl ?_
        refine xX11_cakesBy_108 ?_
        refine xX11_cakesBy_110 ?_
        refine xX11_cakesBy_111 ?_
        refine xX11_cakesBy_113 ?_
        refine xX11_cakesBy_115 (ShT hX hs4).1 rfl rfl rfl (s_X7_cellAt ⟨(ShT hX hs4).1, (ShT hX hs4).2.1, (ShT hX hs4).2.2.1⟩ e8 (by omega) ?_)
        refine xX11_cakesBy_118 ?_
        refine xX11_cakesBy_120 ?_
        refine xX11_cakesBy_122 ?_
        refine xX11_cakesBy_123 ?_
        refine xX11_cakesBy_124 (ShT hX hs4).1 rfl rfl rfl (s_X7_cellAt ⟨(ShT hX hs4).1, (ShT hX hs4).2.1, (ShT hX hs4).2.2.1⟩ (i := nN at_ + 3 * j + 1) (by rw [e8]; exact nI_1 _) (by omega) ?_)
        refine xX11_cakesBy_127 ?_
        refine xX11_cakesBy_129 ?_
        refine xX11_cakesBy_131 ?_
        refine xX11_cakesBy_132 ?_
        refine xX11_cakesBy_133 (ShT hX hs4).1 rfl rfl rfl (s_X7_cellAt ⟨(ShT hX hs4).1, (ShT hX hs4).2.1, (ShT hX hs4).2.2.1⟩ (i := nN at_ + 3 * j + 2) (by rw [e8]; exact nI_add _ 2) (by omega) ?_)
        rw [(hH (nN s) hs4).2.2 (nN at_ + 3 * j) (by omega), (hH (nN s) hs4).2.2 (nN at_ + 3 * j + 1) (by omega), (hH (nN s) hs4).2.2 (nN at_ + 3 * j + 2) (by omega)]
        refine xX11_cakesBy_136 (hX.1 _ _ rfl) rfl rfl rfl (s_X11_cake hO (fun g3 oo3 nn3 hx3 he3 hu3 => ?_))
        refine xX11_cakesBy_139 (fun cc => ?_) (fun cc => ?_)
        · refine xX11_cakesBy_146 ?_
          refine xX11_cakesBy_147 ?_
          refine xX11_cakesBy_148 rfl ?_
          refine xX11_cakesBy_150 rfl rfl ?_
          refine xX11_cakesBy_153 ?_
          refine wp_kill_8 ?_
          refine ih (j + 1) _ _ _ _ _ (by omega) (by rw [hx7]; exact nI_1 _) (hO.uf hu3 he3 (OVk_cakeX hV hx3) (cakeX_lw hx3)) (hH.keep (fun a h1 h2 => hu3 a (by omega))) (hf.tr hu3) (fun o2 n2 r h => hR o2 n2 r (Or.inr ⟨nb, _, _, hx3, ?_⟩))
          first
            | (rw [if_neg (Int32.not_le.mpr cc)]; exact h)
            | (rw [if_pos (Int32.not_lt.mp cc)]; exact h)
        · refine xX11_cakesBy_142 ?_
          refine xX11_cakesBy_143 ?_
          refine xX11_cakesBy_147 ?_
          refine xX11_cakesBy_148 rfl ?_
          refine xX11_cakesBy_150 rfl rfl ?_
          refine xX11_cakesBy_153 ?_
          refine wp_kill_8 ?_
          refine ih (j + 1) _ _ _ _ _ (by omega) (by rw [hx7]; exact nI_1 _) (hO.uf hu3 he3 (OVk_cakeX hV hx3) (cakeX_lw hx3)) (hH.keep (fun a h1 h2 => hu3 a (by omega))) (hf.tr hu3) (fun o2 n2 r h => hR o2 n2 r (Or.inr ⟨nb, _, _, hx3, ?_⟩))
          first
            | (rw [if_neg (Int32.not_le.mpr cc)]; exact h)
            | (rw [if_pos (Int32.not_lt.mp cc)]; exact h)
      · refine xX11_cakesBy_97 ?_
        refine xX11_cakesBy_99 rfl rfl ?_
        first
          | exact hQ g _ _ _ (hR _ _ _ (Or.inl ⟨Or.inl c78, rfl, rfl, rfl⟩)) hE hf
          | exact hQ g _ _ _ (hR _ _ _ (Or.inl ⟨Or.inr (by rw [← hx7]; exact Int32.not_le.mp c94), rfl, rfl, rfl⟩)) hE hf
def cbyC (s so n : Int32) : Prop := (0 ≤ s ∧ s ≤ 3) ∧ (0 ≤ so ∧ so ≤ 2) ∧ 0 ≤ n ∧ n ≤ 8
def cbyX (sh : Nat → Nat → Int32) (o : OV) (nc : Nat) (s so at_ n : Int32) (o2 : OV) (n2 : Nat) (r : Int32) : Prop := (¬ cbyC s so n ∧ o2 = o ∧ n2 = nc ∧ r = -2) ∨ (cbyC s so n ∧ sh (nN s) 0 = -1 ∧ o2 = o ∧ n2 = nc ∧ r = -11) ∨ (cbyC s so n ∧ sh (nN s) 0 ≠ -1 ∧ sh (nN s) 0 ≠ so ∧ o2 = o ∧ n2 = nc ∧ r = -13) ∨ (cbyC s so n ∧ sh (nN s) 0 ≠ -1 ∧ sh (nN s) 0 = so ∧ cbyR sh (nN s) at_ (nN n) 0 o nc 0 o2 n2 r)
theorem s_X11_cakesBy {d : Nat} {sc : Nat × (Nat → Int32)} {T : List (Nat × Nat)} {rf : Nat → Nat → Option Nat} {g : Nat → Nat → Int32} {nc tc t : Nat} {o : OV} {lws : Nat → Nat → List Int32} {s so at_ n : Int32} {sh : Nat → Nat → Int32} {F : Int32 → AH → Prop} (hO : OB T rf g 1 o nc tc lws t) (hH : XH g sh) (hz4 : ∀ a, a < 4 → ∃ n, n ≤ 40 ∧ sh a 1 = nI n) (hQ : ∀ g2 o2 n2 r, cbyX sh o nc s so at_ n o2 n2 r → OEq (XO g2 1) o2 n2 → UF g g2 → F r (T, rf, g2)) : Mok (d + 3) 0 0 sc kX11_cakesBy [.ref 0, .int s, .int so, .int at_, .int n] (T, rf, g) (Qi F) := by
  obtain ⟨hX, -, hS, hE, hV, hlw, htc⟩ := id hO
  have hn8 : nc ≤ 8 := hV.2.1
  have hcn : g 1 5 = nI nc := hE.1.1.trans hV.1
  refine Mok.ofWp (L := [some (.ref 0), some (.int s), some (.int so), some (.int at_), some (.int n), none, none, none, none]) rfl rfl rfl ?_
  refine xX11_cakesBy_0 ?_
  refine xX11_cakesBy_1 ?_
  refine xX11_cakesBy_2 ?_
  refine xX11_cakesBy_3 rfl rfl rfl (s_X11_within  (fun hw0 => ?_) (fun nw0 => ?_))
  · have hs4 : nN s < 4 := Nat.lt_succ_of_le (inN hw0).2
    refine xX11_cakesBy_6_f (by decide) ?_
    refine xX11_cakesBy_9 ?_
    refine xX11_cakesBy_10 ?_
    refine xX11_cakesBy_11 ?_
    refine xX11_cakesBy_12 rfl rfl rfl (s_X11_within  (fun hw1 => ?_) (fun nw1 => ?_))
    · refine xX11_cakesBy_15_f (by decide) ?_
      refine xX11_cakesBy_18 ?_
      refine xX11_cakesBy_20 ?_
      refine xX11_cakesBy_21 ?_
      refine xX11_cakesBy_23 rfl rfl rfl (s_X11_within  (fun hw2 => ?_) (fun nw2 => ?_))
      · refine xX11_cakesBy_26_t (by decide) ?_
        refine xX11_cakesBy_32 ?_
        refine xX11_cakesBy_33 (hX.1 _ _ rfl) (hX.2 _ _ _ rfl) ?_
        refine xX11_cakesBy_36 ?_
        refine xX11_cakesBy_37 (j := nN s) (hX.1 _ _ rfl) rfl rfl (inN hw0).1 (Nat.lt_succ_of_le (inN hw0).2) rfl (ShT hX (Nat.lt_succ_of_le (inN hw0).2)).2.2.2 ?_
        refine xX11_cakesBy_38 rfl ?_
        refine xX11_cakesBy_40 ?_
        refine xX11_cakesBy_42 (ShT hX hs4).1 ?_
        refine xX11_cakesBy_45 ?_
        rw [(hH (nN s) hs4).1]
        refine xX11_cakesBy_46 (fun c46 => ?_) (fun c46 => ?_)
        · refine xX11_cakesBy_52 ?_
          refine xX11_cakesBy_54 (ShT hX hs4).1 ?_
          refine xX11_cakesBy_57 ?_
          rw [(hH (nN s) hs4).1]
          refine xX11_cakesBy_58 (fun c58 => ?_) (fun c58 => ?_)
          · refine xX11_cakesBy_64 ?_
            refine xX11_cakesBy_65 rfl ?_
            refine xX11_cakesBy_67 ?_
            refine xX11_cakesBy_68 rfl ?_
            exact lp_X11_cakesBy hs4 hz4 (inN hw2).1 (inN hw2).2 (fun g2 o2 n2 r h1 h2 h3 => hQ g2 o2 n2 r (Or.inr (Or.inr (Or.inr ⟨⟨hw0, hw1, hw2⟩, c46, c58, h1⟩))) h2 h3) (nN n) 0 _ _ _ _ _ (by omega) rfl hO hH UF.rf (fun _ _ _ h => h)
          · refine xX11_cakesBy_61 ?_
            refine xX11_cakesBy_63 rfl rfl ?_
            exact hQ g _ _ _ (Or.inr (Or.inr (Or.inl ⟨⟨hw0, hw1, hw2⟩, c46, c58, rfl, rfl, rfl⟩))) hE UF.rf
        · refine xX11_cakesBy_49 ?_
          refine xX11_cakesBy_51 rfl rfl ?_
          exact hQ g _ _ _ (Or.inr (Or.inl ⟨⟨hw0, hw1, hw2⟩, c46, rfl, rfl, rfl⟩)) hE UF.rf
      · refine xX11_cakesBy_26_f (by decide) ?_
        refine xX11_cakesBy_29 ?_
        refine xX11_cakesBy_31 rfl rfl ?_
        exact hQ g _ _ _ (Or.inl ⟨fun z => nw2 z.2.2, rfl, rfl, rfl⟩) hE UF.rf
    · refine xX11_cakesBy_15_t (by decide) ?_
      refine xX11_cakesBy_29 ?_
      refine xX11_cakesBy_31 rfl rfl ?_
      exact hQ g _ _ _ (Or.inl ⟨fun z => nw1 z.2.1, rfl, rfl, rfl⟩) hE UF.rf
  · refine xX11_cakesBy_6_t (by decide) ?_
    refine xX11_cakesBy_29 ?_
    refine xX11_cakesBy_31 rfl rfl ?_
    exact hQ g _ _ _ (Or.inl ⟨fun z => nw0 z.1, rfl, rfl, rfl⟩) hE UF.rf
