theorem lBm {z : Int} (h1 : -9223372036854775808 ≤ z) (h2 : z < 9223372036854775808) : z.bmod (2 ^ 64) = z := by
  apply Int.bmod_eq_of_le <;> omega
theorem remL_nat {x y : Int64} {a m : Nat} (hx : x.toInt = (a : Int)) (hy : y.toInt = (m : Int)) (ha : a < 1000000000000000000) (hm0 : 0 < m) : (remL x y).toInt = ((a % m : Nat) : Int) := by
  have h0 := Nat.div_le_self a m
  have hmul : a / m * m + a % m = a := Nat.div_add_mod' a m
  have hd : (x / y).toInt = ((a / m : Nat) : Int) := by
    rw [Int64.toInt_div, hx, hy, ← Int.ofNat_tdiv]
    generalize a / m = q at h0
    exact lBm (by omega) (by omega)
  have hml : (x / y * y).toInt = ((a / m * m : Nat) : Int) := by
    rw [Int64.toInt_mul, hd, hy, ← Int.natCast_mul]
    generalize a / m * m = q at hmul
    exact lBm (by omega) (by omega)
  unfold remL
  rw [Int64.toInt_sub, hx, hml]
  generalize a / m * m = q at hmul
  generalize a % m = r at hmul
  rw [lBm (by omega) (by omega)]
  omega
theorem lot_nat {sN : Nat} (hs : sN ≤ 100100) : ∀ n, ∃ a : Nat, a < 2147483647 ∧ (lot (nI sN) n).toInt = (a : Int) := by
  intro n
  induction n with
  | zero =>
    refine ⟨sN + 1, by omega, ?_⟩
    show ((nI sN).toInt64 + 1).toInt = _
    rw [Int64.toInt_add, Int32.toInt_toInt64, iT (by omega), show (1 : Int64).toInt = 1 from rfl, lBm (by omega) (by omega)]
    rfl
  | succ n ih =>
    obtain ⟨a, h1, h2⟩ := ih
    refine ⟨a * 48271 % 2147483647, Nat.mod_lt _ (by omega), ?_⟩
    show (remL (lot (nI sN) n * 48271) 2147483647).toInt = _
    refine remL_nat ?_ rfl (by omega) (by omega)
    rw [Int64.toInt_mul, h2, show (48271 : Int64).toInt = ((48271 : Nat) : Int) from rfl, ← Int.natCast_mul, lBm (by omega) (by omega)]
theorem hotD_nat {sN : Nat} (hs : sN ≤ 100100) (k : Nat) : ∃ w, w < 100 ∧ hotD (nI sN) k = nI w := by
  obtain ⟨a, h1, h2⟩ := lot_nat hs (k + 1)
  have h3 : (remL (lot (nI sN) (k + 1)) 30).toInt = ((a % 30 : Nat) : Int) := remL_nat h2 rfl (by omega) (by omega)
  have h4 := Nat.mod_lt a (show 30 > 0 by omega)
  refine ⟨a % 30, by omega, ?_⟩
  apply Int32.toInt_inj.mp
  rw [iT (by omega)]
  show (remL (lot (nI sN) (k + 1)) 30).toInt32.toInt = _
  rw [Int64.toInt_toInt32, h3, iBm (by omega) (by omega)]
def drawnP (o : OV) (nc : Nat) (ev : EV) (seed w : Int32) : Int32 := if 0 ≤ seed ∧ seed ≤ 99999 then (if 0 ≤ w ∧ w ≤ 1 then (if w = 0 then badP (hotO o (hotD seed) 16) ev nc else apP (hotO o (hotD seed) 16) ev nc) else -2) else -2
/-- how many of the seeds from the j-th on, k of them, end even enough -/
def evenF (o : OV) (nc : Nat) (ev : EV) (seed far : Int32) : Nat → Nat → Int32 → Int32
  | 0, _, a => a
  | k + 1, j, a => evenF o nc ev seed far k (j + 1) (a + (if apP (hotO o (hotD (seed + nI j)) 16) ev nc ≤ far then 1 else 0))
def mx1 (y : Int32) : Int32 := if 1 < y then y else 1
def oddsP (o : OV) (nc : Nat) (ev : EV) (seed seeds far part : Int32) : Int64 := if 0 ≤ seed ∧ seed ≤ 99999 then (if 1 ≤ seeds ∧ seeds ≤ 20 then (if 0 ≤ far ∧ far ≤ 999 then (if 0 ≤ part ∧ part ≤ 1 then ((if part = 0 then evenF o nc ev seed far (nN seeds) 0 0 else seeds) / mx1 (cdv 100 (evenF o nc ev seed far (nN seeds) 0 0) seeds)).toInt64 else -4611686018427387904) else -4611686018427387904) else -4611686018427387904) else -4611686018427387904
theorem lp_X11_imagineDrawn {d : Nat} {sc : Nat × (Nat → Int32)} {T : List (Nat × Nat)} {rf : Nat → Nat → Option Nat} {nc : Nat} {o : OV} {g0 : Nat → Nat → Int32} {seed : Int32} {F : AH → Prop} (hX : XS T rf) (hQ : ∀ g2, VF g0 g2 → OEq (XO g2 9) (hotO o (hotD seed) 16) nc → g2 0 = g0 0 → F (T, rf, g2)) : ∀ (k j : Nat) (b : Int64) (x4 : Int32) (g : Nat → Nat → Int32), (j + k = 16) → (x4 = nI j) → (b = lot seed j) → (VF g0 g) → (OEq (XO g 9) (hotO o (hotD seed) j) nc) → (g 0 = g0 0) → Wp d 0 0 sc kX11_imagineDrawn (Qv F) 12 [some (.ref 0), some (.int seed), some (.long b), none, some (.int x4)] [] (T, rf, g) 0 0 := by
  intro k
  induction k with
  | zero =>
    intro j b x4 g hj hx4 hb hf hE9 h00
    refine xX11_imagineDrawn_12 ?_
    refine xX11_imagineDrawn_14 ?_
    refine xX11_imagineDrawn_16_t (by rw [hx4]; exact nI_le (a := 16) (by omega) (by omega)) ?_
    refine xX11_imagineDrawn_51 rfl rfl ?_
    have e : j = 16 := by omega
    subst e
    exact hQ _ hf hE9 h00
  | succ k ih =>
    intro j b x4 g hj hx4 hb hf hE9 h00
    refine xX11_imagineDrawn_12 ?_
    refine xX11_imagineDrawn_14 ?_
    refine xX11_imagineDrawn_16_f (by rw [hx4]; exact nI_ge (b := 16) (by omega) (by omega)) ?_
    refine xX11_imagineDrawn_19 ?_
    refine xX11_imagineDrawn_20 ?_
    refine xX11_imagineDrawn_23 ?_
    refine xX11_imagineDrawn_24 ?_
    refine xX11_imagineDrawn_27 (by decide) ?_
    refine xX11_imagineDrawn_28 rfl ?_
    refine xX11_imagineDrawn_29 ?_
    refine xX11_imagineDrawn_30 (hX.1 _ _ rfl) (hX.2 _ _ _ rfl) ?_
    refine xX11_imagineDrawn_33 (hX.1 _ _ rfl) (hX.2 _ _ _ rfl) ?_
    refine xX11_imagineDrawn_36 ?_
    refine xX11_imagineDrawn_38 ?_
    refine xX11_imagineDrawn_39 ?_
    refine xX11_imagineDrawn_42 (by decide) ?_
    refine xX11_imagineDrawn_43 ?_
    have eh : hotD seed j = (remL (remL (b * 48271) 2147483647) 30).toInt32 := by rw [hb]; rfl
    refine xX11_imagineDrawn_44 (j := j) (hX.1 _ _ rfl) hx4 (by omega) rfl ?_
    refine xX11_imagineDrawn_45 rfl rfl ?_
    refine xX11_imagineDrawn_48 ?_
    exact ih (j + 1) _ _ _ (by omega) (by rw [hx4]; exact nI_1 _) (by rw [hb]; rfl) (hf.tr (VF.up (by omega))) (by
      refine (show OEq (up (XO g 9) 1 j (hotD seed j)) (hotO o (hotD seed) (j + 1)) nc from hotO_up ▸ hE9.up).rows (fun r _ => ?_)
      rw [eh]
      exact congrFun (XO_up (b := 9) (r := 1)) r) ((up_row (by omega)).trans h00)
theorem s_X11_imagineDrawn {d : Nat} {sc : Nat × (Nat → Int32)} {T : List (Nat × Nat)} {rf : Nat → Nat → Option Nat} {g : Nat → Nat → Int32} {nc : Nat} {o : OV} {seed : Int32} {F : AH → Prop} (hX : XS T rf) (hE : OEq (XO g 1) o nc) (hn8 : nc ≤ 8) (hQ : ∀ g2, VF g g2 → OEq (XO g2 9) (hotO o (hotD seed) 16) nc → g2 0 = g 0 → F (T, rf, g2)) : Mok (d + 3) 0 0 sc kX11_imagineDrawn [.ref 0, .int seed] (T, rf, g) (Qv F) := by
  refine Mok.ofWp (L := [some (.ref 0), some (.int seed), none, none, none]) rfl rfl rfl ?_
  refine xX11_imagineDrawn_0 ?_
  refine xX11_imagineDrawn_1 (hX.1 _ _ rfl) rfl rfl rfl (s_X11_imagine hX (fun g0 he0 hj0 => ?_))
  refine xX11_imagineDrawn_4 ?_
  refine xX11_imagineDrawn_5 ?_
  refine xX11_imagineDrawn_6 ?_
  refine xX11_imagineDrawn_7 ?_
  refine xX11_imagineDrawn_8 rfl ?_
  refine xX11_imagineDrawn_9 ?_
  refine xX11_imagineDrawn_10 rfl ?_
  exact lp_X11_imagineDrawn hX (fun g2 h1 h2 h3 => hQ g2 ((VF.f9 hj0).tr h1) h2 (h3.trans (hj0 0 (by omega)))) 16 0 _ _ _ (by omega) rfl rfl VF.rf (by rw [hotO_0]; exact (he0.le hn8).tr hE) rfl
theorem s_X11_drawn {d : Nat} {sc : Nat × (Nat → Int32)} {T : List (Nat × Nat)} {rf : Nat → Nat → Option Nat} {g : Nat → Nat → Int32} {nc tc t : Nat} {o : OV} {lws : Nat → Nat → List Int32} {seed w : Int32} {F : Int32 → AH → Prop} (hO : OB T rf g 1 o nc tc lws t) (hQ : ∀ rf2 g2, ZR T rf rf2 → VF g g2 → F (drawnP o nc (evL (lws t)) seed w) (T, rf2, g2)) : Mok (d + 7) 0 0 sc kX11_drawn [.ref 0, .int seed, .int w] (T, rf, g) (Qi F) := by
  obtain ⟨hX, -, hS, hE, hV, hlw, htc⟩ := id hO
  have hn8 : nc ≤ 8 := hV.2.1
  have hcn : g 1 5 = nI nc := hE.1.1.trans hV.1
  refine Mok.ofWp (L := [some (.ref 0), some (.int seed), some (.int w)]) rfl rfl rfl ?_
  refine xX11_drawn_0 ?_
  refine xX11_drawn_1 ?_
  refine xX11_drawn_2 ?_
  refine xX11_drawn_4 rfl rfl rfl (s_X11_within  (fun hw0 => ?_) (fun nw0 => ?_))
  · refine xX11_drawn_7_f (by decide) ?_
    refine xX11_drawn_10 ?_
    refine xX11_drawn_11 ?_
    refine xX11_drawn_12 ?_
    refine xX11_drawn_13 rfl rfl rfl (s_X11_within  (fun hw1 => ?_) (fun nw1 => ?_))
    · refine xX11_drawn_16_t (by decide) ?_
      refine xX11_drawn_22 ?_
      refine xX11_drawn_23 ?_
      refine xX11_drawn_24 (hX.1 _ _ rfl) rfl rfl rfl (s_X11_imagineDrawn hX hE hn8 (fun g2 hv2 he2 h002 => ?_))
      refine xX11_drawn_27 ?_
      refine xX11_drawn_28 (fun c28 => ?_) (fun c28 => ?_)
      · refine xX11_drawn_42 ?_
        refine xX11_drawn_43 ?_
        refine xX11_drawn_44 (hX.1 _ _ rfl) (hX.2 _ _ _ rfl) ?_
        have hs99 : nN seed ≤ 99999 := (inN hw0).2
        have h9 := hO.th ⟨hX, fun _ _ => rfl⟩ hv2 he2 (OVk_hotO (fun k _ => by rw [(inN hw0).1]; exact hotD_nat (by omega) k) hV) (t' := t) hlw htc
        refine xX11_drawn_47 (hX.1 _ _ rfl) rfl rfl rfl (s_X11_apartOf h9 (fun rf3 g3 hr3 hz3 => ?_))
        refine xX11_drawn_50 rfl rfl ?_
        first
          | (have q := hQ _ _ hr3 (hv2.tr hz3.vf); rw [drawnP, if_pos hw0, if_pos hw1, if_pos c28] at q; exact q)
          | (have q := hQ _ _ hr3 (hv2.tr hz3.vf); rw [drawnP, if_pos hw0, if_pos hw1, if_neg c28] at q; exact q)
      · refine xX11_drawn_31 ?_
        refine xX11_drawn_32 ?_
        refine xX11_drawn_33 (hX.1 _ _ rfl) (hX.2 _ _ _ rfl) ?_
        have hs99 : nN seed ≤ 99999 := (inN hw0).2
        have h9 := hO.th ⟨hX, fun _ _ => rfl⟩ hv2 he2 (OVk_hotO (fun k _ => by rw [(inN hw0).1]; exact hotD_nat (by omega) k) hV) (t' := t) hlw htc
        refine xX11_drawn_36 (hX.1 _ _ rfl) rfl rfl rfl (s_X11_badnessOf h9 (fun rf4 g4 hr4 hz4 => ?_))
        refine xX11_drawn_39 ?_
        refine xX11_drawn_50 rfl rfl ?_
        first
          | (have q := hQ _ _ hr4 (hv2.tr hz4.vf); rw [drawnP, if_pos hw0, if_pos hw1, if_pos c28] at q; exact q)
          | (have q := hQ _ _ hr4 (hv2.tr hz4.vf); rw [drawnP, if_pos hw0, if_pos hw1, if_neg c28] at q; exact q)
    · refine xX11_drawn_16_f (by decide) ?_
      refine xX11_drawn_19 ?_
      refine xX11_drawn_21 rfl rfl ?_
      have q := hQ _ _ ⟨hX, fun _ _ => rfl⟩ VF.rf
      rw [drawnP, if_pos hw0, if_neg nw1] at q
      exact q
  · refine xX11_drawn_7_t (by decide) ?_
    refine xX11_drawn_19 ?_
    refine xX11_drawn_21 rfl rfl ?_
    have q := hQ _ _ ⟨hX, fun _ _ => rfl⟩ VF.rf
    rw [drawnP, if_neg nw0] at q
    exact q
theorem mx1_ne (y : Int32) : ¬ (if 1 < y then y else 1) = 0 := by
  intro h
  by_cases q : 1 < y
  · rw [if_pos q] at h; subst h; revert q; decide
  · rw [if_neg q] at h; revert h; decide
theorem lp_X11_commonDivisor {d : Nat} {sc : Nat × (Nat → Int32)} {x y : Int32} {h : AH} {F : Int32 → AH → Prop} {S : Int32} (hQ : F S h) : ∀ (k j : Nat) (a b x4 : Int32), (j + k = 100) → (x4 = nI j) → (S = cdv k a b) → Wp d 0 0 sc kX11_commonDivisor (Qi F) 7 [some (.int x), some (.int y), some (.int a), some (.int b), some (.int x4), none] [] h 0 0 := by
  intro k
  induction k with
  | zero =>
    intro j a b x4 hj hx4 hZ
    refine xX11_commonDivisor_7 ?_
    refine xX11_commonDivisor_9 ?_
    refine xX11_commonDivisor_11_t (by rw [hx4]; exact nI_le (a := 100) (by omega) (by omega)) ?_
    refine xX11_commonDivisor_34 ?_
    refine xX11_commonDivisor_35 rfl rfl ?_
    first | (rw [hZ, e] at hQ; exact hQ) | (rw [hZ] at hQ; exact hQ)
  | succ k ih =>
    intro j a b x4 hj hx4 hZ
    refine xX11_commonDivisor_7 ?_
    refine xX11_commonDivisor_9 ?_
    refine xX11_commonDivisor_11_f (by rw [hx4]; exact nI_ge (b := 100) (by omega) (by omega)) ?_
    refine xX11_commonDivisor_14 ?_
    refine xX11_commonDivisor_15 (fun c15 => ?_) (fun c15 => ?_)
    · have e : cdv (k + 1) a b = a := if_pos c15
      refine xX11_commonDivisor_34 ?_
      refine xX11_commonDivisor_35 rfl rfl ?_
      first | (rw [hZ, e] at hQ; exact hQ) | (rw [hZ] at hQ; exact hQ)
    · have e : cdv (k + 1) a b = cdv k b (a - a / b * b) := if_neg c15
      refine xX11_commonDivisor_18 ?_
      refine xX11_commonDivisor_19 ?_
      refine xX11_commonDivisor_20 c15 ?_
      refine xX11_commonDivisor_21 rfl ?_
      refine xX11_commonDivisor_23 ?_
      refine xX11_commonDivisor_24 rfl ?_
      refine xX11_commonDivisor_25 ?_
      refine xX11_commonDivisor_27 rfl ?_
      refine xX11_commonDivisor_28 rfl rfl ?_
      refine xX11_commonDivisor_31 ?_
      refine wp_kill_5 ?_
      exact ih (j + 1) _ _ _ (by omega) (by rw [hx4]; exact nI_1 _) (hZ.trans e)
theorem s_X11_commonDivisor {d : Nat} {sc : Nat × (Nat → Int32)} {x y : Int32} {h : AH} {F : Int32 → AH → Prop} (hQ : F (cdv 100 x y) h) : Mok d 0 0 sc kX11_commonDivisor [.int x, .int y] h (Qi F) := by
  refine Mok.ofWp (L := [some (.int x), some (.int y), none, none, none, none]) rfl rfl rfl ?_
  refine xX11_commonDivisor_0 ?_
  refine xX11_commonDivisor_1 rfl ?_
  refine xX11_commonDivisor_2 ?_
  refine xX11_commonDivisor_3 rfl ?_
  refine xX11_commonDivisor_4 ?_
  refine xX11_commonDivisor_5 rfl ?_
  exact lp_X11_commonDivisor hQ 100 0 _ _ _ (by omega) rfl rfl
theorem lp_X11_odds {d : Nat} {sc : Nat × (Nat → Int32)} {T : List (Nat × Nat)} {rf0 : Nat → Nat → Option Nat} {g0 : Nat → Nat → Int32} {nc tc t : Nat} {o : OV} {lws : Nat → Nat → List Int32} {F : Int64 → AH → Prop} {seed seeds far part S : Int32} {sN N : Nat} (hse : seed = nI sN) (hsN : sN ≤ 99999) (hN : seeds = nI N) (hN20 : N ≤ 20) (hQ : ∀ rf2 g2, ZR T rf0 rf2 → VF g0 g2 → F ((if part = 0 then S else seeds) / mx1 (cdv 100 S seeds)).toInt64 (T, rf2, g2)) : ∀ (k j : Nat) (a x6 : Int32) (rf : Nat → Nat → Option Nat) (g : Nat → Nat → Int32), (j + k = N) → (x6 = nI j) → (OB T rf g 1 o nc tc lws t) → (ZR T rf0 rf) → (VF g0 g) → (evenF o nc (evL (lws t)) seed far k j a = S) → Wp (d + 7) 0 0 sc kX11_odds (Ql F) 55 [some (.ref 0), some (.int seed), some (.int seeds), some (.int far), some (.int part), some (.int a), some (.int x6)] [] (T, rf, g) 0 0 := by
  intro k
  induction k with
  | zero =>
    intro j a x6 rf g hj hx6 hO hr hf hZ
    obtain ⟨hX, -, hS, hE, hV, hlw, htc⟩ := id hO
    have hn8 : nc ≤ 8 := hV.2.1
    have hcn : g 1 5 = nI nc := hE.1.1.trans hV.1
    refine xX11_odds_55 ?_
    refine xX11_odds_57 ?_
    refine xX11_odds_58_t (by rw [hN, hx6]; exact nI_le (by omega) (by omega)) ?_
    refine xX11_odds_97 ?_
    refine xX11_odds_98 ?_
    refine xX11_odds_100 ?_
    refine xX11_odds_101 rfl rfl rfl (s_X11_commonDivisor  ?_)
    refine xX11_odds_104 rfl rfl rfl ?_
    refine xX11_odds_107 rfl ?_
    refine xX11_odds_109 ?_
    refine xX11_odds_111 (fun c111 => ?_) (fun c111 => ?_)
    · refine xX11_odds_119 ?_
      refine xX11_odds_120 ?_
      refine xX11_odds_122 (mx1_ne _) ?_
      refine xX11_odds_123 ?_
      refine xX11_odds_124 rfl rfl ?_
      have q := hQ _ _ hr hf
      rw [← hZ, mx1] at q
      first | (rw [if_pos c111] at q; exact q) | (rw [if_neg c111] at q; exact q)
    · refine xX11_odds_114 ?_
      refine xX11_odds_116 ?_
      refine xX11_odds_120 ?_
      refine xX11_odds_122 (mx1_ne _) ?_
      refine xX11_odds_123 ?_
      refine xX11_odds_124 rfl rfl ?_
      have q := hQ _ _ hr hf
      rw [← hZ, mx1] at q
      first | (rw [if_pos c111] at q; exact q) | (rw [if_neg c111] at q; exact q)
  | succ k ih =>
    intro j a x6 rf g hj hx6 hO hr hf hZ
    obtain ⟨hX, -, hS, hE, hV, hlw, htc⟩ := id hO
    have hn8 : nc ≤ 8 := hV.2.1
    have hcn : g 1 5 = nI nc := hE.1.1.trans hV.1
    refine xX11_odds_55 ?_
    refine xX11_odds_57 ?_
    refine xX11_odds_58_f (by rw [hN, hx6]; exact nI_ge (by omega) (by omega)) ?_
    refine xX11_odds_61 ?_
    refine xX11_odds_62 ?_
    refine xX11_odds_63 ?_
    refine xX11_odds_65 ?_
    refine xX11_odds_66 (hX.1 _ _ rfl) rfl rfl rfl (s_X11_imagineDrawn hX hE hn8 (fun g0 hv0 he0 h000 => ?_))
    refine xX11_odds_69 ?_
    refine xX11_odds_71 ?_
    refine xX11_odds_72 ?_
    refine xX11_odds_73 (hX.1 _ _ rfl) (hX.2 _ _ _ rfl) ?_
    have h9 := hO.th ⟨hX, fun _ _ => rfl⟩ hv0 he0 (OVk_hotO (fun k _ => by rw [hse, hx6, nI_add]; exact hotD_nat (by omega) k) hV) (t' := t) hlw htc
    refine xX11_odds_76 (hX.1 _ _ rfl) rfl rfl rfl (s_X11_apartOf h9 (fun rf1 g1 hr1 hz1 => ?_))
    refine xX11_odds_79 ?_
    refine xX11_odds_80 (fun cc => ?_) (fun cc => ?_)
    · have e : evenF o nc (evL (lws t)) seed far (k + 1) j a = evenF o nc (evL (lws t)) seed far k (j + 1) (a + 0) := congrArg (fun z => evenF o nc (evL (lws t)) seed far k (j + 1) (a + z)) (if_neg (by rw [← hx6]; exact Int32.not_le.mpr cc))
      refine xX11_odds_87 ?_
      refine xX11_odds_88 ?_
      refine xX11_odds_89 rfl ?_
      refine xX11_odds_91 rfl rfl ?_
      refine xX11_odds_94 ?_
      exact ih (j + 1) _ _ _ _ (by omega) (by rw [hx6]; exact nI_1 _) (hO.vf hr1 (hv0.tr hz1.vf)) (hr.tr hr1) (hf.tr (hv0.tr hz1.vf)) (e.symm.trans hZ)
    · have e : evenF o nc (evL (lws t)) seed far (k + 1) j a = evenF o nc (evL (lws t)) seed far k (j + 1) (a + 1) := congrArg (fun z => evenF o nc (evL (lws t)) seed far k (j + 1) (a + z)) (if_pos (by rw [← hx6]; exact Int32.not_lt.mp cc))
      refine xX11_odds_83 ?_
      refine xX11_odds_84 ?_
      refine xX11_odds_88 ?_
      refine xX11_odds_89 rfl ?_
      refine xX11_odds_91 rfl rfl ?_
      refine xX11_odds_94 ?_
      exact ih (j + 1) _ _ _ _ (by omega) (by rw [hx6]; exact nI_1 _) (hO.vf hr1 (hv0.tr hz1.vf)) (hr.tr hr1) (hf.tr (hv0.tr hz1.vf)) (e.symm.trans hZ)
theorem s_X11_odds {d : Nat} {sc : Nat × (Nat → Int32)} {T : List (Nat × Nat)} {rf : Nat → Nat → Option Nat} {g : Nat → Nat → Int32} {nc tc t : Nat} {o : OV} {lws : Nat → Nat → List Int32} {seed seeds far part : Int32} {F : Int64 → AH → Prop} (hO : OB T rf g 1 o nc tc lws t) (hQ : ∀ rf2 g2, ZR T rf rf2 → VF g g2 → F (oddsP o nc (evL (lws t)) seed seeds far part) (T, rf2, g2)) : Mok (d + 7) 0 0 sc kX11_odds [.ref 0, .int seed, .int seeds, .int far, .int part] (T, rf, g) (Ql F) := by
  obtain ⟨hX, -, hS, hE, hV, hlw, htc⟩ := id hO
  have hn8 : nc ≤ 8 := hV.2.1
  have hcn : g 1 5 = nI nc := hE.1.1.trans hV.1
  refine Mok.ofWp (L := [some (.ref 0), some (.int seed), some (.int seeds), some (.int far), some (.int part), none, none]) rfl rfl rfl ?_
  refine xX11_odds_0 ?_
  refine xX11_odds_1 ?_
  refine xX11_odds_2 ?_
  refine xX11_odds_4 rfl rfl rfl (s_X11_within  (fun hw0 => ?_) (fun nw0 => ?_))
  · refine xX11_odds_7_f (by decide) ?_
    refine xX11_odds_10 ?_
    refine xX11_odds_11 ?_
    refine xX11_odds_12 ?_
    refine xX11_odds_14 rfl rfl rfl (s_X11_within  (fun hw1 => ?_) (fun nw1 => ?_))
    · refine xX11_odds_17_t (by decide) ?_
      refine xX11_odds_24 ?_
      refine xX11_odds_25 ?_
      refine xX11_odds_26 ?_
      refine xX11_odds_29 rfl rfl rfl (s_X11_within  (fun hw2 => ?_) (fun nw2 => ?_))
      · refine xX11_odds_32_f (by decide) ?_
        refine xX11_odds_35 ?_
        refine xX11_odds_37 ?_
        refine xX11_odds_38 ?_
        refine xX11_odds_39 rfl rfl rfl (s_X11_within  (fun hw3 => ?_) (fun nw3 => ?_))
        · refine xX11_odds_42_t (by decide) ?_
          refine xX11_odds_49 ?_
          refine xX11_odds_50 rfl ?_
          refine xX11_odds_52 ?_
          refine xX11_odds_53 rfl ?_
          have h20 := inN (v := seeds) (M := 20) ⟨Int32.le_trans (by decide) hw1.1, hw1.2⟩
          refine lp_X11_odds (inN hw0).1 (inN hw0).2 h20.1 h20.2 (fun rf2 g2 h1 h2 => ?_) (nN seeds) 0 _ _ _ _ (by omega) rfl hO ⟨hX, fun _ _ => rfl⟩ VF.rf rfl
          have q := hQ _ _ h1 h2
          rw [oddsP, if_pos hw0, if_pos hw1, if_pos hw2, if_pos hw3] at q
          exact q
        · refine xX11_odds_42_f (by decide) ?_
          refine xX11_odds_45 ?_
          refine xX11_odds_48 rfl rfl ?_
          have q := hQ _ _ ⟨hX, fun _ _ => rfl⟩ VF.rf
          rw [oddsP, if_pos hw0, if_pos hw1, if_pos hw2, if_neg nw3] at q
          exact q
      · refine xX11_odds_32_t (by decide) ?_
        refine xX11_odds_45 ?_
        refine xX11_odds_48 rfl rfl ?_
        have q := hQ _ _ ⟨hX, fun _ _ => rfl⟩ VF.rf
        rw [oddsP, if_pos hw0, if_pos hw1, if_neg nw2] at q
        exact q
    · refine xX11_odds_17_f (by decide) ?_
      refine xX11_odds_20 ?_
      refine xX11_odds_23 rfl rfl ?_
      have q := hQ _ _ ⟨hX, fun _ _ => rfl⟩ VF.rf
      rw [oddsP, if_pos hw0, if_neg nw1] at q
      exact q
  · refine xX11_odds_7_t (by decide) ?_
    refine xX11_odds_20 ?_
    refine xX11_odds_23 rfl rfl ?_
    have q := hQ _ _ ⟨hX, fun _ _ => rfl⟩ VF.rf
    rw [oddsP, if_neg nw0] at q
    exact q
