theorem hot_e {o : OV} {f : Nat → Int32} {r k : Nat} (h : r ≠ 1) : hotO o f 16 r k = o r k := if_neg (fun z => h z.1)
theorem badAll_h {o : OV} {ev : EV} {f br : Nat → Int32} : ∀ n, badAll (hotO o f 16) ev br n = badAll o ev br n := by
  intro n
  induction n with
  | zero => rfl
  | succ n ih =>
    show badAll _ ev br n + badX _ ev n (br n) = badAll o ev br n + badX o ev n (br n)
    rw [ih]
    unfold badX
    rw [hot_e (by decide), hot_e (by decide), hot_e (by decide), hot_e (by decide)]
theorem BRm.h {g : Nat → Nat → Int32} {o : OV} {f : Nat → Int32} {ev : EV} {n : Nat} (h : BRm g (hotO o f 16) ev n) : BRn g o (endB (hotO o f 16) ev) n := fun c hc => by
  have := h c hc _ (Nat.le_refl _)
  rw [hot_e (o := o) (f := f) (r := 0) (k := 9) (by decide)] at this
  rw [this]
  unfold endB
  rw [hot_e (o := o) (f := f) (r := 0) (k := 9) (by decide)]
theorem lp_X12_bakesBy {d : Nat} {sc : Nat × (Nat → Int32)} {T : List (Nat × Nat)} {rf : Nat → Nat → Option Nat} {o : OV} {nc : Nat} {g0 : Nat → Nat → Int32} {seed : Int32} {F : AH → Prop} (hM : MS T rf) (hQ : ∀ g2 b x4, (∀ a, a ≠ 54 → g2 a = g0 a) → OEq (MOv g2) (hotO o (hotD seed) 16) nc → Wp (d + 6) 0 0 sc kX12_bakesBy (Qv F) 48 [some (.ref 53), some (.int seed), some (.long b), none, some (.int x4)] [] (T, rf, g2) 0 0) : ∀ (k j : Nat) (b : Int64) (x4 : Int32) (g : Nat → Nat → Int32), (j + k = 16) → (x4 = nI j) → (b = lot seed j) → (∀ a, a ≠ 54 → g a = g0 a) → (OEq (MOv g) (hotO o (hotD seed) j) nc) → Wp (d + 6) 0 0 sc kX12_bakesBy (Qv F) 12 [some (.ref 53), some (.int seed), some (.long b), none, some (.int x4)] [] (T, rf, g) 0 0 := by
  intro k
  induction k with
  | zero =>
    intro j b x4 g hj hx4 hb hf hE9
    subst hx4
    refine xX12_bakesBy_12 ?_
    refine xX12_bakesBy_14 ?_
    refine xX12_bakesBy_16_t (nI_le (a := 16) (by omega) (by omega)) ?_
    have e : j = 16 := by omega
    subst e
    exact hQ _ _ _ hf hE9
  | succ k ih =>
    intro j b x4 g hj hx4 hb hf hE9
    subst hx4
    refine xX12_bakesBy_12 ?_
    refine xX12_bakesBy_14 ?_
    refine xX12_bakesBy_16_f (nI_ge (b := 16) (by omega) (by omega)) ?_
    refine xX12_bakesBy_19 ?_
    refine xX12_bakesBy_20 ?_
    refine xX12_bakesBy_23 ?_
    refine xX12_bakesBy_24 ?_
    refine xX12_bakesBy_27 (by decide) ?_
    refine xX12_bakesBy_28 rfl ?_
    refine xX12_bakesBy_29 ?_
    refine xX12_bakesBy_30 (hM.1 _ _ rfl) (hM.2 _ _ _ rfl) ?_
    refine xX12_bakesBy_33 ?_
    refine xX12_bakesBy_35 ?_
    refine xX12_bakesBy_36 ?_
    refine xX12_bakesBy_39 (by decide) ?_
    refine xX12_bakesBy_40 ?_
    refine xX12_bakesBy_41 (j := j) (hM.1 _ _ rfl) rfl (by omega) rfl ?_
    refine xX12_bakesBy_42 rfl rfl ?_
    refine xX12_bakesBy_45 ?_
    exact ih (j + 1) _ _ _ (by omega) (nI_1 _) (by rw [hb]; rfl) (fun a p => by rw [up_row p]; exact hf a p) (by
      have e : OEq (up (MOv g) 1 j (hotD seed j)) (hotO o (hotD seed) (j + 1)) nc := hotO_up ▸ hE9.up
      subst hb
      exact MO_1.tr e)
theorem s_X12_bakesBy {d : Nat} {sc : Nat × (Nat → Int32)} {T : List (Nat × Nat)} {rf : Nat → Nat → Option Nat} {o : OV} {nc t : Nat} {cs : Nat → List Int32} {g : Nat → Nat → Int32} {seed : Int32} {sN : Nat} {F : AH → Prop} (hC : MC T rf g o nc t cs) (es : seed = nI sN) (hs : sN ≤ 100100) (hQ : ∀ g2, OEq (MOv g2) o nc → MV g g2 → BRm g2 (hotO o (hotD seed) 16) (evL (lwM cs)) nc → F (T, rf, g2)) : Mok (d + 6) 0 0 sc kX12_bakesBy [.ref 53, .int seed] (T, rf, g) (Qv F) := by
  obtain ⟨hB, hP⟩ := id hC
  obtain ⟨hM, hE, hV, hlw, ht6, hL⟩ := id hB
  have hn8 := hV.2.1
  have e9 : g 53 1 = nI (nN (o 0 9)) := hE.1.2.2.1.trans hV.tN.1
  have ht40 := hV.tN.2.1
  have hcn0 : g 53 3 = nI nc := hE.1.1.trans hV.1
  refine Mok.ofWp (L := [some (.ref 53), some (.int seed), none, none, none]) rfl rfl rfl ?_
  refine xX12_bakesBy_0 ?_
  refine xX12_bakesBy_1 ?_
  refine xX12_bakesBy_2 ?_
  refine xX12_bakesBy_3 ?_
  refine xX12_bakesBy_4 rfl ?_
  refine xX12_bakesBy_5 ?_
  refine xX12_bakesBy_6 (hM.1 _ _ rfl) rfl rfl rfl (s_X12_keepsHot hM (fun g0 hq0 hi0 => ?_))
  refine xX12_bakesBy_9 ?_
  refine xX12_bakesBy_10 rfl ?_
  have kE : OEq (MOv g0) o nc := by
    have e : MOv g0 = MOv g := MOv.keep (fun a p q => hq0 a (by omega))
    rw [e]; exact hE
  have k76 : ∀ i, i < 16 → g0 76 i = o 1 i := fun i hi => (hi0 i hi).trans (hE.2.1 i hi)
  have kf : MV g g0 := MV.r (fun a _ q => hq0 a q)
  have kL : ML g0 t cs := hL.mv kf
  refine lp_X12_bakesBy hM (o := o) (nc := nc) (fun g9 b x4 h1 h2 => ?_) 16 0 _ _ _ (by omega) rfl rfl (fun _ _ => rfl) (by rw [hotO_0]; exact kE)
  refine xX12_bakesBy_48 ?_
  have h9 := mcE hM h2 (OVk_hotO (fun k _ => by rw [es]; exact hotD_nat (by omega) k) hV) (PI_hot hP) (hot_lw.trans hlw) ht6 (kL.keep (h1 _ (by omega)) (h1 _ (by omega)))
  refine xX12_bakesBy_49 (hM.1 _ _ rfl) rfl rfl rfl (s_X12_bakes h9 (fun g0 hm0 hb0 => ?_))
  refine xX12_bakesBy_52 ?_
  refine xX12_bakesBy_53 (hM.1 _ _ rfl) rfl rfl rfl (s_X12_laysHot hM (fun g1 hq1 hi1 => ?_))
  refine xX12_bakesBy_56 rfl rfl ?_
  exact hQ _ (MO_hot (h9.mz hm0).1.2.1 hq1 (fun i hi => (hi1 i hi).trans ((congrFun (hm0 76 (by omega) (by omega) (by omega)) i).trans ((congrFun (h1 76 (by omega)) i).trans (k76 i hi))))) (kf.tr ((MV.r (fun a p _ => h1 a p)).tr (hm0.mv.tr (MV.r (fun a p _ => hq1 a p))))) (hb0.row (hq1 73 (by omega)))
theorem s_X12_drawn {d : Nat} {sc : Nat × (Nat → Int32)} {T : List (Nat × Nat)} {rf : Nat → Nat → Option Nat} {o : OV} {nc t : Nat} {cs : Nat → List Int32} {g : Nat → Nat → Int32} {seed w : Int32} {F : Int32 → AH → Prop} (hC : MC T rf g o nc t cs) (hQ : ∀ g2, OEq (MOv g2) (o) nc → MV g g2 → F (drawnP o nc (evL (lwM cs)) seed w) (T, rf, g2)) : Mok (d + 7) 0 0 sc kX12_drawn [.ref 53, .int seed, .int w] (T, rf, g) (Qi F) := by
  obtain ⟨hB, hP⟩ := id hC
  obtain ⟨hM, hE, hV, hlw, ht6, hL⟩ := id hB
  have hn8 := hV.2.1
  have e9 : g 53 1 = nI (nN (o 0 9)) := hE.1.2.2.1.trans hV.tN.1
  have ht40 := hV.tN.2.1
  have hcn0 : g 53 3 = nI nc := hE.1.1.trans hV.1
  refine Mok.ofWp (L := [some (.ref 53), some (.int seed), some (.int w)]) rfl rfl rfl ?_
  refine xX12_drawn_0 ?_
  refine xX12_drawn_1 ?_
  refine xX12_drawn_2 ?_
  refine xX12_drawn_5 rfl rfl rfl (s_X12_in  (fun hw0 => ?_) (fun nw0 => ?_))
  · refine xX12_drawn_8_f (by decide) ?_
    refine xX12_drawn_11 ?_
    refine xX12_drawn_12 ?_
    refine xX12_drawn_13 ?_
    refine xX12_drawn_14 rfl rfl rfl (s_X12_in  (fun hw1 => ?_) (fun nw1 => ?_))
    · refine xX12_drawn_17_t (by decide) ?_
      refine xX12_drawn_23 ?_
      refine xX12_drawn_24 ?_
      have hse := (inN hw0).1
      have hs9 : nN seed ≤ 99999 := (inN hw0).2
      refine xX12_drawn_25 (hM.1 _ _ rfl) rfl rfl rfl (s_X12_bakesBy hC hse (by omega) (fun g2 he2 hv2 hb2 => ?_))
      refine xX12_drawn_28 ?_
      refine xX12_drawn_29 (fun c29 => ?_) (fun c29 => ?_)
      · refine xX12_drawn_39 ?_
        have hC9 := hC.mv he2 hV hP hlw ht6 (hL.mv hv2)
        have hbr : ∀ c, c < nc → ∃ b, b ≤ 999 ∧ endB (hotO o (hotD seed) 16) (evL (lwM cs)) c = nI b := fun c hc => brS_nat (OVk_hotO (fun k _ => by rw [hse]; exact hotD_nat (by omega) k) hV) hc _
        refine xX12_drawn_40 (hM.1 _ _ rfl) rfl rfl rfl (r_X12_apart hC9 hb2.h ?_)
        refine xX12_drawn_43 rfl rfl ?_
        first
          | (have q := hQ _ (hC9).1.2.1 (hv2.tr MV.rf); rw [drawnP, if_pos hw0, if_pos hw1, if_pos c29] at q; refine byEq q ?_; first | exact (badAll_h nc).symm | rfl)
          | (have q := hQ _ (hC9).1.2.1 (hv2.tr MV.rf); rw [drawnP, if_pos hw0, if_pos hw1, if_neg c29] at q; refine byEq q ?_; first | exact (badAll_h nc).symm | rfl)
      · refine xX12_drawn_32 ?_
        have hC9 := hC.mv he2 hV hP hlw ht6 (hL.mv hv2)
        have hbr : ∀ c, c < nc → ∃ b, b ≤ 999 ∧ endB (hotO o (hotD seed) 16) (evL (lwM cs)) c = nI b := fun c hc => brS_nat (OVk_hotO (fun k _ => by rw [hse]; exact hotD_nat (by omega) k) hV) hc _
        refine xX12_drawn_33 (hM.1 _ _ rfl) rfl rfl rfl (r_X12_badOfAll hC9 hb2.h hbr (fun g4 hy4 => ?_))
        refine xX12_drawn_36 ?_
        refine xX12_drawn_43 rfl rfl ?_
        first
          | (have q := hQ _ (hC9.my hy4).1.2.1 (hv2.tr hy4.mv); rw [drawnP, if_pos hw0, if_pos hw1, if_pos c29] at q; refine byEq q ?_; first | exact (badAll_h nc).symm | rfl)
          | (have q := hQ _ (hC9.my hy4).1.2.1 (hv2.tr hy4.mv); rw [drawnP, if_pos hw0, if_pos hw1, if_neg c29] at q; refine byEq q ?_; first | exact (badAll_h nc).symm | rfl)
    · refine xX12_drawn_17_f (by decide) ?_
      refine xX12_drawn_20 ?_
      refine xX12_drawn_22 rfl rfl ?_
      have q := hQ _ (hC.mz (MZ.rf)).1.2.1 (MZ.rf).mv
      rw [drawnP, if_pos hw0, if_neg nw1] at q
      exact q
  · refine xX12_drawn_8_t (by decide) ?_
    refine xX12_drawn_20 ?_
    refine xX12_drawn_22 rfl rfl ?_
    have q := hQ _ (hC.mz (MZ.rf)).1.2.1 (MZ.rf).mv
    rw [drawnP, if_neg nw0] at q
    exact q
theorem lp_X12_lowest {d : Nat} {sc : Nat × (Nat → Int32)} {h : AH} {F : Int64 → AH → Prop} {a0 b0 : Int64} {p : Int32} {G : Nat} (hG : 0 < G) (hG2 : G < 1000) (hQ : F ((if p = 0 then a0 else b0) / lI G) h) : ∀ (k j : Nat) (xa xb : Int64) (a b : Nat), (b ≤ k) → (xa = lI a) → (xb = lI b) → (a < 1000 ∧ b < 1000) → (Nat.gcd a b = G) → Wp d 0 0 sc kX12_lowest (Ql F) 16 [some (.long a0), none, some (.long b0), none, some (.int p), some (.long xa), none, some (.long xb), none, none, none] [] h 0 0 := by
  intro k
  induction k with
  | zero =>
    intro j xa xb a b hj ha hb hk hg
    subst ha
    subst hb
    refine xX12_lowest_16 ?_
    refine xX12_lowest_18 ?_
    refine xX12_lowest_19 ?_
    refine xX12_lowest_20 (fun cz => ?_) (fun cz => ?_)
    · have hz : b = 0 := (lI_0 (by omega)).mp (lgc.mp cz)
      subst hz
      rw [Nat.gcd_zero_right] at hg
      subst hg
      refine xX12_lowest_41 ?_
      refine xX12_lowest_43 (fun cp => ?_) (fun cp => ?_)
      · refine xX12_lowest_50 ?_
        refine xX12_lowest_51 ?_
        refine xX12_lowest_53 (fun z => absurd ((lI_0 (by omega)).mp z) (by omega)) ?_
        refine xX12_lowest_54 rfl rfl ?_
        first
          | (rw [if_pos cp] at hQ; exact hQ)
          | (rw [if_neg cp] at hQ; exact hQ)
      · refine xX12_lowest_46 ?_
        refine xX12_lowest_47 ?_
        refine xX12_lowest_51 ?_
        refine xX12_lowest_53 (fun z => absurd ((lI_0 (by omega)).mp z) (by omega)) ?_
        refine xX12_lowest_54 rfl rfl ?_
        first
          | (rw [if_pos cp] at hQ; exact hQ)
          | (rw [if_neg cp] at hQ; exact hQ)
    · exact absurd (lgc.mpr ((lI_0 (by omega)).mpr (show b = 0 by omega))) cz
  | succ k ih =>
    intro j xa xb a b hj ha hb hk hg
    subst ha
    subst hb
    refine xX12_lowest_16 ?_
    refine xX12_lowest_18 ?_
    refine xX12_lowest_19 ?_
    refine xX12_lowest_20 (fun cz => ?_) (fun cz => ?_)
    · have hz : b = 0 := (lI_0 (by omega)).mp (lgc.mp cz)
      subst hz
      rw [Nat.gcd_zero_right] at hg
      subst hg
      refine xX12_lowest_41 ?_
      refine xX12_lowest_43 (fun cp => ?_) (fun cp => ?_)
      · refine xX12_lowest_50 ?_
        refine xX12_lowest_51 ?_
        refine xX12_lowest_53 (fun z => absurd ((lI_0 (by omega)).mp z) (by omega)) ?_
        refine xX12_lowest_54 rfl rfl ?_
        first
          | (rw [if_pos cp] at hQ; exact hQ)
          | (rw [if_neg cp] at hQ; exact hQ)
      · refine xX12_lowest_46 ?_
        refine xX12_lowest_47 ?_
        refine xX12_lowest_51 ?_
        refine xX12_lowest_53 (fun z => absurd ((lI_0 (by omega)).mp z) (by omega)) ?_
        refine xX12_lowest_54 rfl rfl ?_
        first
          | (rw [if_pos cp] at hQ; exact hQ)
          | (rw [if_neg cp] at hQ; exact hQ)
    · have hz : b ≠ 0 := fun z => cz (lgc.mpr ((lI_0 (by omega)).mpr z))
      refine xX12_lowest_23 ?_
      refine xX12_lowest_25 ?_
      refine xX12_lowest_27 (fun z => hz ((lI_0 (by omega)).mp z)) ?_
      refine xX12_lowest_28 rfl ?_
      refine xX12_lowest_30 ?_
      refine xX12_lowest_32 rfl ?_
      refine xX12_lowest_34 ?_
      refine xX12_lowest_36 rfl ?_
      refine xX12_lowest_38 ?_
      refine wp_kill_9 ?_
      have hm := Nat.mod_lt a (Nat.pos_of_ne_zero hz)
      exact ih (j + 1) _ _ b (a % b) (by omega) rfl (lI_rem hk.1 hk.2) (by omega) (by rw [← hg, Nat.gcd_comm a b, Nat.gcd_rec b a, Nat.gcd_comm (a % b) b])
theorem s_X12_lowest {d : Nat} {sc : Nat × (Nat → Int32)} {h : AH} {F : Int64 → AH → Prop} {p : Int32} {a b : Nat} (hk : a < 1000 ∧ b < 1000) (hb0 : 0 < b) (hQ : F (if a = 0 then p.toInt64 else (if p = 0 then lI a else lI b) / lI (Nat.gcd a b)) h) : Mok d 0 0 sc kX12_lowest [.long (lI a), .long (lI b), .int p] h (Ql F) := by
  refine Mok.ofWp (L := [some (.long (lI a)), none, some (.long (lI b)), none, some (.int p), none, none, none, none, none, none]) rfl rfl rfl ?_
  refine xX12_lowest_0 ?_
  refine xX12_lowest_1 ?_
  refine xX12_lowest_2 ?_
  refine xX12_lowest_3 (fun cz => ?_) (fun cz => ?_)
  · have hz : a ≠ 0 := fun z => cz (lgc.mpr ((lI_0 (by omega)).mpr z))
    rw [if_neg hz] at hQ
    refine xX12_lowest_10 ?_
    refine xX12_lowest_11 rfl ?_
    refine xX12_lowest_13 ?_
    refine xX12_lowest_14 rfl ?_
    have hg0 := Nat.gcd_pos_of_pos_right a hb0
    have hg1 := Nat.gcd_le_right a hb0
    exact lp_X12_lowest hg0 (by omega) hQ b 0 _ _ a b (Nat.le_refl _) rfl rfl hk rfl
  · have hz : a = 0 := (lI_0 (by omega)).mp (lgc.mp cz)
    rw [if_pos hz] at hQ
    refine xX12_lowest_6 ?_
    refine xX12_lowest_8 ?_
    refine xX12_lowest_9 rfl rfl ?_
    exact hQ
theorem mx1_g {g : Nat} (h : 0 < g) (h2 : g < 1000) : mx1 (nI g) = nI g := by
  unfold mx1
  by_cases q : 1 < g
  · rw [if_pos (show (1 : Int32) < nI g from nI_lt (a := 1) q (by omega))]
  · have : g = 1 := by omega
    subst this
    rfl
/-- in lowest terms, either way -/
theorem odds_eq {a N : Nat} {p : Int32} (ha : a ≤ N) (hN : 0 < N) (hN2 : N ≤ 20) (hp : 0 ≤ p ∧ p ≤ 1) : (if a = 0 then p.toInt64 else (if p = 0 then lI a else lI N) / lI (Nat.gcd a N)) = ((if p = 0 then nI a else nI N) / mx1 (cdv 100 (nI a) (nI N))).toInt64 := by
  rw [cdv_g 100 (by omega) (by omega) (by omega)]
  have hg := Nat.gcd_pos_of_pos_right a hN
  have hg2 := Nat.gcd_le_right a hN
  rw [mx1_g hg (by omega)]
  obtain ⟨j, hj, rfl⟩ := iIn (N := 1) (M := 1) rfl hp.1 hp.2
  have hd := Nat.div_le_self a (Nat.gcd a N)
  have hd2 := Nat.div_le_self N (Nat.gcd a N)
  rcases (by omega : j = 0 ∨ j = 1) with rfl | rfl
  · rw [if_pos (show nI 0 = 0 from rfl), if_pos (show nI 0 = 0 from rfl), lI_div (by omega) (by omega), nI_divN (by omega) (by omega)]
    by_cases z : a = 0
    · subst z
      rw [if_pos rfl, Nat.zero_div]
    · rw [if_neg z]; rfl
  · rw [if_neg (show ¬ nI 1 = 0 by decide), if_neg (show ¬ nI 1 = 0 by decide), lI_div (by omega) (by omega), nI_divN (by omega) (by omega)]
    by_cases z : a = 0
    · subst z
      rw [if_pos rfl, Nat.gcd_zero_left, Nat.div_self hN]
    · rw [if_neg z]; rfl
theorem lI_1 {n : Nat} (h : n < 1000) : lI n + 1 = lI (n + 1) := by
  apply Int64.toInt_inj.mp
  rw [Int64.toInt_add, lI_T (by omega), lI_T (by omega)]
  rw [show (1 : Int64).toInt = 1 from rfl, lBm2 (by omega) (by omega)]
  omega
theorem lp_X12_odds {d : Nat} {sc : Nat × (Nat → Int32)} {T : List (Nat × Nat)} {rf : Nat → Nat → Option Nat} {o : OV} {nc t : Nat} {cs : Nat → List Int32} {g0 : Nat → Nat → Int32} {F : Int64 → AH → Prop} {seed seeds far part S : Int32} {sN N : Nat} (hse : seed = nI sN) (hsN : sN ≤ 99999) (hN : seeds = nI N) (hN20 : N ≤ 20) (hN0 : 0 < N) (hp : 0 ≤ part ∧ part ≤ 1) (hQ : ∀ g2, OEq (MOv g2) o nc → MV g0 g2 → F ((if part = 0 then S else seeds) / mx1 (cdv 100 S seeds)).toInt64 (T, rf, g2)) : ∀ (k j : Nat) (b : Int64) (x7 : Int32) (g : Nat → Nat → Int32) (a : Nat), (j + k = N) → (x7 = nI j) → (MC T rf g o nc t cs) → (MV g0 g) → (b = lI a) → (a ≤ j) → (evenF o nc (evL (lwM cs)) seed far k j (nI a) = S) → Wp (d + 7) 0 0 sc kX12_odds (Ql F) 52 [some (.ref 53), some (.int seed), some (.int seeds), some (.int far), some (.int part), some (.long b), none, some (.int x7)] [] (T, rf, g) 0 0 := by
  intro k
  induction k with
  | zero =>
    intro j b x7 g a hj hx7 hC hf hb ha hS
    obtain ⟨hB, hP⟩ := id hC
    obtain ⟨hM, hE, hV, hlw, ht6, hL⟩ := id hB
    have hn8 := hV.2.1
    have e9 : g 53 1 = nI (nN (o 0 9)) := hE.1.2.2.1.trans hV.tN.1
    have ht40 := hV.tN.2.1
    have hcn0 : g 53 3 = nI nc := hE.1.1.trans hV.1
    subst hx7
    subst hb
    subst hN
    refine xX12_odds_52 ?_
    refine xX12_odds_54 ?_
    refine xX12_odds_55_t (nI_le (by omega) (by omega)) ?_
    refine xX12_odds_90 ?_
    refine xX12_odds_92 ?_
    refine xX12_odds_93 ?_
    refine xX12_odds_94 ?_
    refine xX12_odds_96 rfl rfl rfl (s_X12_lowest (a := a) (b := N) (by omega) hN0 ?_)
    refine xX12_odds_99 rfl rfl ?_
    have e : j = N := by omega
    subst e
    have hS9 : nI a = S := hS
    subst hS9
    rw [odds_eq ha hN0 hN20 hp]
    exact hQ _ hE hf
  | succ k ih =>
    intro j b x7 g a hj hx7 hC hf hb ha hS
    obtain ⟨hB, hP⟩ := id hC
    obtain ⟨hM, hE, hV, hlw, ht6, hL⟩ := id hB
    have hn8 := hV.2.1
    have e9 : g 53 1 = nI (nN (o 0 9)) := hE.1.2.2.1.trans hV.tN.1
    have ht40 := hV.tN.2.1
    have hcn0 : g 53 3 = nI nc := hE.1.1.trans hV.1
    subst hx7
    subst hb
    subst hN
    refine xX12_odds_52 ?_
    refine xX12_odds_54 ?_
    refine xX12_odds_55_f (nI_ge (by omega) (by omega)) ?_
    refine xX12_odds_58 ?_
    refine xX12_odds_59 ?_
    refine xX12_odds_60 ?_
    refine xX12_odds_62 ?_
    have ese : seed + nI j = nI (sN + j) := by rw [hse, nI_add]
    rw [ese]
    refine xX12_odds_63 (hM.1 _ _ rfl) rfl rfl rfl (s_X12_bakesBy hC rfl (by omega) (fun g0 he0 hv0 hb0 => ?_))
    refine xX12_odds_66 ?_
    refine xX12_odds_68 ?_
    refine xX12_odds_69 (hM.1 _ _ rfl) rfl rfl rfl (r_X12_apart (hC.mv he0 hV hP hlw ht6 (hL.mv hv0)) hb0.h ?_)
    refine xX12_odds_72 ?_
    refine xX12_odds_73 (fun cc => ?_) (fun cc => ?_)
    · have e : evenF o nc (evL (lwM cs)) seed far (k + 1) j (nI a) = evenF o nc (evL (lwM cs)) seed far k (j + 1) (nI a + 0) := congrArg (fun z => evenF o nc (evL (lwM cs)) seed far k (j + 1) (nI a + z)) (if_neg (by rw [ese]; exact Int32.not_le.mpr cc))
      refine xX12_odds_80 ?_
      refine xX12_odds_81 ?_
      refine xX12_odds_82 rfl ?_
      refine xX12_odds_84 rfl rfl ?_
      refine xX12_odds_87 ?_
      first
        | exact ih (j + 1) _ _ _ a (by omega) (nI_1 _) (hC.mv he0 hV hP hlw ht6 (hL.mv hv0)) (hf.tr hv0) (by rw [Int64.add_zero]) (by omega) (by rw [Int32.add_zero] at e; exact e.symm.trans hS)
        | exact ih (j + 1) _ _ _ (a + 1) (by omega) (nI_1 _) (hC.mv he0 hV hP hlw ht6 (hL.mv hv0)) (hf.tr hv0) (lI_1 (by omega)) (by omega) (by rw [show nI a + 1 = nI (a + 1) from nI_1 a] at e; exact e.symm.trans hS)
    · have e : evenF o nc (evL (lwM cs)) seed far (k + 1) j (nI a) = evenF o nc (evL (lwM cs)) seed far k (j + 1) (nI a + 1) := congrArg (fun z => evenF o nc (evL (lwM cs)) seed far k (j + 1) (nI a + z)) (if_pos (by rw [ese]; exact Int32.not_lt.mp cc))
      refine xX12_odds_76 ?_
      refine xX12_odds_77 ?_
      refine xX12_odds_81 ?_
      refine xX12_odds_82 rfl ?_
      refine xX12_odds_84 rfl rfl ?_
      refine xX12_odds_87 ?_
      first
        | exact ih (j + 1) _ _ _ a (by omega) (nI_1 _) (hC.mv he0 hV hP hlw ht6 (hL.mv hv0)) (hf.tr hv0) (by rw [Int64.add_zero]) (by omega) (by rw [Int32.add_zero] at e; exact e.symm.trans hS)
        | exact ih (j + 1) _ _ _ (a + 1) (by omega) (nI_1 _) (hC.mv he0 hV hP hlw ht6 (hL.mv hv0)) (hf.tr hv0) (lI_1 (by omega)) (by omega) (by rw [show nI a + 1 = nI (a + 1) from nI_1 a] at e; exact e.symm.trans hS)
theorem s_X12_odds {d : Nat} {sc : Nat × (Nat → Int32)} {T : List (Nat × Nat)} {rf : Nat → Nat → Option Nat} {o : OV} {nc t : Nat} {cs : Nat → List Int32} {g : Nat → Nat → Int32} {seed seeds far part : Int32} {F : Int64 → AH → Prop} (hC : MC T rf g o nc t cs) (hQ : ∀ g2, OEq (MOv g2) (o) nc → MV g g2 → F (oddsP o nc (evL (lwM cs)) seed seeds far part) (T, rf, g2)) : Mok (d + 7) 0 0 sc kX12_odds [.ref 53, .int seed, .int seeds, .int far, .int part] (T, rf, g) (Ql F) := by
  obtain ⟨hB, hP⟩ := id hC
  obtain ⟨hM, hE, hV, hlw, ht6, hL⟩ := id hB
  have hn8 := hV.2.1
  have e9 : g 53 1 = nI (nN (o 0 9)) := hE.1.2.2.1.trans hV.tN.1
  have ht40 := hV.tN.2.1
  have hcn0 : g 53 3 = nI nc := hE.1.1.trans hV.1
  refine Mok.ofWp (L := [some (.ref 53), some (.int seed), some (.int seeds), some (.int far), some (.int part), none, none, none]) rfl rfl rfl ?_
  refine xX12_odds_0 ?_
  refine xX12_odds_1 ?_
  refine xX12_odds_2 ?_
  refine xX12_odds_5 rfl rfl rfl (s_X12_in  (fun hw0 => ?_) (fun nw0 => ?_))
  · refine xX12_odds_8_f (by decide) ?_
    refine xX12_odds_11 ?_
    refine xX12_odds_12 ?_
    refine xX12_odds_13 ?_
    refine xX12_odds_15 rfl rfl rfl (s_X12_in  (fun hw1 => ?_) (fun nw1 => ?_))
    · refine xX12_odds_18_f (by decide) ?_
      refine xX12_odds_21 ?_
      refine xX12_odds_22 ?_
      refine xX12_odds_23 ?_
      refine xX12_odds_26 rfl rfl rfl (s_X12_in  (fun hw2 => ?_) (fun nw2 => ?_))
      · refine xX12_odds_29_f (by decide) ?_
        refine xX12_odds_32 ?_
        refine xX12_odds_34 ?_
        refine xX12_odds_35 ?_
        refine xX12_odds_36 rfl rfl rfl (s_X12_in  (fun hw3 => ?_) (fun nw3 => ?_))
        · refine xX12_odds_39_t (by decide) ?_
          refine xX12_odds_46 ?_
          refine xX12_odds_47 rfl ?_
          refine xX12_odds_49 ?_
          refine xX12_odds_50 rfl ?_
          have h20 := inN (v := seeds) (M := 20) ⟨Int32.le_trans (by decide) hw1.1, hw1.2⟩
          have h21 : 0 < nN seeds := by
            have := iLe.mp hw1.1
            have : 1 ≤ seeds.toInt := this
            unfold nN; omega
          refine lp_X12_odds (inN hw0).1 (inN hw0).2 h20.1 h20.2 h21 hw3 (fun g2 h1 h2 => ?_) (nN seeds) 0 _ _ _ 0 (by omega) rfl hC MV.rf rfl (Nat.le_refl _) rfl
          have q := hQ _ h1 h2
          rw [oddsP, if_pos hw0, if_pos hw1, if_pos hw2, if_pos hw3] at q
          exact q
        · refine xX12_odds_39_f (by decide) ?_
          refine xX12_odds_42 ?_
          refine xX12_odds_45 rfl rfl ?_
          have q := hQ _ hE MV.rf
          rw [oddsP, if_pos hw0, if_pos hw1, if_pos hw2, if_neg nw3] at q
          exact q
      · refine xX12_odds_29_t (by decide) ?_
        refine xX12_odds_42 ?_
        refine xX12_odds_45 rfl rfl ?_
        have q := hQ _ hE MV.rf
        rw [oddsP, if_pos hw0, if_pos hw1, if_neg nw2] at q
        exact q
    · refine xX12_odds_18_t (by decide) ?_
      refine xX12_odds_42 ?_
      refine xX12_odds_45 rfl rfl ?_
      have q := hQ _ hE MV.rf
      rw [oddsP, if_pos hw0, if_neg nw1] at q
      exact q
  · refine xX12_odds_8_t (by decide) ?_
    refine xX12_odds_42 ?_
    refine xX12_odds_45 rfl rfl ?_
    have q := hQ _ hE MV.rf
    rw [oddsP, if_neg nw0] at q
    exact q
