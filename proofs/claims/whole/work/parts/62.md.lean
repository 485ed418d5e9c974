theorem plM {g : Nat → Nat → Int32} {x : OV} {nc k : Nat} {a b v : Int32} (h : OEq (MOv g) x nc) (hv : v = nI k + 1) : OEq (MOv (up (up (up g 59 k a) 60 k b) 53 10 v)) (pl x k a b) nc := by
  subst hv
  exact MO_f8.tr (MO_7.tr (MO_6.tr h.up).up).up
theorem keepRow {g g' : Nat → Nat → Int32} {a b j n : Nat} {f : Nat → Int32} (h : ∀ i, i < j → g a i = f i) (e : ∀ i, i ≠ j → g' a i = g a i) (ej : g' a j = f j) : ∀ i, i < j + 1 → g' a i = f i := by
  intro i hi
  by_cases z : i = j
  · rw [z]; exact ej
  · rw [e i z]; exact h i (by omega)
theorem s_X12_plans {d : Nat} {sc : Nat × (Nat → Int32)} {T : List (Nat × Nat)} {rf : Nat → Nat → Option Nat} {g : Nat → Nat → Int32} {k : Nat} {x1 a b : Int32} {F : AH → Prop} (hM : MS T rf) (h1 : x1 = nI k) (hk : k < 6) (hQ : ∀ g2, (∀ (x : OV) n, OEq (MOv g) x n → OEq (MOv g2) (pl x k a b) n) → MV g g2 → (∀ o : OV, KPl g o → KPl g2 o) → F (T, rf, g2)) : Mok d 0 0 sc kX12_plans [.ref 53, .int x1, .int a, .int b] (T, rf, g) (Qv F) := by
  refine Mok.ofWp (L := [some (.ref 53), some (.int x1), some (.int a), some (.int b)]) rfl rfl rfl ?_
  refine xX12_plans_0 ?_
  refine xX12_plans_1 (hM.1 _ _ rfl) (hM.2 _ _ _ rfl) ?_
  refine xX12_plans_4 ?_
  refine xX12_plans_5 ?_
  refine xX12_plans_6 (j := k) (hM.1 _ _ rfl) h1 hk rfl ?_
  refine xX12_plans_7 ?_
  refine xX12_plans_8 (hM.1 _ _ rfl) (hM.2 _ _ _ rfl) ?_
  refine xX12_plans_11 ?_
  refine xX12_plans_12 ?_
  refine xX12_plans_13 (j := k) (hM.1 _ _ rfl) h1 hk rfl ?_
  refine xX12_plans_14 ?_
  refine xX12_plans_15 ?_
  refine xX12_plans_16 ?_
  refine xX12_plans_17 ?_
  refine xX12_plans_18 (hM.1 _ _ rfl) ?_
  refine xX12_plans_21 rfl rfl ?_
  exact hQ _ (fun x n h => plM h (by rw [h1])) (((MV.pu (by omega)).tr (MV.pu (by omega))).tr (MV.uf (by omega))) (fun o h => h.e (by rw [up_row (by omega), up_row (by omega), up_row (by omega)]) (by rw [up_row (by omega), up_row (by omega), up_row (by omega)]) (by rw [up_ne (by omega), up_row (by omega), up_row (by omega)]))
theorem lp_X12_keepsPlan {d : Nat} {sc : Nat × (Nat → Int32)} {T : List (Nat × Nat)} {rf : Nat → Nat → Option Nat} {g0 : Nat → Nat → Int32} {F : AH → Prop} (hM : MS T rf) (hQ : ∀ g2, (∀ a, a ≠ 74 → a ≠ 75 → g2 a = g0 a) → (∀ k, k < 6 → g2 74 k = g0 59 k) → (∀ k, k < 6 → g2 75 k = g0 60 k) → F (T, rf, g2)) : ∀ (k j : Nat) (x1 : Int32) (g : Nat → Nat → Int32), (j + k = 6) → (x1 = nI j) → (∀ a, a ≠ 74 → a ≠ 75 → g a = g0 a) → (∀ k, k < j → g 74 k = g0 59 k) → (∀ k, k < j → g 75 k = g0 60 k) → Wp d 0 0 sc kX12_keepsPlan (Qv F) 10 [some (.ref 53), some (.int x1)] [] (T, rf, g) 0 0 := by
  intro k
  induction k with
  | zero =>
    intro j x1 g hj hx1 hf ha hb
    subst hx1
    refine xX12_keepsPlan_10 ?_
    refine xX12_keepsPlan_11 ?_
    refine xX12_keepsPlan_13_t (nI_le (a := 6) (by omega) (by omega)) ?_
    refine xX12_keepsPlan_46 rfl rfl ?_
    have e : j = 6 := by omega
    subst e
    exact hQ _ hf ha hb
  | succ k ih =>
    intro j x1 g hj hx1 hf ha hb
    subst hx1
    refine xX12_keepsPlan_10 ?_
    refine xX12_keepsPlan_11 ?_
    refine xX12_keepsPlan_13_f (nI_ge (b := 6) (by omega) (by omega)) ?_
    refine xX12_keepsPlan_16 ?_
    refine xX12_keepsPlan_17 (hM.1 _ _ rfl) (hM.2 _ _ _ rfl) ?_
    refine xX12_keepsPlan_20 ?_
    refine xX12_keepsPlan_21 ?_
    refine xX12_keepsPlan_22 (hM.1 _ _ rfl) (hM.2 _ _ _ rfl) ?_
    refine xX12_keepsPlan_25 ?_
    refine xX12_keepsPlan_26 (j := j) (hM.1 _ _ rfl) rfl (by omega) rfl ?_
    refine xX12_keepsPlan_27 (j := j) (hM.1 _ _ rfl) rfl (by omega) rfl ?_
    refine xX12_keepsPlan_28 ?_
    refine xX12_keepsPlan_29 (hM.1 _ _ rfl) (hM.2 _ _ _ rfl) ?_
    refine xX12_keepsPlan_32 ?_
    refine xX12_keepsPlan_33 ?_
    refine xX12_keepsPlan_34 (hM.1 _ _ rfl) (hM.2 _ _ _ rfl) ?_
    refine xX12_keepsPlan_37 ?_
    refine xX12_keepsPlan_38 (j := j) (hM.1 _ _ rfl) rfl (by omega) rfl ?_
    refine xX12_keepsPlan_39 (j := j) (hM.1 _ _ rfl) rfl (by omega) rfl ?_
    refine xX12_keepsPlan_40 rfl rfl ?_
    refine xX12_keepsPlan_43 ?_
    exact ih (j + 1) _ _ (by omega) (nI_1 _) (fun a p q => by rw [up_row q, up_row p]; exact hf a p q) (fun i hi => by
      rw [up_row (by omega)]
      by_cases z : i = j
      · subst z; rw [up_same, hf 59 (by omega) (by omega)]
      · rw [up_ne (by omega)]; exact ha i (by omega)) (fun i hi => by
      by_cases z : i = j
      · subst z; rw [up_same, up_row (by omega), hf 60 (by omega) (by omega)]
      · rw [up_ne (by omega), up_row (by omega)]; exact hb i (by omega))
theorem s_X12_keepsPlan {d : Nat} {sc : Nat × (Nat → Int32)} {T : List (Nat × Nat)} {rf : Nat → Nat → Option Nat} {g : Nat → Nat → Int32} {o : OV} {nc : Nat} {F : AH → Prop} (hM : MS T rf) (hE : OEq (MOv g) o nc) (hQ : ∀ g2, KPl g2 o → OEq (MOv g2) o nc → MV g g2 → F (T, rf, g2)) : Mok d 0 0 sc kX12_keepsPlan [.ref 53] (T, rf, g) (Qv F) := by
  refine Mok.ofWp (L := [some (.ref 53), none]) rfl rfl rfl ?_
  refine xX12_keepsPlan_0 ?_
  refine xX12_keepsPlan_1 ?_
  refine xX12_keepsPlan_2 (hM.1 _ _ rfl) ?_
  refine xX12_keepsPlan_5 (hM.1 _ _ rfl) ?_
  refine xX12_keepsPlan_8 ?_
  refine xX12_keepsPlan_9 rfl ?_
  refine lp_X12_keepsPlan hM (fun g2 h1 h2 h3 => ?_) 6 0 _ _ (by omega) rfl (fun _ _ _ => rfl) (fun k hk => absurd hk (Nat.not_lt_zero k)) (fun k hk => absurd hk (Nat.not_lt_zero k))
  have e53 : g2 53 = up g 53 42 (g 53 10) 53 := h1 53 (by omega) (by omega)
  refine hQ g2 ⟨by rw [e53, up_same]; exact hE.1.2.1, fun k hk => ⟨?_, ?_⟩⟩ ?_ ?_
  · rw [h2 k hk, up_row (by omega)]; exact (hE.2.2.2 k hk).1
  · rw [h3 k hk, up_row (by omega)]; exact (hE.2.2.2 k hk).2
  · rw [MOv.keep (g := up g 53 42 (g 53 10)) (fun a p q => h1 a (by omega) (by omega))]; exact MO_g42.tr hE
  · exact ⟨fun a p => by rw [h1 a (by omega) (by omega), up_row (by omega)], fun k _ _ _ _ _ p _ => by rw [e53, up_ne (fun z => p z.2)]⟩
theorem lp_X12_laysPlan {d : Nat} {sc : Nat × (Nat → Int32)} {T : List (Nat × Nat)} {rf : Nat → Nat → Option Nat} {g0 : Nat → Nat → Int32} {F : AH → Prop} (hM : MS T rf) (hQ : ∀ g2, (∀ a, a ≠ 59 → a ≠ 60 → g2 a = g0 a) → (∀ k, k < 6 → g2 59 k = g0 74 k) → (∀ k, k < 6 → g2 60 k = g0 75 k) → F (T, rf, g2)) : ∀ (k j : Nat) (x1 : Int32) (g : Nat → Nat → Int32), (j + k = 6) → (x1 = nI j) → (∀ a, a ≠ 59 → a ≠ 60 → g a = g0 a) → (∀ k, k < j → g 59 k = g0 74 k) → (∀ k, k < j → g 60 k = g0 75 k) → Wp d 0 0 sc kX12_laysPlan (Qv F) 10 [some (.ref 53), some (.int x1)] [] (T, rf, g) 0 0 := by
  intro k
  induction k with
  | zero =>
    intro j x1 g hj hx1 hf ha hb
    subst hx1
    refine xX12_laysPlan_10 ?_
    refine xX12_laysPlan_11 ?_
    refine xX12_laysPlan_13_t (nI_le (a := 6) (by omega) (by omega)) ?_
    refine xX12_laysPlan_46 rfl rfl ?_
    have e : j = 6 := by omega
    subst e
    exact hQ _ hf ha hb
  | succ k ih =>
    intro j x1 g hj hx1 hf ha hb
    subst hx1
    refine xX12_laysPlan_10 ?_
    refine xX12_laysPlan_11 ?_
    refine xX12_laysPlan_13_f (nI_ge (b := 6) (by omega) (by omega)) ?_
    refine xX12_laysPlan_16 ?_
    refine xX12_laysPlan_17 (hM.1 _ _ rfl) (hM.2 _ _ _ rfl) ?_
    refine xX12_laysPlan_20 ?_
    refine xX12_laysPlan_21 ?_
    refine xX12_laysPlan_22 (hM.1 _ _ rfl) (hM.2 _ _ _ rfl) ?_
    refine xX12_laysPlan_25 ?_
    refine xX12_laysPlan_26 (j := j) (hM.1 _ _ rfl) rfl (by omega) rfl ?_
    refine xX12_laysPlan_27 (j := j) (hM.1 _ _ rfl) rfl (by omega) rfl ?_
    refine xX12_laysPlan_28 ?_
    refine xX12_laysPlan_29 (hM.1 _ _ rfl) (hM.2 _ _ _ rfl) ?_
    refine xX12_laysPlan_32 ?_
    refine xX12_laysPlan_33 ?_
    refine xX12_laysPlan_34 (hM.1 _ _ rfl) (hM.2 _ _ _ rfl) ?_
    refine xX12_laysPlan_37 ?_
    refine xX12_laysPlan_38 (j := j) (hM.1 _ _ rfl) rfl (by omega) rfl ?_
    refine xX12_laysPlan_39 (j := j) (hM.1 _ _ rfl) rfl (by omega) rfl ?_
    refine xX12_laysPlan_40 rfl rfl ?_
    refine xX12_laysPlan_43 ?_
    exact ih (j + 1) _ _ (by omega) (nI_1 _) (fun a p q => by rw [up_row q, up_row p]; exact hf a p q) (fun i hi => by
      rw [up_row (by omega)]
      by_cases z : i = j
      · subst z; rw [up_same, hf 74 (by omega) (by omega)]
      · rw [up_ne (by omega)]; exact ha i (by omega)) (fun i hi => by
      by_cases z : i = j
      · subst z; rw [up_same, up_row (by omega), hf 75 (by omega) (by omega)]
      · rw [up_ne (by omega), up_row (by omega)]; exact hb i (by omega))
theorem s_X12_laysPlan {d : Nat} {sc : Nat × (Nat → Int32)} {T : List (Nat × Nat)} {rf : Nat → Nat → Option Nat} {g : Nat → Nat → Int32} {o : OV} {nc : Nat} {F : AH → Prop} (hM : MS T rf) (hR : OEr (MOv g) o nc) (hK : KPl g o) (hQ : ∀ g2, OEq (MOv g2) o nc → MV g g2 → F (T, rf, g2)) : Mok d 0 0 sc kX12_laysPlan [.ref 53] (T, rf, g) (Qv F) := by
  refine Mok.ofWp (L := [some (.ref 53), none]) rfl rfl rfl ?_
  refine xX12_laysPlan_0 ?_
  refine xX12_laysPlan_1 ?_
  refine xX12_laysPlan_2 (hM.1 _ _ rfl) ?_
  refine xX12_laysPlan_5 (hM.1 _ _ rfl) ?_
  refine xX12_laysPlan_8 ?_
  refine xX12_laysPlan_9 rfl ?_
  refine lp_X12_laysPlan hM (fun g2 h1 h2 h3 => ?_) 6 0 _ _ (by omega) rfl (fun _ _ _ => rfl) (fun k hk => absurd hk (Nat.not_lt_zero k)) (fun k hk => absurd hk (Nat.not_lt_zero k))
  have e53 : g2 53 = up g 53 10 (g 53 42) 53 := h1 53 (by omega) (by omega)
  have er : ∀ a, a ≠ 59 → a ≠ 60 → a ≠ 53 → g2 a = g a := fun a p q r => by rw [h1 a p q, up_row r]
  obtain ⟨⟨a1, a2, a3, a4⟩, b, c⟩ := hR
  refine hQ g2 ⟨⟨?_, ?_, ?_, ?_, ?_⟩, fun i hi => ?_, fun i hi => ⟨?_, ?_, ?_, ?_⟩, fun k hk => ⟨?_, ?_⟩⟩ ⟨fun a p => er a (by omega) (by omega) (by omega), fun k _ _ _ p _ _ _ => by rw [e53, up_ne (fun z => p z.2)]⟩
  · exact ((congrFun e53 3).trans (up_ne (by omega))).trans a1
  · exact ((congrFun e53 10).trans (up_same _ _ _ _)).trans hK.1
  · exact ((congrFun e53 1).trans (up_ne (by omega))).trans a2
  · exact ((congrFun e53 2).trans (up_ne (by omega))).trans a3
  · exact ((congrFun e53 16).trans (up_ne (by omega))).trans a4
  · exact (congrFun (er 54 (by omega) (by omega) (by omega)) i).trans (b i hi)
  · exact (congrFun (er 55 (by omega) (by omega) (by omega)) i).trans (c i hi).1
  · exact (congrFun (er 56 (by omega) (by omega) (by omega)) i).trans (c i hi).2.1
  · exact (congrFun (er 57 (by omega) (by omega) (by omega)) i).trans (c i hi).2.2.1
  · exact (congrFun (er 58 (by omega) (by omega) (by omega)) i).trans (c i hi).2.2.2
  · exact ((h2 k hk).trans (congrFun (up_row (by omega)) k)).trans (hK.2 k hk).1
  · exact ((h3 k hk).trans (congrFun (up_row (by omega)) k)).trans (hK.2 k hk).2
theorem x4d {j : Nat} (h : j < 1000) : nI j / 4 = nI (j / 4) ∧ nI j - nI (j / 4) * 4 = nI (j % 4) := by
  have e : nI j / 4 = nI (j / 4) := by rw [show (4 : Int32) = nI 4 from rfl, nI_divN (by omega) (by omega)]
  refine ⟨e, ?_⟩
  have h2 : remI (nI j) (nI 4) = nI (j % 4) := remI_nat (by omega) (by omega)
  unfold remI at h2
  rw [show nI 4 = (4 : Int32) from rfl, e] at h2
  exact h2
theorem x100 {a b : Nat} (h : a < 1000) (h2 : b < 1000) : 100 * nI a + nI b = nI (100 * a + b) := by
  rw [show (100 : Int32) = nI 100 from rfl, nI_mulN (by omega) (by omega) (by omega), nI_add]
theorem lp_X12_when {d : Nat} {sc : Nat × (Nat → Int32)} {T : List (Nat × Nat)} {rf : Nat → Nat → Option Nat} {o : OV} {nc t : Nat} {cs : Nat → List Int32} {g0 : Nat → Nat → Int32} {F : Int32 → AH → Prop} {goal w : Int32} {S : Option (Int32 × Int32)} (hC0 : MC T rf g0 o nc t cs) (hS0 : S ≠ none) (hQ : ∀ g2, OEq (MOv g2) o nc → MV g0 g2 → F (lgt S w) (T, rf, g2)) : ∀ (k j : Nat) (x3 x4 x5 : Int32) (g : Nat → Nat → Int32) (s : Option (Int32 × Int32)), (j + k = 4 * nN (o 0 9)) → (x5 = nI j) → (PEq (MOv g) o nc) → (KPl g o) → (MV g0 g) → (WM 0 s x3 x4) → (wff (whenF o nc (evL (lwM cs)) goal) k j s = S) → Wp (d + 7) 0 0 sc kX12_when (Qi F) 33 [some (.ref 53), some (.int goal), some (.int w), some (.int x3), some (.int x4), some (.int x5), none, none] [] (T, rf, g) 0 0 := by
  intro k
  induction k with
  | zero =>
    intro j x3 x4 x5 g s hj hx5 hU hK hf hW hS
    obtain ⟨hB, hP⟩ := id hC0
    obtain ⟨hM, hE, hV, hlw, ht6, hL⟩ := id hB
    have hn8 := hV.2.1
    have ht40 := hV.tN.2.1
    subst hx5
    have e9 : g 53 1 = nI (nN (o 0 9)) := (hU.r.1.2.1).trans hV.tN.1
    have e94 : 4 * nI (nN (o 0 9)) = nI (4 * nN (o 0 9)) := by rw [show (4 : Int32) = nI 4 from rfl, nI_mulN (by omega) (by omega) (by omega)]
    refine xX12_when_33 ?_
    refine xX12_when_35 ?_
    refine xX12_when_36 ?_
    refine xX12_when_37 (hM.1 _ _ rfl) ?_
    refine xX12_when_40 ?_
    rw [e9, e94]
    refine xX12_when_41_t (nI_le (by omega) (by omega)) ?_
    refine xX12_when_135 ?_
    refine xX12_when_136 (hM.1 _ _ rfl) rfl rfl rfl (s_X12_laysPlan hM hU.r hK (fun g0 he0 hv0 => ?_))
    refine xX12_when_139 ?_
    refine xX12_when_140 (fun cw => ?_) (fun cw => ?_)
    · refine xX12_when_147 ?_
      refine xX12_when_149 rfl rfl ?_
      have q := hQ _ he0 (hf.tr hv0)
      have hS9 : s = S := hS
      subst hS9
      first
        | (rw [cw, WM_0 hW] at q; exact q)
        | (rw [WM_1 hW (Or.inl hS0) cw] at q; exact q)
    · refine xX12_when_143 ?_
      refine xX12_when_144 ?_
      refine xX12_when_149 rfl rfl ?_
      have q := hQ _ he0 (hf.tr hv0)
      have hS9 : s = S := hS
      subst hS9
      first
        | (rw [cw, WM_0 hW] at q; exact q)
        | (rw [WM_1 hW (Or.inl hS0) cw] at q; exact q)
  | succ k ih =>
    intro j x3 x4 x5 g s hj hx5 hU hK hf hW hS
    obtain ⟨hB, hP⟩ := id hC0
    obtain ⟨hM, hE, hV, hlw, ht6, hL⟩ := id hB
    have hn8 := hV.2.1
    have ht40 := hV.tN.2.1
    subst hx5
    have e9 : g 53 1 = nI (nN (o 0 9)) := (hU.r.1.2.1).trans hV.tN.1
    have e94 : 4 * nI (nN (o 0 9)) = nI (4 * nN (o 0 9)) := by rw [show (4 : Int32) = nI 4 from rfl, nI_mulN (by omega) (by omega) (by omega)]
    refine xX12_when_33 ?_
    refine xX12_when_35 ?_
    refine xX12_when_36 ?_
    refine xX12_when_37 (hM.1 _ _ rfl) ?_
    refine xX12_when_40 ?_
    rw [e9, e94]
    refine xX12_when_41_f (nI_ge (by omega) (by omega)) ?_
    refine xX12_when_44 ?_
    refine xX12_when_45 ?_
    refine xX12_when_46 ?_
    refine xX12_when_48 ?_
    refine xX12_when_49 (by decide) ?_
    refine xX12_when_50 ?_
    refine xX12_when_52 ?_
    refine xX12_when_53 (by decide) ?_
    have d4 := x4d (j := j) (by omega)
    rw [d4.1, d4.2]
    refine xX12_when_54 (hM.1 _ _ rfl) rfl rfl rfl (s_X12_plans hM (k := 0) rfl (by omega) (fun g0 hp0 hv0 hk0 => ?_))
    refine xX12_when_57 ?_
    refine xX12_when_58 (fun cg => ?_) (fun cg => ?_)
    · have hE0 := hU (nI (j / 4)) (nI (j % 4))
      have hMC := mcE hM (hp0 _ _ OEq.rf |>.tr hE0) (OVk_pl (m := j / 4) (q := j % 4) hV (by omega) (by omega)) (PI_pl (nc := nc)) (by rw [pl_lw]; exact hlw) ht6 ((hL.mv hf).mv hv0)
      refine xX12_when_68 ?_
      refine xX12_when_69 (hM.1 _ _ rfl) rfl rfl rfl (s_X12_badNow hMC (fun g1 hm1 hb1 => ?_))
      refine xX12_when_72 rfl ?_
      refine xX12_when_74 ?_
      refine xX12_when_75 ?_
      refine xX12_when_76 (fun c1 => ?_) (fun c1 => ?_)
      · refine xX12_when_86 ?_
        refine xX12_when_87 ?_
        refine xX12_when_91 rfl ?_
        refine xX12_when_93 ?_
        refine xX12_when_95_f (by decide) ?_
        refine xX12_when_98 ?_
        refine xX12_when_100 ?_
        refine xX12_when_102 ?_
        refine xX12_when_103 (by decide) ?_
        refine xX12_when_104 ?_
        refine xX12_when_105 ?_
        refine xX12_when_107 ?_
        refine xX12_when_108 (by decide) ?_
        refine xX12_when_109 ?_
        refine xX12_when_110 ?_
        refine xX12_when_114 rfl ?_
        refine xX12_when_115 ?_
        refine xX12_when_117_f (by decide) ?_
        refine xX12_when_120 ?_
        refine xX12_when_122 ?_
        refine xX12_when_127 rfl ?_
        refine xX12_when_129 rfl rfl ?_
        refine xX12_when_132 ?_
        refine wp_kill_6 ?_
        refine wp_kill_7 ?_
        refine ih (j + 1) _ _ _ _ (wgh s ((whenF o nc (evL (lwM cs)) goal) j).1 ((whenF o nc (evL (lwM cs)) goal) j).2) (by omega) (nI_1 _) (by rw [hm1.mo]; exact PEq_pl hU (hp0 _ _ OEq.rf)) ((hk0 _ hK).mz hm1) (hf.tr (hv0.tr hm1.mv)) ?_ hS
        rw [show (whenF o nc (evL (lwM cs)) goal) j = (100 * nI (j / 4) + nI (j % 4), if goal = 0 then apP (pl o 0 (nI (j / 4)) (nI (j % 4))) (evL (lwM cs)) nc else badP (pl o 0 (nI (j / 4)) (nI (j % 4))) (evL (lwM cs)) nc) from rfl]
        first | rw [if_pos cg] | rw [if_neg cg]
        show WM 0 (wgh s (100 * nI (j / 4) + nI (j % 4)) _) _ _
        have hne : 100 * nI (j / 4) + nI (j % 4) ≠ -1 := by rw [x100 (by omega) (by omega)]; exact nIm1 (by omega)
        try rw [d4.1, d4.2]
        first
          | exact WM_n hW c1 hne
          | exact WM_f hW c1 (Int32.not_le.mp c2) hne
          | exact WM_t hW c1 (Int32.not_lt.mpr c2)
      · refine xX12_when_79 ?_
        refine xX12_when_81 ?_
        refine xX12_when_83 (fun c2 => ?_) (fun c2 => ?_)
        · refine xX12_when_90 ?_
          refine xX12_when_91 rfl ?_
          refine xX12_when_93 ?_
          refine xX12_when_95_t (by decide) ?_
          refine xX12_when_113 ?_
          refine xX12_when_114 rfl ?_
          refine xX12_when_115 ?_
          refine xX12_when_117_t (by decide) ?_
          refine xX12_when_125 ?_
          refine xX12_when_127 rfl ?_
          refine xX12_when_129 rfl rfl ?_
          refine xX12_when_132 ?_
          refine wp_kill_6 ?_
          refine wp_kill_7 ?_
          refine ih (j + 1) _ _ _ _ (wgh s ((whenF o nc (evL (lwM cs)) goal) j).1 ((whenF o nc (evL (lwM cs)) goal) j).2) (by omega) (nI_1 _) (by rw [hm1.mo]; exact PEq_pl hU (hp0 _ _ OEq.rf)) ((hk0 _ hK).mz hm1) (hf.tr (hv0.tr hm1.mv)) ?_ hS
          rw [show (whenF o nc (evL (lwM cs)) goal) j = (100 * nI (j / 4) + nI (j % 4), if goal = 0 then apP (pl o 0 (nI (j / 4)) (nI (j % 4))) (evL (lwM cs)) nc else badP (pl o 0 (nI (j / 4)) (nI (j % 4))) (evL (lwM cs)) nc) from rfl]
          first | rw [if_pos cg] | rw [if_neg cg]
          show WM 0 (wgh s (100 * nI (j / 4) + nI (j % 4)) _) _ _
          have hne : 100 * nI (j / 4) + nI (j % 4) ≠ -1 := by rw [x100 (by omega) (by omega)]; exact nIm1 (by omega)
          try rw [d4.1, d4.2]
          first
            | exact WM_n hW c1 hne
            | exact WM_f hW c1 (Int32.not_le.mp c2) hne
            | exact WM_t hW c1 (Int32.not_lt.mpr c2)
        · refine xX12_when_86 ?_
          refine xX12_when_87 ?_
          refine xX12_when_91 rfl ?_
          refine xX12_when_93 ?_
          refine xX12_when_95_f (by decide) ?_
          refine xX12_when_98 ?_
          refine xX12_when_100 ?_
          refine xX12_when_102 ?_
          refine xX12_when_103 (by decide) ?_
          refine xX12_when_104 ?_
          refine xX12_when_105 ?_
          refine xX12_when_107 ?_
          refine xX12_when_108 (by decide) ?_
          refine xX12_when_109 ?_
          refine xX12_when_110 ?_
          refine xX12_when_114 rfl ?_
          refine xX12_when_115 ?_
          refine xX12_when_117_f (by decide) ?_
          refine xX12_when_120 ?_
          refine xX12_when_122 ?_
          refine xX12_when_127 rfl ?_
          refine xX12_when_129 rfl rfl ?_
          refine xX12_when_132 ?_
          refine wp_kill_6 ?_
          refine wp_kill_7 ?_
          refine ih (j + 1) _ _ _ _ (wgh s ((whenF o nc (evL (lwM cs)) goal) j).1 ((whenF o nc (evL (lwM cs)) goal) j).2) (by omega) (nI_1 _) (by rw [hm1.mo]; exact PEq_pl hU (hp0 _ _ OEq.rf)) ((hk0 _ hK).mz hm1) (hf.tr (hv0.tr hm1.mv)) ?_ hS
          rw [show (whenF o nc (evL (lwM cs)) goal) j = (100 * nI (j / 4) + nI (j % 4), if goal = 0 then apP (pl o 0 (nI (j / 4)) (nI (j % 4))) (evL (lwM cs)) nc else badP (pl o 0 (nI (j / 4)) (nI (j % 4))) (evL (lwM cs)) nc) from rfl]
          first | rw [if_pos cg] | rw [if_neg cg]
          show WM 0 (wgh s (100 * nI (j / 4) + nI (j % 4)) _) _ _
          have hne : 100 * nI (j / 4) + nI (j % 4) ≠ -1 := by rw [x100 (by omega) (by omega)]; exact nIm1 (by omega)
          try rw [d4.1, d4.2]
          first
            | exact WM_n hW c1 hne
            | exact WM_f hW c1 (Int32.not_le.mp c2) hne
            | exact WM_t hW c1 (Int32.not_lt.mpr c2)
    · have hE0 := hU (nI (j / 4)) (nI (j % 4))
      have hMC := mcE hM (hp0 _ _ OEq.rf |>.tr hE0) (OVk_pl (m := j / 4) (q := j % 4) hV (by omega) (by omega)) (PI_pl (nc := nc)) (by rw [pl_lw]; exact hlw) ht6 ((hL.mv hf).mv hv0)
      refine xX12_when_61 ?_
      refine xX12_when_62 (hM.1 _ _ rfl) rfl rfl rfl (s_X12_apartNow hMC (fun g2 hm2 hb2 => ?_))
      refine xX12_when_65 ?_
      refine xX12_when_72 rfl ?_
      refine xX12_when_74 ?_
      refine xX12_when_75 ?_
      refine xX12_when_76 (fun c1 => ?_) (fun c1 => ?_)
      · refine xX12_when_86 ?_
        refine xX12_when_87 ?_
        refine xX12_when_91 rfl ?_
        refine xX12_when_93 ?_
        refine xX12_when_95_f (by decide) ?_
        refine xX12_when_98 ?_
        refine xX12_when_100 ?_
        refine xX12_when_102 ?_
        refine xX12_when_103 (by decide) ?_
        refine xX12_when_104 ?_
        refine xX12_when_105 ?_
        refine xX12_when_107 ?_
        refine xX12_when_108 (by decide) ?_
        refine xX12_when_109 ?_
        refine xX12_when_110 ?_
        refine xX12_when_114 rfl ?_
        refine xX12_when_115 ?_
        refine xX12_when_117_f (by decide) ?_
        refine xX12_when_120 ?_
        refine xX12_when_122 ?_
        refine xX12_when_127 rfl ?_
        refine xX12_when_129 rfl rfl ?_
        refine xX12_when_132 ?_
        refine wp_kill_6 ?_
        refine wp_kill_7 ?_
        refine ih (j + 1) _ _ _ _ (wgh s ((whenF o nc (evL (lwM cs)) goal) j).1 ((whenF o nc (evL (lwM cs)) goal) j).2) (by omega) (nI_1 _) (by rw [hm2.mo]; exact PEq_pl hU (hp0 _ _ OEq.rf)) ((hk0 _ hK).mz hm2) (hf.tr (hv0.tr hm2.mv)) ?_ hS
        rw [show (whenF o nc (evL (lwM cs)) goal) j = (100 * nI (j / 4) + nI (j % 4), if goal = 0 then apP (pl o 0 (nI (j / 4)) (nI (j % 4))) (evL (lwM cs)) nc else badP (pl o 0 (nI (j / 4)) (nI (j % 4))) (evL (lwM cs)) nc) from rfl]
        first | rw [if_pos cg] | rw [if_neg cg]
        show WM 0 (wgh s (100 * nI (j / 4) + nI (j % 4)) _) _ _
        have hne : 100 * nI (j / 4) + nI (j % 4) ≠ -1 := by rw [x100 (by omega) (by omega)]; exact nIm1 (by omega)
        try rw [d4.1, d4.2]
        first
          | exact WM_n hW c1 hne
          | exact WM_f hW c1 (Int32.not_le.mp c2) hne
          | exact WM_t hW c1 (Int32.not_lt.mpr c2)
      · refine xX12_when_79 ?_
        refine xX12_when_81 ?_
        refine xX12_when_83 (fun c2 => ?_) (fun c2 => ?_)
        · refine xX12_when_90 ?_
          refine xX12_when_91 rfl ?_
          refine xX12_when_93 ?_
          refine xX12_when_95_t (by decide) ?_
          refine xX12_when_113 ?_
          refine xX12_when_114 rfl ?_
          refine xX12_when_115 ?_
          refine xX12_when_117_t (by decide) ?_
          refine xX12_when_125 ?_
          refine xX12_when_127 rfl ?_
          refine xX12_when_129 rfl rfl ?_
          refine xX12_when_132 ?_
          refine wp_kill_6 ?_
          refine wp_kill_7 ?_
          refine ih (j + 1) _ _ _ _ (wgh s ((whenF o nc (evL (lwM cs)) goal) j).1 ((whenF o nc (evL (lwM cs)) goal) j).2) (by omega) (nI_1 _) (by rw [hm2.mo]; exact PEq_pl hU (hp0 _ _ OEq.rf)) ((hk0 _ hK).mz hm2) (hf.tr (hv0.tr hm2.mv)) ?_ hS
          rw [show (whenF o nc (evL (lwM cs)) goal) j = (100 * nI (j / 4) + nI (j % 4), if goal = 0 then apP (pl o 0 (nI (j / 4)) (nI (j % 4))) (evL (lwM cs)) nc else badP (pl o 0 (nI (j / 4)) (nI (j % 4))) (evL (lwM cs)) nc) from rfl]
          first | rw [if_pos cg] | rw [if_neg cg]
          show WM 0 (wgh s (100 * nI (j / 4) + nI (j % 4)) _) _ _
          have hne : 100 * nI (j / 4) + nI (j % 4) ≠ -1 := by rw [x100 (by omega) (by omega)]; exact nIm1 (by omega)
          try rw [d4.1, d4.2]
          first
            | exact WM_n hW c1 hne
            | exact WM_f hW c1 (Int32.not_le.mp c2) hne
            | exact WM_t hW c1 (Int32.not_lt.mpr c2)
        · refine xX12_when_86 ?_
          refine xX12_when_87 ?_
          refine xX12_when_91 rfl ?_
          refine xX12_when_93 ?_
          refine xX12_when_95_f (by decide) ?_
          refine xX12_when_98 ?_
          refine xX12_when_100 ?_
          refine xX12_when_102 ?_
          refine xX12_when_103 (by decide) ?_
          refine xX12_when_104 ?_
          refine xX12_when_105 ?_
          refine xX12_when_107 ?_
          refine xX12_when_108 (by decide) ?_
          refine xX12_when_109 ?_
          refine xX12_when_110 ?_
          refine xX12_when_114 rfl ?_
          refine xX12_when_115 ?_
          refine xX12_when_117_f (by decide) ?_
          refine xX12_when_120 ?_
          refine xX12_when_122 ?_
          refine xX12_when_127 rfl ?_
          refine xX12_when_129 rfl rfl ?_
          refine xX12_when_132 ?_
          refine wp_kill_6 ?_
          refine wp_kill_7 ?_
          refine ih (j + 1) _ _ _ _ (wgh s ((whenF o nc (evL (lwM cs)) goal) j).1 ((whenF o nc (evL (lwM cs)) goal) j).2) (by omega) (nI_1 _) (by rw [hm2.mo]; exact PEq_pl hU (hp0 _ _ OEq.rf)) ((hk0 _ hK).mz hm2) (hf.tr (hv0.tr hm2.mv)) ?_ hS
          rw [show (whenF o nc (evL (lwM cs)) goal) j = (100 * nI (j / 4) + nI (j % 4), if goal = 0 then apP (pl o 0 (nI (j / 4)) (nI (j % 4))) (evL (lwM cs)) nc else badP (pl o 0 (nI (j / 4)) (nI (j % 4))) (evL (lwM cs)) nc) from rfl]
          first | rw [if_pos cg] | rw [if_neg cg]
          show WM 0 (wgh s (100 * nI (j / 4) + nI (j % 4)) _) _ _
          have hne : 100 * nI (j / 4) + nI (j % 4) ≠ -1 := by rw [x100 (by omega) (by omega)]; exact nIm1 (by omega)
          try rw [d4.1, d4.2]
          first
            | exact WM_n hW c1 hne
            | exact WM_f hW c1 (Int32.not_le.mp c2) hne
            | exact WM_t hW c1 (Int32.not_lt.mpr c2)
theorem s_X12_when {d : Nat} {sc : Nat × (Nat → Int32)} {T : List (Nat × Nat)} {rf : Nat → Nat → Option Nat} {o : OV} {nc t : Nat} {cs : Nat → List Int32} {g : Nat → Nat → Int32} {goal w : Int32} {F : Int32 → AH → Prop} (hC : MC T rf g o nc t cs) (hQ : ∀ g2, OEq (MOv g2) (o) nc → MV g g2 → F (whenP o nc (evL (lwM cs)) goal w) (T, rf, g2)) : Mok (d + 7) 0 0 sc kX12_when [.ref 53, .int goal, .int w] (T, rf, g) (Qi F) := by
  obtain ⟨hB, hP⟩ := id hC
  obtain ⟨hM, hE, hV, hlw, ht6, hL⟩ := id hB
  have hn8 := hV.2.1
  have e9 : g 53 1 = nI (nN (o 0 9)) := hE.1.2.2.1.trans hV.tN.1
  have ht40 := hV.tN.2.1
  have hcn0 : g 53 3 = nI nc := hE.1.1.trans hV.1
  refine Mok.ofWp (L := [some (.ref 53), some (.int goal), some (.int w), none, none, none, none, none]) rfl rfl rfl ?_
  refine xX12_when_0 ?_
  refine xX12_when_1 ?_
  refine xX12_when_2 ?_
  refine xX12_when_3 rfl rfl rfl (s_X12_in  (fun hw0 => ?_) (fun nw0 => ?_))
  · refine xX12_when_6_f (by decide) ?_
    refine xX12_when_9 ?_
    refine xX12_when_10 ?_
    refine xX12_when_11 ?_
    refine xX12_when_12 rfl rfl rfl (s_X12_in  (fun hw1 => ?_) (fun nw1 => ?_))
    · refine xX12_when_15_t (by decide) ?_
      refine xX12_when_21 ?_
      refine xX12_when_22 rfl ?_
      refine xX12_when_23 ?_
      refine xX12_when_24 rfl ?_
      refine xX12_when_26 ?_
      refine xX12_when_27 (hM.1 _ _ rfl) rfl rfl rfl (s_X12_keepsPlan hM hE (fun g2 hk2 he2 hv2 => ?_))
      refine xX12_when_30 ?_
      refine xX12_when_31 rfl ?_
      have hC9 := hC.mv he2 hV hP hlw ht6 (hL.mv hv2)
      have h1t := hV.tN.2.2
      refine lp_X12_when hC9 (wff_some (whenF o nc (evL (lwM cs)) goal) (4 * nN (o 0 9)) 0 none (Or.inr (by omega))) (fun g2 h1 h2 => ?_) (4 * nN (o 0 9)) 0 _ _ _ _ none (by omega) rfl (PEq.of he2) hk2 MV.rf ⟨rfl, rfl⟩ rfl
      have q := hQ _ h1 (hv2.tr h2)
      rw [whenP, if_pos hw0, if_pos hw1] at q
      exact q
    · refine xX12_when_15_f (by decide) ?_
      refine xX12_when_18 ?_
      refine xX12_when_20 rfl rfl ?_
      have q := hQ _ (hC.mz (MZ.rf)).1.2.1 (MZ.rf).mv
      rw [whenP, if_pos hw0, if_neg nw1] at q
      exact q
  · refine xX12_when_6_t (by decide) ?_
    refine xX12_when_18 ?_
    refine xX12_when_20 rfl rfl ?_
    have q := hQ _ (hC.mz (MZ.rf)).1.2.1 (MZ.rf).mv
    rw [whenP, if_neg nw0] at q
    exact q
theorem lp_X12_twice1 {d : Nat} {sc : Nat × (Nat → Int32)} {T : List (Nat × Nat)} {rf : Nat → Nat → Option Nat} {o : OV} {nc t : Nat} {cs : Nat → List Int32} {g0 : Nat → Nat → Int32} {F : Int32 → AH → Prop} {w x4 : Int32} {m : Nat} {S : Option (Int32 × Int32)} (hC0 : MC T rf g0 o nc t cs) (hx4 : x4 = nI m) (hm : m < nN (o 0 9)) (hQ : ∀ x2 x3 g s, PEq2 (MOv g) o nc → KPl g o → MV g0 g → WM (-1) s x2 x3 → s = S → Wp (d + 7) 0 0 sc kX12_twice (Qi F) 123 [some (.ref 53), some (.int w), some (.int x2), some (.int x3), some (.int x4), none, none, none] [] (T, rf, g) 0 0) : ∀ (k j : Nat) (x2 x3 x5 : Int32) (g : Nat → Nat → Int32) (s : Option (Int32 × Int32)), (j + k = nN (o 0 9)) → (m < j) → (x5 = nI j) → (PEq2 (MOv g) o nc) → (KPl g o) → (MV g0 g) → (WM (-1) s x2 x3) → (wff (tw1 o nc (evL (lwM cs)) m) k j s = S) → Wp (d + 7) 0 0 sc kX12_twice (Qi F) 38 [some (.ref 53), some (.int w), some (.int x2), some (.int x3), some (.int x4), some (.int x5), none, none] [] (T, rf, g) 0 0 := by
  intro k
  induction k with
  | zero =>
    intro j x2 x3 x5 g s hj hmj hx5 hU hK hf hW hS
    obtain ⟨hB, hP⟩ := id hC0
    obtain ⟨hM, hE, hV, hlw, ht6, hL⟩ := id hB
    have hn8 := hV.2.1
    have ht40 := hV.tN.2.1
    subst hx5
    subst hx4
    have e9 : g 53 1 = nI (nN (o 0 9)) := (hU.r.1.2.1).trans hV.tN.1
    refine xX12_twice_38 ?_
    refine xX12_twice_40 ?_
    refine xX12_twice_41 (hM.1 _ _ rfl) ?_
    rw [e9]
    refine xX12_twice_44_t (nI_le (by omega) (by omega)) ?_
    refine wp_kill_5 ?_
    exact hQ _ _ _ _ hU hK hf hW hS
  | succ k ih =>
    intro j x2 x3 x5 g s hj hmj hx5 hU hK hf hW hS
    obtain ⟨hB, hP⟩ := id hC0
    obtain ⟨hM, hE, hV, hlw, ht6, hL⟩ := id hB
    have hn8 := hV.2.1
    have ht40 := hV.tN.2.1
    subst hx5
    subst hx4
    have e9 : g 53 1 = nI (nN (o 0 9)) := (hU.r.1.2.1).trans hV.tN.1
    refine xX12_twice_38 ?_
    refine xX12_twice_40 ?_
    refine xX12_twice_41 (hM.1 _ _ rfl) ?_
    rw [e9]
    refine xX12_twice_44_f (nI_ge (by omega) (by omega)) ?_
    refine xX12_twice_47 ?_
    refine xX12_twice_48 ?_
    refine xX12_twice_49 ?_
    refine xX12_twice_51 ?_
    refine xX12_twice_52 (hM.1 _ _ rfl) rfl rfl rfl (s_X12_plans hM (k := 0) rfl (by omega) (fun g0 hp0 hv0 hk0 => ?_))
    refine xX12_twice_55 ?_
    refine xX12_twice_56 ?_
    refine xX12_twice_57 ?_
    refine xX12_twice_59 ?_
    refine xX12_twice_60 (hM.1 _ _ rfl) rfl rfl rfl (s_X12_plans hM (k := 1) rfl (by omega) (fun g1 hp1 hv1 hk1 => ?_))
    refine xX12_twice_63 ?_
    have hMC := mcE hM ((hp1 _ _ (hp0 _ _ OEq.rf)).tr (hU _ _ _ _)) (OVk_pl2 (q := 2) (q2 := 2) hV (by omega) (by omega) (by omega) (by omega)) (PI_pl2 (by omega) (by omega)) (by rw [pl_lw, pl_lw]; exact hlw) ht6 (((hL.mv hf).mv hv0).mv hv1)
    refine xX12_twice_64 (hM.1 _ _ rfl) rfl rfl rfl (s_X12_apartNow hMC (fun g2 hm2 hb2 => ?_))
    refine xX12_twice_67 rfl ?_
    refine xX12_twice_69 ?_
    refine xX12_twice_70 ?_
    refine xX12_twice_71 (fun c1 => ?_) (fun c1 => ?_)
    · refine xX12_twice_80 ?_
      refine xX12_twice_81 ?_
      refine xX12_twice_85 rfl ?_
      refine xX12_twice_87 ?_
      refine xX12_twice_89_f (by decide) ?_
      refine xX12_twice_92 ?_
      refine xX12_twice_94 ?_
      refine xX12_twice_96 ?_
      refine xX12_twice_97 ?_
      refine xX12_twice_99 ?_
      refine xX12_twice_100 ?_
      refine xX12_twice_104 rfl ?_
      refine xX12_twice_105 ?_
      refine xX12_twice_107_f (by decide) ?_
      refine xX12_twice_110 ?_
      refine xX12_twice_112 ?_
      refine xX12_twice_116 rfl ?_
      refine xX12_twice_117 rfl rfl ?_
      refine xX12_twice_120 ?_
      refine wp_kill_6 ?_
      refine wp_kill_7 ?_
      refine ih (j + 1) _ _ _ _ (wgh s ((tw1 o nc (evL (lwM cs)) m) j).1 ((tw1 o nc (evL (lwM cs)) m) j).2) (by omega) (by omega) (nI_1 _) (by rw [hm2.mo]; exact PEq2_pl hU (hp1 _ _ (hp0 _ _ OEq.rf))) ((hk1 _ (hk0 _ hK)).mz hm2) (hf.tr ((hv0.tr hv1).tr hm2.mv)) ?_ hS
      show WM (-1) (wgh s (100 * nI m + nI j) _) _ _
      have hne : 100 * nI m + nI j ≠ -1 := by rw [x100 (by omega) (by omega)]; exact nIm1 (by omega)
      first
        | exact WM_n hW c1 hne
        | exact WM_f hW c1 (Int32.not_le.mp c2) hne
        | exact WM_t hW c1 (Int32.not_lt.mpr c2)
    · refine xX12_twice_74 ?_
      refine xX12_twice_76 ?_
      refine xX12_twice_77 (fun c2 => ?_) (fun c2 => ?_)
      · refine xX12_twice_84 ?_
        refine xX12_twice_85 rfl ?_
        refine xX12_twice_87 ?_
        refine xX12_twice_89_t (by decide) ?_
        refine xX12_twice_103 ?_
        refine xX12_twice_104 rfl ?_
        refine xX12_twice_105 ?_
        refine xX12_twice_107_t (by decide) ?_
        refine xX12_twice_115 ?_
        refine xX12_twice_116 rfl ?_
        refine xX12_twice_117 rfl rfl ?_
        refine xX12_twice_120 ?_
        refine wp_kill_6 ?_
        refine wp_kill_7 ?_
        refine ih (j + 1) _ _ _ _ (wgh s ((tw1 o nc (evL (lwM cs)) m) j).1 ((tw1 o nc (evL (lwM cs)) m) j).2) (by omega) (by omega) (nI_1 _) (by rw [hm2.mo]; exact PEq2_pl hU (hp1 _ _ (hp0 _ _ OEq.rf))) ((hk1 _ (hk0 _ hK)).mz hm2) (hf.tr ((hv0.tr hv1).tr hm2.mv)) ?_ hS
        show WM (-1) (wgh s (100 * nI m + nI j) _) _ _
        have hne : 100 * nI m + nI j ≠ -1 := by rw [x100 (by omega) (by omega)]; exact nIm1 (by omega)
        first
          | exact WM_n hW c1 hne
          | exact WM_f hW c1 (Int32.not_le.mp c2) hne
          | exact WM_t hW c1 (Int32.not_lt.mpr c2)
      · refine xX12_twice_80 ?_
        refine xX12_twice_81 ?_
        refine xX12_twice_85 rfl ?_
        refine xX12_twice_87 ?_
        refine xX12_twice_89_f (by decide) ?_
        refine xX12_twice_92 ?_
        refine xX12_twice_94 ?_
        refine xX12_twice_96 ?_
        refine xX12_twice_97 ?_
        refine xX12_twice_99 ?_
        refine xX12_twice_100 ?_
        refine xX12_twice_104 rfl ?_
        refine xX12_twice_105 ?_
        refine xX12_twice_107_f (by decide) ?_
        refine xX12_twice_110 ?_
        refine xX12_twice_112 ?_
        refine xX12_twice_116 rfl ?_
        refine xX12_twice_117 rfl rfl ?_
        refine xX12_twice_120 ?_
        refine wp_kill_6 ?_
        refine wp_kill_7 ?_
        refine ih (j + 1) _ _ _ _ (wgh s ((tw1 o nc (evL (lwM cs)) m) j).1 ((tw1 o nc (evL (lwM cs)) m) j).2) (by omega) (by omega) (nI_1 _) (by rw [hm2.mo]; exact PEq2_pl hU (hp1 _ _ (hp0 _ _ OEq.rf))) ((hk1 _ (hk0 _ hK)).mz hm2) (hf.tr ((hv0.tr hv1).tr hm2.mv)) ?_ hS
        show WM (-1) (wgh s (100 * nI m + nI j) _) _ _
        have hne : 100 * nI m + nI j ≠ -1 := by rw [x100 (by omega) (by omega)]; exact nIm1 (by omega)
        first
          | exact WM_n hW c1 hne
          | exact WM_f hW c1 (Int32.not_le.mp c2) hne
          | exact WM_t hW c1 (Int32.not_lt.mpr c2)
theorem lp_X12_twice {d : Nat} {sc : Nat × (Nat → Int32)} {T : List (Nat × Nat)} {rf : Nat → Nat → Option Nat} {o : OV} {nc t : Nat} {cs : Nat → List Int32} {g0 : Nat → Nat → Int32} {F : Int32 → AH → Prop} {w : Int32} {S : Option (Int32 × Int32)} (hC0 : MC T rf g0 o nc t cs) (hQ : ∀ g2, OEq (MOv g2) o nc → MV g0 g2 → F (lgt S w) (T, rf, g2)) : ∀ (k j : Nat) (x2 x3 x4 : Int32) (g : Nat → Nat → Int32) (s : Option (Int32 × Int32)), (j + k = nN (o 0 9)) → (x4 = nI j) → (PEq2 (MOv g) o nc) → (KPl g o) → (MV g0 g) → (WM (-1) s x2 x3) → (tw2 o nc (evL (lwM cs)) (nN (o 0 9)) k j s = S) → Wp (d + 7) 0 0 sc kX12_twice (Qi F) 23 [some (.ref 53), some (.int w), some (.int x2), some (.int x3), some (.int x4), none, none, none] [] (T, rf, g) 0 0 := by
  intro k
  induction k with
  | zero =>
    intro j x2 x3 x4 g s hj hx4 hU hK hf hW hS
    obtain ⟨hB, hP⟩ := id hC0
    obtain ⟨hM, hE, hV, hlw, ht6, hL⟩ := id hB
    have hn8 := hV.2.1
    have ht40 := hV.tN.2.1
    have e9 : g 53 1 = nI (nN (o 0 9)) := (hU.r.1.2.1).trans hV.tN.1
    refine xX12_twice_23 ?_
    refine xX12_twice_25 ?_
    refine xX12_twice_26 (hM.1 _ _ rfl) ?_
    rw [e9]
    refine xX12_twice_29_t (by rw [hx4]; exact nI_le (by omega) (by omega)) ?_
    refine xX12_twice_129 ?_
    refine xX12_twice_130 (hM.1 _ _ rfl) rfl rfl rfl (s_X12_laysPlan hM hU.r hK (fun g0 he0 hv0 => ?_))
    refine xX12_twice_133 ?_
    refine xX12_twice_134 (fun cw => ?_) (fun cw => ?_)
    · refine xX12_twice_141 ?_
      refine xX12_twice_142 rfl rfl ?_
      have q := hQ _ he0 (hf.tr hv0)
      have hS9 : s = S := hS
      subst hS9
      first
        | (rw [cw, WM_0 hW] at q; exact q)
        | (rw [WM_1 hW (Or.inr rfl) cw] at q; exact q)
    · refine xX12_twice_137 ?_
      refine xX12_twice_138 ?_
      refine xX12_twice_142 rfl rfl ?_
      have q := hQ _ he0 (hf.tr hv0)
      have hS9 : s = S := hS
      subst hS9
      first
        | (rw [cw, WM_0 hW] at q; exact q)
        | (rw [WM_1 hW (Or.inr rfl) cw] at q; exact q)
  | succ k ih =>
    intro j x2 x3 x4 g s hj hx4 hU hK hf hW hS
    obtain ⟨hB, hP⟩ := id hC0
    obtain ⟨hM, hE, hV, hlw, ht6, hL⟩ := id hB
    have hn8 := hV.2.1
    have ht40 := hV.tN.2.1
    have e9 : g 53 1 = nI (nN (o 0 9)) := (hU.r.1.2.1).trans hV.tN.1
    refine xX12_twice_23 ?_
    refine xX12_twice_25 ?_
    refine xX12_twice_26 (hM.1 _ _ rfl) ?_
    rw [e9]
    refine xX12_twice_29_f (by rw [hx4]; exact nI_ge (by omega) (by omega)) ?_
    refine xX12_twice_32 ?_
    refine xX12_twice_34 ?_
    refine xX12_twice_35 ?_
    refine xX12_twice_36 rfl ?_
    refine lp_X12_twice1 hC0 hx4 (by omega) (S := wff (tw1 o nc (evL (lwM cs)) j) (nN (o 0 9) - (j + 1)) (j + 1) s) (fun y2 y3 g9 s9 h1 h2 h3 h4 h5 => ?_) (nN (o 0 9) - (j + 1)) (j + 1) _ _ _ _ s (by omega) (by omega) (by rw [hx4]; exact nI_1 _) hU hK hf hW rfl
    refine xX12_twice_123 rfl rfl ?_
    refine xX12_twice_126 ?_
    exact ih (j + 1) _ _ _ _ s9 (by omega) (by rw [hx4]; exact nI_1 _) h1 h2 h3 h4 (by rw [h5]; exact hS)
theorem s_X12_twice {d : Nat} {sc : Nat × (Nat → Int32)} {T : List (Nat × Nat)} {rf : Nat → Nat → Option Nat} {o : OV} {nc t : Nat} {cs : Nat → List Int32} {g : Nat → Nat → Int32} {w : Int32} {F : Int32 → AH → Prop} (hC : MC T rf g o nc t cs) (hQ : ∀ g2, OEq (MOv g2) (o) nc → MV g g2 → F (twiceP o nc (evL (lwM cs)) w) (T, rf, g2)) : Mok (d + 7) 0 0 sc kX12_twice [.ref 53, .int w] (T, rf, g) (Qi F) := by
  obtain ⟨hB, hP⟩ := id hC
  obtain ⟨hM, hE, hV, hlw, ht6, hL⟩ := id hB
  have hn8 := hV.2.1
  have e9 : g 53 1 = nI (nN (o 0 9)) := hE.1.2.2.1.trans hV.tN.1
  have ht40 := hV.tN.2.1
  have hcn0 : g 53 3 = nI nc := hE.1.1.trans hV.1
  refine Mok.ofWp (L := [some (.ref 53), some (.int w), none, none, none, none, none, none]) rfl rfl rfl ?_
  refine xX12_twice_0 ?_
  refine xX12_twice_1 ?_
  refine xX12_twice_2 ?_
  refine xX12_twice_3 rfl rfl rfl (s_X12_in  (fun hw0 => ?_) (fun nw0 => ?_))
  · refine xX12_twice_6_t (by decide) ?_
    refine xX12_twice_12 ?_
    refine xX12_twice_13 rfl ?_
    refine xX12_twice_14 ?_
    refine xX12_twice_15 rfl ?_
    refine xX12_twice_16 ?_
    refine xX12_twice_17 (hM.1 _ _ rfl) rfl rfl rfl (s_X12_keepsPlan hM hE (fun g1 hk1 he1 hv1 => ?_))
    refine xX12_twice_20 ?_
    refine xX12_twice_21 rfl ?_
    have hC9 := hC.mv he1 hV hP hlw ht6 (hL.mv hv1)
    refine lp_X12_twice hC9 (fun g2 h1 h2 => ?_) (nN (o 0 9)) 0 _ _ _ _ none (by omega) rfl (PEq2.of he1) hk1 MV.rf ⟨rfl, rfl⟩ rfl
    have q := hQ _ h1 (hv1.tr h2)
    rw [twiceP, if_pos hw0] at q
    exact q
  · refine xX12_twice_6_f (by decide) ?_
    refine xX12_twice_9 ?_
    refine xX12_twice_11 rfl rfl ?_
    have q := hQ _ (hC.mz (MZ.rf)).1.2.1 (MZ.rf).mv
    rw [twiceP, if_neg nw0] at q
    exact q
