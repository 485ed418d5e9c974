/-- beside the oven and the sheets nothing -/
def MQm (g g' : Nat → Nat → Int32) : Prop := (∀ a, (a < 53 ∨ (61 ≤ a ∧ a ≤ 64) ∨ (68 ≤ a ∧ a ≤ 70) ∨ 76 < a) → g' a = g a) ∧ ∀ k, k ≠ 1 → k ≠ 2 → k ≠ 3 → k ≠ 10 → k ≠ 16 → k ≠ 42 → k ≠ 43 → g' 53 k = g 53 k
theorem MQm.rf {g : Nat → Nat → Int32} : MQm g g := ⟨fun _ _ => rfl, fun _ _ _ _ _ _ _ _ => rfl⟩
theorem MQm.tr {g1 g2 g3 : Nat → Nat → Int32} (h1 : MQm g1 g2) (h2 : MQm g2 g3) : MQm g1 g3 := ⟨fun a p => (h2.1 a p).trans (h1.1 a p), fun k a b c d e f i => (h2.2 k a b c d e f i).trans (h1.2 k a b c d e f i)⟩
theorem MV.mq {g g' : Nat → Nat → Int32} (h : MV g g') : MQm g g' := ⟨fun a p => h.1 a (by omega), h.2⟩
theorem MQm.pu {g : Nat → Nat → Int32} {a k : Nat} {v : Int32} (h : a = 65 ∨ a = 66 ∨ a = 67) : MQm g (up g a k v) := ⟨fun _ p => up_row (by omega), fun _ _ _ _ _ _ _ _ => up_ne (by omega)⟩
/-- only the sheets' rows -/
def MG (g g' : Nat → Nat → Int32) : Prop := ∀ a, a ≠ 65 → a ≠ 66 → a ≠ 67 → g' a = g a
theorem MG.rf {g : Nat → Nat → Int32} : MG g g := fun _ _ _ _ => rfl
theorem MG.tr {g1 g2 g3 : Nat → Nat → Int32} (h1 : MG g1 g2) (h2 : MG g2 g3) : MG g1 g3 := fun a p q r => (h2 a p q r).trans (h1 a p q r)
theorem MG.pu {g : Nat → Nat → Int32} {a k : Nat} {v : Int32} (h : a = 65 ∨ a = 66 ∨ a = 67) : MG g (up g a k v) := fun _ _ _ _ => up_row (by omega)
theorem MG.mq {g g' : Nat → Nat → Int32} (h : MG g g') : MQm g g' := ⟨fun a p => h a (by omega) (by omega) (by omega), fun k _ _ _ _ _ _ _ => congrFun (h 53 (by omega) (by omega) (by omega)) k⟩
theorem MG.mo {g g' : Nat → Nat → Int32} (h : MG g g') : MOv g' = MOv g := MOv.keep (fun a p q => h a (by omega) (by omega) (by omega))
theorem lgc {x y : Int64} : lg_cmp x y = 0 ↔ x = y := by
  unfold lg_cmp
  by_cases h : x > y
  · rw [if_pos h]
    refine ⟨fun z => absurd z (by decide), fun z => ?_⟩
    rw [z] at h
    exact absurd h (Int64.lt_irrefl)
  · rw [if_neg h]
    by_cases q : x = y
    · rw [if_pos q]; exact ⟨fun _ => q, fun _ => rfl⟩
    · rw [if_neg q]; exact ⟨fun z => absurd z (by decide), fun z => absurd z q⟩
-- small numbers as longs
def lI (n : Nat) : Int64 := (nI n).toInt64
theorem lI_T {n : Nat} (h : n < 2147483648) : (lI n).toInt = (n : Int) := by
  unfold lI
  rw [Int32.toInt_toInt64, iT h]
theorem lI_0 {n : Nat} (h : n < 2147483648) : lI n = 0 ↔ n = 0 := by
  constructor
  · intro z
    have := lI_T h
    rw [z] at this
    have : (0 : Int) = n := this
    omega
  · intro z; rw [z]; rfl
theorem lBm2 {z : Int} (h1 : -9223372036854775808 ≤ z) (h2 : z < 9223372036854775808) : z.bmod (2 ^ 64) = z := by
  apply Int.bmod_eq_of_le <;> omega
theorem lI_div {a b : Nat} (ha : a < 2147483648) (hb : b < 2147483648) : lI a / lI b = lI (a / b) := by
  have h0 := Nat.div_le_self a b
  apply Int64.toInt_inj.mp
  rw [Int64.toInt_div, lI_T ha, lI_T hb, ← Int.ofNat_tdiv]
  generalize a / b = q at h0
  rw [lI_T (by omega)]
  exact lBm2 (by omega) (by omega)
theorem lI_rem {a b : Nat} (ha : a < 1000) (hb : b < 1000) : lI a - lI a / lI b * lI b = lI (a % b) := by
  have h0 := Nat.div_mul_le_self a b
  have h1 := Nat.mod_le a b
  have h2 := Nat.div_add_mod a b
  rw [lI_div (by omega) (by omega)]
  have h3 := Nat.div_le_self a b
  rw [Nat.mul_comm] at h2
  apply Int64.toInt_inj.mp
  have e1 : (lI (a / b) * lI b).toInt = ((a / b * b : Nat) : Int) := by
    rw [Int64.toInt_mul, lI_T (by omega), lI_T (by omega), ← Int.natCast_mul]
    generalize a / b * b = q at h0
    exact lBm2 (by omega) (by omega)
  generalize a / b * b = q at h0 h2 e1
  generalize a % b = r at h1 h2 ⊢
  rw [Int64.toInt_sub, e1, lI_T (by omega), lI_T (by omega), lBm2 (by omega) (by omega)]
  omega
theorem cdv_g {a b : Nat} : ∀ k, b < k → a < 1000 → b < 1000 → cdv k (nI a) (nI b) = nI (Nat.gcd a b) := by
  intro k
  induction k generalizing a b with
  | zero => intro h; omega
  | succ k ih =>
    intro h ha hb
    by_cases z : b = 0
    · subst z
      rw [Nat.gcd_zero_right]
      exact if_pos rfl
    · have hn : ¬ nI b = 0 := fun q => z (nIinj (by omega) (by omega) q)
      rw [show cdv (k + 1) (nI a) (nI b) = cdv k (nI b) (nI a - nI a / nI b * nI b) from if_neg hn]
      have hm := Nat.mod_lt a (Nat.pos_of_ne_zero z)
      rw [show nI a - nI a / nI b * nI b = nI (a % b) from remI_nat (by omega) (by omega), ih (by omega) (by omega) (by omega), Nat.gcd_comm a b, Nat.gcd_rec b a, Nat.gcd_comm (a % b) b]
theorem MH_st {g : Nat → Nat → Int32} {sh : Nat → Nat → Int32} {s i : Nat} {v : Int32} (hi : i < 40) (h : MH g sh) : MH (up g 67 (40 * s + i) v) (stC sh s i v) := by
  intro a ha
  obtain ⟨h1, h2, h3⟩ := h a ha
  refine ⟨?_, ?_, fun k hk => ?_⟩
  · rw [up_row (by omega), h1]; exact (if_neg (by omega)).symm
  · rw [up_row (by omega), h2]; exact (if_neg (by omega)).symm
  · by_cases q : a = s ∧ k = i
    · obtain ⟨rfl, rfl⟩ := q
      rw [up_same]; exact (if_pos ⟨rfl, rfl⟩).symm
    · rw [up_ne (by omega), h3 k hk]; exact (if_neg (by omega)).symm
/-- a sheet anew, its cells being cleared from the first on -/
def MHc (g : Nat → Nat → Int32) (sh : Nat → Nat → Int32) (s : Nat) (x y : Int32) (f : Nat → Int32) (n : Nat) : Prop := (∀ a, a < 4 → a ≠ s → g 65 a = sh a 0 ∧ g 66 a = sh a 1 ∧ ∀ k, k < 40 → g 67 (40 * a + k) = sh a (2 + k)) ∧ g 65 s = x ∧ g 66 s = y ∧ ∀ k, k < n → g 67 (40 * s + k) = f k
theorem MHc_0 {g : Nat → Nat → Int32} {sh : Nat → Nat → Int32} {s : Nat} {x y : Int32} {f : Nat → Int32} (h : MH g sh) : MHc (up (up g 65 s x) 66 s y) sh s x y f 0 := by
  refine ⟨fun a ha q => ?_, ?_, ?_, fun k hk => absurd hk (Nat.not_lt_zero k)⟩
  · obtain ⟨h1, h2, h3⟩ := h a ha
    refine ⟨?_, ?_, fun k hk => ?_⟩
    · rw [up_row (by omega), up_ne (by omega)]; exact h1
    · rw [up_ne (by omega), up_row (by omega)]; exact h2
    · rw [up_row (by omega), up_row (by omega)]; exact h3 k hk
  · rw [up_row (by omega), up_same]
  · rw [up_same]
theorem MHc_s {g : Nat → Nat → Int32} {sh : Nat → Nat → Int32} {s n : Nat} {x y v : Int32} {f : Nat → Int32} (h : MHc g sh s x y f n) (hn : n < 40) (hv : v = f n) : MHc (up g 67 (40 * s + n) v) sh s x y f (n + 1) := by
  obtain ⟨h1, h2, h3, h4⟩ := h
  refine ⟨fun a ha q => ?_, by rw [up_row (by omega)]; exact h2, by rw [up_row (by omega)]; exact h3, fun k hk => ?_⟩
  · obtain ⟨k1, k2, k3⟩ := h1 a ha q
    refine ⟨by rw [up_row (by omega)]; exact k1, by rw [up_row (by omega)]; exact k2, fun k hk => ?_⟩
    rw [up_ne (by omega)]; exact k3 k hk
  · by_cases z : k = n
    · subst z; rw [up_same]; exact hv
    · rw [up_ne (by omega)]; exact h4 k (by omega)
theorem MHc_e {g : Nat → Nat → Int32} {sh sh2 : Nat → Nat → Int32} {s : Nat} {x y : Int32} {f : Nat → Int32} (h : MHc g sh s x y f 40) (h0 : ∀ a, a ≠ s → sh2 a = sh a) (h1 : sh2 s 0 = x) (h2 : sh2 s 1 = y) (h3 : ∀ k, k < 40 → sh2 s (2 + k) = f k) : MH g sh2 := by
  intro a ha
  by_cases q : a = s
  · subst q
    exact ⟨h.2.1.trans h1.symm, h.2.2.1.trans h2.symm, fun k hk => (h.2.2.2 k hk).trans (h3 k hk).symm⟩
  · rw [h0 a q]
    exact h.1 a ha q
theorem lp_X12_keepsHot {d : Nat} {sc : Nat × (Nat → Int32)} {T : List (Nat × Nat)} {rf : Nat → Nat → Option Nat} {g0 : Nat → Nat → Int32} {F : AH → Prop} (hM : MS T rf) (hQ : ∀ g2, (∀ a, a ≠ 76 → g2 a = g0 a) → (∀ i, i < 16 → g2 76 i = g0 54 i) → F (T, rf, g2)) : ∀ (k j : Nat) (x1 : Int32) (g : Nat → Nat → Int32), (j + k = 16) → (x1 = nI j) → (∀ a, a ≠ 76 → g a = g0 a) → (∀ i, i < j → g 76 i = g0 54 i) → Wp d 0 0 sc kX12_keepsHot (Qv F) 2 [some (.ref 53), some (.int x1)] [] (T, rf, g) 0 0 := by
  intro k
  induction k with
  | zero =>
    intro j x1 g hj hx1 hf ha
    subst hx1
    refine xX12_keepsHot_2 ?_
    refine xX12_keepsHot_3 ?_
    refine xX12_keepsHot_5_t (nI_le (a := 16) (by omega) (by omega)) ?_
    refine xX12_keepsHot_26 rfl rfl ?_
    have e : j = 16 := by omega
    subst e
    exact hQ _ hf ha
  | succ k ih =>
    intro j x1 g hj hx1 hf ha
    subst hx1
    refine xX12_keepsHot_2 ?_
    refine xX12_keepsHot_3 ?_
    refine xX12_keepsHot_5_f (nI_ge (b := 16) (by omega) (by omega)) ?_
    refine xX12_keepsHot_8 ?_
    refine xX12_keepsHot_9 (hM.1 _ _ rfl) (hM.2 _ _ _ rfl) ?_
    refine xX12_keepsHot_12 ?_
    refine xX12_keepsHot_13 ?_
    refine xX12_keepsHot_14 (hM.1 _ _ rfl) (hM.2 _ _ _ rfl) ?_
    refine xX12_keepsHot_17 ?_
    refine xX12_keepsHot_18 (j := j) (hM.1 _ _ rfl) rfl (by omega) rfl ?_
    refine xX12_keepsHot_19 (j := j) (hM.1 _ _ rfl) rfl (by omega) rfl ?_
    refine xX12_keepsHot_20 rfl rfl ?_
    refine xX12_keepsHot_23 ?_
    exact ih (j + 1) _ _ (by omega) (nI_1 _) (fun a p => by rw [up_row p]; exact hf a p) (fun i hi => by
      by_cases z : i = j
      · subst z; rw [up_same, hf 54 (by omega)]
      · rw [up_ne (fun y => z y.2)]; exact ha i (by omega))
theorem s_X12_keepsHot {d : Nat} {sc : Nat × (Nat → Int32)} {T : List (Nat × Nat)} {rf : Nat → Nat → Option Nat} {g : Nat → Nat → Int32} {F : AH → Prop} (hM : MS T rf) (hQ : ∀ g2, (∀ a, a ≠ 76 → g2 a = g a) → (∀ i, i < 16 → g2 76 i = g 54 i) → F (T, rf, g2)) : Mok d 0 0 sc kX12_keepsHot [.ref 53] (T, rf, g) (Qv F) := by
  refine Mok.ofWp (L := [some (.ref 53), none]) rfl rfl rfl ?_
  refine xX12_keepsHot_0 ?_
  refine xX12_keepsHot_1 rfl ?_
  exact lp_X12_keepsHot hM hQ 16 0 _ _ (by omega) rfl (fun _ _ => rfl) (fun i hi => absurd hi (Nat.not_lt_zero i))
theorem lp_X12_laysHot {d : Nat} {sc : Nat × (Nat → Int32)} {T : List (Nat × Nat)} {rf : Nat → Nat → Option Nat} {g0 : Nat → Nat → Int32} {F : AH → Prop} (hM : MS T rf) (hQ : ∀ g2, (∀ a, a ≠ 54 → g2 a = g0 a) → (∀ i, i < 16 → g2 54 i = g0 76 i) → F (T, rf, g2)) : ∀ (k j : Nat) (x1 : Int32) (g : Nat → Nat → Int32), (j + k = 16) → (x1 = nI j) → (∀ a, a ≠ 54 → g a = g0 a) → (∀ i, i < j → g 54 i = g0 76 i) → Wp d 0 0 sc kX12_laysHot (Qv F) 2 [some (.ref 53), some (.int x1)] [] (T, rf, g) 0 0 := by
  intro k
  induction k with
  | zero =>
    intro j x1 g hj hx1 hf ha
    subst hx1
    refine xX12_laysHot_2 ?_
    refine xX12_laysHot_3 ?_
    refine xX12_laysHot_5_t (nI_le (a := 16) (by omega) (by omega)) ?_
    refine xX12_laysHot_26 rfl rfl ?_
    have e : j = 16 := by omega
    subst e
    exact hQ _ hf ha
  | succ k ih =>
    intro j x1 g hj hx1 hf ha
    subst hx1
    refine xX12_laysHot_2 ?_
    refine xX12_laysHot_3 ?_
    refine xX12_laysHot_5_f (nI_ge (b := 16) (by omega) (by omega)) ?_
    refine xX12_laysHot_8 ?_
    refine xX12_laysHot_9 (hM.1 _ _ rfl) (hM.2 _ _ _ rfl) ?_
    refine xX12_laysHot_12 ?_
    refine xX12_laysHot_13 ?_
    refine xX12_laysHot_14 (hM.1 _ _ rfl) (hM.2 _ _ _ rfl) ?_
    refine xX12_laysHot_17 ?_
    refine xX12_laysHot_18 (j := j) (hM.1 _ _ rfl) rfl (by omega) rfl ?_
    refine xX12_laysHot_19 (j := j) (hM.1 _ _ rfl) rfl (by omega) rfl ?_
    refine xX12_laysHot_20 rfl rfl ?_
    refine xX12_laysHot_23 ?_
    exact ih (j + 1) _ _ (by omega) (nI_1 _) (fun a p => by rw [up_row p]; exact hf a p) (fun i hi => by
      by_cases z : i = j
      · subst z; rw [up_same, hf 76 (by omega)]
      · rw [up_ne (fun y => z y.2)]; exact ha i (by omega))
theorem s_X12_laysHot {d : Nat} {sc : Nat × (Nat → Int32)} {T : List (Nat × Nat)} {rf : Nat → Nat → Option Nat} {g : Nat → Nat → Int32} {F : AH → Prop} (hM : MS T rf) (hQ : ∀ g2, (∀ a, a ≠ 54 → g2 a = g a) → (∀ i, i < 16 → g2 54 i = g 76 i) → F (T, rf, g2)) : Mok d 0 0 sc kX12_laysHot [.ref 53] (T, rf, g) (Qv F) := by
  refine Mok.ofWp (L := [some (.ref 53), none]) rfl rfl rfl ?_
  refine xX12_laysHot_0 ?_
  refine xX12_laysHot_1 rfl ?_
  exact lp_X12_laysHot hM hQ 16 0 _ _ (by omega) rfl (fun _ _ => rfl) (fun i hi => absurd hi (Nat.not_lt_zero i))
/-- the spots' heat laid back -/
theorem MO_hot {g g' : Nat → Nat → Int32} {o : OV} {f : Nat → Int32} {nc : Nat} (h : OEq (MOv g) (hotO o f 16) nc) (hf : ∀ a, a ≠ 54 → g' a = g a) (hh : ∀ i, i < 16 → g' 54 i = o 1 i) : OEq (MOv g') o nc := by
  obtain ⟨a, b, c, d⟩ := h
  have e : ∀ r k, r ≠ 1 → hotO o f 16 r k = o r k := fun r k q => if_neg (fun z => q z.1)
  rw [e 0 5 (by decide), e 0 8 (by decide), e 0 9 (by decide), e 0 10 (by decide), e 0 11 (by decide)] at a
  refine ⟨?_, hh, fun i hi => ?_, fun k hk => ?_⟩
  · show g' 53 3 = _ ∧ g' 53 10 = _ ∧ g' 53 1 = _ ∧ g' 53 2 = _ ∧ g' 53 16 = _
    rw [hf 53 (by omega)]
    exact a
  · have := c i hi
    rw [e 2 i (by decide), e 3 i (by decide), e 4 i (by decide), e 5 i (by decide)] at this
    show g' 55 i = _ ∧ g' 56 i = _ ∧ g' 57 i = _ ∧ g' 58 i = _
    rw [hf 55 (by omega), hf 56 (by omega), hf 57 (by omega), hf 58 (by omega)]
    exact this
  · have := d k hk
    rw [e 6 k (by decide), e 7 k (by decide)] at this
    show g' 59 k = _ ∧ g' 60 k = _
    rw [hf 59 (by omega), hf 60 (by omega)]
    exact this
theorem PI_hot {o : OV} {f : Nat → Int32} (h : PI o) : PI (hotO o f 16) := by
  have e : ∀ r k, r ≠ 1 → hotO o f 16 r k = o r k := fun r k q => if_neg (fun z => q z.1)
  intro i j hi hj
  rw [e 0 8 (by decide)] at hj
  rw [e 6 i (by decide), e 6 j (by decide)]
  exact h i j hi hj
theorem hot_lw {o : OV} {f : Nat → Int32} : hotO o f 16 0 11 = o 0 11 := if_neg (fun z => absurd z.1 (by decide))
theorem MV.r {g g' : Nat → Nat → Int32} (h : ∀ a, a ≠ 54 → a ≠ 76 → g' a = g a) : MV g g' := ⟨fun a p => h a (by omega) (by omega), fun k _ _ _ _ _ _ _ => congrFun (h 53 (by omega) (by omega)) k⟩
theorem lp_X12_fan0 {d : Nat} {sc : Nat × (Nat → Int32)} {T : List (Nat × Nat)} {rf : Nat → Nat → Option Nat} {o : OV} {g : Nat → Nat → Int32} {F : Int32 → AH → Prop} {x1 : Int32} (hM : MS T rf) (h1 : ∀ i, i < 16 → g 54 i = o 1 i) (hQ : Wp (d + 7) 0 0 sc kX12_fan (Qi F) 36 [some (.ref 53), some (.int x1), some (.int (sumI (o 1) 16)), some (.int 0)] [] (T, rf, g) 0 0) : ∀ (k j : Nat) (x2 x3 : Int32), (j + k = 16) → (x3 = nI j) → (x2 = sumI (o 1) j) → Wp (d + 7) 0 0 sc kX12_fan (Qi F) 13 [some (.ref 53), some (.int x1), some (.int x2), some (.int x3)] [] (T, rf, g) 0 0 := by
  intro k
  induction k with
  | zero =>
    intro j x2 x3 hj hx3 hx2
    subst hx3
    refine xX12_fan_13 ?_
    refine xX12_fan_14 ?_
    refine xX12_fan_16_t (nI_le (a := 16) (by omega) (by omega)) ?_
    refine xX12_fan_34 ?_
    refine xX12_fan_35 rfl ?_
    have e : j = 16 := by omega
    subst e
    rw [hx2]
    exact hQ
  | succ k ih =>
    intro j x2 x3 hj hx3 hx2
    subst hx3
    refine xX12_fan_13 ?_
    refine xX12_fan_14 ?_
    refine xX12_fan_16_f (nI_ge (b := 16) (by omega) (by omega)) ?_
    refine xX12_fan_19 ?_
    refine xX12_fan_20 ?_
    refine xX12_fan_21 (hM.1 _ _ rfl) (hM.2 _ _ _ rfl) ?_
    refine xX12_fan_24 ?_
    refine xX12_fan_25 (j := j) (hM.1 _ _ rfl) rfl (by omega) rfl ?_
    rw [h1 j (by omega)]
    refine xX12_fan_26 ?_
    refine xX12_fan_27 rfl ?_
    refine xX12_fan_28 rfl rfl ?_
    refine xX12_fan_31 ?_
    exact ih (j + 1) _ _ (by omega) (nI_1 _) (by rw [hx2]; rfl)
theorem lp_X12_fan {d : Nat} {sc : Nat × (Nat → Int32)} {T : List (Nat × Nat)} {rf : Nat → Nat → Option Nat} {o : OV} {nc : Nat} {g0 : Nat → Nat → Int32} {F : Int32 → AH → Prop} {x1 sm : Int32} (hM : MS T rf) (hQ : ∀ g2 x3, (∀ a, a ≠ 54 → g2 a = g0 a) → OEq (MOv g2) (hotO o (fun _ => sm / 16) 16) nc → Wp (d + 7) 0 0 sc kX12_fan (Qi F) 58 [some (.ref 53), some (.int x1), some (.int sm), some (.int x3)] [] (T, rf, g2) 0 0) : ∀ (k j : Nat) (x3 : Int32) (g : Nat → Nat → Int32), (j + k = 16) → (x3 = nI j) → (∀ a, a ≠ 54 → g a = g0 a) → (OEq (MOv g) (hotO o (fun _ => sm / 16) j) nc) → Wp (d + 7) 0 0 sc kX12_fan (Qi F) 36 [some (.ref 53), some (.int x1), some (.int sm), some (.int x3)] [] (T, rf, g) 0 0 := by
  intro k
  induction k with
  | zero =>
    intro j x3 g hj hx3 hf hE9
    subst hx3
    refine xX12_fan_36 ?_
    refine xX12_fan_37 ?_
    refine xX12_fan_39_t (nI_le (a := 16) (by omega) (by omega)) ?_
    have e : j = 16 := by omega
    subst e
    exact hQ _ _ hf hE9
  | succ k ih =>
    intro j x3 g hj hx3 hf hE9
    subst hx3
    refine xX12_fan_36 ?_
    refine xX12_fan_37 ?_
    refine xX12_fan_39_f (nI_ge (b := 16) (by omega) (by omega)) ?_
    refine xX12_fan_42 ?_
    refine xX12_fan_43 (hM.1 _ _ rfl) (hM.2 _ _ _ rfl) ?_
    refine xX12_fan_46 ?_
    refine xX12_fan_47 ?_
    refine xX12_fan_48 ?_
    refine xX12_fan_50 (by decide) ?_
    refine xX12_fan_51 (j := j) (hM.1 _ _ rfl) rfl (by omega) rfl ?_
    refine xX12_fan_52 rfl rfl ?_
    refine xX12_fan_55 ?_
    exact ih (j + 1) _ _ (by omega) (nI_1 _) (fun a p => by rw [up_row p]; exact hf a p) (by rw [← hotO_up]; exact MO_1.tr hE9.up)
theorem s_X12_fan {d : Nat} {sc : Nat × (Nat → Int32)} {T : List (Nat × Nat)} {rf : Nat → Nat → Option Nat} {o : OV} {nc t : Nat} {cs : Nat → List Int32} {g : Nat → Nat → Int32} {F : Int32 → AH → Prop} (hC : MC T rf g o nc t cs) (hQ : ∀ g2, OEq (MOv g2) (o) nc → MV g g2 → F (fanP o nc (evL (lwM cs))) (T, rf, g2)) : Mok (d + 7) 0 0 sc kX12_fan [.ref 53] (T, rf, g) (Qi F) := by
  obtain ⟨hB, hP⟩ := id hC
  obtain ⟨hM, hE, hV, hlw, ht6, hL⟩ := id hB
  have hn8 := hV.2.1
  have e9 : g 53 1 = nI (nN (o 0 9)) := hE.1.2.2.1.trans hV.tN.1
  have ht40 := hV.tN.2.1
  have hcn0 : g 53 3 = nI nc := hE.1.1.trans hV.1
  refine Mok.ofWp (L := [some (.ref 53), none, none, none]) rfl rfl rfl ?_
  refine xX12_fan_0 ?_
  refine xX12_fan_1 (hM.1 _ _ rfl) rfl rfl rfl (s_X12_badNow hC (fun g0 hm0 hb0 => ?_))
  refine xX12_fan_4 rfl ?_
  refine xX12_fan_5 ?_
  refine xX12_fan_6 rfl ?_
  refine xX12_fan_7 ?_
  refine xX12_fan_8 (hM.1 _ _ rfl) rfl rfl rfl (s_X12_keepsHot hM (fun g1 hq1 hi1 => ?_))
  refine xX12_fan_11 ?_
  refine xX12_fan_12 rfl ?_
  have hCz := hC.mz hm0
  have kE : OEq (MOv g1) o nc := by
    have e : MOv g1 = MOv g0 := MOv.keep (fun a p q => hq1 a (by omega))
    rw [e]; exact hCz.1.2.1
  have k76 : ∀ i, i < 16 → g1 76 i = o 1 i := fun i hi => (hi1 i hi).trans (hCz.1.2.1.2.1 i hi)
  have kf : MV g g1 := hm0.mv.tr (MV.r (fun a _ q => hq1 a q))
  have kL : ML g1 t cs := hL.mv kf
  refine lp_X12_fan0 hM (o := o) (fun i hi => kE.2.1 i hi) ?_ 16 0 _ _ (by omega) rfl rfl
  refine lp_X12_fan (o := o) (nc := nc) hM (fun g9 x3 h1 h2 => ?_) 16 0 _ _ (by omega) rfl (fun _ _ => rfl) (by rw [hotO_0]; exact kE)
  refine xX12_fan_58 ?_
  obtain ⟨sm, hsm, esm⟩ := sumH hV 16 (Nat.le_refl _)
  have hL9 : ML g9 t cs := kL.keep (h1 _ (by omega)) (h1 _ (by omega))
  have h9 := mcE hM h2 (OVk_hotO (fun k hk => ⟨sm / 16, by omega, by rw [esm]; exact div16 (by omega)⟩) hV) (PI_hot hP) (hot_lw.trans hlw) ht6 hL9
  refine xX12_fan_59 (hM.1 _ _ rfl) rfl rfl rfl (s_X12_badNow h9 (fun g0 hm0 hb0 => ?_))
  refine xX12_fan_62 rfl ?_
  refine xX12_fan_63 ?_
  refine xX12_fan_64 (hM.1 _ _ rfl) rfl rfl rfl (s_X12_laysHot hM (fun g1 hq1 hi1 => ?_))
  refine xX12_fan_67 ?_
  refine xX12_fan_68 ?_
  refine xX12_fan_69 ?_
  refine xX12_fan_70 rfl rfl ?_
  exact hQ _ (MO_hot (h9.mz hm0).1.2.1 hq1 (fun i hi => (hi1 i hi).trans ((congrFun (hm0 76 (by omega) (by omega) (by omega)) i).trans ((congrFun (h1 76 (by omega)) i).trans (k76 i hi))))) (kf.tr ((MV.r (fun a p _ => h1 a p)).tr (hm0.mv.tr (MV.r (fun a p _ => hq1 a p)))))
theorem lp_X12_film {d : Nat} {sc : Nat × (Nat → Int32)} {T : List (Nat × Nat)} {rf : Nat → Nat → Option Nat} {o : OV} {nc : Nat} {cs : Nat → List Int32} {g0 : Nat → Nat → Int32} {m : Nat} {s mm : Int32} {sh : Nat → Nat → Int32} {F : Int32 → AH → Prop} (hM : MS T rf) (es : s = nI (nN s)) (hs4 : nN s < 4) (em : mm = nI m) (hV : OVk o nc) (hm40 : m ≤ nN (o 0 9)) (hcn : g0 53 3 = nI nc) (hR : BRm g0 o (evL (lwM cs)) nc) (hQ : ∀ g2, MG g0 g2 → MHc g2 sh (nN s) 1 (nI nc) (fun k => if k < nc then brS o (evL (lwM cs)) k m else 0) 40 → F (nI nc) (T, rf, g2)) : ∀ (k j : Nat) (x3 : Int32) (g : Nat → Nat → Int32), (j + k = 40) → (x3 = nI j) → (MG g0 g) → (MHc g sh (nN s) 1 (nI nc) (fun k => if k < nc then brS o (evL (lwM cs)) k m else 0) j) → Wp (d + 6) 0 0 sc kX12_film (Qi F) 47 [some (.ref 53), some (.int s), some (.int mm), some (.int x3)] [] (T, rf, g) 0 0 := by
  intro k
  induction k with
  | zero =>
    intro j x3 g hj hx3 hf hH
    have hn8 := hV.2.1
    have ht40 := hV.tN.2.1
    subst hx3
    have hcn1 : g 53 3 = nI nc := by rw [hf 53 (by omega) (by omega) (by omega)]; exact hcn
    have hR1 : BRm g o (evL (lwM cs)) nc := hR.row (hf 73 (by omega) (by omega) (by omega))
    refine xX12_film_47 ?_
    refine xX12_film_48 ?_
    refine xX12_film_50_t (nI_le (a := 40) (by omega) (by omega)) ?_
    refine xX12_film_99 ?_
    refine xX12_film_100 (hM.1 _ _ rfl) ?_
    refine xX12_film_103 rfl rfl ?_
    have e : j = 40 := by omega
    subst e
    rw [hcn1]
    exact hQ _ hf hH
  | succ k ih =>
    intro j x3 g hj hx3 hf hH
    have hn8 := hV.2.1
    have ht40 := hV.tN.2.1
    subst hx3
    have hcn1 : g 53 3 = nI nc := by rw [hf 53 (by omega) (by omega) (by omega)]; exact hcn
    have hR1 : BRm g o (evL (lwM cs)) nc := hR.row (hf 73 (by omega) (by omega) (by omega))
    refine xX12_film_47 ?_
    refine xX12_film_48 ?_
    refine xX12_film_50_f (nI_ge (b := 40) (by omega) (by omega)) ?_
    refine xX12_film_53 ?_
    refine xX12_film_54 (hM.1 _ _ rfl) (hM.2 _ _ _ rfl) ?_
    refine xX12_film_57 ?_
    refine xX12_film_59 ?_
    refine xX12_film_60 ?_
    refine xX12_film_61 ?_
    refine xX12_film_62 ?_
    refine xX12_film_63 ?_
    refine xX12_film_64 ?_
    refine xX12_film_65 (hM.1 _ _ rfl) ?_
    rw [hcn1]
    refine xX12_film_68 (fun c68 => ?_) (fun c68 => ?_)
    · have hv : (0 : Int32) = (fun k => if k < nc then brS o (evL (lwM cs)) k m else 0) j := (if_neg (fun z => absurd c68 (Int32.not_le.mpr (nI_lt z (by omega))))).symm
      refine xX12_film_91 ?_
      refine xX12_film_92 (j := (40 * nN s + j)) (hM.1 _ _ rfl) ((congrArg (fun z => 40 * z + nI j) es).trans (i40 (by omega) (by omega))) (by omega) rfl ?_
      refine xX12_film_93 rfl rfl ?_
      refine xX12_film_96 ?_
      exact ih (j + 1) _ _ (by omega) (nI_1 _) (hf.tr (MG.pu (by omega))) (MHc_s hH (by omega) hv)
    · have hjn : j < nc := Nat.lt_of_not_le (fun z => c68 (nI_le z (by omega)))
      refine xX12_film_71 ?_
      refine xX12_film_72 (hM.1 _ _ rfl) (hM.2 _ _ _ rfl) ?_
      refine xX12_film_75 ?_
      refine xX12_film_77 ?_
      refine xX12_film_78 ?_
      refine xX12_film_79 ?_
      refine xX12_film_81 rfl rfl rfl (s_X12_within  ?_)
      refine xX12_film_84 ?_
      refine xX12_film_85 ?_
      refine xX12_film_86 ?_
      refine xX12_film_87 (j := (41 * j + m)) (hM.1 _ _ rfl) (by rw [wiM_in (by omega), em]; exact i41 (by omega) (by omega)) (by omega) rfl ?_
      rw [hR1 j hjn m hm40]
      have hv : brS o (evL (lwM cs)) j m = (fun k => if k < nc then brS o (evL (lwM cs)) k m else 0) j := (if_pos hjn).symm
      refine xX12_film_88 ?_
      refine xX12_film_92 (j := (40 * nN s + j)) (hM.1 _ _ rfl) ((congrArg (fun z => 40 * z + nI j) es).trans (i40 (by omega) (by omega))) (by omega) rfl ?_
      refine xX12_film_93 rfl rfl ?_
      refine xX12_film_96 ?_
      exact ih (j + 1) _ _ (by omega) (nI_1 _) (hf.tr (MG.pu (by omega))) (MHc_s hH (by omega) hv)
theorem s_X12_film {d : Nat} {sc : Nat × (Nat → Int32)} {T : List (Nat × Nat)} {rf : Nat → Nat → Option Nat} {o : OV} {nc t : Nat} {cs : Nat → List Int32} {g : Nat → Nat → Int32} {s m : Int32} {sh : Nat → Nat → Int32} {F : Int32 → AH → Prop} (hC : MC T rf g o nc t cs) (hH : MH g sh) (hQ : ∀ g2, OEq (MOv g2) o nc → MH g2 (filmX sh o nc (evL (lwM cs)) s m) → MQm g g2 → F (filmP o nc s m) (T, rf, g2)) : Mok (d + 6) 0 0 sc kX12_film [.ref 53, .int s, .int m] (T, rf, g) (Qi F) := by
  obtain ⟨hB, hP⟩ := id hC
  obtain ⟨hM, hE, hV, hlw, ht6, hL⟩ := id hB
  have hn8 := hV.2.1
  have e9 : g 53 1 = nI (nN (o 0 9)) := hE.1.2.2.1.trans hV.tN.1
  have ht40 := hV.tN.2.1
  have hcn0 : g 53 3 = nI nc := hE.1.1.trans hV.1
  refine Mok.ofWp (L := [some (.ref 53), some (.int s), some (.int m), none]) rfl rfl rfl ?_
  refine xX12_film_0 ?_
  refine xX12_film_1 ?_
  refine xX12_film_2 ?_
  refine xX12_film_3 rfl rfl rfl (s_X12_in  (fun hw0 => ?_) (fun nw0 => ?_))
  · refine xX12_film_6_f (by decide) ?_
    refine xX12_film_9 ?_
    refine xX12_film_10 ?_
    refine xX12_film_11 ?_
    refine xX12_film_12 (hM.1 _ _ rfl) ?_
    rw [show g 53 1 = o 0 9 from hE.1.2.2.1]
    refine xX12_film_15 rfl rfl rfl (s_X12_in  (fun hw1 => ?_) (fun nw1 => ?_))
    · refine xX12_film_18_t (by decide) ?_
      refine xX12_film_24 ?_
      refine xX12_film_25 (hM.1 _ _ rfl) rfl rfl rfl (s_X12_bakes hC (fun g2 hm2 hb2 => ?_))
      refine xX12_film_28 ?_
      refine xX12_film_29 (hM.1 _ _ rfl) (hM.2 _ _ _ rfl) ?_
      refine xX12_film_32 ?_
      refine xX12_film_33 ?_
      refine xX12_film_34 (j := (nN s)) (hM.1 _ _ rfl) (inN hw0).1 (Nat.lt_succ_of_le (inN hw0).2) rfl ?_
      refine xX12_film_35 ?_
      refine xX12_film_36 (hM.1 _ _ rfl) (hM.2 _ _ _ rfl) ?_
      refine xX12_film_39 ?_
      refine xX12_film_40 ?_
      refine xX12_film_41 (hM.1 _ _ rfl) ?_
      have hcn1 : g2 53 3 = nI nc := (congrFun (hm2 53 (by omega) (by omega) (by omega)) 3).trans hcn0
      rw [show up g2 65 (nN s) 1 53 3 = nI nc from (congrFun (up_row (by omega)) 3).trans hcn1]
      refine xX12_film_44 (j := (nN s)) (hM.1 _ _ rfl) (inN hw0).1 (Nat.lt_succ_of_le (inN hw0).2) rfl ?_
      refine xX12_film_45 ?_
      refine xX12_film_46 rfl ?_
      have hs4 := Nat.lt_succ_of_le (inN hw0).2
      have hz := hC.mz hm2
      have hu : MG g2 (up (up g2 65 (nN s) 1) 66 (nN s) (nI nc)) := (MG.pu (by omega)).tr (MG.pu (by omega))
      refine lp_X12_film hM (inN hw0).1 hs4 (inN hw1).1 hV (inN hw1).2 ((congrFun (hu 53 (by omega) (by omega) (by omega)) 3).trans hcn1) (hb2.row (hu 73 (by omega) (by omega) (by omega))) (fun g2 h1 h2 => ?_) 40 0 _ _ (by omega) rfl MG.rf (MHc_0 (hH.mv hm2.mv))
      have q := hQ g2 (by rw [h1.mo, hu.mo]; exact hz.1.2.1) (by
        rw [filmX, if_pos hw0, if_pos hw1]
        exact MHc_e h2 (fun a q => by funext k; exact if_neg q) (by simp [filmS]) (by simp [filmS]) (fun k hk => by
          show filmS sh o nc (evL (lwM cs)) (nN s) (nN m) nc (nN s) (2 + k) = _
          unfold filmS
          rw [if_pos rfl, if_neg (by omega), if_neg (by omega), show 2 + k - 2 = k by omega])) ((hm2.mv.mq.tr hu.mq).tr h1.mq)
      rw [filmP, if_pos hw0, if_pos hw1] at q
      exact q
    · refine xX12_film_18_f (by decide) ?_
      refine xX12_film_21 ?_
      refine xX12_film_23 rfl rfl ?_
      have q := hQ _ hE (by rw [filmX, if_pos hw0, if_neg nw1]; exact hH) MQm.rf
      rw [filmP, if_pos hw0, if_neg nw1] at q
      exact q
  · refine xX12_film_6_t (by decide) ?_
    refine xX12_film_21 ?_
    refine xX12_film_23 rfl rfl ?_
    have q := hQ _ hE (by rw [filmX, if_neg nw0]; exact hH) MQm.rf
    rw [filmP, if_neg nw0] at q
    exact q
