/-- the first of which something is so, or -1 -/
def scan (p : Nat → Prop) [DecidablePred p] : Nat → Nat → Int32
  | 0, _ => -1
  | k + 1, j => if p j then nI j else scan p k (j + 1)
theorem scan_yes {p : Nat → Prop} [DecidablePred p] {k j : Nat} (h : p j) : scan p (k + 1) j = nI j := if_pos h
theorem scan_no {p : Nat → Prop} [DecidablePred p] {k j : Nat} (h : ¬ p j) : scan p (k + 1) j = scan p k (j + 1) := if_neg h
theorem scan_eq {p q : Nat → Prop} [DecidablePred p] [DecidablePred q] : ∀ (k j : Nat), (∀ i, j ≤ i → i < j + k → (p i ↔ q i)) → scan p k j = scan q k j := by
  intro k
  induction k with
  | zero => intro j _; rfl
  | succ k ih =>
    intro j h
    by_cases hp : p j
    · rw [scan_yes hp, scan_yes ((h j (Nat.le_refl _) (by omega)).mp hp)]
    · rw [scan_no hp, scan_no (fun z => hp ((h j (Nat.le_refl _) (by omega)).mpr z)), ih (j + 1) (fun i h1 h2 => h i (by omega) (by omega))]
theorem scan_in {p : Nat → Prop} [DecidablePred p] : ∀ (k j : Nat), scan p k j = -1 ∨ ∃ i, j ≤ i ∧ i < j + k ∧ p i ∧ scan p k j = nI i := by
  intro k
  induction k with
  | zero => intro j; exact Or.inl rfl
  | succ k ih =>
    intro j
    by_cases hp : p j
    · exact Or.inr ⟨j, Nat.le_refl _, by omega, hp, scan_yes hp⟩
    · rw [scan_no hp]
      rcases ih (j + 1) with q | ⟨i, h1, h2, h3, h4⟩
      · exact Or.inl q
      · exact Or.inr ⟨i, by omega, by omega, h3, h4⟩
/-- the first cake that isn't as a row tells -/
def fstO (row : Nat → Int32) (o : OV) (ev : EV) (nc : Nat) : Int32 := scan (fun c => row c ≠ endB o ev c) nc 0
def onP (o : OV) (nc : Nat) (p : Int32) : Int32 := scan (fun c => o 5 c = p) nc 0
-- what weighs least
def wgh (s : Option (Int32 × Int32)) (a v : Int32) : Option (Int32 × Int32) := match s with
  | none => some (a, v)
  | some q => if v < q.2 then some (a, v) else some q
def WG (g : Nat → Nat → Int32) (s : Option (Int32 × Int32)) : Prop := match s with
  | none => g 0 9 = -1 ∧ g 0 10 = -1 ∧ g 0 11 = 0
  | some q => g 0 9 = q.1 ∧ g 0 10 = q.2 ∧ g 0 11 = 1
def lgt (s : Option (Int32 × Int32)) (what : Int32) : Int32 := match s with
  | none => -1
  | some q => if what = 0 then q.1 else q.2
def R0 (g g' : Nat → Nat → Int32) : Prop := (∀ a, a ≠ 0 → g' a = g a) ∧ ∀ k, k < 9 → g' 0 k = g 0 k
/-- what a call leaves as it was that only thinks -/
def VF (g g' : Nat → Nat → Int32) : Prop := (∀ a, a ≠ 0 → (a < 9 ∨ 16 < a) → a ≠ 25 → a ≠ 26 → a ≠ 34 → (a < 49 ∨ (53 ≤ a ∧ a < 77) ∨ a % 4 = 2 ∨ a % 4 = 3) → g' a = g a) ∧ ∀ k, k < 9 → g' 0 k = g 0 k
theorem VF.rf {g : Nat → Nat → Int32} : VF g g := ⟨fun _ _ _ _ _ _ _ => rfl, fun _ _ => rfl⟩
theorem VF.tr {g1 g2 g3 : Nat → Nat → Int32} (h1 : VF g1 g2) (h2 : VF g2 g3) : VF g1 g3 := ⟨fun a p q r s t u => (h2.1 a p q r s t u).trans (h1.1 a p q r s t u), fun k hk => (h2.2 k hk).trans (h1.2 k hk)⟩
theorem ZF.vf {g g' : Nat → Nat → Int32} (h : ZF g g') : VF g g' := ⟨fun a _ _ p q r s => h a p q r s, fun k _ => congrFun (h 0 (by omega) (by omega) (by omega) (by omega)) k⟩
theorem R0.vf {g g' : Nat → Nat → Int32} (h : R0 g g') : VF g g' := ⟨fun a p _ _ _ _ _ => h.1 a p, h.2⟩
theorem VF.f9 {g g' : Nat → Nat → Int32} (h : ∀ a, (a < 9 ∨ 16 < a) → g' a = g a) : VF g g' := ⟨fun a _ p _ _ _ _ => h a p, fun k _ => congrFun (h 0 (by omega)) k⟩
theorem VF.up {g : Nat → Nat → Int32} {a k : Nat} {v : Int32} (h : 9 ≤ a ∧ a ≤ 16) : VF g (up g a k v) := VF.f9 (fun _ q => up_row (by omega))
theorem ShT {T : List (Nat × Nat)} {rf : Nat → Nat → Option Nat} {s : Nat} (hX : XS T rf) (h : s < 4) : T[41 + 2 * s]? = some (7, 0) ∧ T[41 + 2 * s + 1]? = some (20, 40) ∧ rf (41 + 2 * s) 0 = some (41 + 2 * s + 1) ∧ rf 40 s = some (41 + 2 * s) := by
  rcases (by omega : s = 0 ∨ s = 1 ∨ s = 2 ∨ s = 3) with rfl | rfl | rfl | rfl <;> exact ⟨hX.1 _ _ rfl, hX.1 _ _ rfl, hX.2 _ _ _ rfl, hX.2 _ _ _ rfl⟩
/-- the class's sheets: of each its sort, its size, its cells -/
def XH (g : Nat → Nat → Int32) (sh : Nat → Nat → Int32) : Prop := ∀ s, s < 4 → g (41 + 2 * s) 1 = sh s 0 ∧ g (41 + 2 * s) 2 = sh s 1 ∧ ∀ k, k < 40 → g (41 + 2 * s + 1) k = sh s (2 + k)
theorem XH.keep {g g' : Nat → Nat → Int32} {sh : Nat → Nat → Int32} (h : XH g sh) (hf : ∀ a, 41 ≤ a → a < 49 → g' a = g a) : XH g' sh := by
  intro s hs
  rw [hf _ (by omega) (by omega), hf _ (by omega) (by omega)]
  exact h s hs
def refS (sh : Nat → Nat → Int32) (nc : Nat) (s : Int32) : Int32 := if ¬ (0 ≤ s ∧ s ≤ 3) then -2 else if sh (nN s) 0 = -1 then -11 else if sh (nN s) 1 = nI nc then 0 else -2
theorem inN {v : Int32} {M : Int32} (h : 0 ≤ v ∧ v ≤ M) : v = nI (nN v) ∧ nN v ≤ nN M := by
  have h1 := i0.mp h.1
  have h2 := iLe.mp h.2
  exact ⟨iN h1, by unfold nN; omega⟩
theorem refS_0 {sh : Nat → Nat → Int32} {nc : Nat} {s : Int32} (h : refS sh nc s = 0) : s = nI (nN s) ∧ nN s < 4 ∧ sh (nN s) 1 = nI nc := by
  unfold refS at h
  split at h
  · exact absurd h (by decide)
  · rename_i q
    split at h
    · exact absurd h (by decide)
    · split at h
      · rename_i q2
        have q := Decidable.not_not.mp q
        have h3 := inN q
        have h4 : nN 3 = 3 := by decide
        exact ⟨h3.1, by omega, q2⟩
      · exact absurd h (by decide)
-- ovens by lot
def remL (x y : Int64) : Int64 := x - x / y * y
def lot (seed : Int32) : Nat → Int64
  | 0 => seed.toInt64 + 1
  | n + 1 => remL (lot seed n * 48271) 2147483647
def hotD (seed : Int32) (i : Nat) : Int32 := (remL (lot seed (i + 1)) 30).toInt32
def drawnO (o : OV) (seed : Int32) (n : Nat) : OV := fun r k => if r = 1 ∧ k < n then hotD seed k else o r k
def cdv : Nat → Int32 → Int32 → Int32
  | 0, a, _ => a
  | k + 1, a, b => if b = 0 then a else cdv k b (a - a / b * b)

theorem lp_X7_become {d : Nat} {sc : Nat × (Nat → Int32)} {T : List (Nat × Nat)} {rf : Nat → Nat → Option Nat} {a : Nat} {x1 x2 : Int32} {F : AH → Prop} {g0 : Nat → Nat → Int32} (hT : T[a]? = some (7, 0) ∧ T[a + 1]? = some (20, 40) ∧ rf a 0 = some (a + 1)) (hQ : ∀ g2, (∀ q, q ≠ a + 1 → g2 q = g0 q) → (∀ c, c < 40 → g2 (a + 1) c = 0) → F (T, rf, g2)) : ∀ (k j : Nat) (x3 : Int32) (g : Nat → Nat → Int32), (j + k = 40) → (x3 = nI j) → (∀ q, q ≠ a + 1 → g q = g0 q) → (∀ c, c < j → g (a + 1) c = 0) → Wp d 0 0 sc kX7_become (Qv F) 12 [some (.ref a), some (.int x1), some (.int x2), some (.int x3)] [] (T, rf, g) 0 0 := by
  intro k
  induction k with
  | zero =>
    intro j x3 g hj hx3 hf hz
    refine xX7_become_12 ?_
    refine xX7_become_13 ?_
    refine xX7_become_14 hT.1 hT.2.2 ?_
    refine xX7_become_17 hT.2.1 rfl rfl ?_
    refine xX7_become_18_t (by rw [hx3]; exact nI_le (a := 40) (by omega) (by omega)) ?_
    refine xX7_become_34 rfl rfl ?_
    exact hQ _ hf (fun c hc => hz c (by omega))
  | succ k ih =>
    intro j x3 g hj hx3 hf hz
    refine xX7_become_12 ?_
    refine xX7_become_13 ?_
    refine xX7_become_14 hT.1 hT.2.2 ?_
    refine xX7_become_17 hT.2.1 rfl rfl ?_
    refine xX7_become_18_f (by rw [hx3]; exact nI_ge (b := 40) (by omega) (by omega)) ?_
    refine xX7_become_21 ?_
    refine xX7_become_22 hT.1 hT.2.2 ?_
    refine xX7_become_25 ?_
    refine xX7_become_26 ?_
    refine xX7_become_27 (j := j) hT.2.1 hx3 (by omega) rfl ?_
    refine xX7_become_28 rfl rfl ?_
    refine xX7_become_31 ?_
    exact ih (j + 1) _ _ (by omega) (by rw [hx3]; exact nI_1 j) (fun q h => by rw [up_row h]; exact hf q h) (fun c hc => by
      by_cases q : c = j
      · rw [q]; exact up_same _ _ _ _
      · rw [up_ne (fun z => q z.2)]; exact hz c (by omega))
theorem s_X7_become {d : Nat} {sc : Nat × (Nat → Int32)} {T : List (Nat × Nat)} {rf : Nat → Nat → Option Nat} {g : Nat → Nat → Int32} {a : Nat} {x1 x2 : Int32} {F : AH → Prop} (hT : T[a]? = some (7, 0) ∧ T[a + 1]? = some (20, 40) ∧ rf a 0 = some (a + 1)) (hQ : ∀ g2, g2 a 1 = x1 → g2 a 2 = x2 → (∀ c, c < 40 → g2 (a + 1) c = 0) → (∀ q, q ≠ a → q ≠ a + 1 → g2 q = g q) → F (T, rf, g2)) : Mok d 0 0 sc kX7_become [.ref a, .int x1, .int x2] (T, rf, g) (Qv F) := by
  refine Mok.ofWp (L := [some (.ref a), some (.int x1), some (.int x2), none]) rfl rfl rfl ?_
  refine xX7_become_0 ?_
  refine xX7_become_1 ?_
  refine xX7_become_2 hT.1 ?_
  refine xX7_become_5 ?_
  refine xX7_become_6 ?_
  refine xX7_become_7 hT.1 ?_
  refine xX7_become_10 ?_
  refine xX7_become_11 rfl ?_
  refine lp_X7_become hT (fun g2 h1 h2 => ?_) 40 0 _ _ (by omega) rfl (fun _ _ => rfl) (fun c hc => absurd hc (Nat.not_lt_zero c))
  exact hQ g2 (by rw [h1 a (by omega), up_ne (by omega), up_same]) (by rw [h1 a (by omega), up_same]) h2 (fun q p1 p2 => by rw [h1 q p2, up_row p1, up_row p1])
theorem s_X7_cellAt {d : Nat} {sc : Nat × (Nat → Int32)} {T : List (Nat × Nat)} {rf : Nat → Nat → Option Nat} {g : Nat → Nat → Int32} {a : Nat} {x1 : Int32} {i : Nat} {F : Int32 → AH → Prop} (hT : T[a]? = some (7, 0) ∧ T[a + 1]? = some (20, 40) ∧ rf a 0 = some (a + 1)) (hi : x1 = nI i) (hi4 : i < 40) (hQ : F (g (a + 1) i) (T, rf, g)) : Mok d 0 0 sc kX7_cellAt [.ref a, .int x1] (T, rf, g) (Qi F) := by
  refine Mok.ofWp (L := [some (.ref a), some (.int x1)]) rfl rfl rfl ?_
  refine xX7_cellAt_0 ?_
  refine xX7_cellAt_1_f (by rw [hi]; exact nI_pos (by omega)) ?_
  refine xX7_cellAt_4 ?_
  refine xX7_cellAt_5 ?_
  refine xX7_cellAt_6 hT.1 hT.2.2 ?_
  refine xX7_cellAt_9 hT.2.1 rfl rfl ?_
  refine xX7_cellAt_10_f (by rw [hi]; exact nI_ge (b := 40) (by omega) (by omega)) ?_
  refine xX7_cellAt_13 ?_
  refine xX7_cellAt_14 hT.1 hT.2.2 ?_
  refine xX7_cellAt_17 ?_
  refine xX7_cellAt_18 (j := i) hT.2.1 hi hi4 rfl ?_
  refine xX7_cellAt_19 ?_
  refine xX7_cellAt_23 rfl rfl ?_
  exact hQ
def putV (sort v : Int32) : Int32 := if sort = 0 then v.toInt8.toInt32 else if sort = 1 then v.toInt16.toInt32 else v
theorem s_X7_put {d : Nat} {sc : Nat × (Nat → Int32)} {T : List (Nat × Nat)} {rf : Nat → Nat → Option Nat} {g : Nat → Nat → Int32} {a : Nat} {x1 x2 : Int32} {i : Nat} {F : AH → Prop} (hT : T[a]? = some (7, 0) ∧ T[a + 1]? = some (20, 40) ∧ rf a 0 = some (a + 1)) (hi : x1 = nI i) (hi4 : i < 40) (hQ : F (T, rf, up g (a + 1) i (putV (g a 1) x2))) : Mok d 0 0 sc kX7_put [.ref a, .int x1, .int x2] (T, rf, g) (Qv F) := by
  refine Mok.ofWp (L := [some (.ref a), some (.int x1), some (.int x2)]) rfl rfl rfl ?_
  refine xX7_put_0 ?_
  refine xX7_put_1_f (by rw [hi]; exact nI_pos (by omega)) ?_
  refine xX7_put_4 ?_
  refine xX7_put_5 ?_
  refine xX7_put_6 hT.1 hT.2.2 ?_
  refine xX7_put_9 hT.2.1 rfl rfl ?_
  refine xX7_put_10_f (by rw [hi]; exact nI_ge (b := 40) (by omega) (by omega)) ?_
  refine xX7_put_13 ?_
  refine xX7_put_14 hT.1 hT.2.2 ?_
  refine xX7_put_17 ?_
  refine xX7_put_18 ?_
  refine xX7_put_19 hT.1 ?_
  refine xX7_put_22 (fun c22 => ?_) (fun c22 => ?_)
  · refine xX7_put_30 ?_
    refine xX7_put_31 hT.1 ?_
    refine xX7_put_34 ?_
    refine xX7_put_35 (fun c35 => ?_) (fun c35 => ?_)
    · refine xX7_put_43 ?_
      refine xX7_put_44 (j := i) hT.2.1 hi hi4 rfl ?_
      refine xX7_put_45 rfl rfl ?_
      simp only [putV, *, if_true, if_false] at hQ
      exact hQ
    · refine xX7_put_38 ?_
      refine xX7_put_39 ?_
      refine xX7_put_40 ?_
      refine xX7_put_44 (j := i) hT.2.1 hi hi4 rfl ?_
      refine xX7_put_45 rfl rfl ?_
      simp only [putV, *, if_true, if_false] at hQ
      exact hQ
  · refine xX7_put_25 ?_
    refine xX7_put_26 ?_
    refine xX7_put_27 ?_
    refine xX7_put_44 (j := i) hT.2.1 hi hi4 rfl ?_
    refine xX7_put_45 rfl rfl ?_
    simp only [putV, *, if_true, if_false] at hQ
    exact hQ
theorem s_X11_weighNone {d : Nat} {sc : Nat × (Nat → Int32)} {T : List (Nat × Nat)} {rf : Nat → Nat → Option Nat} {g : Nat → Nat → Int32} {F : AH → Prop} (hX : XS T rf) (hQ : ∀ g2, WG g2 none → R0 g g2 → F (T, rf, g2)) : Mok d 0 0 sc kX11_weighNone [.ref 0] (T, rf, g) (Qv F) := by
  refine Mok.ofWp (L := [some (.ref 0)]) rfl rfl rfl ?_
  refine xX11_weighNone_0 ?_
  refine xX11_weighNone_1 ?_
  refine xX11_weighNone_2 (hX.1 _ _ rfl) ?_
  refine xX11_weighNone_5 ?_
  refine xX11_weighNone_6 ?_
  refine xX11_weighNone_7 (hX.1 _ _ rfl) ?_
  refine xX11_weighNone_10 ?_
  refine xX11_weighNone_11 ?_
  refine xX11_weighNone_12 (hX.1 _ _ rfl) (Or.inl rfl) ?_
  refine xX11_weighNone_15 rfl rfl ?_
  refine hQ _ ⟨?_, ?_, ?_⟩ ?_
  · simp [up]
  · simp [up]
  · simp [up]
  · exact ⟨fun a q => by rw [up_row q, up_row q, up_row q], fun k hk => by rw [up_ne (by omega), up_ne (by omega), up_ne (by omega)]⟩
theorem s_X11_weigh {d : Nat} {sc : Nat × (Nat → Int32)} {T : List (Nat × Nat)} {rf : Nat → Nat → Option Nat} {g : Nat → Nat → Int32} {F : AH → Prop} {a v : Int32} {s : Option (Int32 × Int32)} (hX : XS T rf) (hs : WG g s) (hQ : ∀ g2, WG g2 (wgh s a v) → R0 g g2 → F (T, rf, g2)) : Mok d 0 0 sc kX11_weigh [.ref 0, .int a, .int v] (T, rf, g) (Qv F) := by
  refine Mok.ofWp (L := [some (.ref 0), some (.int a), some (.int v)]) rfl rfl rfl ?_
  refine xX11_weigh_0 ?_
  refine xX11_weigh_1 (hX.1 _ _ rfl) ?_
  refine xX11_weigh_4 (fun c4 => ?_) (fun c4 => ?_)
  · cases s with
    | some q => exact absurd (hs.2.2.symm.trans c4) (by decide)
    | none => ?_
    refine xX11_weigh_15 ?_
    refine xX11_weigh_16 ?_
    refine xX11_weigh_17 (hX.1 _ _ rfl) ?_
    refine xX11_weigh_20 ?_
    refine xX11_weigh_21 ?_
    refine xX11_weigh_22 (hX.1 _ _ rfl) ?_
    refine xX11_weigh_25 ?_
    refine xX11_weigh_26 ?_
    refine xX11_weigh_27 (hX.1 _ _ rfl) (Or.inr rfl) ?_
    refine xX11_weigh_30 rfl rfl ?_
    first | exact hQ _ (show WG _ (some (a, v)) from ⟨by simp [up], by simp [up], by simp [up]⟩) ⟨fun a q => by rw [up_row q, up_row q, up_row q], fun k hk => by rw [up_ne (by omega), up_ne (by omega), up_ne (by omega)]⟩ | exact hQ _ (by rw [show wgh (some q) a v = some (a, v) from if_pos c12]; exact ⟨by simp [up], by simp [up], by simp [up]⟩) ⟨fun a q => by rw [up_row q, up_row q, up_row q], fun k hk => by rw [up_ne (by omega), up_ne (by omega), up_ne (by omega)]⟩ | exact hQ _ (by rw [show wgh (some q) a v = some q from if_neg c12]; exact hs) ⟨fun _ _ => rfl, fun _ _ => rfl⟩
  · cases s with
    | none => exact absurd hs.2.2 c4
    | some q => ?_
    refine xX11_weigh_7 ?_
    refine xX11_weigh_8 ?_
    refine xX11_weigh_9 (hX.1 _ _ rfl) ?_
    rw [hs.2.1]
    refine xX11_weigh_12 (fun c12 => ?_) (fun c12 => ?_)
    · have c12 : ¬ v < q.2 := Int32.not_lt.mpr c12
      refine xX11_weigh_30 rfl rfl ?_
      first | exact hQ _ (show WG _ (some (a, v)) from ⟨by simp [up], by simp [up], by simp [up]⟩) ⟨fun a q => by rw [up_row q, up_row q, up_row q], fun k hk => by rw [up_ne (by omega), up_ne (by omega), up_ne (by omega)]⟩ | exact hQ _ (by rw [show wgh (some q) a v = some (a, v) from if_pos c12]; exact ⟨by simp [up], by simp [up], by simp [up]⟩) ⟨fun a q => by rw [up_row q, up_row q, up_row q], fun k hk => by rw [up_ne (by omega), up_ne (by omega), up_ne (by omega)]⟩ | exact hQ _ (by rw [show wgh (some q) a v = some q from if_neg c12]; exact hs) ⟨fun _ _ => rfl, fun _ _ => rfl⟩
    · have c12 : v < q.2 := Int32.not_le.mp c12
      refine xX11_weigh_15 ?_
      refine xX11_weigh_16 ?_
      refine xX11_weigh_17 (hX.1 _ _ rfl) ?_
      refine xX11_weigh_20 ?_
      refine xX11_weigh_21 ?_
      refine xX11_weigh_22 (hX.1 _ _ rfl) ?_
      refine xX11_weigh_25 ?_
      refine xX11_weigh_26 ?_
      refine xX11_weigh_27 (hX.1 _ _ rfl) (Or.inr rfl) ?_
      refine xX11_weigh_30 rfl rfl ?_
      first | exact hQ _ (show WG _ (some (a, v)) from ⟨by simp [up], by simp [up], by simp [up]⟩) ⟨fun a q => by rw [up_row q, up_row q, up_row q], fun k hk => by rw [up_ne (by omega), up_ne (by omega), up_ne (by omega)]⟩ | exact hQ _ (by rw [show wgh (some q) a v = some (a, v) from if_pos c12]; exact ⟨by simp [up], by simp [up], by simp [up]⟩) ⟨fun a q => by rw [up_row q, up_row q, up_row q], fun k hk => by rw [up_ne (by omega), up_ne (by omega), up_ne (by omega)]⟩ | exact hQ _ (by rw [show wgh (some q) a v = some q from if_neg c12]; exact hs) ⟨fun _ _ => rfl, fun _ _ => rfl⟩
theorem s_X11_lightest {d : Nat} {sc : Nat × (Nat → Int32)} {T : List (Nat × Nat)} {rf : Nat → Nat → Option Nat} {g : Nat → Nat → Int32} {F : Int32 → AH → Prop} {w : Int32} {s : Option (Int32 × Int32)} (hX : XS T rf) (hs : WG g s) (hQ : F (lgt s w) (T, rf, g)) : Mok d 0 0 sc kX11_lightest [.ref 0, .int w] (T, rf, g) (Qi F) := by
  refine Mok.ofWp (L := [some (.ref 0), some (.int w)]) rfl rfl rfl ?_
  refine xX11_lightest_0 ?_
  refine xX11_lightest_1 (fun c1 => ?_) (fun c1 => ?_)
  · refine xX11_lightest_11 ?_
    refine xX11_lightest_12 (hX.1 _ _ rfl) ?_
    refine xX11_lightest_15 rfl rfl ?_
    cases s with
    | none => first | exact hs.1 ▸ hQ | exact hs.2.1 ▸ hQ
    | some q => first | (rw [show lgt (some q) w = q.1 from if_pos c1, ← hs.1] at hQ; exact hQ) | (rw [show lgt (some q) w = q.2 from if_neg c1, ← hs.2.1] at hQ; exact hQ)
  · refine xX11_lightest_4 ?_
    refine xX11_lightest_5 (hX.1 _ _ rfl) ?_
    refine xX11_lightest_8 ?_
    refine xX11_lightest_15 rfl rfl ?_
    cases s with
    | none => first | exact hs.1 ▸ hQ | exact hs.2.1 ▸ hQ
    | some q => first | (rw [show lgt (some q) w = q.1 from if_pos c1, ← hs.1] at hQ; exact hQ) | (rw [show lgt (some q) w = q.2 from if_neg c1, ← hs.2.1] at hQ; exact hQ)
theorem s_X11_imagine {d : Nat} {sc : Nat × (Nat → Int32)} {T : List (Nat × Nat)} {rf : Nat → Nat → Option Nat} {g : Nat → Nat → Int32} {F : AH → Prop} (hX : XS T rf) (hQ : ∀ g2, OEq (XO g2 9) (XO g 1) 8 → (∀ a, (a < 9 ∨ 16 < a) → g2 a = g a) → F (T, rf, g2)) : Mok (d + 2) 0 0 sc kX11_imagine [.ref 0] (T, rf, g) (Qv F) := by
  refine Mok.ofWp (L := [some (.ref 0)]) rfl rfl rfl ?_
  refine xX11_imagine_0 ?_
  refine xX11_imagine_1 (hX.1 _ _ rfl) (hX.2 _ _ _ rfl) ?_
  refine xX11_imagine_4 ?_
  refine xX11_imagine_5 (hX.1 _ _ rfl) (hX.2 _ _ _ rfl) ?_
  refine xX11_imagine_8 (hX.1 _ _ rfl) rfl rfl rfl (s_X5_become9 hX (fun g0 he0 hf0 => ?_))
  refine xX11_imagine_11 rfl rfl ?_
  exact hQ _ he0 hf0
