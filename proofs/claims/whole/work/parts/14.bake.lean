-- ===== the oven as rows: 0 its numbers (5 cakes, 8 openings, 9 time, 10 lies, 11 law), 1 hot, 2 kind, 3 more, 4 wish, 5 place, 6 minute, 7 quarters =====
abbrev OV : Type := Nat → Nat → Int32
abbrev EV : Type := Nat → (Nat → Int32) → Int32
def opn (o : OV) : Nat → Nat × Option Nat × Nat
  | 0 => (nN (o 0 10), none, 0)
  | m + 1 => if (opn o m).2.2 < nN (o 0 8) ∧ nN (o 6 (opn o m).2.2) = m then (((opn o m).1 + nN (o 7 (opn o m).2.2)) % 4, some m, (opn o m).2.2 + 1) else opn o m
def nm6 (h m b mo s op : Int32) : Nat → Int32 := fun k => match k with
  | 0 => h
  | 1 => m
  | 2 => b
  | 3 => mo
  | 4 => s
  | _ => op
def mn999 (y : Int32) : Int32 := if y < 999 then y else 999
def sinceN (m : Nat) (last : Option Nat) : Nat := match last with
  | none => m
  | some a => m - a
def heat1 (o : OV) (ev : EV) (c m l : Nat) (last : Option Nat) (b : Int32) : Int32 := match last with
  | none => o 1 (rot (nN (o 5 c)) l)
  | some a => mx0 (o 1 (rot (nN (o 5 c)) l) - ev 1 (nm6 (o 1 (rot (nN (o 5 c)) l)) (nI m) b (o 3 c) (nI (m - a)) (o 0 8)))
def bk1 (o : OV) (ev : EV) (c m l : Nat) (last : Option Nat) (b : Int32) : Int32 :=
  if nI m < kBegins (o 2 c) (o 3 c) then b else mn999 (b + mx0 (kGains (o 2 c) (ev 0 (nm6 (heat1 o ev c m l last b) (nI m) b (o 3 c) (nI (sinceN m last)) (o 0 8))) b (o 3 c)))
/-- how brown the cake c is as the minute m begins -/
def brS (o : OV) (ev : EV) (c : Nat) : Nat → Int32
  | 0 => 0
  | m + 1 => bk1 o ev c m (opn o (m + 1)).1 (opn o (m + 1)).2.1 (brS o ev c m)
/-- an oven as it can be -/
def OVk (o : OV) (nc : Nat) : Prop := o 0 5 = nI nc ∧ nc ≤ 8 ∧ (∃ no, no ≤ 6 ∧ o 0 8 = nI no ∧ (∀ k, k < no → ∃ m, m < 40 ∧ o 6 k = nI m) ∧ ∀ k, k < no → ∃ q, q < 4 ∧ o 7 k = nI q) ∧ (∃ tm, 1 ≤ tm ∧ tm ≤ 40 ∧ o 0 9 = nI tm) ∧ (∃ li, li < 4 ∧ o 0 10 = nI li) ∧ (∀ c, c < nc → ∃ k, k < 6 ∧ o 2 c = nI k) ∧ (∀ c, c < nc → ∃ k, k < 10 ∧ o 3 c = nI k) ∧ (∀ c, c < nc → ∃ k, k < 1000 ∧ o 4 c = nI k) ∧ (∀ c, c < nc → ∃ k, k < 16 ∧ o 5 c = nI k) ∧ ∀ i, i < 16 → ∃ k, k < 100 ∧ o 1 i = nI k
theorem opn_l (o : OV) (m : Nat) (h : nN (o 0 10) < 4) : (opn o m).1 < 4 := by
  induction m with
  | zero => exact h
  | succ m ih =>
    show (if _ then _ else _ : Nat × Option Nat × Nat).1 < 4
    split
    · exact Nat.mod_lt _ (by decide)
    · exact ih
theorem opn_last (o : OV) (m : Nat) : ∀ a, (opn o m).2.1 = some a → a < m := by
  induction m with
  | zero => intro a h; cases h
  | succ m ih =>
    intro a h
    have h : (if (opn o m).2.2 < nN (o 0 8) ∧ nN (o 6 (opn o m).2.2) = m then (((opn o m).1 + nN (o 7 (opn o m).2.2)) % 4, some m, (opn o m).2.2 + 1) else opn o m : Nat × Option Nat × Nat).2.1 = some a := h
    split at h
    · cases h; omega
    · have := ih a h; omega
theorem opn_next (o : OV) (m : Nat) : (opn o m).2.2 ≤ nN (o 0 8) := by
  induction m with
  | zero => exact Nat.zero_le _
  | succ m ih =>
    show (if _ then _ else _ : Nat × Option Nat × Nat).2.2 ≤ _
    split
    · rename_i h; exact h.1
    · exact ih
def lastI (last : Option Nat) : Int32 := match last with
  | none => -1
  | some a => nI a
-- the six names' values are all that a law asks
theorem nmS_congr {nm nm' : Nat → Int32} (h : ∀ k, k < 6 → nm k = nm' k) (x : Int32) : nmS nm x = nmS nm' x := by
  unfold nmS
  split
  · rename_i hx
    have h1 := iLt.mp hx
    have h1 : x.toInt < 6 := h1
    exact h _ (by unfold nN; omega)
  · rfl
theorem st1_congr {nm nm' : Nat → Int32} (h : ∀ k, k < 6 → nm k = nm' k) (c : Int32) (st : List Int32) : st1 nm c st = st1 nm' c st := by
  unfold st1
  rw [nmS_congr h]
theorem evX_congr {nm nm' : Nat → Int32} (h : ∀ k, k < 6 → nm k = nm' k) : ∀ (cs st : List Int32), evX nm cs st = evX nm' cs st := by
  intro cs
  induction cs with
  | nil => intro st; rfl
  | cons c cs ih => intro st; rw [evX_cons, evX_cons, st1_congr h, ih]
theorem evL_congr {lw : Nat → List Int32} {p : Nat} {nm nm' : Nat → Int32} (h : ∀ k, k < 6 → nm k = nm' k) : evL lw p nm = evL lw p nm' := by
  unfold evL
  rw [evX_congr h]
theorem k6 {P : Nat → Prop} (h0 : P 0) (h1 : P 1) (h2 : P 2) (h3 : P 3) (h4 : P 4) (h5 : P 5) : ∀ k, k < 6 → P k := by
  intro k hk
  rcases (by omega : k = 0 ∨ k = 1 ∨ k = 2 ∨ k = 3 ∨ k = 4 ∨ k = 5) with rfl | rfl | rfl | rfl | rfl | rfl
  · exact h0
  · exact h1
  · exact h2
  · exact h3
  · exact h4
  · exact h5
-- frames
def AF (la : Nat) (g g' : Nat → Nat → Int32) : Prop := ∀ a, a ≠ 34 → a ≠ la → a ≠ la + 3 → g' a = g a
theorem AF.rf {la : Nat} {g : Nat → Nat → Int32} : AF la g g := fun _ _ _ _ => rfl
theorem AF.tr {la : Nat} {g1 g2 g3 : Nat → Nat → Int32} (h1 : AF la g1 g2) (h2 : AF la g2 g3) : AF la g1 g3 := fun a p q r => (h2 a p q r).trans (h1 a p q r)
theorem LF.af {la : Nat} {g g' : Nat → Nat → Int32} (h : LF la g g') : AF la g g' := fun a _ p q => h a p q
def BF (la : Nat) (g g' : Nat → Nat → Int32) : Prop := ∀ a, a ≠ 25 → a ≠ 26 → a ≠ 34 → a ≠ la → a ≠ la + 3 → g' a = g a
theorem BF.rf {la : Nat} {g : Nat → Nat → Int32} : BF la g g := fun _ _ _ _ _ _ => rfl
theorem BF.tr {la : Nat} {g1 g2 g3 : Nat → Nat → Int32} (h1 : BF la g1 g2) (h2 : BF la g2 g3) : BF la g1 g3 := fun a p q r s t => (h2 a p q r s t).trans (h1 a p q r s t)
theorem AF.bf {la : Nat} {g g' : Nat → Nat → Int32} (h : AF la g g') : BF la g g' := fun a _ _ p q r => h a p q r
theorem AF.lw {la n : Nat} {lw : Nat → List Int32} {g g' : Nat → Nat → Int32} (h : AF la g g') (hla : 49 ≤ la) (hw : LawG g la n lw) : LawG g' la n lw := hw.keep (h _ (by omega) (by omega) (by omega)) (h _ (by omega) (by omega) (by omega))
theorem BF.lw {la n : Nat} {lw : Nat → List Int32} {g g' : Nat → Nat → Int32} (h : BF la g g') (hla : 49 ≤ la) (hw : LawG g la n lw) : LawG g' la n lw := hw.keep (h _ (by omega) (by omega) (by omega) (by omega) (by omega)) (h _ (by omega) (by omega) (by omega) (by omega) (by omega))
/-- an oven's cells -/
def OvT (T : List (Nat × Nat)) (rf : Nat → Nat → Option Nat) (b : Nat) : Prop := T[b]? = some (5, 0) ∧ T[b + 1]? = some (20, 16) ∧ T[b + 2]? = some (20, 8) ∧ T[b + 3]? = some (20, 8) ∧ T[b + 4]? = some (20, 8) ∧ T[b + 5]? = some (20, 8) ∧ T[b + 6]? = some (20, 6) ∧ T[b + 7]? = some (20, 6) ∧ rf b 0 = some (b + 1) ∧ rf b 1 = some (b + 2) ∧ rf b 2 = some (b + 3) ∧ rf b 3 = some (b + 4) ∧ rf b 4 = some (b + 5) ∧ rf b 6 = some (b + 6) ∧ rf b 7 = some (b + 7)
theorem OvT.of {T : List (Nat × Nat)} {rf : Nat → Nat → Option Nat} {b : Nat} (hX : XS T rf) (hb : b = 1 ∨ b = 9 ∨ b = 17) : OvT T rf b := by
  rcases hb with rfl | rfl | rfl <;> exact ⟨hX.1 _ _ rfl, hX.1 _ _ rfl, hX.1 _ _ rfl, hX.1 _ _ rfl, hX.1 _ _ rfl, hX.1 _ _ rfl, hX.1 _ _ rfl, hX.1 _ _ rfl, hX.2 _ _ _ rfl, hX.2 _ _ _ rfl, hX.2 _ _ _ rfl, hX.2 _ _ _ rfl, hX.2 _ _ _ rfl, hX.2 _ _ _ rfl, hX.2 _ _ _ rfl⟩
/-- what is fixed while an oven is baked: which oven (at b), which law (at la) -/
def BS (T : List (Nat × Nat)) (rf : Nat → Nat → Option Nat) (b la n : Nat) : Prop := XS T rf ∧ (b = 1 ∨ b = 9 ∨ b = 17) ∧ rf 25 3 = some b ∧ rf 25 4 = some la ∧ LawAt T rf la n ∧ Nat.ble n 2000 = true ∧ 49 ≤ la
theorem BS.b {T : List (Nat × Nat)} {rf : Nat → Nat → Option Nat} {b la n : Nat} (h : BS T rf b la n) : b ≤ 17 := by obtain ⟨-, h, -⟩ := h; omega
/-- the oven's rows, the law's steps -/
def BG (g : Nat → Nat → Int32) (b la n : Nat) (lw : Nat → List Int32) (o : OV) : Prop := LawG g la n lw ∧ g b = o 0 ∧ g (b + 1) = o 1 ∧ g (b + 2) = o 2 ∧ g (b + 3) = o 3 ∧ g (b + 4) = o 4 ∧ g (b + 5) = o 5 ∧ g (b + 6) = o 6 ∧ g (b + 7) = o 7
theorem BG.keep {g g' : Nat → Nat → Int32} {b la n : Nat} {lw : Nat → List Int32} {o : OV} (h : BG g b la n lw o) (hb : b ≤ 17) (hla : 49 ≤ la) (hf : BF la g g') : BG g' b la n lw o := by
  obtain ⟨h0, h1, h2, h3, h4, h5, h6, h7, h8⟩ := h
  have k : ∀ r, r < 8 → g' (b + r) = g (b + r) := fun r hr => hf _ (by omega) (by omega) (by omega) (by omega) (by omega)
  exact ⟨hf.lw hla h0, (k 0 (by omega)).trans h1, (k 1 (by omega)).trans h2, (k 2 (by omega)).trans h3, (k 3 (by omega)).trans h4, (k 4 (by omega)).trans h5, (k 5 (by omega)).trans h6, (k 6 (by omega)).trans h7, (k 7 (by omega)).trans h8⟩
theorem kB0 (m : Int32) : kBegins (nI 0) m = 0 := rfl
theorem kB1 (m : Int32) : kBegins (nI 1) m = 0 + m / 3 := by show m / 3 = 0 + m / 3; rw [Int32.zero_add]
theorem kB2 (m : Int32) : kBegins (nI 2) m = 0 := rfl
theorem kB3 (m : Int32) : kBegins (nI 3) m = (0 + m / 3) * 2 + 2 := by show 2 * (m / 3) + 2 = (0 + m / 3) * 2 + 2; rw [Int32.zero_add, Int32.mul_comm]
theorem kB4 (m : Int32) : kBegins (nI 4) m = 0 := rfl
theorem kB5 (m : Int32) : kBegins (nI 5) m = 0 := rfl
theorem kG0 (s b m : Int32) : kGains (nI 0) s b m = s := rfl
theorem kG1 (s b m : Int32) : kGains (nI 1) s b m = s * 2 / 3 := rfl
theorem kG2 (s b m : Int32) : kGains (nI 2) s b m = s + m / 2 := rfl
theorem kG3 (s b m : Int32) : kGains (nI 3) s b m = s * 2 / 3 := rfl
theorem kG4 (s b m : Int32) : kGains (nI 4) s b m = if 10 * m + 20 < b then 3 * (s + m / 2) else s + m / 2 := rfl
theorem kG5 (s b m : Int32) : kGains (nI 5) s b m = s := rfl
theorem kA0 (b w : Int32) : kAway (nI 0) b w = kAway0 b w := by simp [kAway]; rfl

theorem byEq {F : Int32 → AH → Prop} {z w : Int32} {h : AH} (hQ : F w h) (e : z = w) : F z h := e ▸ hQ
theorem nIm1 {a : Nat} (h : a < 2147483648) : ¬ nI a = -1 := by
  intro q
  have h1 := iT h
  rw [q] at h1
  have h1 : (-1 : Int) = a := h1
  omega
def spX (x y : Int32) : Int32 := 4 * (y &&& 3) + (x &&& 3)
theorem sp0 : ∀ p, p < 16 → spX (nI p &&& 3) (nI p >>> ((2 : Int32) &&& 31) &&& 3) = nI (rot p 0) := by decide
theorem sp1 : ∀ p, p < 16 → spX ((3 : Int32) - (nI p >>> ((2 : Int32) &&& 31) &&& 3)) (nI p &&& 3) = nI (rot p 1) := by decide
theorem sp2 : ∀ p, p < 16 → spX ((3 : Int32) - (nI p &&& 3)) ((3 : Int32) - (nI p >>> ((2 : Int32) &&& 31) &&& 3)) = nI (rot p 2) := by decide
theorem sp3 : ∀ p, p < 16 → spX ((3 : Int32) - ((3 : Int32) - (nI p >>> ((2 : Int32) &&& 31) &&& 3))) ((3 : Int32) - (nI p &&& 3)) = nI (rot p 3) := by decide

theorem kA1 (b w : Int32) : kAway (nI 1) b w = kAway0 b w := by simp [kAway]; rfl
theorem kA2 (b w : Int32) : kAway (nI 2) b w = kAway0 b w := by simp [kAway]; rfl
theorem kA3 (b w : Int32) : kAway (nI 3) b w = kAway0 b w := by simp [kAway]; rfl
theorem kA4 (b w : Int32) : kAway (nI 4) b w = if w < b then 2 * kAway0 b w else kAway0 b w := by
  unfold kAway
  by_cases h : w < b
  · rw [if_pos ⟨rfl, h⟩, if_pos h]
  · rw [if_neg (fun q => h q.2), if_neg h, if_neg (fun q => absurd q.1 (by decide))]
theorem kA5 (b w : Int32) : kAway (nI 5) b w = if b < w then kAway0 b w else 0 := by
  unfold kAway
  rw [if_neg (fun q => absurd q.1 (by decide))]
  by_cases h : b < w
  · rw [if_pos h, if_neg (fun q => absurd q.2 (Int32.not_le.mpr h))]
  · rw [if_neg h, if_pos ⟨rfl, Int32.not_lt.mp h⟩]
/-- how bad a cake is, being so brown -/
def badX (o : OV) (ev : EV) (c : Nat) (br : Int32) : Int32 := kAway (o 2 c) br (o 4 c) * ev 2 (nm6 0 0 br (o 3 c) 0 (o 0 8))
def badAll (o : OV) (ev : EV) (br : Nat → Int32) : Nat → Int32
  | 0 => 0
  | n + 1 => badAll o ev br n + badX o ev n (br n)
def mostI (br : Nat → Int32) : Nat → Int32
  | 0 => -1
  | n + 1 => if mostI br n = -1 ∨ br (nN (mostI br n)) < br n then nI n else mostI br n
def leastI (br : Nat → Int32) : Nat → Int32
  | 0 => -1
  | n + 1 => if leastI br n = -1 ∨ br n < br (nN (leastI br n)) then nI n else leastI br n
def apX (br : Nat → Int32) (nc : Nat) : Int32 := if nc = 0 then 0 else br (nN (mostI br nc)) - br (nN (leastI br nc))
def rightX (o : OV) (br : Nat → Int32) : Nat → Int32
  | 0 => 0
  | n + 1 => rightX o br n + (if kAway (o 2 n) (br n) (o 4 n) = 0 then 1 else 0)
theorem mostI_in (br : Nat → Int32) (n : Nat) : (n = 0 ∧ mostI br n = -1) ∨ ∃ k, k < n ∧ mostI br n = nI k := by
  induction n with
  | zero => exact Or.inl ⟨rfl, rfl⟩
  | succ n ih =>
    refine Or.inr ?_
    show ∃ k, k < n + 1 ∧ (if mostI br n = -1 ∨ br (nN (mostI br n)) < br n then nI n else mostI br n) = nI k
    split
    · exact ⟨n, by omega, rfl⟩
    · rename_i h
      rcases ih with ⟨-, q⟩ | ⟨k, hk, q⟩
      · exact absurd (Or.inl q) h
      · exact ⟨k, by omega, q⟩
theorem leastI_in (br : Nat → Int32) (n : Nat) : (n = 0 ∧ leastI br n = -1) ∨ ∃ k, k < n ∧ leastI br n = nI k := by
  induction n with
  | zero => exact Or.inl ⟨rfl, rfl⟩
  | succ n ih =>
    refine Or.inr ?_
    show ∃ k, k < n + 1 ∧ (if leastI br n = -1 ∨ br n < br (nN (leastI br n)) then nI n else leastI br n) = nI k
    split
    · exact ⟨n, by omega, rfl⟩
    · rename_i h
      rcases ih with ⟨-, q⟩ | ⟨k, hk, q⟩
      · exact absurd (Or.inl q) h
      · exact ⟨k, by omega, q⟩
/-- the baking, as the minute m begins -/
def BK (g : Nat → Nat → Int32) (o : OV) (ev : EV) (nc m : Nat) : Prop := g 25 5 = nI m ∧ g 25 6 = nI (opn o m).1 ∧ g 25 7 = lastI (opn o m).2.1 ∧ g 25 8 = nI (opn o m).2.2 ∧ ∀ c, c < nc → g 26 c = brS o ev c m
theorem opn_yes {o : OV} {m : Nat} (h1 : (opn o m).2.2 < nN (o 0 8)) (h2 : nN (o 6 (opn o m).2.2) = m) : opn o (m + 1) = (((opn o m).1 + nN (o 7 (opn o m).2.2)) % 4, some m, (opn o m).2.2 + 1) := if_pos ⟨h1, h2⟩
theorem opn_no {o : OV} {m : Nat} (h : ¬ ((opn o m).2.2 < nN (o 0 8) ∧ nN (o 6 (opn o m).2.2) = m)) : opn o (m + 1) = opn o m := if_neg h
theorem nIinj {a b : Nat} (ha : a < 2147483648) (hb : b < 2147483648) (h : nI a = nI b) : a = b := (nI_eq ha hb).mp h
theorem AF.bk {la : Nat} {g g' : Nat → Nat → Int32} {o : OV} {ev : EV} {nc m : Nat} (h : AF la g g') (hla : 49 ≤ la) (hk : BK g o ev nc m) : BK g' o ev nc m := by
  have e1 := h 25 (by omega) (by omega) (by omega)
  have e2 := h 26 (by omega) (by omega) (by omega)
  unfold BK at hk ⊢
  rw [e1, e2]
  exact hk

