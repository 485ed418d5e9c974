def XTl : List (Nat × Nat) := [(11, 0), (5, 0), (20, 16), (20, 8), (20, 8), (20, 8), (20, 8), (20, 6), (20, 6), (5, 0), (20, 16), (20, 8), (20, 8), (20, 8), (20, 8), (20, 6), (20, 6), (5, 0), (20, 16), (20, 8), (20, 8), (20, 8), (20, 8), (20, 6), (20, 6), (0, 0), (20, 8), (23, 6), (3, 0), (9, 0), (10, 0), (1, 0), (8, 0), (2, 0), (20, 6), (6, 0), (20, 160), (20, 160), (20, 4), (21, 6), (22, 4), (7, 0), (20, 40), (7, 0), (20, 40), (7, 0), (20, 40), (7, 0), (20, 40)]
def XRt : List (List (Option Nat)) := [[some 1, some 9, some 17, none, some 25, some 35, some 39, none, some 40], [some 2, some 3, some 4, some 5, some 6, none, some 7, some 8], [], [], [], [], [], [], [], [some 10, some 11, some 12, some 13, some 14, none, some 15, some 16], [], [], [], [], [], [], [], [some 18, some 19, some 20, some 21, some 22, none, some 23, some 24], [], [], [], [], [], [], [], [some 26, some 27, some 34], [], [some 28, some 29, some 30, some 31, some 32, some 33], [], [], [], [], [], [], [], [none, none, some 36, some 37, some 38], [], [], [], [], [some 41, some 43, some 45, some 47], [some 42], [], [some 44], [], [some 46], [], [some 48], []]
def MTl : List (Nat × Nat) := [(12, 0), (20, 16), (20, 8), (20, 8), (20, 8), (20, 8), (20, 6), (20, 6), (20, 160), (20, 1200), (20, 24), (20, 36), (20, 4), (20, 4), (20, 160), (20, 53), (20, 96), (20, 200), (20, 200), (20, 6), (20, 328), (20, 6), (20, 6), (20, 16)]
def MRl : List (Option Nat) := [some 54, none, none, none, some 55, some 56, some 57, some 58, some 59, some 60, none, some 61, none, some 62, some 63, none, none, none, none, none, none, none, none, some 64, some 65, some 66, some 67, some 68, none, none, none, none, some 69, some 70, none, none, none, some 71, some 72, some 73, some 74, some 75, none, none, some 76]
def XRf (a k : Nat) : Option Nat := (XRt.getD a []).getD k none
/-- the class's objects lie as they were made -/
def XS (T : List (Nat × Nat)) (rf : Nat → Nat → Option Nat) : Prop := (∀ (a : Nat) (t : Nat × Nat), XTl[a]? = some t → T[a]? = some t) ∧ ∀ (a k b : Nat), XRf a k = some b → rf a k = some b
def MTf (a : Nat) : Option (Nat × Nat) := bif Nat.blt a 53 then none else MTl[a - 53]?
def MRf (a k : Nat) : Option Nat := bif Nat.beq a 53 then MRl.getD k none else none
/-- the reference's too -/
def MS (T : List (Nat × Nat)) (rf : Nat → Nat → Option Nat) : Prop := (∀ (a : Nat) (t : Nat × Nat), MTf a = some t → T[a]? = some t) ∧ ∀ (a k b : Nat), MRf a k = some b → rf a k = some b
-- numbers
theorem i0 {x : Int32} : 0 ≤ x ↔ 0 ≤ x.toInt := by rw [Int32.le_iff_toInt_le]; rfl
theorem iLe {x y : Int32} : x ≤ y ↔ x.toInt ≤ y.toInt := Int32.le_iff_toInt_le
theorem iLt {x y : Int32} : x < y ↔ x.toInt < y.toInt := Int32.lt_iff_toInt_lt
theorem iEq {x y : Int32} : x = y ↔ x.toInt = y.toInt := Int32.toInt_inj.symm
theorem iT {n : Nat} (h : n < 2147483648) : (nI n).toInt = (n : Int) := nI_toInt h
theorem iR (x : Int32) : -2147483648 ≤ x.toInt ∧ x.toInt < 2147483648 := ⟨Int32.le_toInt x, Int32.toInt_lt x⟩
theorem iBm {z : Int} (h1 : -2147483648 ≤ z) (h2 : z < 2147483648) : z.bmod (2 ^ 32) = z := by
  apply Int.bmod_eq_of_le <;> omega
theorem iAdd {x y : Int32} (h1 : -2147483648 ≤ x.toInt + y.toInt) (h2 : x.toInt + y.toInt < 2147483648) : (x + y).toInt = x.toInt + y.toInt := by rw [Int32.toInt_add, iBm h1 h2]
theorem iSub {x y : Int32} (h1 : -2147483648 ≤ x.toInt - y.toInt) (h2 : x.toInt - y.toInt < 2147483648) : (x - y).toInt = x.toInt - y.toInt := by rw [Int32.toInt_sub, iBm h1 h2]
theorem iMul {x y : Int32} (h1 : -2147483648 ≤ x.toInt * y.toInt) (h2 : x.toInt * y.toInt < 2147483648) : (x * y).toInt = x.toInt * y.toInt := by rw [Int32.toInt_mul, iBm h1 h2]
/-- a number that isn't below 0 -/
theorem iN {x : Int32} (h : 0 ≤ x.toInt) : x = nI x.toInt.toNat := by
  have h2 := (iR x).2
  apply Int32.toInt_inj.mp
  rw [iT (by omega)]
  omega
theorem iNat {x : Int32} (h : 0 ≤ x) : ∃ j : Nat, j < 2147483648 ∧ x = nI j ∧ x.toInt = (j : Int) := by
  have h1 := i0.mp h
  have h2 := (iR x).2
  exact ⟨x.toInt.toNat, by omega, iN h1, by omega⟩
theorem iIn {x : Int32} {N : Nat} {M : Int32} (hM : M.toInt = (N : Int)) (h0 : 0 ≤ x) (h1 : x ≤ M) : ∃ j : Nat, j ≤ N ∧ x = nI j := by
  have h2 := i0.mp h0
  have h3 := iLe.mp h1
  exact ⟨x.toInt.toNat, by omega, iN h2⟩
def nN (x : Int32) : Nat := x.toInt.toNat
theorem nN_nI {n : Nat} (h : n < 2147483648) : nN (nI n) = n := by unfold nN; rw [iT h]; omega
theorem i2 {x : Int32} {j : Nat} (h : x = nI j) (hj : j < 2147483648) : x.toInt = (j : Int) := by rw [h, iT hj]

-- ===== the kinds =====
def kGains (kind said brown more : Int32) : Int32 := if kind = 1 ∨ kind = 3 then said * 2 / 3 else if kind = 2 then said + more / 2 else if kind = 4 then (if 10 * more + 20 < brown then 3 * (said + more / 2) else said + more / 2) else said
def kBegins (kind more : Int32) : Int32 := if kind = 1 then more / 3 else if kind = 3 then 2 * (more / 3) + 2 else 0
def kAway0 (b w : Int32) : Int32 := if w < b then b - w else w - b
def kAway (kind b w : Int32) : Int32 := if kind = 4 ∧ w < b then 2 * kAway0 b w else if kind = 5 ∧ w ≤ b then 0 else kAway0 b w
def rot (p : Nat) : Nat → Nat
  | 0 => p
  | q + 1 => 4 * (rot p q % 4) + 3 - rot p q / 4
theorem rot_lt {p : Nat} (h : p < 16) : ∀ q, rot p q < 16 := by
  intro q
  induction q with
  | zero => exact h
  | succ q ih => show 4 * (rot p q % 4) + 3 - rot p q / 4 < 16; omega
-- ===== a law: its steps, a stack machine =====
def hd0 (st : List Int32) : Int32 := st.headD 0
def joinX (sg l r : Int32) : Int32 := if sg = 43 then l + r else if sg = 45 then l - r else if sg = 42 then l * r else if sg = 60 then (if l < r then 1 else 0) else if sg = 61 then (if l = r then 1 else 0) else if sg = 103 then (if l ≠ 0 ∨ r ≠ 0 then 1 else 0) else if sg = 104 then (if l ≠ 0 ∧ r ≠ 0 then 1 else 0) else 0
/-- what a name says: six there are -/
def nmS (nm : Nat → Int32) (x : Int32) : Int32 := if x < 6 then nm (nN x) else 0
def st1 (nm : Nat → Int32) (c : Int32) (st : List Int32) : List Int32 :=
  if 0 ≤ c then c :: st else if c ≤ -106 then nmS nm (-c - 106) :: st else if c = -3 then (-(hd0 st)) :: st.tail else if c = -105 then (if hd0 st = 0 then 1 else 0) :: st.tail else joinX (-c) (hd0 st.tail) (hd0 st) :: st.tail.tail
def evX (nm : Nat → Int32) : List Int32 → List Int32 → List Int32
  | [], st => st
  | c :: cs, st => evX nm cs (st1 nm c st)
def mx0 (y : Int32) : Int32 := if 0 < y then y else 0
def clX (p : Int32) : Int32 := mx0 (if p < 99 then p else 99)
def evL (lw : Nat → List Int32) (part : Nat) (nm : Nat → Int32) : Int32 := clX (hd0 (evX nm (lw part) []))
/-- a law's object, by its address, its arrays behind it -/
def LawAt (T : List (Nat × Nat)) (rf : Nat → Nat → Option Nat) (la n : Nat) : Prop := T[la]? = some (4, 0) ∧ T[la + 1]? = some (20, 4) ∧ T[la + 2]? = some (20, n) ∧ T[la + 3]? = some (20, n) ∧ rf la 0 = some (la + 2) ∧ rf la 1 = some (la + 1) ∧ rf la 2 = some (la + 3)
/-- its steps stand there -/
def LawG (g : Nat → Nat → Int32) (la n : Nat) (lw : Nat → List Int32) : Prop := ∀ p, p < 3 → ∃ s : Nat, g (la + 1) p = nI s ∧ g (la + 1) (p + 1) = nI (s + (lw p).length) ∧ s + (lw p).length ≤ n ∧ ∀ i v, (lw p)[i]? = some v → g (la + 2) (s + i) = v
def SRl (g : Nat → Nat → Int32) (la : Nat) : List Int32 → Prop
  | [] => True
  | v :: st => g (la + 3) st.length = v ∧ SRl g la st
def SR (g : Nat → Nat → Int32) (la : Nat) (st : List Int32) : Prop := g la 3 = nI st.length ∧ SRl g la st
def LF (la : Nat) (g g' : Nat → Nat → Int32) : Prop := ∀ a, a ≠ la → a ≠ la + 3 → g' a = g a
theorem LF.rf {la : Nat} {g : Nat → Nat → Int32} : LF la g g := fun _ _ _ => rfl
theorem LF.tr {la : Nat} {g1 g2 g3 : Nat → Nat → Int32} (h1 : LF la g1 g2) (h2 : LF la g2 g3) : LF la g1 g3 := fun a h h' => (h2 a h h').trans (h1 a h h')
theorem SRl_keep {g g' : Nat → Nat → Int32} {la : Nat} : ∀ {st : List Int32}, (∀ k, k < st.length → g' (la + 3) k = g (la + 3) k) → SRl g la st → SRl g' la st := by
  intro st
  induction st with
  | nil => intro _ _; trivial
  | cons v st ih => intro h hs; exact ⟨(h _ (by simp)).trans hs.1, ih (fun k hk => h k (by simp; omega)) hs.2⟩

theorem iPos {n : Nat} (h0 : 0 < n) (h : n < 2147483648) : 0 < nI n := by have := nI_lt (a := 0) (b := n) h0 h; rwa [nI_0] at this
theorem evX_cons (nm : Nat → Int32) (c : Int32) (cs st : List Int32) : evX nm (c :: cs) st = evX nm cs (st1 nm c st) := rfl
theorem LawG.keep {g g' : Nat → Nat → Int32} {la n : Nat} {lw : Nat → List Int32} (h : LawG g la n lw) (h1 : g' (la + 1) = g (la + 1)) (h2 : g' (la + 2) = g (la + 2)) : LawG g' la n lw := by
  intro p hp
  obtain ⟨s, a1, a2, a3, a4⟩ := h p hp
  exact ⟨s, by rw [h1]; exact a1, by rw [h1]; exact a2, a3, fun i v hv => by rw [h2]; exact a4 i v hv⟩
theorem LawG.lf {g g' : Nat → Nat → Int32} {la n : Nat} {lw : Nat → List Int32} (h : LawG g la n lw) (hf : LF la g g') : LawG g' la n lw := h.keep (hf _ (by omega) (by omega)) (hf _ (by omega) (by omega))
/-- a name's place, read from the code -/
theorem nmS_at {c : Int32} (hc : c ≤ -106) (h : -c - 106 < 6) : ∃ j : Nat, j < 6 ∧ -c - 106 = nI j := by
  have h1 := iLe.mp hc
  have h1 : c.toInt ≤ -106 := h1
  have h2 := (iR c).1
  by_cases hm : c.toInt = -2147483648
  · have : c = -2147483648 := Int32.toInt_inj.mp hm
    subst this
    exact absurd h (by decide)
  · have e1 : (-c).toInt = -c.toInt := by rw [Int32.toInt_neg, iBm (by omega) (by omega)]
    have e2 : (-c - 106).toInt = -c.toInt - 106 := by rw [iSub (by rw [e1]; show _ ≤ _ - 106; omega) (by rw [e1]; show _ - 106 < _; omega), e1]; rfl
    have h3 := iLt.mp h
    rw [e2] at h3
    have h3 : -c.toInt - 106 < 6 := h3
    exact ⟨(-c - 106).toInt.toNat, by rw [e2]; omega, iN (by rw [e2]; omega)⟩

theorem st1_len (nm : Nat → Int32) (c : Int32) (st : List Int32) : (st1 nm c st).length ≤ st.length + 1 := by
  unfold st1
  split
  · simp
  · split
    · simp
    · split
      · (simp; try omega)
      · split
        · (simp; try omega)
        · (simp; try omega)
theorem iNat_zero {n : Nat} (h : ¬ (0 : Int32) < nI n) (hn : n < 2147483648) : n = 0 := by
  rcases Nat.eq_zero_or_pos n with q | q
  · exact q
  · exact absurd (iPos q hn) h

