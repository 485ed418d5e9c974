def XTl : List (Nat × Nat) := [(11, 0), (5, 0), (20, 16), (20, 8), (20, 8), (20, 8), (20, 8), (20, 6), (20, 6), (5, 0), (20, 16), (20, 8), (20, 8), (20, 8), (20, 8), (20, 6), (20, 6), (5, 0), (20, 16), (20, 8), (20, 8), (20, 8), (20, 8), (20, 6), (20, 6), (0, 0), (20, 8), (23, 6), (3, 0), (9, 0), (10, 0), (1, 0), (8, 0), (2, 0), (20, 6), (6, 0), (20, 160), (20, 160), (20, 4), (21, 6), (22, 4), (7, 0), (20, 40), (7, 0), (20, 40), (7, 0), (20, 40), (7, 0), (20, 40)]
def XRt : List (List (Option Nat)) := [[some 1, some 9, some 17, none, some 25, some 35, some 39, none, some 40], [some 2, some 3, some 4, some 5, some 6, none, some 7, some 8], [], [], [], [], [], [], [], [some 10, some 11, some 12, some 13, some 14, none, some 15, some 16], [], [], [], [], [], [], [], [some 18, some 19, some 20, some 21, some 22, none, some 23, some 24], [], [], [], [], [], [], [], [some 26, some 27, some 34], [], [some 28, some 29, some 30, some 31, some 32, some 33], [], [], [], [], [], [], [], [none, none, some 36, some 37, some 38], [], [], [], [], [some 41, some 43, some 45, some 47], [some 42], [], [some 44], [], [some 46], [], [some 48], []]
def MTl : List (Nat × Nat) := [(12, 0), (20, 16), (20, 8), (20, 8), (20, 8), (20, 8), (20, 6), (20, 6), (20, 160), (20, 1200), (20, 24), (20, 36), (20, 4), (20, 4), (20, 160), (20, 53), (20, 96), (20, 200), (20, 200), (20, 6), (20, 328), (20, 6), (20, 6), (20, 16)]
def MRl : List (Option Nat) := [some 54, none, none, none, some 55, some 56, some 57, some 58, some 59, some 60, none, some 61, none, some 62, some 63, none, none, none, none, none, none, none, none, some 64, some 65, some 66, some 67, some 68, none, none, none, none, some 69, some 70, none, none, none, some 71, some 72, some 73, some 74, some 75, none, none, some 76]
def XRf (a k : Nat) : Option Nat := (XRt.getD a []).getD k none
/-- the class's objects lie as they were made -/
def XS (T : List (Nat × Nat)) (rf : Nat → Nat → Option Nat) : Prop := (∀ (a : Nat) (t : Nat × Nat), XTl[a]? = some t → T[a]? = some t) ∧ ∀ (a k b : Nat), XRf a k = some b → rf a k = some b
def MTf (a : Nat) : Option (Nat × Nat) := bif Nat.blt a 53 then none else MTl[a - 53]?
def MRf (a k : Nat) : Option Nat := bif Nat.beq a 53 then MRl.getD k none else none
/-- the reference's too -/
def MS (T : List (Nat × Nat)) (rf : Nat → Nat → Option Nat) : Prop := (∀ (a : Nat) (t : Nat × Nat), MTf a = some t → T[a]? = some t) ∧ ∀ (a k b : Nat), MRf a k = some b → rf a k = some b
-- numbers
theorem i0 {x : Int32} : 0 ≤ x ↔ 0 ≤ x.toInt := by rw [Int32.le_iff_toInt_le]; rfl
theorem iLe {x y : Int32} : x ≤ y ↔ x.toInt ≤ y.toInt := Int32.le_iff_toInt_le
theorem iLt {x y : Int32} : x < y ↔ x.toInt < y.toInt := Int32.lt_iff_toInt_lt
theorem iEq {x y : Int32} : x = y ↔ x.toInt = y.toInt := Int32.toInt_inj.symm
theorem iT {n : Nat} (h : n < 2147483648) : (nI n).toInt = (n : Int) := nI_toInt h
theorem iR (x : Int32) : -2147483648 ≤ x.toInt ∧ x.toInt < 2147483648 := ⟨Int32.le_toInt x, Int32.toInt_lt x⟩
theorem iBm {z : Int} (h1 : -2147483648 ≤ z) (h2 : z < 2147483648) : z.bmod (2 ^ 32) = z := by
  apply Int.bmod_eq_of_le <;> omega
theorem iAdd {x y : Int32} (h1 : -2147483648 ≤ x.toInt + y.toInt) (h2 : x.toInt + y.toInt < 2147483648) : (x + y).toInt = x.toInt + y.toInt := by rw [Int32.toInt_add, iBm h1 h2]
theorem iSub {x y : Int32} (h1 : -2147483648 ≤ x.toInt - y.toInt) (h2 : x.toInt - y.toInt < 2147483648) : (x - y).toInt = x.toInt - y.toInt := by rw [Int32.toInt_sub, iBm h1 h2]
theorem iMul {x y : Int32} (h1 : -2147483648 ≤ x.toInt * y.toInt) (h2 : x.toInt * y.toInt < 2147483648) : (x * y).toInt = x.toInt * y.toInt := by rw [Int32.toInt_mul, iBm h1 h2]
/-- a number that isn't below 0 -/
theorem iN {x : Int32} (h : 0 ≤ x.toInt) : x = nI x.toInt.toNat := by
  have h2 := (iR x).2
  apply Int32.toInt_inj.mp
  rw [iT (by omega)]
  omega
theorem iNat {x : Int32} (h : 0 ≤ x) : ∃ j : Nat, j < 2147483648 ∧ x = nI j ∧ x.toInt = (j : Int) := by
  have h1 := i0.mp h
  have h2 := (iR x).2
  exact ⟨x.toInt.toNat, by omega, iN h1, by omega⟩
theorem iIn {x : Int32} {N : Nat} {M : Int32} (hM : M.toInt = (N : Int)) (h0 : 0 ≤ x) (h1 : x ≤ M) : ∃ j : Nat, j ≤ N ∧ x = nI j := by
  have h2 := i0.mp h0
  have h3 := iLe.mp h1
  exact ⟨x.toInt.toNat, by omega, iN h2⟩
def nN (x : Int32) : Nat := x.toInt.toNat
theorem nN_nI {n : Nat} (h : n < 2147483648) : nN (nI n) = n := by unfold nN; rw [iT h]; omega
theorem i2 {x : Int32} {j : Nat} (h : x = nI j) (hj : j < 2147483648) : x.toInt = (j : Int) := by rw [h, iT hj]

