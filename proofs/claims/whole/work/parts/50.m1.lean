-- ===== the reference: its cells as an oven =====
def MOv (g : Nat → Nat → Int32) : OV := fun r k => match r with
  | 0 => (match k with
    | 5 => g 53 3
    | 8 => g 53 10
    | 9 => g 53 1
    | 10 => g 53 2
    | 11 => g 53 16
    | _ => 0)
  | 1 => g 54 k
  | 2 => g 55 k
  | 3 => g 56 k
  | 4 => g 57 k
  | 5 => g 58 k
  | 6 => g 59 k
  | 7 => g 60 k
  | _ => 0
/-- a code of the reference as a step -/
def tr (c : Int32) : Int32 := if 100000 ≤ c then c - 100000 else if c < 11 then -106 - c else if c = 11 then -103 else if c = 12 then -104 else if c = 13 then -105 else if c = 14 then -60 else if c = 15 then -61 else if c = 16 then -43 else if c = 17 then -45 else if c = 18 then -42 else -3
def isBin (c : Int32) : Prop := c = 11 ∨ c = 12 ∨ c = 14 ∨ c = 15 ∨ c = 16 ∨ c = 17 ∨ c = 18
def isLeaf (c : Int32) : Prop := (100000 ≤ c ∧ c ≤ 109999) ∨ ∃ k, k < 6 ∧ c = nI k
/-- codes that leave one more than d on the stack's bottom, never taking from below -/
def wfd : List Int32 → Nat → Prop
  | [], d => d = 1
  | c :: cs, d => (isLeaf c ∧ wfd cs (d + 1)) ∨ ((c = 13 ∨ c = 19) ∧ 1 ≤ d ∧ wfd cs d) ∨ (isBin c ∧ 2 ≤ d ∧ wfd cs (d - 1))
def twoM (c a b : Int32) : Int32 := if c = 11 then (if a ≠ 0 ∨ b ≠ 0 then 1 else 0) else if c = 12 then (if a ≠ 0 ∧ b ≠ 0 then 1 else 0) else if c = 14 then (if a < b then 1 else 0) else if c = 15 then (if a = b then 1 else 0) else if c = 16 then a + b else if c = 17 then a - b else a * b
theorem st1_num {nm : Nat → Int32} {c : Int32} {st : List Int32} (h : 100000 ≤ c ∧ c ≤ 109999) : st1 nm (tr c) st = (c - 100000) :: st := by
  have h1 := iLe.mp h.1
  have h2 := iLe.mp h.2
  have e1 : (100000 : Int32).toInt = 100000 := rfl
  have e2 : (109999 : Int32).toInt = 109999 := rfl
  rw [e1] at h1
  rw [e2] at h2
  have : 0 ≤ c - 100000 := i0.mpr (by rw [iSub (by rw [e1]; omega) (by rw [e1]; omega), e1]; omega)
  unfold tr st1
  rw [if_pos h.1, if_pos this]
theorem st1_name {nm : Nat → Int32} {k : Nat} {st : List Int32} (h : k < 6) : st1 nm (tr (nI k)) st = nm k :: st := by
  rcases (by omega : k = 0 ∨ k = 1 ∨ k = 2 ∨ k = 3 ∨ k = 4 ∨ k = 5) with rfl | rfl | rfl | rfl | rfl | rfl <;> rfl
theorem st1_not {nm : Nat → Int32} {v : Int32} {st : List Int32} : st1 nm (tr 13) (v :: st) = (if v = 0 then 1 else 0) :: st := rfl
theorem st1_neg {nm : Nat → Int32} {v : Int32} {st : List Int32} : st1 nm (tr 19) (v :: st) = -v :: st := rfl
theorem st1_bin {nm : Nat → Int32} {c a b : Int32} {st : List Int32} (h : isBin c) : st1 nm (tr c) (b :: a :: st) = twoM c a b :: st := by
  rcases h with rfl | rfl | rfl | rfl | rfl | rfl | rfl <;> rfl
/-- the text t of the reference: its codes, part by part -/
def ML (g : Nat → Nat → Int32) (t : Nat) (cs : Nat → List Int32) : Prop := ∀ p, p < 3 → wfd (cs p) 0 ∧ ∃ s : Nat, g 63 (4 * t + p) = nI s ∧ g 63 (4 * t + p + 1) = nI (s + (cs p).length) ∧ s + (cs p).length ≤ 200 ∧ ∀ i v, (cs p)[i]? = some v → g 62 (200 * t + (s + i)) = v
def MSl (g : Nat → Nat → Int32) : List Int32 → Prop
  | [] => True
  | v :: st => g 71 st.length = v ∧ MSl g st
theorem MSl_keep {g g' : Nat → Nat → Int32} : ∀ {st : List Int32}, (∀ k, k < st.length → g' 71 k = g 71 k) → MSl g st → MSl g' st := by
  intro st
  induction st with
  | nil => intro _ _; trivial
  | cons v st ih => intro h hs; exact ⟨(h _ (by simp)).trans hs.1, ih (fun k hk => h k (by simp; omega)) hs.2⟩
theorem MSl_push {g : Nat → Nat → Int32} {st : List Int32} {v : Int32} (h : MSl g st) : MSl (up g 71 st.length v) (v :: st) := ⟨up_same _ _ _ _, MSl_keep (fun k hk => up_ne (by omega)) h⟩
theorem nI_mul4 {t k p : Nat} (ht : t < 6) (hk : k ≤ 200) (hp : p < 1000) : nI k * nI t + nI p = nI (k * t + p) := by
  have h1 : k * t ≤ 200 * 6 := Nat.mul_le_mul hk (by omega)
  rw [nI_mulN (by omega) (by omega) (by omega), nI_add]

theorem s_X12_in {d : Nat} {sc : Nat × (Nat → Int32)} {v lo hi : Int32} {h : AH} {F : Int32 → AH → Prop} (k1 : lo ≤ v ∧ v ≤ hi → F 1 h) (k0 : ¬ (lo ≤ v ∧ v ≤ hi) → F 0 h) : Mok d 0 0 sc kX12_in [.int v, .int lo, .int hi] h (Qi F) := by
  refine Mok.ofWp (L := [some (.int v), some (.int lo), some (.int hi)]) rfl rfl rfl ?_
  refine xX12_in_0 ?_
  refine xX12_in_1 ?_
  refine xX12_in_2 (fun c2 => ?_) (fun c2 => ?_)
  · refine xX12_in_14 ?_
    refine xX12_in_15 (Or.inl rfl) rfl rfl ?_
    first | exact k1 ⟨Int32.not_lt.mp c2, Int32.not_lt.mp c7⟩ | exact k0 (fun q => c2 (Int32.not_lt.mpr q.1)) | exact k0 (fun q => absurd c2 (Int32.not_lt.mpr q.1)) | exact k0 (fun q => absurd c7 (Int32.not_lt.mpr q.2))
  · refine xX12_in_5 ?_
    refine xX12_in_6 ?_
    refine xX12_in_7 (fun c7 => ?_) (fun c7 => ?_)
    · refine xX12_in_14 ?_
      refine xX12_in_15 (Or.inl rfl) rfl rfl ?_
      first | exact k1 ⟨Int32.not_lt.mp c2, Int32.not_lt.mp c7⟩ | exact k0 (fun q => c2 (Int32.not_lt.mpr q.1)) | exact k0 (fun q => absurd c2 (Int32.not_lt.mpr q.1)) | exact k0 (fun q => absurd c7 (Int32.not_lt.mpr q.2))
    · refine xX12_in_10 ?_
      refine xX12_in_11 ?_
      refine xX12_in_15 (Or.inr rfl) rfl rfl ?_
      first | exact k1 ⟨Int32.not_lt.mp c2, Int32.not_lt.mp c7⟩ | exact k0 (fun q => c2 (Int32.not_lt.mpr q.1)) | exact k0 (fun q => absurd c2 (Int32.not_lt.mpr q.1)) | exact k0 (fun q => absurd c7 (Int32.not_lt.mpr q.2))
def wiM (v lo hi : Int32) : Int32 := if v < lo then lo else if hi < v then hi else v
theorem s_X12_within {d : Nat} {sc : Nat × (Nat → Int32)} {v lo hi : Int32} {h : AH} {F : Int32 → AH → Prop} (hQ : F (wiM v lo hi) h) : Mok d 0 0 sc kX12_within [.int v, .int lo, .int hi] h (Qi F) := by
  refine Mok.ofWp (L := [some (.int v), some (.int lo), some (.int hi)]) rfl rfl rfl ?_
  refine xX12_within_0 ?_
  refine xX12_within_1 ?_
  refine xX12_within_2 (fun c2 => ?_) (fun c2 => ?_)
  · refine xX12_within_9 ?_
    refine xX12_within_10 ?_
    refine xX12_within_11 (fun c11 => ?_) (fun c11 => ?_)
    · refine xX12_within_18 ?_
      refine xX12_within_19 rfl rfl ?_
      first
        | (rw [wiM, if_pos (Int32.not_le.mp c2)] at hQ; exact hQ)
        | (rw [wiM, if_neg (Int32.not_lt.mpr c2), if_neg (Int32.not_lt.mpr c11)] at hQ; exact hQ)
        | (rw [wiM, if_neg (Int32.not_lt.mpr c2), if_pos (Int32.not_le.mp c11)] at hQ; exact hQ)
    · refine xX12_within_14 ?_
      refine xX12_within_15 ?_
      refine xX12_within_19 rfl rfl ?_
      first
        | (rw [wiM, if_pos (Int32.not_le.mp c2)] at hQ; exact hQ)
        | (rw [wiM, if_neg (Int32.not_lt.mpr c2), if_neg (Int32.not_lt.mpr c11)] at hQ; exact hQ)
        | (rw [wiM, if_neg (Int32.not_lt.mpr c2), if_pos (Int32.not_le.mp c11)] at hQ; exact hQ)
  · refine xX12_within_5 ?_
    refine xX12_within_6 ?_
    refine xX12_within_19 rfl rfl ?_
    first
      | (rw [wiM, if_pos (Int32.not_le.mp c2)] at hQ; exact hQ)
      | (rw [wiM, if_neg (Int32.not_lt.mpr c2), if_neg (Int32.not_lt.mpr c11)] at hQ; exact hQ)
      | (rw [wiM, if_neg (Int32.not_lt.mpr c2), if_pos (Int32.not_le.mp c11)] at hQ; exact hQ)
theorem s_X12_isCake {d : Nat} {sc : Nat × (Nat → Int32)} {T : List (Nat × Nat)} {rf : Nat → Nat → Option Nat} {g : Nat → Nat → Int32} {v : Int32} {nc : Nat} {F : Int32 → AH → Prop} (hM : MS T rf) (hc : g 53 3 = nI nc) (k1 : 0 ≤ v ∧ v ≤ nI nc - 1 → F 1 (T, rf, g)) (k0 : ¬ (0 ≤ v ∧ v ≤ nI nc - 1) → F 0 (T, rf, g)) : Mok (d + 1) 0 0 sc kX12_isCake [.ref 53, .int v] (T, rf, g) (Qi F) := by
  refine Mok.ofWp (L := [some (.ref 53), some (.int v)]) rfl rfl rfl ?_
  refine xX12_isCake_0 ?_
  refine xX12_isCake_1 ?_
  refine xX12_isCake_2 ?_
  refine xX12_isCake_3 (hM.1 _ _ rfl) ?_
  rw [hc]
  refine xX12_isCake_6 ?_
  refine xX12_isCake_7 ?_
  refine xX12_isCake_8 rfl rfl rfl (s_X12_in  (fun hw0 => ?_) (fun nw0 => ?_))
  · refine xX12_isCake_11 (Or.inr rfl) rfl rfl ?_
    first | exact k1 hw0 | exact k0 nw0
  · refine xX12_isCake_11 (Or.inl rfl) rfl rfl ?_
    first | exact k1 hw0 | exact k0 nw0
theorem s_X12_isSpot {d : Nat} {sc : Nat × (Nat → Int32)} {v : Int32} {h : AH} {F : Int32 → AH → Prop} (k1 : 0 ≤ v ∧ v ≤ 15 → F 1 h) (k0 : ¬ (0 ≤ v ∧ v ≤ 15) → F 0 h) : Mok (d + 1) 0 0 sc kX12_isSpot [.int v] h (Qi F) := by
  refine Mok.ofWp (L := [some (.int v)]) rfl rfl rfl ?_
  refine xX12_isSpot_0 ?_
  refine xX12_isSpot_1 ?_
  refine xX12_isSpot_2 ?_
  refine xX12_isSpot_4 rfl rfl rfl (s_X12_in  (fun hw0 => ?_) (fun nw0 => ?_))
  · refine xX12_isSpot_7 (Or.inr rfl) rfl rfl ?_
    first | exact k1 hw0 | exact k0 nw0
  · refine xX12_isSpot_7 (Or.inl rfl) rfl rfl ?_
    first | exact k1 hw0 | exact k0 nw0
theorem s_X12_isByte {d : Nat} {sc : Nat × (Nat → Int32)} {v : Int32} {h : AH} {F : Int32 → AH → Prop} (k1 : 0 ≤ v ∧ v ≤ 255 → F 1 h) (k0 : ¬ (0 ≤ v ∧ v ≤ 255) → F 0 h) : Mok (d + 1) 0 0 sc kX12_isByte [.int v] h (Qi F) := by
  refine Mok.ofWp (L := [some (.int v)]) rfl rfl rfl ?_
  refine xX12_isByte_0 ?_
  refine xX12_isByte_1 ?_
  refine xX12_isByte_2 ?_
  refine xX12_isByte_5 rfl rfl rfl (s_X12_in  (fun hw0 => ?_) (fun nw0 => ?_))
  · refine xX12_isByte_8 (Or.inr rfl) rfl rfl ?_
    first | exact k1 hw0 | exact k0 nw0
  · refine xX12_isByte_8 (Or.inl rfl) rfl rfl ?_
    first | exact k1 hw0 | exact k0 nw0
theorem s_X12_two {d : Nat} {sc : Nat × (Nat → Int32)} {c a b : Int32} {h : AH} {F : Int32 → AH → Prop} (hc : isBin c) (hQ : F (twoM c a b) h) : Mok d 0 0 sc kX12_two [.int c, .int a, .int b] h (Qi F) := by
  refine Mok.ofWp (L := [some (.int c), some (.int a), some (.int b)]) rfl rfl rfl ?_
  refine xX12_two_0 ?_
  refine xX12_two_1 (fun c1 => ?_) (fun c1 => ?_) (fun c1 => ?_) (fun c1 => ?_) (fun c1 => ?_) (fun c1 => ?_) (fun c1 => ?_) (fun c1 => ?_)
  · subst c1
    refine xX12_two_44 ?_
    refine xX12_two_45 (fun c45 => ?_) (fun c45 => ?_)
    · refine xX12_two_52 ?_
      refine xX12_two_53 ?_
      refine xX12_two_57 rfl rfl ?_
      simp [twoM, *] at hQ; exact hQ
    · refine xX12_two_48 ?_
      refine xX12_two_49 (fun c49 => ?_) (fun c49 => ?_)
      · refine xX12_two_56 ?_
        refine xX12_two_57 rfl rfl ?_
        simp [twoM, *] at hQ; exact hQ
      · refine xX12_two_52 ?_
        refine xX12_two_53 ?_
        refine xX12_two_57 rfl rfl ?_
        simp [twoM, *] at hQ; exact hQ
  · subst c1
    refine xX12_two_58 ?_
    refine xX12_two_59 (fun c59 => ?_) (fun c59 => ?_)
    · refine xX12_two_70 ?_
      refine xX12_two_71 rfl rfl ?_
      simp [twoM, *] at hQ; exact hQ
    · refine xX12_two_62 ?_
      refine xX12_two_63 (fun c63 => ?_) (fun c63 => ?_)
      · refine xX12_two_70 ?_
        refine xX12_two_71 rfl rfl ?_
        simp [twoM, *] at hQ; exact hQ
      · refine xX12_two_66 ?_
        refine xX12_two_67 ?_
        refine xX12_two_71 rfl rfl ?_
        simp [twoM, *] at hQ; exact hQ
  · subst c1
    exact absurd hc (by unfold isBin; decide)
  · subst c1
    refine xX12_two_72 ?_
    refine xX12_two_73 ?_
    refine xX12_two_74 (fun c74 => ?_) (fun c74 => ?_)
    · refine xX12_two_81 ?_
      refine xX12_two_82 rfl rfl ?_
      first
        | (rw [show twoM 14 a b = if a < b then 1 else 0 from rfl, if_neg (Int32.not_lt.mpr c74)] at hQ; exact hQ)
        | (rw [show twoM 14 a b = if a < b then 1 else 0 from rfl, if_pos (Int32.not_le.mp c74)] at hQ; exact hQ)
    · refine xX12_two_77 ?_
      refine xX12_two_78 ?_
      refine xX12_two_82 rfl rfl ?_
      first
        | (rw [show twoM 14 a b = if a < b then 1 else 0 from rfl, if_neg (Int32.not_lt.mpr c74)] at hQ; exact hQ)
        | (rw [show twoM 14 a b = if a < b then 1 else 0 from rfl, if_pos (Int32.not_le.mp c74)] at hQ; exact hQ)
  · subst c1
    refine xX12_two_83 ?_
    refine xX12_two_84 ?_
    refine xX12_two_85 (fun c85 => ?_) (fun c85 => ?_)
    · refine xX12_two_92 ?_
      refine xX12_two_93 rfl rfl ?_
      simp [twoM, *] at hQ; exact hQ
    · refine xX12_two_88 ?_
      refine xX12_two_89 ?_
      refine xX12_two_93 rfl rfl ?_
      simp [twoM, *] at hQ; exact hQ
  · subst c1
    refine xX12_two_94 ?_
    refine xX12_two_95 ?_
    refine xX12_two_96 ?_
    refine xX12_two_97 rfl rfl ?_
    exact hQ
  · subst c1
    refine xX12_two_98 ?_
    refine xX12_two_99 ?_
    refine xX12_two_100 ?_
    refine xX12_two_101 rfl rfl ?_
    exact hQ
  · have ec : c = 18 := by
      rcases hc with rfl | rfl | rfl | rfl | rfl | rfl | rfl <;> first | rfl | (exfalso; revert c1; decide)
    subst ec
    refine xX12_two_102 ?_
    refine xX12_two_103 ?_
    refine xX12_two_104 ?_
    refine xX12_two_105 rfl rfl ?_
    exact hQ
