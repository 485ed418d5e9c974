/-- the class's tape -/
def XP_ (g : Nat → Nat → Int32) (tp : List Int32) : Prop := g 35 0 = nI tp.length ∧ tp.length ≤ 160 ∧ ∀ i v, tp[i]? = some v → g 36 i = v
/-- what changes when bytes are fed -/
def TPF (g g' : Nat → Nat → Int32) : Prop := (∀ a, a ≠ 35 → a ≠ 36 → g' a = g a) ∧ ∀ k, k ≠ 0 → g' 35 k = g 35 k
theorem TPF.rf {g : Nat → Nat → Int32} : TPF g g := ⟨fun _ _ _ => rfl, fun _ _ => rfl⟩
theorem TPF.tr {g1 g2 g3 : Nat → Nat → Int32} (h1 : TPF g1 g2) (h2 : TPF g2 g3) : TPF g1 g3 := ⟨fun a p q => (h2.1 a p q).trans (h1.1 a p q), fun k hk => (h2.2 k hk).trans (h1.2 k hk)⟩
theorem XP_add {g : Nat → Nat → Int32} {tp : List Int32} {b : Int32} (h : XP_ g tp) (hl : tp.length < 160) : XP_ (up (up g 36 tp.length b) 35 0 (nI (tp.length + 1))) (tp ++ [b]) := by
  obtain ⟨h1, h2, h3⟩ := h
  refine ⟨by rw [up_same, List.length_append]; rfl, by rw [List.length_append]; simp; omega, fun i v hv => ?_⟩
  rw [up_row (by decide)]
  by_cases q : i < tp.length
  · rw [List.getElem?_append_left q] at hv
    rw [up_ne (by omega)]
    exact h3 i v hv
  · rw [List.getElem?_append_right (by omega)] at hv
    by_cases q2 : i = tp.length
    · subst q2
      simp at hv
      rw [up_same]; exact hv
    · have : i - tp.length ≠ 0 := by omega
      obtain ⟨m, hm⟩ := Nat.exists_eq_succ_of_ne_zero this
      rw [hm] at hv
      simp at hv
def isB (v : Int32) : Prop := 0 ≤ v ∧ v ≤ 255
def feedL (n a b c d e : Int32) : List Int32 := [a, b, c, d, e].take (nN n)
def feedC (n a b c d e : Int32) : Prop := (1 ≤ n ∧ n ≤ 5) ∧ isB a ∧ isB b ∧ isB c ∧ isB d ∧ isB e
/-- what feeding answers, and the tape then -/
def feedX (tp : List Int32) (n a b c d e : Int32) (r : Int32) (tp2 : List Int32) : Prop := (¬ feedC n a b c d e ∧ r = -2 ∧ tp2 = tp) ∨ (feedC n a b c d e ∧ 160 - nI tp.length < n ∧ r = -4 ∧ tp2 = tp) ∨ (feedC n a b c d e ∧ ¬ 160 - nI tp.length < n ∧ r = nI (tp.length + nN n) ∧ tp2 = tp ++ feedL n a b c d e)
