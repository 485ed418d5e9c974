-- ===== texts: tokens =====
def byX (tp : List Int32) (i : Nat) : Int32 := tp.getD i (-1)
theorem drop_c {tp l : List Int32} {i : Nat} {c : Int32} (h : tp.drop i = c :: l) : i < tp.length ∧ byX tp i = c ∧ tp.drop (i + 1) = l := by
  have h1 : i < tp.length := by
    rcases Nat.lt_or_ge i tp.length with q | q
    · exact q
    · rw [List.drop_eq_nil_of_le q] at h; cases h
  rw [List.drop_eq_getElem_cons h1] at h
  injection h with h2 h3
  refine ⟨h1, ?_, h3⟩
  unfold byX
  rw [List.getD_eq_getElem?_getD, List.getElem?_eq_getElem h1]
  exact h2
theorem drop_n {tp : List Int32} {i : Nat} (h : tp.drop i = []) : tp.length ≤ i := by
  rcases Nat.lt_or_ge i tp.length with q | q
  · rw [List.drop_eq_getElem_cons q] at h; cases h
  · exact q
theorem byX_n {tp : List Int32} {i : Nat} (h : tp.length ≤ i) : byX tp i = -1 := by
  unfold byX
  rw [List.getD_eq_getElem?_getD, List.getElem?_eq_none h]
  rfl
def runL (lo hi : Int32) : List Int32 → Nat
  | [] => 0
  | c :: l => if lo ≤ c ∧ c ≤ hi then runL lo hi l + 1 else 0
def skpL : List Int32 → Nat
  | [] => 0
  | c :: l => if c = 32 ∨ c = 10 then skpL l + 1 else 0
theorem runL_le (lo hi : Int32) : ∀ l : List Int32, runL lo hi l ≤ l.length := by
  intro l
  induction l with
  | nil => exact Nat.le_refl _
  | cons c l ih =>
    show (if lo ≤ c ∧ c ≤ hi then runL lo hi l + 1 else 0) ≤ l.length + 1
    split <;> omega
theorem skpL_le : ∀ l : List Int32, skpL l ≤ l.length := by
  intro l
  induction l with
  | nil => exact Nat.le_refl _
  | cons c l ih =>
    show (if c = 32 ∨ c = 10 then skpL l + 1 else 0) ≤ l.length + 1
    split <;> omega
def numX : List Int32 → Int32 → Int32
  | [], a => a
  | c :: l, a => numX l (10 * a + c - 48)
/-- the twelve words -/
def WLs : List (List Int32) := strByt.tail
def wdF : List (List Int32) → Nat → List Int32 → Int32 → Int32
  | [], _, _, a => a
  | x :: xs, k, w, a => wdF xs (k + 1) w (if w = x then 100 + nI k else a)
def wdX (w : List Int32) : Int32 := wdF WLs 0 w 1
def isSg (c : Int32) : Prop := c = 40 ∨ c = 41 ∨ c = 59 ∨ c = 43 ∨ c = 45 ∨ c = 42 ∨ c = 60 ∨ c = 61
/-- the token that a row of bytes begins with: what it is, its number, its bytes -/
def tkW (l : List Int32) : Int32 × Int32 × Nat := (wdX (l.take (runL 97 122 l)), 0, runL 97 122 l)
def tkN (l : List Int32) : Int32 × Int32 × Nat := (if 4 < runL 48 57 l then 1 else 2, if 4 < runL 48 57 l then 0 else numX (l.take (runL 48 57 l)) 0, runL 48 57 l)
def sgX (c : Int32) : Int32 := if c = 40 then c else if c = 41 then c else if c = 59 then c else if c = 43 then c else if c = 45 then c else if c = 42 then c else if c = 60 then c else if c = 61 then c else 1
def tkX : List Int32 → Int32 × Int32 × Nat
  | [] => (0, 0, 0)
  | c :: l => if 97 ≤ c ∧ c ≤ 122 then tkW (c :: l) else if 48 ≤ c ∧ c ≤ 57 then tkN (c :: l) else (sgX c, 0, 1)
theorem tkX_c (c : Int32) (l : List Int32) : tkX (c :: l) = if 97 ≤ c ∧ c ≤ 122 then tkW (c :: l) else if 48 ≤ c ∧ c ≤ 57 then tkN (c :: l) else (sgX c, 0, 1) := rfl
abbrev Tok : Type := Nat × Int32 × Int32
def toks (tp : List Int32) : Nat → Nat → List Tok
  | 0, _ => []
  | f + 1, p => (p + skpL (tp.drop p), (tkX (tp.drop (p + skpL (tp.drop p)))).1, (tkX (tp.drop (p + skpL (tp.drop p)))).2.1) :: (if (tkX (tp.drop (p + skpL (tp.drop p)))).1 = 0 then [] else toks tp f (p + skpL (tp.drop p) + (tkX (tp.drop (p + skpL (tp.drop p)))).2.2))
def TKS (tp : List Int32) (p : Nat) : List Tok := toks tp (tp.length + 1 - p) p
theorem wdF_ne {w : List Int32} : ∀ (xs : List (List Int32)) (k : Nat) (a : Int32), k + xs.length ≤ 20 → a ≠ 0 → wdF xs k w a ≠ 0 := by
  intro xs
  induction xs with
  | nil => intro k a _ h; exact h
  | cons x xs ih =>
    intro k a hk h
    simp only [List.length_cons] at hk
    refine ih (k + 1) _ (by omega) ?_
    split
    · rw [show (100 : Int32) = nI 100 from rfl, nI_add]
      intro z
      have := nIinj (a := 100 + k) (b := 0) (by omega) (by omega) z
      omega
    · exact h
theorem wdX_ne (w : List Int32) : wdX w ≠ 0 := wdF_ne WLs 0 1 (by decide) (by decide)
theorem sgX_ne (c : Int32) : sgX c ≠ 0 := by
  unfold sgX
  repeat' split
  all_goals first | decide | (rename_i h; rw [h]; decide) | skip
  all_goals (simp_all)
/-- a token has bytes, but the end's -/
theorem tkX_len {l : List Int32} (h : (tkX l).1 ≠ 0) : 1 ≤ (tkX l).2.2 ∧ (tkX l).2.2 ≤ l.length := by
  cases l with
  | nil => exact absurd rfl h
  | cons c l =>
    rw [tkX_c]
    by_cases h1 : 97 ≤ c ∧ c ≤ 122
    · rw [if_pos h1]
      have e : runL 97 122 (c :: l) = runL 97 122 l + 1 := if_pos h1
      exact ⟨by show 1 ≤ runL 97 122 (c :: l); omega, runL_le _ _ _⟩
    · rw [if_neg h1]
      by_cases h2 : 48 ≤ c ∧ c ≤ 57
      · rw [if_pos h2]
        have e : runL 48 57 (c :: l) = runL 48 57 l + 1 := if_pos h2
        exact ⟨by show 1 ≤ runL 48 57 (c :: l); omega, runL_le _ _ _⟩
      · rw [if_neg h2]
        exact ⟨Nat.le_refl _, by simp⟩
theorem tkX_0 {l : List Int32} (h : (tkX l).1 = 0) : l = [] := by
  cases l with
  | nil => rfl
  | cons c l =>
    exfalso
    revert h
    rw [tkX_c]
    by_cases h1 : 97 ≤ c ∧ c ≤ 122
    · rw [if_pos h1]; exact wdX_ne _
    · rw [if_neg h1]
      by_cases h2 : 48 ≤ c ∧ c ≤ 57
      · rw [if_pos h2]
        show ¬ (if 4 < runL 48 57 (c :: l) then (1 : Int32) else 2) = 0
        split <;> decide
      · rw [if_neg h2]; exact sgX_ne c
theorem toks_f {tp : List Int32} : ∀ (f f2 p : Nat), p ≤ tp.length → tp.length + 1 ≤ p + f → tp.length + 1 ≤ p + f2 → toks tp f p = toks tp f2 p := by
  intro f
  induction f with
  | zero => intro f2 p h1 h2; omega
  | succ f ih =>
    intro f2 p h1 h2 h3
    obtain ⟨f2, rfl⟩ : ∃ q, f2 = q + 1 := ⟨f2 - 1, by omega⟩
    have hs := skpL_le (tp.drop p)
    rw [List.length_drop] at hs
    show _ :: (if _ then _ else _) = _ :: (if _ then _ else _)
    congr 1
    by_cases q : (tkX (tp.drop (p + skpL (tp.drop p)))).1 = 0
    · rw [if_pos q, if_pos q]
    · rw [if_neg q, if_neg q]
      have hl := tkX_len q
      rw [List.length_drop] at hl
      exact ih f2 _ (by omega) (by omega) (by omega)
theorem TKS_eq {tp : List Int32} {p : Nat} (h : p ≤ tp.length) : TKS tp p = (p + skpL (tp.drop p), (tkX (tp.drop (p + skpL (tp.drop p)))).1, (tkX (tp.drop (p + skpL (tp.drop p)))).2.1) :: (if (tkX (tp.drop (p + skpL (tp.drop p)))).1 = 0 then [] else TKS tp (p + skpL (tp.drop p) + (tkX (tp.drop (p + skpL (tp.drop p)))).2.2)) := by
  have hs := skpL_le (tp.drop p)
  rw [List.length_drop] at hs
  unfold TKS
  rw [show tp.length + 1 - p = (tp.length - p) + 1 by omega]
  show _ :: (if _ then _ else _) = _ :: (if _ then _ else _)
  congr 1
  by_cases q : (tkX (tp.drop (p + skpL (tp.drop p)))).1 = 0
  · rw [if_pos q, if_pos q]
  · rw [if_neg q, if_neg q]
    have hl := tkX_len q
    rw [List.length_drop] at hl
    exact toks_f _ _ _ (by omega) (by omega) (by omega)
theorem toks_len {tp : List Int32} : ∀ (f p : Nat), (toks tp f p).length ≤ f := by
  intro f
  induction f with
  | zero => intro p; exact Nat.le_refl _
  | succ f ih =>
    intro p
    show (_ :: (if _ then _ else _) : List Tok).length ≤ f + 1
    rw [List.length_cons]
    split
    · simp
    · have := ih (p + skpL (tp.drop p) + (tkX (tp.drop (p + skpL (tp.drop p)))).2.2)
      omega
theorem TKS_len {tp : List Int32} {p : Nat} : (TKS tp p).length ≤ tp.length + 1 - p := toks_len _ _
def TB (tp : List Int32) : Prop := ∀ v ∈ tp, 0 ≤ v ∧ v ≤ 255
theorem TB_c {tp l : List Int32} {i : Nat} {c : Int32} (h : TB tp) (e : tp.drop i = c :: l) : 0 ≤ c ∧ c ≤ 255 := h c (List.mem_of_mem_drop (by rw [e]; exact List.mem_cons_self))
-- the constants' texts
theorem strLz : ∀ i, i < 13 → nI (strLen.getD i 0) >>> (0 &&& 31) = nI (strLen.getD i 0) := by decide +kernel
theorem strBz : ∀ i, i < 13 → ∀ j, j < strLen.getD i 0 → ((((strByt.getD i []).getD j 0) &&& 255).toUInt32 % 65536).toInt32 = (strByt.getD i []).getD j 0 ∧ narrow .char (.int ((strByt.getD i []).getD j 0)) = .int ((strByt.getD i []).getD j 0) ∧ j < 1000 := by
  intro i hi
  rcases (by omega : i = 0 ∨ i = 1 ∨ i = 2 ∨ i = 3 ∨ i = 4 ∨ i = 5 ∨ i = 6 ∨ i = 7 ∨ i = 8 ∨ i = 9 ∨ i = 10 ∨ i = 11 ∨ i = 12) with rfl | rfl | rfl | rfl | rfl | rfl | rfl | rfl | rfl | rfl | rfl | rfl | rfl <;> decide +kernel
theorem strLl : ∀ i, i < 13 → strLen.getD i 0 < 100 ∧ (strByt.getD i []).length = strLen.getD i 0 := by decide +kernel
theorem s_J0_coder {d : Nat} {sc : Nat × (Nat → Int32)} {i : Nat} {q : Nat} {h : AH} {F : Int32 → AH → Prop} (hi : i < 13) (hq : q = 1000000 + i) (hQ : F 0 h) : Mok d 0 0 sc kJ0_coder_7d493 [.ref q] h (Qi F) := by
  refine Mok.ofWp (L := [some (.ref q)]) rfl rfl rfl ?_
  refine xJ0_coder_7d493_0 ?_
  refine xJ0_coder_7d493_3_f (by decide) ?_
  refine xJ0_coder_7d493_6 ?_
  refine xJ0_coder_7d493_7 hi hq ?_
  refine xJ0_coder_7d493_10 ?_
  refine xJ0_coder_7d493_14 rfl rfl rfl ?_
  exact hQ
theorem s_J0_isLatin1 {d : Nat} {sc : Nat × (Nat → Int32)} {i : Nat} {q : Nat} {h : AH} {F : Int32 → AH → Prop} (hi : i < 13) (hq : q = 1000000 + i) (hQ : F 1 h) : Mok d 0 0 sc kJ0_isLatin1_aae02 [.ref q] h (Qi F) := by
  refine Mok.ofWp (L := [some (.ref q)]) rfl rfl rfl ?_
  refine xJ0_isLatin1_aae02_0 ?_
  refine xJ0_isLatin1_aae02_3_f (by decide) ?_
  refine xJ0_isLatin1_aae02_6 ?_
  refine xJ0_isLatin1_aae02_7 hi hq ?_
  refine xJ0_isLatin1_aae02_10_f (by decide) ?_
  refine xJ0_isLatin1_aae02_13 ?_
  refine xJ0_isLatin1_aae02_14 ?_
  refine xJ0_isLatin1_aae02_18 (Or.inr rfl) rfl rfl ?_
  exact hQ
theorem s_J0_length {d : Nat} {sc : Nat × (Nat → Int32)} {i : Nat} {q : Nat} {h : AH} {F : Int32 → AH → Prop} (hi : i < 13) (hq : q = 1000000 + i) (hQ : F (nI (strLen.getD i 0)) h) : Mok (d + 1) 0 0 sc kJ0_length_8abf5 [.ref q] h (Qi F) := by
  refine Mok.ofWp (L := [some (.ref q)]) rfl rfl rfl ?_
  refine xJ0_length_8abf5_0 ?_
  refine xJ0_length_8abf5_1 hi hq rfl ?_
  refine xJ0_length_8abf5_4 hi rfl rfl ?_
  refine xJ0_length_8abf5_5 ?_
  refine xJ0_length_8abf5_6 hi hq rfl rfl rfl (s_J0_coder hi hq ?_)
  refine xJ0_length_8abf5_9 ?_
  refine xJ0_length_8abf5_10 rfl rfl ?_
  exact byEq hQ (strLz i hi)
theorem s_J3_checkIndexn {d : Nat} {sc : Nat × (Nat → Int32)} {x y : Int32} {h : AH} {F : Int32 → AH → Prop} (h0 : ¬ x < 0) (h1 : x < y) (hQ : F x h) : Mok d 0 0 sc kJ3_checkIndex_8e157 [.int x, .int y, .null] h (Qi F) := by
  refine Mok.ofWp (L := [some (.int x), some (.int y), some (.null)]) rfl rfl rfl ?_
  refine xJ3_checkIndex_8e157_0 ?_
  refine xJ3_checkIndex_8e157_1_f h0 ?_
  refine xJ3_checkIndex_8e157_4 ?_
  refine xJ3_checkIndex_8e157_5 ?_
  refine xJ3_checkIndex_8e157_6_t h1 ?_
  refine xJ3_checkIndex_8e157_16 ?_
  refine xJ3_checkIndex_8e157_17 rfl rfl ?_
  exact hQ
theorem s_J3_checkIndexr {d : Nat} {sc : Nat × (Nat → Int32)} {x y : Int32} {h : AH} {F : Int32 → AH → Prop} (h0 : ¬ x < 0) (h1 : x < y) (hQ : F x h) : Mok d 0 0 sc kJ3_checkIndex_8e157 [.int x, .int y, .ref 1000300] h (Qi F) := by
  refine Mok.ofWp (L := [some (.int x), some (.int y), some (.ref 1000300)]) rfl rfl rfl ?_
  refine xJ3_checkIndex_8e157_0 ?_
  refine xJ3_checkIndex_8e157_1_f h0 ?_
  refine xJ3_checkIndex_8e157_4 ?_
  refine xJ3_checkIndex_8e157_5 ?_
  refine xJ3_checkIndex_8e157_6_t h1 ?_
  refine xJ3_checkIndex_8e157_16 ?_
  refine xJ3_checkIndex_8e157_17 rfl rfl ?_
  exact hQ
theorem s_J0_checkIndex {d : Nat} {sc : Nat × (Nat → Int32)} {x y : Int32} {h : AH} {F : AH → Prop} (h0 : ¬ x < 0) (h1 : x < y) (hQ : F h) : Mok (d + 1) 0 0 sc kJ0_checkIndex_df160 [.int x, .int y] h (Qv F) := by
  refine Mok.ofWp (L := [some (.int x), some (.int y)]) rfl rfl rfl ?_
  refine xJ0_checkIndex_df160_0 ?_
  refine xJ0_checkIndex_df160_1 ?_
  refine xJ0_checkIndex_df160_2 ?_ ?_
  · refine xJ0_checkIndex_df160_5 rfl rfl rfl (s_J3_checkIndexn h0 h1 ?_)
    refine xJ0_checkIndex_df160_8 rfl ?_
    refine xJ0_checkIndex_df160_9 rfl rfl ?_
    exact hQ
  · refine xJ0_checkIndex_df160_5 rfl rfl rfl (s_J3_checkIndexr h0 h1 ?_)
    refine xJ0_checkIndex_df160_8 rfl ?_
    refine xJ0_checkIndex_df160_9 rfl rfl ?_
    exact hQ
theorem s_J1_charAt {d : Nat} {sc : Nat × (Nat → Int32)} {i j : Nat} {x : Int32} {q : Nat} {h : AH} {F : Int32 → AH → Prop} (hi : i < 13) (hx : x = nI j) (hj : j < strLen.getD i 0) (hq : q = 1000100 + i) (hQ : F ((strByt.getD i []).getD j 0) h) : Mok (d + 2) 0 0 sc kJ1_charAt_3b067 [.ref q, .int x] h (Qi F) := by
  have hz := strBz i hi j hj
  have hl := strLl i hi
  refine Mok.ofWp (L := [some (.ref q), some (.int x)]) rfl rfl rfl ?_
  refine xJ1_charAt_3b067_0 ?_
  refine xJ1_charAt_3b067_1 ?_
  refine xJ1_charAt_3b067_2 hi hq rfl ?_
  refine xJ1_charAt_3b067_3 rfl rfl rfl (s_J0_checkIndex (by rw [hx]; exact Int32.not_lt.mpr (nI_le (a := 0) (by omega) (by omega))) (by rw [hx]; exact nI_lt hj (by omega)) ?_)
  refine xJ1_charAt_3b067_6 ?_
  refine xJ1_charAt_3b067_7 ?_
  refine xJ1_charAt_3b067_8 hi hq hx hj hz.2.2 rfl ?_
  refine xJ1_charAt_3b067_9 ?_
  refine xJ1_charAt_3b067_12 ?_
  refine xJ1_charAt_3b067_13 ?_
  rw [hz.1]
  refine xJ1_charAt_3b067_14 hz.2.1 rfl rfl ?_
  exact hQ
theorem s_J0_charAt {d : Nat} {sc : Nat × (Nat → Int32)} {i j : Nat} {x : Int32} {q : Nat} {h : AH} {F : Int32 → AH → Prop} (hi : i < 13) (hx : x = nI j) (hj : j < strLen.getD i 0) (hq : q = 1000000 + i) (hQ : F ((strByt.getD i []).getD j 0) h) : Mok (d + 3) 0 0 sc kJ0_charAt_5068e [.ref q, .int x] h (Qi F) := by
  refine Mok.ofWp (L := [some (.ref q), some (.int x)]) rfl rfl rfl ?_
  refine xJ0_charAt_5068e_0 ?_
  refine xJ0_charAt_5068e_1 hi hq rfl rfl rfl (s_J0_isLatin1 hi hq ?_)
  refine xJ0_charAt_5068e_4_f (by decide) ?_
  refine xJ0_charAt_5068e_7 ?_
  refine xJ0_charAt_5068e_8 hi hq rfl ?_
  refine xJ0_charAt_5068e_11 ?_
  refine xJ0_charAt_5068e_12 rfl rfl rfl (s_J1_charAt hi hx hj rfl ?_)
  refine xJ0_charAt_5068e_15 (strBz i hi j hj).2.1 rfl rfl ?_
  exact hQ
