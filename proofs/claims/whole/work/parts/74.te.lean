-- ===== texts: the reference's way through the tokens =====
def rk (s : Int32) : Nat := if s = 0 then 0 else if s = 11 then 1 else if s = 12 then 2 else if s = 13 then 3 else if s ≤ 15 then 4 else if s ≤ 17 then 5 else if s = 18 then 6 else 7
def sgn (t : Int32) : Int32 := if t = 103 then 11 else if t = 104 then 12 else if t = 60 then 14 else if t = 61 then 15 else if t = 43 then 16 else if t = 45 then 17 else if t = 42 then 18 else 0
def bt (t : Int32) : Nat := rk (sgn t)
def thr (t : Int32) : Nat := if bt t = 4 then 5 else bt t
def unw (k : Nat) : List Int32 → List Int32 → Nat → List Int32 × List Int32 × Nat
  | [], out, o => ([], out, o)
  | s :: B, out, o => if k ≤ rk s then unw k B (out ++ [s]) (if s = 13 ∨ s = 19 then o - 1 else o) else (s :: B, out, o)
def tp4 : List Int32 → Bool
  | [] => false
  | s :: _ => decide (rk s = 4)
abbrev SR_ : Type := Sum Nat (List Tok × List Int32)
def sy : List Tok → Bool → Bool → List Int32 → List Int32 → Nat → SR_
  | [], _, _, _, _, _ => Sum.inl 0
  | q :: ts, true, mn, B, out, o =>
    if q.2.1 = 2 then sy ts false mn (unw 7 B (out ++ [100000 + q.2.2]) o).1 (unw 7 B (out ++ [100000 + q.2.2]) o).2.1 (unw 7 B (out ++ [100000 + q.2.2]) o).2.2
    else if 106 ≤ q.2.1 then sy ts false mn (unw 7 B (out ++ [q.2.1 - 106]) o).1 (unw 7 B (out ++ [q.2.1 - 106]) o).2.1 (unw 7 B (out ++ [q.2.1 - 106]) o).2.2
    else if q.2.1 = 105 ∧ mn = true then (if o = 5 then Sum.inl q.1 else sy ts true mn (13 :: B) out (o + 1))
    else if q.2.1 = 45 then (if o = 5 then Sum.inl q.1 else sy ts true false (19 :: B) out (o + 1))
    else if q.2.1 = 40 then (if o = 5 then Sum.inl q.1 else sy ts true true (0 :: B) out (o + 1))
    else Sum.inl q.1
  | q :: ts, false, mn, B, out, o =>
    if q.2.1 = 59 then (if (unw 1 B out o).1 = [] then Sum.inr (ts, (unw 1 B out o).2.1) else Sum.inl q.1)
    else if q.2.1 = 41 then (if (unw 1 B out o).1 = [] then Sum.inl q.1 else sy ts false mn (unw 7 (unw 1 B out o).1.tail (unw 1 B out o).2.1 ((unw 1 B out o).2.2 - 1)).1 (unw 7 (unw 1 B out o).1.tail (unw 1 B out o).2.1 ((unw 1 B out o).2.2 - 1)).2.1 (unw 7 (unw 1 B out o).1.tail (unw 1 B out o).2.1 ((unw 1 B out o).2.2 - 1)).2.2)
    else if sgn q.2.1 = 0 then Sum.inl q.1
    else if bt q.2.1 = 4 ∧ tp4 (unw (thr q.2.1) B out o).1 = true then Sum.inl q.1
    else sy ts true (decide (sgn q.2.1 ≤ 12)) (sgn q.2.1 :: (unw (thr q.2.1) B out o).1) (unw (thr q.2.1) B out o).2.1 (unw (thr q.2.1) B out o).2.2
/-- the top binds less than k -/
def tl (k : Nat) : List Int32 → Prop
  | [] => True
  | s :: _ => rk s < k
theorem rk_le (s : Int32) : rk s ≤ 7 := by
  unfold rk
  repeat' split
  all_goals omega
theorem unw_no {k o : Nat} {B out : List Int32} (h : tl k B) : unw k B out o = (B, out, o) := by
  cases B with
  | nil => rfl
  | cons s B => exact if_neg (by have : rk s < k := h; omega)
theorem unw_pop {k o : Nat} {s : Int32} {B out : List Int32} (h : k ≤ rk s) : unw k (s :: B) out o = unw k B (out ++ [s]) (if s = 13 ∨ s = 19 then o - 1 else o) := if_pos h
theorem sy_mn (ts : List Tok) : ∀ (m m2 : Bool) (B out : List Int32) (o : Nat), sy ts false m B out o = sy ts false m2 B out o := by
  induction ts with
  | nil => intro m m2 B out o; rfl
  | cons q ts ih =>
    intro m m2 B out o
    unfold sy
    split
    · rfl
    · split
      · split
        · rfl
        · exact ih _ _ _ _ _
      · rfl
def tlr (r : Nat) : List Int32 → Prop := tl (if r = 3 then 4 else if r = 7 then 8 else r)
theorem tl_le {a b : Nat} {B : List Int32} (h : tl a B) (hab : a ≤ b) : tl b B := by
  cases B with
  | nil => trivial
  | cons s B => exact Nat.lt_of_lt_of_le h hab
theorem tl8 (B : List Int32) : tl 8 B := by
  cases B with
  | nil => trivial
  | cons s B => exact Nat.lt_succ_of_le (rk_le s)
def hdT : List Tok → Int32
  | [] => 0
  | q :: _ => q.2.1
def mok (r : Nat) (mn : Bool) (t : Int32) : Prop := if r ≤ 3 then mn = true else (mn = false ∨ t ≠ 105)
def wfc (cs : List Int32) : Prop := ∀ d l, wfd l (d + 1) → wfd (cs ++ l) d
theorem wfc_leaf {c : Int32} (h : isLeaf c) : wfc [c] := fun d l hl => Or.inl ⟨h, hl⟩
theorem wfc_un {cs : List Int32} {s : Int32} (h : wfc cs) (hs : s = 13 ∨ s = 19) : wfc (cs ++ [s]) := fun d l hl => by
  rw [List.append_assoc]
  exact h d _ (Or.inr (Or.inl ⟨hs, by omega, hl⟩))
theorem wfc_bin {c1 c2 : List Int32} {s : Int32} (h1 : wfc c1) (h2 : wfc c2) (hs : isBin s) : wfc (c1 ++ (c2 ++ [s])) := fun d l hl => by
  rw [List.append_assoc, List.append_assoc]
  exact h1 d _ (h2 (d + 1) _ (Or.inr (Or.inr ⟨hs, by omega, hl⟩)))
/-- what follows a part of the grammar that is read well -/
def Sem (r : Nat) (ts : List Tok) (o : Nat) (q : Tok) (r2 : List Tok) (cs : List Int32) : Prop := ∀ mn B out, tlr r B → mok r mn (hdT ts) → (r ≤ 4 ∧ bt q.2.1 = 4 → sy ts true mn B out o = Sum.inl q.1) ∧ (¬ (r ≤ 4 ∧ bt q.2.1 = 4) → ∀ m, sy ts true mn B out o = sy (q :: r2) false m B (out ++ cs) o)
def GS (r u : Nat) (ts : List Tok) (o : Nat) (ts2 : List Tok) (cs : List Int32) : Prop := cs.length + ts2.length ≤ ts.length ∧ wfc cs ∧ ∃ q r2, ts2 = q :: r2 ∧ (bt q.2.1 < u ∨ (r ≤ 4 ∧ bt q.2.1 = 4)) ∧ Sem r ts o q r2 cs
def G7 (ts : List Tok) (o : Nat) (ts2 : List Tok) (cs : List Int32) : Prop := cs.length + ts2.length ≤ ts.length ∧ wfc cs ∧ ts2 ≠ [] ∧ ∀ mn B out m, mok 7 mn (hdT ts) → sy ts true mn B out o = sy ts2 false m (unw 7 B (out ++ cs) o).1 (unw 7 B (out ++ cs) o).2.1 (unw 7 B (out ++ cs) o).2.2
def Bad (r : Nat) (ts : List Tok) (o b : Nat) : Prop := ∀ mn B out, tlr r B → mok r mn (hdT ts) → sy ts true mn B out o = Sum.inl b
theorem bt_le (t : Int32) : bt t ≤ 6 ∧ bt t ≠ 3 := by
  unfold bt sgn
  repeat' split
  all_goals decide
theorem settle {q : Tok} {r : List Tok} {s : Int32} {B out : List Int32} {o : Nat} {m : Bool} (h1 : 1 ≤ rk s) (h : thr q.2.1 ≤ rk s) : sy (q :: r) false m (s :: B) out o = sy (q :: r) false m B (out ++ [s]) (if s = 13 ∨ s = 19 then o - 1 else o) := by
  unfold sy
  rw [unw_pop h1, unw_pop h]
-- one
theorem G7_num {b : Nat} {n : Int32} {r2 : List Tok} {o : Nat} (h2 : r2 ≠ []) (hl : isLeaf (100000 + n)) : G7 ((b, 2, n) :: r2) o r2 [100000 + n] := by
  refine ⟨by simp; omega, wfc_leaf hl, h2, fun mn B out m _ => ?_⟩
  rw [sy_mn r2 m mn]
  show (if (2 : Int32) = 2 then _ else _) = _
  rw [if_pos rfl]
theorem G7_name {b : Nat} {t n : Int32} {r2 : List Tok} {o : Nat} (h2 : r2 ≠ []) (ht : 106 ≤ t) (hl : isLeaf (t - 106)) : G7 ((b, t, n) :: r2) o r2 [t - 106] := by
  refine ⟨by simp; omega, wfc_leaf hl, h2, fun mn B out m _ => ?_⟩
  rw [sy_mn r2 m mn]
  show (if t = 2 then _ else if 106 ≤ t then _ else _) = _
  rw [if_neg (fun z => by rw [z] at ht; exact absurd ht (by decide)), if_pos ht]
theorem G7_neg {b : Nat} {n : Int32} {r2 ts2 : List Tok} {o : Nat} {cs : List Int32} (ho : o < 5) (h : G7 r2 (o + 1) ts2 cs) : G7 ((b, 45, n) :: r2) o ts2 (cs ++ [19]) := by
  obtain ⟨h1, h2, h3, h4⟩ := h
  refine ⟨by simp; omega, wfc_un h2 (Or.inr rfl), h3, fun mn B out m _ => ?_⟩
  have e : sy ((b, 45, n) :: r2) true mn B out o = sy r2 true false (19 :: B) out (o + 1) := by
    show (if (45 : Int32) = 2 then _ else if (106 : Int32) ≤ 45 then _ else if (45 : Int32) = 105 ∧ mn = true then _ else if (45 : Int32) = 45 then (if o = 5 then _ else _) else _) = _
    rw [if_neg (by decide), if_neg (by decide), if_neg (fun z => absurd z.1 (by decide)), if_pos rfl, if_neg (by omega)]
  rw [e, h4 false (19 :: B) out m (by unfold mok; exact Or.inl rfl), unw_pop (show 7 ≤ rk 19 by decide), if_pos (Or.inr rfl), Nat.add_sub_cancel, List.append_assoc]
theorem B7_neg {b b2 : Nat} {n : Int32} {r2 : List Tok} {o : Nat} (ho : o < 5) (h : Bad 7 r2 (o + 1) b2) : Bad 7 ((b, 45, n) :: r2) o b2 := by
  intro mn B out _ _
  show (if (45 : Int32) = 2 then _ else if (106 : Int32) ≤ 45 then _ else if (45 : Int32) = 105 ∧ mn = true then _ else if (45 : Int32) = 45 then (if o = 5 then _ else _) else _) = _
  rw [if_neg (by decide), if_neg (by decide), if_neg (fun z => absurd z.1 (by decide)), if_pos rfl, if_neg (by omega)]
  exact h false (19 :: B) out (tl8 _) (by unfold mok; exact Or.inl rfl)
theorem sy_open {b : Nat} {n : Int32} {r2 : List Tok} {o : Nat} {mn : Bool} {B out : List Int32} (ho : o < 5) : sy ((b, 40, n) :: r2) true mn B out o = sy r2 true true (0 :: B) out (o + 1) := by
  show (if (40 : Int32) = 2 then _ else if (106 : Int32) ≤ 40 then _ else if (40 : Int32) = 105 ∧ mn = true then _ else if (40 : Int32) = 45 then _ else if (40 : Int32) = 40 then (if o = 5 then _ else _) else _) = _
  rw [if_neg (by decide), if_neg (by decide), if_neg (fun z => absurd z.1 (by decide)), if_neg (by decide), if_pos rfl, if_neg (by omega)]
theorem tlr0 {r : Nat} {B : List Int32} (h : 1 ≤ r) : tlr r (0 :: B) := by
  unfold tlr
  split
  · exact Nat.lt_of_lt_of_le (show rk 0 < 1 by decide) (by omega)
  · split
    · exact Nat.lt_of_lt_of_le (show rk 0 < 1 by decide) (by omega)
    · exact Nat.lt_of_lt_of_le (show rk 0 < 1 by decide) h
theorem G7_inner {b b3 : Nat} {n n3 : Int32} {r2 r3 : List Tok} {o : Nat} {cs : List Int32} (ho : o < 5) (h : GS 1 1 r2 (o + 1) ((b3, 41, n3) :: r3) cs) (h3 : r3 ≠ []) : G7 ((b, 40, n) :: r2) o r3 cs := by
  obtain ⟨h1, h2, q, r4, e, -, h4⟩ := h
  injection e with e1 e2
  subst e1
  subst e2
  simp only [List.length_cons] at h1
  refine ⟨by simp only [List.length_cons]; omega, h2, h3, fun mn B out m _ => ?_⟩
  rw [sy_open ho, (h4 true (0 :: B) out (tlr0 (by omega)) rfl).2 (show ¬ (1 ≤ 4 ∧ bt 41 = 4) by decide) m]
  show (if (41 : Int32) = 59 then _ else if (41 : Int32) = 41 then (if (unw 1 (0 :: B) (out ++ cs) (o + 1)).1 = [] then _ else _) else _) = _
  rw [if_neg (by decide), if_pos rfl, unw_no (show tl 1 (0 :: B) from (by decide : rk 0 < 1)), if_neg (fun z => by cases z)]
  rfl
theorem B7_inner {b b2 : Nat} {n : Int32} {r2 : List Tok} {o : Nat} (ho : o < 5) (h : Bad 1 r2 (o + 1) b2) : Bad 7 ((b, 40, n) :: r2) o b2 := by
  intro mn B out _ _
  rw [sy_open ho]
  exact h true (0 :: B) out (tlr0 (by omega)) rfl
theorem B7_inner2 {b : Nat} {n : Int32} {r2 r3 : List Tok} {q : Tok} {o : Nat} {cs : List Int32} (ho : o < 5) (h : GS 1 1 r2 (o + 1) (q :: r3) cs) (hq : q.2.1 ≠ 41) : Bad 7 ((b, 40, n) :: r2) o q.1 := by
  obtain ⟨h1, h2, q', r4, e, hb, h4⟩ := h
  injection e with e1 e2
  subst e1
  subst e2
  intro mn B out _ _
  rw [sy_open ho]
  have h5 := h4 true (0 :: B) out (tlr0 (by omega)) rfl
  by_cases z : bt q.2.1 = 4
  · exact h5.1 ⟨by omega, z⟩
  · rw [h5.2 (fun y => z y.2) true]
    have hs : sgn q.2.1 = 0 := by
      have hb : bt q.2.1 < 1 := hb.resolve_right (fun y => z y.2)
      revert hb
      unfold bt sgn
      repeat' split
      all_goals first | (intro _; rfl) | (intro y; revert y; decide)
    show (if q.2.1 = 59 then (if (unw 1 (0 :: B) (out ++ cs) (o + 1)).1 = [] then _ else _) else if q.2.1 = 41 then _ else if sgn q.2.1 = 0 then _ else _) = _
    by_cases y : q.2.1 = 59
    · rw [if_pos y, unw_no (show tl 1 (0 :: B) from (by decide : rk 0 < 1)), if_neg (fun z => by cases z)]
    · rw [if_neg y, if_neg hq, if_pos hs]
theorem B7_no {q : Tok} {r2 : List Tok} {o : Nat} (h1 : q.2.1 ≠ 2) (h2 : ¬ 106 ≤ q.2.1) (h3 : q.2.1 = 45 → o = 5) (h4 : q.2.1 = 40 → o = 5) : Bad 7 (q :: r2) o q.1 := by
  intro mn B out _ hm
  show (if q.2.1 = 2 then _ else if 106 ≤ q.2.1 then _ else if q.2.1 = 105 ∧ mn = true then _ else if q.2.1 = 45 then (if o = 5 then _ else _) else if q.2.1 = 40 then (if o = 5 then _ else _) else _) = _
  have hn : ¬ (q.2.1 = 105 ∧ mn = true) := fun z => by
    have hm : mn = false ∨ q.2.1 ≠ 105 := hm
    rcases hm with y | y
    · rw [z.2] at y; cases y
    · exact y z.1
  rw [if_neg h1, if_neg h2, if_neg hn]
  by_cases a : q.2.1 = 45
  · rw [if_pos a, if_pos (h3 a)]
  · rw [if_neg a]
    by_cases c : q.2.1 = 40
    · rw [if_pos c, if_pos (h4 c)]
    · rw [if_neg c]
-- lifts
theorem GS_lift {r : Nat} {ts ts2 : List Tok} {o : Nat} {cs : List Int32} (hr : r = 1 ∨ r = 2 ∨ r = 5) (h : GS (r + 1) (r + 1) ts o ts2 cs) : GS r (r + 1) ts o ts2 cs := by
  obtain ⟨h1, h2, q, r2, e, h3, h4⟩ := h
  refine ⟨h1, h2, q, r2, e, h3.imp_right (fun z => ⟨by omega, z.2⟩), fun mn B out ht hm => ?_⟩
  have := h4 mn B out (by rcases hr with rfl | rfl | rfl <;> exact tl_le ht (by decide)) (by rcases hr with rfl | rfl | rfl <;> exact hm)
  exact ⟨fun z => this.1 ⟨by rcases hr with rfl | rfl | rfl <;> omega, z.2⟩, fun z => this.2 (fun y => z ⟨by omega, y.2⟩)⟩
theorem B_lift {r b : Nat} {ts : List Tok} {o : Nat} (hr : r = 1 ∨ r = 2 ∨ r = 5) (h : Bad (r + 1) ts o b) : Bad r ts o b := fun mn B out ht hm => h mn B out (by rcases hr with rfl | rfl | rfl <;> exact tl_le ht (by decide)) (by rcases hr with rfl | rfl | rfl <;> exact hm)
theorem GS_6 {ts ts2 : List Tok} {o : Nat} {cs : List Int32} (h : G7 ts o ts2 cs) : GS 6 7 ts o ts2 cs := by
  obtain ⟨h1, h2, h3, h4⟩ := h
  cases ts2 with
  | nil => exact absurd rfl h3
  | cons q r2 =>
    refine ⟨h1, h2, q, r2, rfl, Or.inl (Nat.lt_succ_of_le (bt_le _).1), fun mn B out ht hm => ⟨fun z => absurd z.1 (by decide), fun _ m => ?_⟩⟩
    rw [h4 mn B out m hm, unw_no (show tl 7 B from tl_le ht (by decide))]
theorem B_6 {ts : List Tok} {o b : Nat} (h : Bad 7 ts o b) : Bad 6 ts o b := fun mn B out _ hm => h mn B out (tl8 _) hm
theorem GS_ok {r : Nat} {ts ts2 : List Tok} {o : Nat} {cs : List Int32} (h : GS r (r + 1) ts o ts2 cs) (hn : bt (hdT ts2) ≠ r) : GS r r ts o ts2 cs := by
  obtain ⟨h1, h2, q, r2, rfl, h3, h4⟩ := h
  exact ⟨h1, h2, q, r2, rfl, h3.imp_left (fun z => by have : bt q.2.1 ≠ r := hn; omega), h4⟩
-- a sign between two
theorem sgn_bin {t : Int32} (h : bt t ≠ 0) : isBin (sgn t) ∧ (sgn t ≤ 12 ↔ bt t ≤ 2) ∧ sgn t ≠ 0 ∧ ¬ (sgn t = 13 ∨ sgn t = 19) ∧ t ≠ 59 ∧ t ≠ 41 := by
  revert h
  unfold bt sgn
  by_cases h1 : t = 103
  · subst h1; unfold isBin; decide
  · rw [if_neg h1]
    by_cases h2 : t = 104
    · subst h2; unfold isBin; decide
    · rw [if_neg h2]
      by_cases h3 : t = 60
      · subst h3; unfold isBin; decide
      · rw [if_neg h3]
        by_cases h4 : t = 61
        · subst h4; unfold isBin; decide
        · rw [if_neg h4]
          by_cases h5 : t = 43
          · subst h5; unfold isBin; decide
          · rw [if_neg h5]
            by_cases h6 : t = 45
            · subst h6; unfold isBin; decide
            · rw [if_neg h6]
              by_cases h7 : t = 42
              · subst h7; unfold isBin; decide
              · rw [if_neg h7]
                intro h
                exact absurd rfl h
theorem sy_sign {q : Tok} {r1 : List Tok} {B out : List Int32} {o : Nat} {m : Bool} (hb : bt q.2.1 ≠ 0) (ht : tl (thr q.2.1) B) (h4 : bt q.2.1 = 4 → ¬ tp4 B = true) : sy (q :: r1) false m B out o = sy r1 true (decide (sgn q.2.1 ≤ 12)) (sgn q.2.1 :: B) out o := by
  obtain ⟨-, -, h0, -, h59, h41⟩ := sgn_bin hb
  show (if q.2.1 = 59 then _ else if q.2.1 = 41 then _ else if sgn q.2.1 = 0 then _ else if bt q.2.1 = 4 ∧ tp4 (unw (thr q.2.1) B out o).1 = true then _ else _) = _
  rw [if_neg h59, if_neg h41, if_neg h0, unw_no ht, if_neg (fun z => h4 z.1 z.2)]
theorem GS_step {r : Nat} {ts r1 ts3 : List Tok} {q1 : Tok} {o : Nat} {c1 c2 : List Int32} (hr : r = 1 ∨ r = 2 ∨ r = 5) (h : GS r (r + 1) ts o (q1 :: r1) c1) (hq : bt q1.2.1 = r) (h2 : GS (r + 1) (r + 1) r1 o ts3 c2) : GS r (r + 1) ts o ts3 (c1 ++ (c2 ++ [sgn q1.2.1])) := by
  obtain ⟨a1, a2, q, r2, e, a3, a4⟩ := h
  injection e with e1 e2
  subst e1
  subst e2
  obtain ⟨b1, b2, q3, r3, rfl, b3, b4⟩ := h2
  have hb0 : bt q1.2.1 ≠ 0 := by omega
  obtain ⟨s1, s2, s3, s4, -⟩ := sgn_bin hb0
  simp only [List.length_cons] at a1 b1
  refine ⟨by simp only [List.length_append, List.length_cons, List.length_nil]; omega, wfc_bin a2 b2 s1, q3, r3, rfl, b3.imp_right (fun z => ⟨by omega, z.2⟩), fun mn B out ht hm => ?_⟩
  have ha := (a4 mn B out ht hm).2 (by omega) true
  have htr : tl r B := by rcases hr with rfl | rfl | rfl <;> exact ht
  have hthr : thr q1.2.1 = r := by unfold thr; rw [if_neg (by omega), hq]
  rw [ha, sy_sign hb0 (by rw [hthr]; exact htr) (fun z => by omega)]
  have hB := b4 (decide (sgn q1.2.1 ≤ 12)) (sgn q1.2.1 :: B) (out ++ c1) (by rcases hr with rfl | rfl | rfl <;> exact (by show bt q1.2.1 < _; rw [hq]; decide)) (by
    rcases hr with rfl | rfl | rfl
    · exact decide_eq_true (s2.mpr (by omega))
    · exact decide_eq_true (s2.mpr (by omega))
    · exact Or.inl (decide_eq_false (fun z => by have := s2.mp z; omega)))
  refine ⟨fun z => hB.1 ⟨by rcases hr with rfl | rfl | rfl <;> omega, z.2⟩, fun z m => ?_⟩
  have hz : ¬ (r + 1 ≤ 4 ∧ bt q3.2.1 = 4) := fun y => z ⟨by omega, y.2⟩
  rw [hB.2 hz m, settle (by show 1 ≤ bt q1.2.1; omega) (by
    show thr q3.2.1 ≤ bt q1.2.1
    rw [hq]
    have hb3 := b3.resolve_right hz
    unfold thr
    split <;> omega), if_neg s4, List.append_assoc, List.append_assoc]
theorem GS_step6 {ts r1 ts3 : List Tok} {q1 : Tok} {o : Nat} {c1 c2 : List Int32} (h : GS 6 7 ts o (q1 :: r1) c1) (hq : bt q1.2.1 = 6) (h2 : G7 r1 o ts3 c2) : GS 6 7 ts o ts3 (c1 ++ (c2 ++ [sgn q1.2.1])) := by
  obtain ⟨a1, a2, q, r2, e, a3, a4⟩ := h
  injection e with e1 e2
  subst e1
  subst e2
  obtain ⟨b1, b2, b3, b4⟩ := h2
  have hb0 : bt q1.2.1 ≠ 0 := by omega
  obtain ⟨s1, s2, s3, s4, -⟩ := sgn_bin hb0
  simp only [List.length_cons] at a1 b1
  cases ts3 with
  | nil => exact absurd rfl b3
  | cons q3 r3 =>
    simp only [List.length_cons] at b1
    refine ⟨by simp only [List.length_append, List.length_cons, List.length_nil]; omega, wfc_bin a2 b2 s1, q3, r3, rfl, Or.inl (Nat.lt_succ_of_le (bt_le _).1), fun mn B out ht hm => ⟨fun z => absurd z.1 (by decide), fun _ m => ?_⟩⟩
    have hthr : thr q1.2.1 = 6 := by unfold thr; rw [if_neg (by omega), hq]
    have hk : rk (sgn q1.2.1) = 6 := hq
    rw [(a4 mn B out ht hm).2 (fun z => absurd z.1 (by decide)) true, sy_sign hb0 (by rw [hthr]; exact ht) (fun z => by omega), b4 _ (sgn q1.2.1 :: B) (out ++ c1) m (Or.inl (decide_eq_false (fun z => by have := s2.mp z; omega))), unw_no (show tl 7 (sgn q1.2.1 :: B) from (by show rk (sgn q1.2.1) < 7; omega)), settle (by omega) (by
      rw [hk]
      have := (bt_le q3.2.1).1
      unfold thr
      split <;> omega), if_neg s4, List.append_assoc, List.append_assoc]
theorem B_step {r b : Nat} {ts r1 : List Tok} {q1 : Tok} {o : Nat} {c1 : List Int32} (hr : r = 1 ∨ r = 2 ∨ r = 5 ∨ r = 6) (h : GS r (r + 1) ts o (q1 :: r1) c1) (hq : bt q1.2.1 = r) (h2 : Bad (r + 1) r1 o b) : Bad r ts o b := by
  obtain ⟨a1, a2, q, r2, e, a3, a4⟩ := h
  injection e with e1 e2
  subst e1
  subst e2
  have hb0 : bt q1.2.1 ≠ 0 := by omega
  obtain ⟨s1, s2, s3, s4, -⟩ := sgn_bin hb0
  intro mn B out ht hm
  have ha := (a4 mn B out ht hm).2 (by omega) true
  have htr : tl r B := by rcases hr with rfl | rfl | rfl | rfl <;> exact ht
  have hthr : thr q1.2.1 = r := by unfold thr; rw [if_neg (by omega), hq]
  rw [ha, sy_sign hb0 (by rw [hthr]; exact htr) (fun z => by omega)]
  refine h2 _ _ _ (by rcases hr with rfl | rfl | rfl | rfl <;> exact (by show bt q1.2.1 < _; rw [hq]; decide)) ?_
  rcases hr with rfl | rfl | rfl | rfl
  · exact decide_eq_true (s2.mpr (by omega))
  · exact decide_eq_true (s2.mpr (by omega))
  · exact Or.inl (decide_eq_false (fun z => by have := s2.mp z; omega))
  · exact Or.inl (decide_eq_false (fun z => by have := s2.mp z; omega))
-- compared
theorem GS_4 {ts ts2 : List Tok} {o : Nat} {cs : List Int32} (h : GS 5 5 ts o ts2 cs) (hn : bt (hdT ts2) ≠ 4) : GS 4 4 ts o ts2 cs := by
  obtain ⟨h1, h2, q, r2, rfl, h3, h4⟩ := h
  have hn : bt q.2.1 ≠ 4 := hn
  refine ⟨h1, h2, q, r2, rfl, Or.inl (by have := h3.resolve_right (fun z => absurd z.1 (by decide)); omega), fun mn B out ht hm => ⟨fun z => absurd z.2 hn, fun _ => ?_⟩⟩
  exact (h4 mn B out (tl_le ht (by decide)) hm).2 (fun z => absurd z.1 (by decide))
theorem B_4 {ts : List Tok} {o b : Nat} (h : Bad 5 ts o b) : Bad 4 ts o b := fun mn B out ht hm => h mn B out (tl_le ht (by decide)) hm
theorem not_tp4 {B : List Int32} (h : tl 4 B) : ¬ tp4 B = true := by
  cases B with
  | nil => exact fun z => by cases z
  | cons s B => exact fun z => by have h : rk s < 4 := h; have z : rk s = 4 := of_decide_eq_true z; omega
theorem GS_cmp {ts r1 ts3 : List Tok} {q1 : Tok} {o : Nat} {c1 c2 : List Int32} (h : GS 5 5 ts o (q1 :: r1) c1) (hq : bt q1.2.1 = 4) (h2 : GS 5 5 r1 o ts3 c2) : GS 4 4 ts o ts3 (c1 ++ (c2 ++ [sgn q1.2.1])) := by
  obtain ⟨a1, a2, q, r2, e, a3, a4⟩ := h
  injection e with e1 e2
  subst e1
  subst e2
  obtain ⟨b1, b2, q3, r3, rfl, b3, b4⟩ := h2
  have hb0 : bt q1.2.1 ≠ 0 := by omega
  obtain ⟨s1, s2, s3, s4, -⟩ := sgn_bin hb0
  simp only [List.length_cons] at a1 b1
  have hk : rk (sgn q1.2.1) = 4 := hq
  have b3' := b3.resolve_right (fun z => absurd z.1 (by decide))
  refine ⟨by simp only [List.length_append, List.length_cons, List.length_nil]; omega, wfc_bin a2 b2 s1, q3, r3, rfl, by omega, fun mn B out ht hm => ?_⟩
  have ht4 : tl 4 B := ht
  have hthr : thr q1.2.1 = 5 := by unfold thr; rw [if_pos hq]
  have e := (a4 mn B out (tl_le ht4 (by decide)) hm).2 (fun z => absurd z.1 (by decide)) true
  rw [sy_sign hb0 (by rw [hthr]; exact tl_le ht4 (by decide)) (fun _ => not_tp4 ht4)] at e
  have hB := (b4 (decide (sgn q1.2.1 ≤ 12)) (sgn q1.2.1 :: B) (out ++ c1) (show rk (sgn q1.2.1) < 5 by omega) (Or.inl (decide_eq_false (fun z => by have := s2.mp z; omega)))).2 (fun z => absurd z.1 (by decide))
  refine ⟨fun z => ?_, fun z m => ?_⟩
  · rw [e, hB true]
    obtain ⟨-, -, h0, -, h59, h41⟩ := sgn_bin (show bt q3.2.1 ≠ 0 by omega)
    show (if q3.2.1 = 59 then _ else if q3.2.1 = 41 then _ else if sgn q3.2.1 = 0 then _ else if bt q3.2.1 = 4 ∧ tp4 (unw (thr q3.2.1) (sgn q1.2.1 :: B) (out ++ c1 ++ c2) o).1 = true then _ else _) = _
    have hthr3 : thr q3.2.1 = 5 := by unfold thr; rw [if_pos z.2]
    rw [if_neg h59, if_neg h41, if_neg h0, hthr3, unw_no (show tl 5 (sgn q1.2.1 :: B) from (by show rk (sgn q1.2.1) < 5; omega)), if_pos ⟨z.2, decide_eq_true hk⟩]
  · have hz : bt q3.2.1 ≠ 4 := fun y => z ⟨by decide, y⟩
    rw [e, hB m, settle (by omega) (by rw [hk]; unfold thr; rw [if_neg hz]; omega), if_neg s4, List.append_assoc, List.append_assoc]
theorem B_cmp {ts r1 : List Tok} {q1 : Tok} {o b : Nat} {c1 : List Int32} (h : GS 5 5 ts o (q1 :: r1) c1) (hq : bt q1.2.1 = 4) (h2 : Bad 5 r1 o b) : Bad 4 ts o b := by
  obtain ⟨a1, a2, q, r2, e, a3, a4⟩ := h
  injection e with e1 e2
  subst e1
  subst e2
  have hb0 : bt q1.2.1 ≠ 0 := by omega
  obtain ⟨s1, s2, s3, s4, -⟩ := sgn_bin hb0
  have hk : rk (sgn q1.2.1) = 4 := hq
  intro mn B out ht hm
  have ht4 : tl 4 B := ht
  have hthr : thr q1.2.1 = 5 := by unfold thr; rw [if_pos hq]
  have e := (a4 mn B out (tl_le ht4 (by decide)) hm).2 (fun z => absurd z.1 (by decide)) true
  rw [sy_sign hb0 (by rw [hthr]; exact tl_le ht4 (by decide)) (fun _ => not_tp4 ht4)] at e
  rw [e]
  exact h2 _ _ _ (show rk (sgn q1.2.1) < 5 by omega) (Or.inl (decide_eq_false (fun z => by have := s2.mp z; omega)))
-- not
theorem GS_3 {ts ts2 : List Tok} {o : Nat} {cs : List Int32} (h : GS 4 4 ts o ts2 cs) (hn : hdT ts ≠ 105) : GS 3 3 ts o ts2 cs := by
  obtain ⟨h1, h2, q, r2, rfl, h3, h4⟩ := h
  refine ⟨h1, h2, q, r2, rfl, by have := (bt_le q.2.1).2; omega, fun mn B out ht hm => ?_⟩
  have := h4 mn B out ht (Or.inr hn)
  exact ⟨fun z => this.1 ⟨by omega, z.2⟩, fun z => this.2 (fun y => z ⟨by omega, y.2⟩)⟩
theorem B_3 {ts : List Tok} {o b : Nat} (h : Bad 4 ts o b) (hn : hdT ts ≠ 105) : Bad 3 ts o b := fun mn B out ht _ => h mn B out ht (Or.inr hn)
theorem sy_not {b : Nat} {n : Int32} {r2 : List Tok} {o : Nat} {B out : List Int32} : sy ((b, 105, n) :: r2) true true B out o = if o = 5 then Sum.inl b else sy r2 true true (13 :: B) out (o + 1) := by
  show (if (105 : Int32) = 2 then _ else if (106 : Int32) ≤ 105 then _ else if (105 : Int32) = 105 ∧ true = true then _ else _) = _
  rw [if_neg (by decide), if_neg (by decide), if_pos ⟨rfl, rfl⟩]
theorem GS_not {b : Nat} {n : Int32} {r2 ts2 : List Tok} {o : Nat} {cs : List Int32} (ho : o < 5) (h : GS 3 3 r2 (o + 1) ts2 cs) : GS 3 3 ((b, 105, n) :: r2) o ts2 (cs ++ [13]) := by
  obtain ⟨h1, h2, q, r3, rfl, h3, h4⟩ := h
  simp only [List.length_cons] at h1
  refine ⟨by simp only [List.length_append, List.length_cons, List.length_nil]; omega, wfc_un h2 (Or.inl rfl), q, r3, rfl, h3, fun mn B out ht hm => ?_⟩
  have hm : mn = true := hm
  subst hm
  have h5 := h4 true (13 :: B) out (show rk 13 < 4 by decide) rfl
  rw [sy_not, if_neg (by omega)]
  refine ⟨fun z => h5.1 z, fun z m => ?_⟩
  rw [h5.2 z m, settle (by decide) (by
    have := h3.resolve_right z
    show thr q.2.1 ≤ 3
    unfold thr
    split <;> omega), if_pos (Or.inl rfl), Nat.add_sub_cancel, List.append_assoc]
theorem B_not {b b2 : Nat} {n : Int32} {r2 : List Tok} {o : Nat} (ho : o < 5) (h : Bad 3 r2 (o + 1) b2) : Bad 3 ((b, 105, n) :: r2) o b2 := by
  intro mn B out ht hm
  have hm : mn = true := hm
  subst hm
  rw [sy_not, if_neg (by omega)]
  exact h true (13 :: B) out (show rk 13 < 4 by decide) rfl
theorem B_not5 {b : Nat} {n : Int32} {r2 : List Tok} : Bad 3 ((b, 105, n) :: r2) 5 b := by
  intro mn B out ht hm
  have hm : mn = true := hm
  subst hm
  rw [sy_not, if_pos rfl]
-- an E
theorem E_ok {ts r3 : List Tok} {b : Nat} {n : Int32} {out cs : List Int32} (h : GS 1 1 ts 0 ((b, 59, n) :: r3) cs) : sy ts true true [] out 0 = Sum.inr (r3, out ++ cs) := by
  obtain ⟨h1, h2, q, r4, e, -, h4⟩ := h
  injection e with e1 e2
  subst e1
  subst e2
  rw [(h4 true [] out trivial rfl).2 (show ¬ (1 ≤ 4 ∧ bt 59 = 4) by decide) true]
  show (if (59 : Int32) = 59 then (if (unw 1 [] (out ++ cs) 0).1 = [] then _ else _) else _) = _
  rw [if_pos rfl]
  rfl
theorem E_no {ts r3 : List Tok} {q : Tok} {out cs : List Int32} (h : GS 1 1 ts 0 (q :: r3) cs) (hq : q.2.1 ≠ 59) : sy ts true true [] out 0 = Sum.inl q.1 := by
  obtain ⟨h1, h2, q', r4, e, hb, h4⟩ := h
  injection e with e1 e2
  subst e1
  subst e2
  have h5 := h4 true [] out trivial rfl
  by_cases z : bt q.2.1 = 4
  · exact h5.1 ⟨by omega, z⟩
  · rw [h5.2 (fun y => z y.2) true]
    have hs : sgn q.2.1 = 0 := by
      have hb : bt q.2.1 < 1 := hb.resolve_right (fun y => z y.2)
      revert hb
      unfold bt sgn
      repeat' split
      all_goals first | (intro _; rfl) | (intro y; revert y; decide)
    show (if q.2.1 = 59 then _ else if q.2.1 = 41 then (if (unw 1 [] (out ++ cs) 0).1 = [] then _ else _) else if sgn q.2.1 = 0 then _ else _) = _
    rw [if_neg hq]
    by_cases y : q.2.1 = 41
    · rw [if_pos y]; rfl
    · rw [if_neg y, if_pos hs]
theorem E_bad {ts : List Tok} {b : Nat} {out : List Int32} (h : Bad 1 ts 0 b) : sy ts true true [] out 0 = Sum.inl b := h true [] out trivial rfl
