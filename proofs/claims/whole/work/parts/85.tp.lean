-- ===== the reference's way through the tokens =====
def HBr (r : Nat → Int32) : List Int32 → Prop
  | [] => True
  | s :: B => r B.length = s ∧ HBr r B
theorem HBr.keep {r r' : Nat → Int32} : ∀ {B : List Int32}, (∀ k, k < B.length → r' k = r k) → HBr r B → HBr r' B := by
  intro B
  induction B with
  | nil => intro _ _; trivial
  | cons s B ih => intro h hs; exact ⟨(h _ (by simp)).trans hs.1, ih (fun k hk => h k (by simp; omega)) hs.2⟩
def cntO : List Int32 → Nat
  | [] => 0
  | s :: B => cntO B + (if s = 0 ∨ s = 13 ∨ s = 19 then 1 else 0)
def MUf (tc : Nat) (g g' : Nat → Nat → Int32) : Prop := (∀ a, a ≠ 53 → a ≠ 62 → a ≠ 70 → g' a = g a) ∧ (∀ k, (k < 34 ∨ 36 < k) → g' 53 k = g 53 k) ∧ ∀ i, i < 200 * tc → g' 62 i = g 62 i
theorem MUf.rf {tc : Nat} {g : Nat → Nat → Int32} : MUf tc g g := ⟨fun _ _ _ _ => rfl, fun _ _ => rfl, fun _ _ => rfl⟩
theorem MUf.tr {tc : Nat} {g1 g2 g3 : Nat → Nat → Int32} (h1 : MUf tc g1 g2) (h2 : MUf tc g2 g3) : MUf tc g1 g3 := ⟨fun a p q r => (h2.1 a p q r).trans (h1.1 a p q r), fun k p => (h2.2.1 k p).trans (h1.2.1 k p), fun i p => (h2.2.2 i p).trans (h1.2.2 i p)⟩
theorem MUf.u {tc : Nat} {g : Nat → Nat → Int32} {k : Nat} {v : Int32} (h : 34 ≤ k ∧ k ≤ 36) : MUf tc g (up g 53 k v) := ⟨fun _ p _ _ => up_row p, fun _ _ => up_ne (by omega), fun _ _ => congrFun (up_row (by omega)) _⟩
theorem MUf.h {tc : Nat} {g : Nat → Nat → Int32} {k : Nat} {v : Int32} : MUf tc g (up g 70 k v) := ⟨fun _ _ _ r => up_row r, fun _ _ => congrFun (up_row (by omega)) _, fun _ _ => congrFun (up_row (by omega)) _⟩
theorem MUf.c {tc : Nat} {g : Nat → Nat → Int32} {k : Nat} {v : Int32} (h : 200 * tc ≤ k) : MUf tc g (up g 62 k v) := ⟨fun _ _ q _ => up_row q, fun _ _ => congrFun (up_row (by omega)) _, fun _ _ => up_ne (by omega)⟩
def MEf (tc : Nat) (g g' : Nat → Nat → Int32) : Prop := (∀ a, a ≠ 53 → a ≠ 62 → a ≠ 70 → g' a = g a) ∧ (∀ k, (k < 28 ∨ (31 < k ∧ k < 34) ∨ 36 < k) → g' 53 k = g 53 k) ∧ ∀ i, i < 200 * tc → g' 62 i = g 62 i
theorem MEf.rf {tc : Nat} {g : Nat → Nat → Int32} : MEf tc g g := ⟨fun _ _ _ _ => rfl, fun _ _ => rfl, fun _ _ => rfl⟩
theorem MEf.tr {tc : Nat} {g1 g2 g3 : Nat → Nat → Int32} (h1 : MEf tc g1 g2) (h2 : MEf tc g2 g3) : MEf tc g1 g3 := ⟨fun a p q r => (h2.1 a p q r).trans (h1.1 a p q r), fun k p => (h2.2.1 k p).trans (h1.2.1 k p), fun i p => (h2.2.2 i p).trans (h1.2.2 i p)⟩
theorem MUf.me {tc : Nat} {g g' : Nat → Nat → Int32} (h : MUf tc g g') : MEf tc g g' := ⟨h.1, fun k p => h.2.1 k (by omega), h.2.2⟩
theorem MN.me {tc : Nat} {g g' : Nat → Nat → Int32} (h : MN g g') : MEf tc g g' := ⟨fun a p _ _ => h.1 a p, fun k p => h.2 k (by omega), fun i _ => by rw [h.1 62 (by omega)]⟩
theorem MTp.me {tc : Nat} {g g' : Nat → Nat → Int32} {tp : List Int32} (h : MTp g tp) (hf : MEf tc g g') : MTp g' tp := ⟨(hf.2.1 12 (by omega)).trans h.1, h.2.1, fun i v hv => by rw [hf.1 61 (by omega) (by omega) (by omega)]; exact h.2.2 i v hv⟩
theorem WR.me {tc : Nat} {g g' : Nat → Nat → Int32} (h : WR g) (hf : MEf tc g g') : WR g' := fun k hk c hc => by rw [hf.1 69 (by omega) (by omega) (by omega)]; exact h k hk c hc
/-- the codes so far, the signs held, how many are open -/
def ES (g : Nat → Nat → Int32) (tc : Nat) (L B : List Int32) (o : Nat) : Prop := g 53 15 = nI tc ∧ tc < 6 ∧ g 53 36 = nI L.length ∧ (∀ (i : Nat) (v : Int32), L[i]? = some v → g 62 (200 * tc + i) = v) ∧ g 53 34 = nI B.length ∧ HBr (g 70) B ∧ g 53 35 = nI o
theorem ES.mn {g g' : Nat → Nat → Int32} {tc o : Nat} {L B : List Int32} (h : ES g tc L B o) (hf : MN g g') : ES g' tc L B o := by
  obtain ⟨h1, h2, h3, h4, h5, h6, h7⟩ := h
  exact ⟨(hf.2 _ (by omega)).trans h1, h2, (hf.2 _ (by omega)).trans h3, fun i v hv => by rw [hf.1 62 (by omega)]; exact h4 i v hv, (hf.2 _ (by omega)).trans h5, by rw [hf.1 70 (by omega)]; exact h6, (hf.2 _ (by omega)).trans h7⟩
theorem ES.pop {g : Nat → Nat → Int32} {tc o o2 : Nat} {s : Int32} {L B : List Int32} (h : ES g tc L (s :: B) o) : ES (up (up g 53 34 (nI B.length)) 53 35 (nI o2)) tc L B o2 := by
  obtain ⟨h1, h2, h3, h4, h5, h6, h7⟩ := h
  exact ⟨(up_ne (by omega)).trans ((up_ne (by omega)).trans h1), h2, (up_ne (by omega)).trans ((up_ne (by omega)).trans h3), fun i v hv => by rw [up_row (by omega), up_row (by omega)]; exact h4 i v hv, (up_ne (by omega)).trans (up_same _ _ _ _), by rw [up_row (by omega), up_row (by omega)]; exact h6.2, up_same _ _ _ _⟩
theorem ES.puts {g : Nat → Nat → Int32} {tc o : Nat} {c : Int32} {L B : List Int32} (h : ES g tc L B o) : ES (up (up g 62 (200 * tc + L.length) c) 53 36 (nI (L.length + 1))) tc (L ++ [c]) B o := by
  obtain ⟨h1, h2, h3, h4, h5, h6, h7⟩ := h
  have e : ∀ k, k ≠ 36 → up (up g 62 (200 * tc + L.length) c) 53 36 (nI (L.length + 1)) 53 k = g 53 k := fun k hk => (up_ne (by omega)).trans (congrFun (up_row (by omega)) k)
  refine ⟨(e 15 (by omega)).trans h1, h2, by rw [up_same, List.length_append]; rfl, fun i v hv => ?_, (e 34 (by omega)).trans h5, by rw [up_row (by omega), up_row (by omega)]; exact h6, (e 35 (by omega)).trans h7⟩
  rw [up_row (by omega)]
  rcases Nat.lt_trichotomy i L.length with q | q | q
  · rw [List.getElem?_append_left q] at hv
    rw [up_ne (by omega)]
    exact h4 i v hv
  · subst q
    rw [List.getElem?_append_right (Nat.le_refl _), Nat.sub_self] at hv
    injection hv with hv
    rw [← hv]
    exact up_same _ _ _ _
  · rw [List.getElem?_append_right (by omega), List.getElem?_eq_none (by simp; omega)] at hv
    cases hv
theorem ES.holds {g : Nat → Nat → Int32} {tc o : Nat} {s : Int32} {L B : List Int32} (h : ES g tc L B o) : ES (up (up g 70 B.length s) 53 34 (nI (B.length + 1))) tc L (s :: B) o := by
  obtain ⟨h1, h2, h3, h4, h5, h6, h7⟩ := h
  have e : ∀ k, k ≠ 34 → up (up g 70 B.length s) 53 34 (nI (B.length + 1)) 53 k = g 53 k := fun k hk => (up_ne (by omega)).trans (congrFun (up_row (by omega)) k)
  exact ⟨(e 15 (by omega)).trans h1, h2, (e 36 (by omega)).trans h3, fun i v hv => by rw [up_row (by omega), up_row (by omega)]; exact h4 i v hv, up_same _ _ _ _, ⟨by rw [up_row (by omega)]; exact up_same _ _ _ _, HBr.keep (fun k hk => by rw [up_row (by omega)]; exact up_ne (by omega)) h6⟩, (e 35 (by omega)).trans h7⟩
theorem ES.opn {g : Nat → Nat → Int32} {tc o o2 : Nat} {L B : List Int32} (h : ES g tc L B o) : ES (up g 53 35 (nI o2)) tc L B o2 := by
  obtain ⟨h1, h2, h3, h4, h5, h6, h7⟩ := h
  exact ⟨(up_ne (by omega)).trans h1, h2, (up_ne (by omega)).trans h3, fun i v hv => by rw [up_row (by omega)]; exact h4 i v hv, (up_ne (by omega)).trans h5, by rw [up_row (by omega)]; exact h6, up_same _ _ _ _⟩
theorem unw_len (k : Nat) : ∀ (B out : List Int32) (o : Nat), (unw k B out o).1.length + (unw k B out o).2.1.length = B.length + out.length := by
  intro B
  induction B with
  | nil => intro out o; rfl
  | cons s B ih =>
    intro out o
    by_cases h : k ≤ rk s
    · rw [unw_pop h, ih, List.length_append]
      show B.length + (out.length + 1) = B.length + 1 + out.length
      omega
    · rw [unw_no (show tl k (s :: B) from Nat.lt_of_not_le h)]
theorem unw_tl (k : Nat) : ∀ (B out : List Int32) (o : Nat), tl k (unw k B out o).1 := by
  intro B
  induction B with
  | nil => intro out o; trivial
  | cons s B ih =>
    intro out o
    by_cases h : k ≤ rk s
    · rw [unw_pop h]; exact ih _ _
    · rw [unw_no (show tl k (s :: B) from Nat.lt_of_not_le h)]
      exact Nat.lt_of_not_le h
theorem cnt_pop {s : Int32} {B : List Int32} {o : Nat} (h : 1 ≤ rk s) (hc : cntO (s :: B) = o) : cntO B = (if s = 13 ∨ s = 19 then o - 1 else o) ∧ ((s = 13 ∨ s = 19) → 1 ≤ o) := by
  have h0 : ¬ s = 0 := fun z => by
    rw [z] at h
    exact absurd h (by decide)
  have e : cntO (s :: B) = cntO B + (if s = 0 ∨ s = 13 ∨ s = 19 then 1 else 0) := rfl
  by_cases q : s = 13 ∨ s = 19
  · rw [if_pos (Or.inr q)] at e
    rw [if_pos q]
    omega
  · rw [if_neg (fun z => z.elim h0 q)] at e
    rw [if_neg q]
    exact ⟨by omega, fun z => absurd z q⟩
theorem unw_cnt {k : Nat} (hk : 1 ≤ k) : ∀ (B out : List Int32) (o : Nat), cntO B = o → cntO (unw k B out o).1 = (unw k B out o).2.2 := by
  intro B
  induction B with
  | nil => intro out o h; exact h
  | cons s B ih =>
    intro out o h
    by_cases q : k ≤ rk s
    · rw [unw_pop q]
      exact ih _ _ (cnt_pop (by omega) h).1
    · rw [unw_no (show tl k (s :: B) from Nat.lt_of_not_le q)]
      exact h
theorem cnt_le : ∀ B : List Int32, cntO B ≤ B.length := by
  intro B
  induction B with
  | nil => exact Nat.le_refl _
  | cons s B ih =>
    show cntO B + (if s = 0 ∨ s = 13 ∨ s = 19 then 1 else 0) ≤ B.length + 1
    split <;> omega
def sgO (K : Int32) : Int32 := if K = 4 then 11 else if K = 5 then 12 else if K = 60 then 14 else if K = 61 then 15 else if K = 43 then 16 else if K = 45 then 17 else if K = 42 then 18 else -1
def TKl : List Int32 := [0, 1, 2, 40, 41, 59, 43, 45, 42, 60, 61, 100, 101, 102, 103, 104, 105, 106, 107, 108, 109, 110, 111]
theorem tk_fs : ∀ t ∈ TKl, (mtk t = 1 ↔ t = 2) ∧ (mtk t = 2 ↔ 106 ≤ t) ∧ (mtk t = 6 ↔ t = 105) ∧ (mtk t = 45 ↔ t = 45) ∧ (mtk t = 40 ↔ t = 40) ∧ (mtk t = 59 ↔ t = 59) ∧ (mtk t = 41 ↔ t = 41) ∧ (mtk t = 0 ↔ t = 0) ∧ sgO (mtk t) = (if sgn t = 0 then -1 else sgn t) ∧ (mtk t = 3 ↔ 100 ≤ t ∧ t ≤ 102) ∧ (sgn t ≠ 0 → 1 ≤ rk (sgn t)) ∧ sgn t ≠ -1 := by decide +kernel
theorem wd_k : ∀ k, k < 12 → 100 + nI k ∈ TKl := by decide +kernel
theorem wdF_in {w : List Int32} : ∀ (xs : List (List Int32)) (k : Nat) (a : Int32), k + xs.length ≤ 12 → a ∈ TKl → wdF xs k w a ∈ TKl := by
  intro xs
  induction xs with
  | nil => intro k a _ h; exact h
  | cons x xs ih =>
    intro k a hk h
    simp only [List.length_cons] at hk
    refine ih (k + 1) _ (by omega) ?_
    split
    · exact wd_k k (by omega)
    · exact h
theorem sgX_in (c : Int32) : sgX c ∈ TKl := by
  unfold sgX
  repeat' split
  all_goals first | decide +kernel | (rename_i h; rw [h]; decide +kernel) | skip
  all_goals (simp_all)
theorem tkX_in (l : List Int32) : (tkX l).1 ∈ TKl := by
  cases l with
  | nil => exact (by decide : (0 : Int32) ∈ TKl)
  | cons c l =>
    rw [tkX_c]
    split
    · exact wdF_in WLs 0 1 (by decide) (by decide +kernel)
    · split
      · show (if 4 < runL 48 57 (c :: l) then (1 : Int32) else 2) ∈ TKl
        split <;> decide +kernel
      · exact sgX_in c
theorem TK_in {tp : List Int32} {p : Nat} {q : Tok} {r : List Tok} (hp : p ≤ tp.length) (h : q :: r = TKS tp p) : q.2.1 ∈ TKl := by
  rw [TKS_eq hp] at h
  injection h with h1 h2
  rw [h1]
  exact tkX_in _
-- the way's steps
theorem sy_2 {q : Tok} {ts : List Tok} {mn : Bool} {B out : List Int32} {o : Nat} (h : q.2.1 = 2) : sy (q :: ts) true mn B out o = sy ts false mn (unw 7 B (out ++ [100000 + q.2.2]) o).1 (unw 7 B (out ++ [100000 + q.2.2]) o).2.1 (unw 7 B (out ++ [100000 + q.2.2]) o).2.2 := if_pos h
theorem sy_106 {q : Tok} {ts : List Tok} {mn : Bool} {B out : List Int32} {o : Nat} (h2 : ¬ q.2.1 = 2) (h : 106 ≤ q.2.1) : sy (q :: ts) true mn B out o = sy ts false mn (unw 7 B (out ++ [q.2.1 - 106]) o).1 (unw 7 B (out ++ [q.2.1 - 106]) o).2.1 (unw 7 B (out ++ [q.2.1 - 106]) o).2.2 := (if_neg h2).trans (if_pos h)
theorem sy_105 {q : Tok} {ts : List Tok} {mn : Bool} {B out : List Int32} {o : Nat} (h2 : ¬ q.2.1 = 2) (h6 : ¬ 106 ≤ q.2.1) (h : q.2.1 = 105 ∧ mn = true) : sy (q :: ts) true mn B out o = if o = 5 then Sum.inl q.1 else sy ts true mn (13 :: B) out (o + 1) := (if_neg h2).trans ((if_neg h6).trans (if_pos h))
theorem sy_45 {q : Tok} {ts : List Tok} {mn : Bool} {B out : List Int32} {o : Nat} (h2 : ¬ q.2.1 = 2) (h6 : ¬ 106 ≤ q.2.1) (h5 : ¬ (q.2.1 = 105 ∧ mn = true)) (h : q.2.1 = 45) : sy (q :: ts) true mn B out o = if o = 5 then Sum.inl q.1 else sy ts true false (19 :: B) out (o + 1) := (if_neg h2).trans ((if_neg h6).trans ((if_neg h5).trans (if_pos h)))
theorem sy_40 {q : Tok} {ts : List Tok} {mn : Bool} {B out : List Int32} {o : Nat} (h2 : ¬ q.2.1 = 2) (h6 : ¬ 106 ≤ q.2.1) (h5 : ¬ (q.2.1 = 105 ∧ mn = true)) (h4 : ¬ q.2.1 = 45) (h : q.2.1 = 40) : sy (q :: ts) true mn B out o = if o = 5 then Sum.inl q.1 else sy ts true true (0 :: B) out (o + 1) := (if_neg h2).trans ((if_neg h6).trans ((if_neg h5).trans ((if_neg h4).trans (if_pos h))))
theorem sy_no {q : Tok} {ts : List Tok} {mn : Bool} {B out : List Int32} {o : Nat} (h2 : ¬ q.2.1 = 2) (h6 : ¬ 106 ≤ q.2.1) (h5 : ¬ (q.2.1 = 105 ∧ mn = true)) (h4 : ¬ q.2.1 = 45) (h : ¬ q.2.1 = 40) : sy (q :: ts) true mn B out o = Sum.inl q.1 := (if_neg h2).trans ((if_neg h6).trans ((if_neg h5).trans ((if_neg h4).trans (if_neg h))))
theorem sy_59 {q : Tok} {ts : List Tok} {mn : Bool} {B out : List Int32} {o : Nat} (h : q.2.1 = 59) : sy (q :: ts) false mn B out o = if (unw 1 B out o).1 = [] then Sum.inr (ts, (unw 1 B out o).2.1) else Sum.inl q.1 := if_pos h
theorem sy_41 {q : Tok} {ts : List Tok} {mn : Bool} {B out : List Int32} {o : Nat} (h9 : ¬ q.2.1 = 59) (h : q.2.1 = 41) : sy (q :: ts) false mn B out o = if (unw 1 B out o).1 = [] then Sum.inl q.1 else sy ts false mn (unw 7 (unw 1 B out o).1.tail (unw 1 B out o).2.1 ((unw 1 B out o).2.2 - 1)).1 (unw 7 (unw 1 B out o).1.tail (unw 1 B out o).2.1 ((unw 1 B out o).2.2 - 1)).2.1 (unw 7 (unw 1 B out o).1.tail (unw 1 B out o).2.1 ((unw 1 B out o).2.2 - 1)).2.2 := (if_neg h9).trans (if_pos h)
theorem sy_s0 {q : Tok} {ts : List Tok} {mn : Bool} {B out : List Int32} {o : Nat} (h9 : ¬ q.2.1 = 59) (h1 : ¬ q.2.1 = 41) (h : sgn q.2.1 = 0) : sy (q :: ts) false mn B out o = Sum.inl q.1 := (if_neg h9).trans ((if_neg h1).trans (if_pos h))
theorem sy_s4 {q : Tok} {ts : List Tok} {mn : Bool} {B out : List Int32} {o : Nat} (h9 : ¬ q.2.1 = 59) (h1 : ¬ q.2.1 = 41) (hs : ¬ sgn q.2.1 = 0) (h : bt q.2.1 = 4 ∧ tp4 (unw (thr q.2.1) B out o).1 = true) : sy (q :: ts) false mn B out o = Sum.inl q.1 := (if_neg h9).trans ((if_neg h1).trans ((if_neg hs).trans (if_pos h)))
theorem sy_s {q : Tok} {ts : List Tok} {mn : Bool} {B out : List Int32} {o : Nat} (h9 : ¬ q.2.1 = 59) (h1 : ¬ q.2.1 = 41) (hs : ¬ sgn q.2.1 = 0) (h : ¬ (bt q.2.1 = 4 ∧ tp4 (unw (thr q.2.1) B out o).1 = true)) : sy (q :: ts) false mn B out o = sy ts true (decide (sgn q.2.1 ≤ 12)) (sgn q.2.1 :: (unw (thr q.2.1) B out o).1) (unw (thr q.2.1) B out o).2.1 (unw (thr q.2.1) B out o).2.2 := (if_neg h9).trans ((if_neg h1).trans ((if_neg hs).trans (if_neg h)))
def thrS (s : Int32) : Nat := if rk s = 4 then 5 else rk s
theorem s_X12_rank {d : Nat} {sc : Nat × (Nat → Int32)} {x : Int32} {h : AH} {F : Int32 → AH → Prop} (hQ : F (nI (rk x)) h) : Mok d 0 0 sc kX12_rank [.int x] h (Qi F) := by
  refine Mok.ofWp (L := [some (.int x)]) rfl rfl rfl ?_
  refine xX12_rank_0 ?_
  refine xX12_rank_1 (fun c1 => ?_) (fun c1 => ?_)
  · refine xX12_rank_8 ?_
    refine xX12_rank_9 ?_
    refine xX12_rank_11 (fun c11 => ?_) (fun c11 => ?_)
    · refine xX12_rank_18 ?_
      refine xX12_rank_19 ?_
      refine xX12_rank_21 (fun c21 => ?_) (fun c21 => ?_)
      · refine xX12_rank_28 ?_
        refine xX12_rank_29 ?_
        refine xX12_rank_31 (fun c31 => ?_) (fun c31 => ?_)
        · refine xX12_rank_38 ?_
          refine xX12_rank_39 ?_
          refine xX12_rank_41 (fun c41 => ?_) (fun c41 => ?_)
          · refine xX12_rank_48 ?_
            refine xX12_rank_49 ?_
            refine xX12_rank_51 (fun c51 => ?_) (fun c51 => ?_)
            · refine xX12_rank_58 ?_
              refine xX12_rank_59 ?_
              refine xX12_rank_61 (fun c61 => ?_) (fun c61 => ?_)
              · refine xX12_rank_69 ?_
                refine xX12_rank_71 rfl rfl ?_
                first
                  | (rw [show rk x = 0 from if_pos c1] at hQ; exact hQ)
                  | (rw [show rk x = 1 from (if_neg c1).trans (if_pos c11)] at hQ; exact hQ)
                  | (rw [show rk x = 2 from (if_neg c1).trans ((if_neg c11).trans (if_pos c21))] at hQ; exact hQ)
                  | (rw [show rk x = 3 from (if_neg c1).trans ((if_neg c11).trans ((if_neg c21).trans (if_pos c31)))] at hQ; exact hQ)
                  | (rw [show rk x = 4 from (if_neg c1).trans ((if_neg c11).trans ((if_neg c21).trans ((if_neg c31).trans (if_pos (Int32.not_lt.mp c41)))))] at hQ; exact hQ)
                  | (rw [show rk x = 5 from (if_neg c1).trans ((if_neg c11).trans ((if_neg c21).trans ((if_neg c31).trans ((if_neg (Int32.not_le.mpr c41)).trans (if_pos (Int32.not_lt.mp c51))))))] at hQ; exact hQ)
                  | (rw [show rk x = 6 from (if_neg c1).trans ((if_neg c11).trans ((if_neg c21).trans ((if_neg c31).trans ((if_neg (Int32.not_le.mpr c41)).trans ((if_neg (Int32.not_le.mpr c51)).trans (if_pos c61))))))] at hQ; exact hQ)
                  | (rw [show rk x = 7 from (if_neg c1).trans ((if_neg c11).trans ((if_neg c21).trans ((if_neg c31).trans ((if_neg (Int32.not_le.mpr c41)).trans ((if_neg (Int32.not_le.mpr c51)).trans (if_neg c61))))))] at hQ; exact hQ)
              · refine xX12_rank_64 ?_
                refine xX12_rank_66 ?_
                refine xX12_rank_71 rfl rfl ?_
                first
                  | (rw [show rk x = 0 from if_pos c1] at hQ; exact hQ)
                  | (rw [show rk x = 1 from (if_neg c1).trans (if_pos c11)] at hQ; exact hQ)
                  | (rw [show rk x = 2 from (if_neg c1).trans ((if_neg c11).trans (if_pos c21))] at hQ; exact hQ)
                  | (rw [show rk x = 3 from (if_neg c1).trans ((if_neg c11).trans ((if_neg c21).trans (if_pos c31)))] at hQ; exact hQ)
                  | (rw [show rk x = 4 from (if_neg c1).trans ((if_neg c11).trans ((if_neg c21).trans ((if_neg c31).trans (if_pos (Int32.not_lt.mp c41)))))] at hQ; exact hQ)
                  | (rw [show rk x = 5 from (if_neg c1).trans ((if_neg c11).trans ((if_neg c21).trans ((if_neg c31).trans ((if_neg (Int32.not_le.mpr c41)).trans (if_pos (Int32.not_lt.mp c51))))))] at hQ; exact hQ)
                  | (rw [show rk x = 6 from (if_neg c1).trans ((if_neg c11).trans ((if_neg c21).trans ((if_neg c31).trans ((if_neg (Int32.not_le.mpr c41)).trans ((if_neg (Int32.not_le.mpr c51)).trans (if_pos c61))))))] at hQ; exact hQ)
                  | (rw [show rk x = 7 from (if_neg c1).trans ((if_neg c11).trans ((if_neg c21).trans ((if_neg c31).trans ((if_neg (Int32.not_le.mpr c41)).trans ((if_neg (Int32.not_le.mpr c51)).trans (if_neg c61))))))] at hQ; exact hQ)
            · refine xX12_rank_54 ?_
              refine xX12_rank_55 ?_
              refine xX12_rank_71 rfl rfl ?_
              first
                | (rw [show rk x = 0 from if_pos c1] at hQ; exact hQ)
                | (rw [show rk x = 1 from (if_neg c1).trans (if_pos c11)] at hQ; exact hQ)
                | (rw [show rk x = 2 from (if_neg c1).trans ((if_neg c11).trans (if_pos c21))] at hQ; exact hQ)
                | (rw [show rk x = 3 from (if_neg c1).trans ((if_neg c11).trans ((if_neg c21).trans (if_pos c31)))] at hQ; exact hQ)
                | (rw [show rk x = 4 from (if_neg c1).trans ((if_neg c11).trans ((if_neg c21).trans ((if_neg c31).trans (if_pos (Int32.not_lt.mp c41)))))] at hQ; exact hQ)
                | (rw [show rk x = 5 from (if_neg c1).trans ((if_neg c11).trans ((if_neg c21).trans ((if_neg c31).trans ((if_neg (Int32.not_le.mpr c41)).trans (if_pos (Int32.not_lt.mp c51))))))] at hQ; exact hQ)
                | (rw [show rk x = 6 from (if_neg c1).trans ((if_neg c11).trans ((if_neg c21).trans ((if_neg c31).trans ((if_neg (Int32.not_le.mpr c41)).trans ((if_neg (Int32.not_le.mpr c51)).trans (if_pos c61))))))] at hQ; exact hQ)
                | (rw [show rk x = 7 from (if_neg c1).trans ((if_neg c11).trans ((if_neg c21).trans ((if_neg c31).trans ((if_neg (Int32.not_le.mpr c41)).trans ((if_neg (Int32.not_le.mpr c51)).trans (if_neg c61))))))] at hQ; exact hQ)
          · refine xX12_rank_44 ?_
            refine xX12_rank_45 ?_
            refine xX12_rank_71 rfl rfl ?_
            first
              | (rw [show rk x = 0 from if_pos c1] at hQ; exact hQ)
              | (rw [show rk x = 1 from (if_neg c1).trans (if_pos c11)] at hQ; exact hQ)
              | (rw [show rk x = 2 from (if_neg c1).trans ((if_neg c11).trans (if_pos c21))] at hQ; exact hQ)
              | (rw [show rk x = 3 from (if_neg c1).trans ((if_neg c11).trans ((if_neg c21).trans (if_pos c31)))] at hQ; exact hQ)
              | (rw [show rk x = 4 from (if_neg c1).trans ((if_neg c11).trans ((if_neg c21).trans ((if_neg c31).trans (if_pos (Int32.not_lt.mp c41)))))] at hQ; exact hQ)
              | (rw [show rk x = 5 from (if_neg c1).trans ((if_neg c11).trans ((if_neg c21).trans ((if_neg c31).trans ((if_neg (Int32.not_le.mpr c41)).trans (if_pos (Int32.not_lt.mp c51))))))] at hQ; exact hQ)
              | (rw [show rk x = 6 from (if_neg c1).trans ((if_neg c11).trans ((if_neg c21).trans ((if_neg c31).trans ((if_neg (Int32.not_le.mpr c41)).trans ((if_neg (Int32.not_le.mpr c51)).trans (if_pos c61))))))] at hQ; exact hQ)
              | (rw [show rk x = 7 from (if_neg c1).trans ((if_neg c11).trans ((if_neg c21).trans ((if_neg c31).trans ((if_neg (Int32.not_le.mpr c41)).trans ((if_neg (Int32.not_le.mpr c51)).trans (if_neg c61))))))] at hQ; exact hQ)
        · refine xX12_rank_34 ?_
          refine xX12_rank_35 ?_
          refine xX12_rank_71 rfl rfl ?_
          first
            | (rw [show rk x = 0 from if_pos c1] at hQ; exact hQ)
            | (rw [show rk x = 1 from (if_neg c1).trans (if_pos c11)] at hQ; exact hQ)
            | (rw [show rk x = 2 from (if_neg c1).trans ((if_neg c11).trans (if_pos c21))] at hQ; exact hQ)
            | (rw [show rk x = 3 from (if_neg c1).trans ((if_neg c11).trans ((if_neg c21).trans (if_pos c31)))] at hQ; exact hQ)
            | (rw [show rk x = 4 from (if_neg c1).trans ((if_neg c11).trans ((if_neg c21).trans ((if_neg c31).trans (if_pos (Int32.not_lt.mp c41)))))] at hQ; exact hQ)
            | (rw [show rk x = 5 from (if_neg c1).trans ((if_neg c11).trans ((if_neg c21).trans ((if_neg c31).trans ((if_neg (Int32.not_le.mpr c41)).trans (if_pos (Int32.not_lt.mp c51))))))] at hQ; exact hQ)
            | (rw [show rk x = 6 from (if_neg c1).trans ((if_neg c11).trans ((if_neg c21).trans ((if_neg c31).trans ((if_neg (Int32.not_le.mpr c41)).trans ((if_neg (Int32.not_le.mpr c51)).trans (if_pos c61))))))] at hQ; exact hQ)
            | (rw [show rk x = 7 from (if_neg c1).trans ((if_neg c11).trans ((if_neg c21).trans ((if_neg c31).trans ((if_neg (Int32.not_le.mpr c41)).trans ((if_neg (Int32.not_le.mpr c51)).trans (if_neg c61))))))] at hQ; exact hQ)
      · refine xX12_rank_24 ?_
        refine xX12_rank_25 ?_
        refine xX12_rank_71 rfl rfl ?_
        first
          | (rw [show rk x = 0 from if_pos c1] at hQ; exact hQ)
          | (rw [show rk x = 1 from (if_neg c1).trans (if_pos c11)] at hQ; exact hQ)
          | (rw [show rk x = 2 from (if_neg c1).trans ((if_neg c11).trans (if_pos c21))] at hQ; exact hQ)
          | (rw [show rk x = 3 from (if_neg c1).trans ((if_neg c11).trans ((if_neg c21).trans (if_pos c31)))] at hQ; exact hQ)
          | (rw [show rk x = 4 from (if_neg c1).trans ((if_neg c11).trans ((if_neg c21).trans ((if_neg c31).trans (if_pos (Int32.not_lt.mp c41)))))] at hQ; exact hQ)
          | (rw [show rk x = 5 from (if_neg c1).trans ((if_neg c11).trans ((if_neg c21).trans ((if_neg c31).trans ((if_neg (Int32.not_le.mpr c41)).trans (if_pos (Int32.not_lt.mp c51))))))] at hQ; exact hQ)
          | (rw [show rk x = 6 from (if_neg c1).trans ((if_neg c11).trans ((if_neg c21).trans ((if_neg c31).trans ((if_neg (Int32.not_le.mpr c41)).trans ((if_neg (Int32.not_le.mpr c51)).trans (if_pos c61))))))] at hQ; exact hQ)
          | (rw [show rk x = 7 from (if_neg c1).trans ((if_neg c11).trans ((if_neg c21).trans ((if_neg c31).trans ((if_neg (Int32.not_le.mpr c41)).trans ((if_neg (Int32.not_le.mpr c51)).trans (if_neg c61))))))] at hQ; exact hQ)
    · refine xX12_rank_14 ?_
      refine xX12_rank_15 ?_
      refine xX12_rank_71 rfl rfl ?_
      first
        | (rw [show rk x = 0 from if_pos c1] at hQ; exact hQ)
        | (rw [show rk x = 1 from (if_neg c1).trans (if_pos c11)] at hQ; exact hQ)
        | (rw [show rk x = 2 from (if_neg c1).trans ((if_neg c11).trans (if_pos c21))] at hQ; exact hQ)
        | (rw [show rk x = 3 from (if_neg c1).trans ((if_neg c11).trans ((if_neg c21).trans (if_pos c31)))] at hQ; exact hQ)
        | (rw [show rk x = 4 from (if_neg c1).trans ((if_neg c11).trans ((if_neg c21).trans ((if_neg c31).trans (if_pos (Int32.not_lt.mp c41)))))] at hQ; exact hQ)
        | (rw [show rk x = 5 from (if_neg c1).trans ((if_neg c11).trans ((if_neg c21).trans ((if_neg c31).trans ((if_neg (Int32.not_le.mpr c41)).trans (if_pos (Int32.not_lt.mp c51))))))] at hQ; exact hQ)
        | (rw [show rk x = 6 from (if_neg c1).trans ((if_neg c11).trans ((if_neg c21).trans ((if_neg c31).trans ((if_neg (Int32.not_le.mpr c41)).trans ((if_neg (Int32.not_le.mpr c51)).trans (if_pos c61))))))] at hQ; exact hQ)
        | (rw [show rk x = 7 from (if_neg c1).trans ((if_neg c11).trans ((if_neg c21).trans ((if_neg c31).trans ((if_neg (Int32.not_le.mpr c41)).trans ((if_neg (Int32.not_le.mpr c51)).trans (if_neg c61))))))] at hQ; exact hQ)
  · refine xX12_rank_4 ?_
    refine xX12_rank_5 ?_
    refine xX12_rank_71 rfl rfl ?_
    first
      | (rw [show rk x = 0 from if_pos c1] at hQ; exact hQ)
      | (rw [show rk x = 1 from (if_neg c1).trans (if_pos c11)] at hQ; exact hQ)
      | (rw [show rk x = 2 from (if_neg c1).trans ((if_neg c11).trans (if_pos c21))] at hQ; exact hQ)
      | (rw [show rk x = 3 from (if_neg c1).trans ((if_neg c11).trans ((if_neg c21).trans (if_pos c31)))] at hQ; exact hQ)
      | (rw [show rk x = 4 from (if_neg c1).trans ((if_neg c11).trans ((if_neg c21).trans ((if_neg c31).trans (if_pos (Int32.not_lt.mp c41)))))] at hQ; exact hQ)
      | (rw [show rk x = 5 from (if_neg c1).trans ((if_neg c11).trans ((if_neg c21).trans ((if_neg c31).trans ((if_neg (Int32.not_le.mpr c41)).trans (if_pos (Int32.not_lt.mp c51))))))] at hQ; exact hQ)
      | (rw [show rk x = 6 from (if_neg c1).trans ((if_neg c11).trans ((if_neg c21).trans ((if_neg c31).trans ((if_neg (Int32.not_le.mpr c41)).trans ((if_neg (Int32.not_le.mpr c51)).trans (if_pos c61))))))] at hQ; exact hQ)
      | (rw [show rk x = 7 from (if_neg c1).trans ((if_neg c11).trans ((if_neg c21).trans ((if_neg c31).trans ((if_neg (Int32.not_le.mpr c41)).trans ((if_neg (Int32.not_le.mpr c51)).trans (if_neg c61))))))] at hQ; exact hQ)
theorem s_X12_puts {d : Nat} {sc : Nat × (Nat → Int32)} {T : List (Nat × Nat)} {rf : Nat → Nat → Option Nat} {g : Nat → Nat → Int32} {tc o : Nat} {L B : List Int32} {c : Int32} {F : AH → Prop} (hM : MS T rf) (hE : ES g tc L B o) (hl : L.length < 200) (hQ : ∀ g2, MUf tc g g2 → ES g2 tc (L ++ [c]) B o → F (T, rf, g2)) : Mok d 0 0 sc kX12_puts [.ref 53, .int c] (T, rf, g) (Qv F) := by
  obtain ⟨h15, htc, h36, -, -, -, -⟩ := id hE
  refine Mok.ofWp (L := [some (.ref 53), some (.int c)]) rfl rfl rfl ?_
  refine xX12_puts_0 ?_
  refine xX12_puts_1 (hM.1 _ _ rfl) (hM.2 _ _ _ rfl) ?_
  refine xX12_puts_4 ?_
  refine xX12_puts_7 ?_
  refine xX12_puts_8 (hM.1 _ _ rfl) ?_
  refine xX12_puts_11 ?_
  refine xX12_puts_12 ?_
  refine xX12_puts_13 (hM.1 _ _ rfl) ?_
  refine xX12_puts_16 ?_
  refine xX12_puts_17 ?_
  refine xX12_puts_18 (j := (200 * tc + L.length)) (hM.1 _ _ rfl) (by rw [h15, h36]; exact nI_mul4 (k := 200) htc (by omega) (by omega)) (by omega) rfl ?_
  refine xX12_puts_19 ?_
  refine xX12_puts_20 rfl ?_
  refine xX12_puts_21 (hM.1 _ _ rfl) ?_
  refine xX12_puts_24 ?_
  refine xX12_puts_25 ?_
  rw [show (up g 62 (200 * tc + L.length) c) 53 36 = nI L.length from (congrFun (up_row (by omega)) 36).trans h36, show nI L.length + 1 = nI (L.length + 1) from nI_1 _]
  refine xX12_puts_26 (hM.1 _ _ rfl) ?_
  refine xX12_puts_29 rfl rfl ?_
  exact hQ _ ((MUf.c (by omega)).tr (MUf.u (by omega))) hE.puts
theorem s_X12_holds {d : Nat} {sc : Nat × (Nat → Int32)} {T : List (Nat × Nat)} {rf : Nat → Nat → Option Nat} {g : Nat → Nat → Int32} {tc o : Nat} {L B : List Int32} {s : Int32} {F : AH → Prop} (hM : MS T rf) (hE : ES g tc L B o) (hl : B.length < 200) (hQ : ∀ g2, MUf tc g g2 → ES g2 tc L (s :: B) o → F (T, rf, g2)) : Mok d 0 0 sc kX12_holds [.ref 53, .int s] (T, rf, g) (Qv F) := by
  obtain ⟨-, -, -, -, h34, -, -⟩ := id hE
  refine Mok.ofWp (L := [some (.ref 53), some (.int s)]) rfl rfl rfl ?_
  refine xX12_holds_0 ?_
  refine xX12_holds_1 (hM.1 _ _ rfl) (hM.2 _ _ _ rfl) ?_
  refine xX12_holds_4 ?_
  refine xX12_holds_5 (hM.1 _ _ rfl) ?_
  refine xX12_holds_8 ?_
  refine xX12_holds_9 (j := B.length) (hM.1 _ _ rfl) h34 (by omega) rfl ?_
  refine xX12_holds_10 ?_
  refine xX12_holds_11 rfl ?_
  refine xX12_holds_12 (hM.1 _ _ rfl) ?_
  refine xX12_holds_15 ?_
  refine xX12_holds_16 ?_
  rw [show (up g 70 B.length s) 53 34 = nI B.length from (congrFun (up_row (by omega)) 34).trans h34, show nI B.length + 1 = nI (B.length + 1) from nI_1 _]
  refine xX12_holds_17 (hM.1 _ _ rfl) ?_
  refine xX12_holds_20 rfl rfl ?_
  exact hQ _ (MUf.h.tr (MUf.u (by omega))) hE.holds
theorem s_X12_opensOne {d : Nat} {sc : Nat × (Nat → Int32)} {T : List (Nat × Nat)} {rf : Nat → Nat → Option Nat} {g : Nat → Nat → Int32} {tc o : Nat} {L B : List Int32} {s : Int32} {F : Int32 → AH → Prop} (hM : MS T rf) (hE : ES g tc L B o) (hl : B.length < 200) (ho : o < 200) (k0 : o = 5 → F 0 (T, rf, g)) (k1 : ¬ o = 5 → ∀ g2, MUf tc g g2 → ES g2 tc L (s :: B) (o + 1) → F 1 (T, rf, g2)) : Mok (d + 1) 0 0 sc kX12_opensOne [.ref 53, .int s] (T, rf, g) (Qi F) := by
  obtain ⟨-, -, -, -, -, -, h35⟩ := id hE
  refine Mok.ofWp (L := [some (.ref 53), some (.int s)]) rfl rfl rfl ?_
  refine xX12_opensOne_0 ?_
  refine xX12_opensOne_1 (hM.1 _ _ rfl) ?_
  refine xX12_opensOne_4 ?_
  rw [h35]
  refine xX12_opensOne_5 (fun c5 => ?_) (fun c5 => ?_)
  · have ho5 : ¬ o = 5 := fun z => c5 (by rw [z]; rfl)
    refine xX12_opensOne_10 ?_
    refine xX12_opensOne_11 rfl ?_
    refine xX12_opensOne_12 (hM.1 _ _ rfl) ?_
    refine xX12_opensOne_15 ?_
    refine xX12_opensOne_16 ?_
    rw [h35, show nI o + 1 = nI (o + 1) from nI_1 _]
    refine xX12_opensOne_17 (hM.1 _ _ rfl) ?_
    refine xX12_opensOne_20 ?_
    refine xX12_opensOne_21 ?_
    refine xX12_opensOne_22 (hM.1 _ _ rfl) rfl rfl rfl (s_X12_holds hM (hE.opn (o2 := o + 1)) hl (fun g0 ha0 hb0 => ?_))
    refine xX12_opensOne_25 ?_
    refine xX12_opensOne_26 (Or.inr rfl) rfl rfl ?_
    exact k1 ho5 _ ((MUf.u (by omega)).tr ha0) hb0
  · have ho5 : o = 5 := nIinj (b := 5) (by omega) (by omega) c5
    refine xX12_opensOne_8 ?_
    refine xX12_opensOne_9 (Or.inl rfl) rfl rfl ?_
    exact k0 ho5
theorem lp_X12_unwinds {d : Nat} {sc : Nat × (Nat → Int32)} {T : List (Nat × Nat)} {rf : Nat → Nat → Option Nat} {gs : Nat → Nat → Int32} {tc kk : Nat} {L0 : List Int32} {U : List Int32 × List Int32 × Nat} {F : AH → Prop} (hM : MS T rf) (hk1 : 1 ≤ kk) (hk7 : kk ≤ 7) (hQ : ∀ g2, MUf tc gs g2 → ES g2 tc (L0 ++ U.2.1) U.1 U.2.2 → F (T, rf, g2)) : ∀ (l : List Int32) (out : List Int32) (o : Nat) (g : Nat → Nat → Int32), (ES g tc (L0 ++ out) l o) → (MUf tc gs g) → (cntO l = o) → ((L0 ++ out).length + l.length < 200) → (unw kk l out o = U) → Wp (d + 1) 0 0 sc kX12_unwinds (Qv F) 0 [some (.ref 53), some (.int (nI kk)), none] [] (T, rf, g) 0 0 := by
  intro l
  induction l with
  | nil =>
    intro out o g hE hf hcnt hlen hU
    obtain ⟨-, -, -, -, h34, h70, h35⟩ := id hE
    have h34 : g 53 34 = 0 := h34
    refine xX12_unwinds_0 ?_
    refine xX12_unwinds_1 (hM.1 _ _ rfl) ?_
    rw [h34]
    refine xX12_unwinds_4_t (by decide) ?_
    refine xX12_unwinds_79 rfl rfl ?_
    first
      | exact hQ _ hf (by rw [← hU]; exact hE)
      | (rw [unw_no (show tl kk (s :: l) from Nat.lt_of_not_le hlt)] at hU; exact hQ _ hf (by rw [← hU]; exact hE))
  | cons s l ih =>
    intro out o g hE hf hcnt hlen hU
    obtain ⟨-, -, -, -, h34, h70, h35⟩ := id hE
    have h34 : g 53 34 = nI (l.length + 1) := h34
    have hs1 : g 70 l.length = s := h70.1
    simp only [List.length_cons] at hlen
    refine xX12_unwinds_0 ?_
    refine xX12_unwinds_1 (hM.1 _ _ rfl) ?_
    rw [h34]
    refine xX12_unwinds_4_f (Int32.not_le.mpr (nI_lt (a := 0) (b := l.length + 1) (by omega) (by omega))) ?_
    refine xX12_unwinds_7 ?_
    refine xX12_unwinds_8 (hM.1 _ _ rfl) (hM.2 _ _ _ rfl) ?_
    refine xX12_unwinds_11 ?_
    refine xX12_unwinds_12 (hM.1 _ _ rfl) ?_
    refine xX12_unwinds_15 ?_
    refine xX12_unwinds_16 ?_
    refine xX12_unwinds_17 (j := l.length) (hM.1 _ _ rfl) (by rw [h34]; exact nI_pred _) (by omega) rfl ?_
    rw [hs1]
    refine xX12_unwinds_18 rfl rfl rfl (s_X12_rank  ?_)
    refine xX12_unwinds_21 ?_
    refine xX12_unwinds_22 (fun c22 => ?_) (fun c22 => ?_)
    · have hlt : ¬ kk ≤ rk s := fun z => absurd c22 (Int32.not_lt.mpr (nI_le z (by have := rk_le s; omega)))
      refine xX12_unwinds_79 rfl rfl ?_
      first
        | exact hQ _ hf (by rw [← hU]; exact hE)
        | (rw [unw_no (show tl kk (s :: l) from Nat.lt_of_not_le hlt)] at hU; exact hQ _ hf (by rw [← hU]; exact hE))
    · have hle : kk ≤ rk s := Nat.le_of_not_lt (fun z => c22 (nI_lt z (by have := rk_le s; omega)))
      have hcp := cnt_pop (by omega) hcnt
      refine xX12_unwinds_25 ?_
      refine xX12_unwinds_26 rfl ?_
      refine xX12_unwinds_27 (hM.1 _ _ rfl) ?_
      refine xX12_unwinds_30 ?_
      refine xX12_unwinds_31 ?_
      rw [h34, show nI (l.length + 1) - 1 = nI l.length from nI_pred _]
      refine xX12_unwinds_32 (hM.1 _ _ rfl) ?_
      refine xX12_unwinds_35 ?_
      refine xX12_unwinds_36 (hM.1 _ _ rfl) (hM.2 _ _ _ rfl) ?_
      refine xX12_unwinds_39 ?_
      refine xX12_unwinds_40 (hM.1 _ _ rfl) ?_
      refine xX12_unwinds_43 (j := l.length) (hM.1 _ _ rfl) (up_same _ _ _ _) (by omega) rfl ?_
      rw [show up g 53 34 (nI l.length) 70 l.length = s from (congrFun (up_row (by omega)) _).trans hs1]
      refine xX12_unwinds_44 rfl ?_
      refine xX12_unwinds_45 ?_
      refine xX12_unwinds_46 rfl ?_
      refine xX12_unwinds_47 (hM.1 _ _ rfl) ?_
      refine xX12_unwinds_50 ?_
      refine xX12_unwinds_51 ?_
      refine xX12_unwinds_53 (fun c53 => ?_) (fun c53 => ?_)
      · refine xX12_unwinds_62 ?_
        refine xX12_unwinds_63 ?_
        rw [show up g 53 34 (nI l.length) 53 35 = nI o from (up_ne (by omega)).trans h35]
        refine xX12_unwinds_67 ?_
        have hs9 : s = 13 ∨ s = 19 := by first | exact Or.inl c53 | exact Or.inr c59
        have eo : (if s = 13 ∨ s = 19 then o - 1 else o) = o - 1 := if_pos hs9
        rw [eo] at hcp
        have ho1 := hcp.2 hs9
        rw [show nI o - 1 = nI (o - 1) by obtain ⟨z, rfl⟩ : ∃ z, o = z + 1 := ⟨o - 1, by omega⟩; exact nI_pred z]
        refine xX12_unwinds_68 (hM.1 _ _ rfl) ?_
        refine xX12_unwinds_71 ?_
        refine xX12_unwinds_72 ?_
        refine xX12_unwinds_73 (hM.1 _ _ rfl) rfl rfl rfl (s_X12_puts hM (hE.pop (o2 := _)) (by omega) (fun g1 ha1 hb1 => ?_))
        refine xX12_unwinds_76 ?_
        refine wp_kill_2 ?_
        rw [List.append_assoc] at hb1
        exact ih (out ++ [s]) _ _ hb1 (hf.tr (((MUf.u (by omega)).tr (MUf.u (by omega))).tr ha1)) hcp.1 (by simp only [List.length_append, List.length_cons, List.length_nil] at hlen ⊢; omega) (by rw [unw_pop hle, eo] at hU; exact hU)
      · refine xX12_unwinds_56 ?_
        refine xX12_unwinds_57 ?_
        refine xX12_unwinds_59 (fun c59 => ?_) (fun c59 => ?_)
        · refine xX12_unwinds_66 ?_
          rw [show up g 53 34 (nI l.length) 53 35 = nI o from (up_ne (by omega)).trans h35]
          refine xX12_unwinds_67 ?_
          have hs9 : ¬ (s = 13 ∨ s = 19) := fun z => z.elim c53 c59
          have eo : (if s = 13 ∨ s = 19 then o - 1 else o) = o := if_neg hs9
          rw [eo] at hcp
          rw [show nI o - 0 = nI o from Int32.sub_zero _]
          refine xX12_unwinds_68 (hM.1 _ _ rfl) ?_
          refine xX12_unwinds_71 ?_
          refine xX12_unwinds_72 ?_
          refine xX12_unwinds_73 (hM.1 _ _ rfl) rfl rfl rfl (s_X12_puts hM (hE.pop (o2 := _)) (by omega) (fun g2 ha2 hb2 => ?_))
          refine xX12_unwinds_76 ?_
          refine wp_kill_2 ?_
          rw [List.append_assoc] at hb2
          exact ih (out ++ [s]) _ _ hb2 (hf.tr (((MUf.u (by omega)).tr (MUf.u (by omega))).tr ha2)) hcp.1 (by simp only [List.length_append, List.length_cons, List.length_nil] at hlen ⊢; omega) (by rw [unw_pop hle, eo] at hU; exact hU)
        · refine xX12_unwinds_62 ?_
          refine xX12_unwinds_63 ?_
          rw [show up g 53 34 (nI l.length) 53 35 = nI o from (up_ne (by omega)).trans h35]
          refine xX12_unwinds_67 ?_
          have hs9 : s = 13 ∨ s = 19 := by first | exact Or.inl c53 | exact Or.inr c59
          have eo : (if s = 13 ∨ s = 19 then o - 1 else o) = o - 1 := if_pos hs9
          rw [eo] at hcp
          have ho1 := hcp.2 hs9
          rw [show nI o - 1 = nI (o - 1) by obtain ⟨z, rfl⟩ : ∃ z, o = z + 1 := ⟨o - 1, by omega⟩; exact nI_pred z]
          refine xX12_unwinds_68 (hM.1 _ _ rfl) ?_
          refine xX12_unwinds_71 ?_
          refine xX12_unwinds_72 ?_
          refine xX12_unwinds_73 (hM.1 _ _ rfl) rfl rfl rfl (s_X12_puts hM (hE.pop (o2 := _)) (by omega) (fun g3 ha3 hb3 => ?_))
          refine xX12_unwinds_76 ?_
          refine wp_kill_2 ?_
          rw [List.append_assoc] at hb3
          exact ih (out ++ [s]) _ _ hb3 (hf.tr (((MUf.u (by omega)).tr (MUf.u (by omega))).tr ha3)) hcp.1 (by simp only [List.length_append, List.length_cons, List.length_nil] at hlen ⊢; omega) (by rw [unw_pop hle, eo] at hU; exact hU)
theorem s_X12_unwinds {d : Nat} {sc : Nat × (Nat → Int32)} {T : List (Nat × Nat)} {rf : Nat → Nat → Option Nat} {g : Nat → Nat → Int32} {tc o kk : Nat} {L0 out B : List Int32} {x1 : Int32} {F : AH → Prop} (hx : x1 = nI kk) (hM : MS T rf) (hk1 : 1 ≤ kk) (hk7 : kk ≤ 7) (hE : ES g tc (L0 ++ out) B o) (hcnt : cntO B = o) (hlen : (L0 ++ out).length + B.length < 200) (hQ : ∀ g2, MUf tc g g2 → ES g2 tc (L0 ++ (unw kk B out o).2.1) (unw kk B out o).1 (unw kk B out o).2.2 → F (T, rf, g2)) : Mok (d + 1) 0 0 sc kX12_unwinds [.ref 53, .int x1] (T, rf, g) (Qv F) := by
  subst hx
  refine Mok.ofWp (L := [some (.ref 53), some (.int (nI kk)), none]) rfl rfl rfl ?_
  exact lp_X12_unwinds (gs := g) hM hk1 hk7 hQ B out o g hE MUf.rf hcnt hlen rfl
theorem s_X12_signOf {d : Nat} {sc : Nat × (Nat → Int32)} {T : List (Nat × Nat)} {rf : Nat → Nat → Option Nat} {g : Nat → Nat → Int32} {K : Int32} {F : Int32 → AH → Prop} (hM : MS T rf) (hK : g 53 30 = K) (hQ : F (sgO K) (T, rf, g)) : Mok d 0 0 sc kX12_signOf [.ref 53] (T, rf, g) (Qi F) := by
  refine Mok.ofWp (L := [some (.ref 53)]) rfl rfl rfl ?_
  refine xX12_signOf_0 ?_
  refine xX12_signOf_1 (hM.1 _ _ rfl) ?_
  refine xX12_signOf_4 ?_
  rw [hK]
  refine xX12_signOf_5 (fun c5 => ?_) (fun c5 => ?_)
  · refine xX12_signOf_13 ?_
    refine xX12_signOf_14 (hM.1 _ _ rfl) ?_
    refine xX12_signOf_17 ?_
    rw [hK]
    refine xX12_signOf_18 (fun c18 => ?_) (fun c18 => ?_)
    · refine xX12_signOf_26 ?_
      refine xX12_signOf_27 (hM.1 _ _ rfl) ?_
      refine xX12_signOf_30 ?_
      rw [hK]
      refine xX12_signOf_32 (fun c32 => ?_) (fun c32 => ?_)
      · refine xX12_signOf_40 ?_
        refine xX12_signOf_41 (hM.1 _ _ rfl) ?_
        refine xX12_signOf_44 ?_
        rw [hK]
        refine xX12_signOf_46 (fun c46 => ?_) (fun c46 => ?_)
        · refine xX12_signOf_54 ?_
          refine xX12_signOf_55 (hM.1 _ _ rfl) ?_
          refine xX12_signOf_58 ?_
          rw [hK]
          refine xX12_signOf_60 (fun c60 => ?_) (fun c60 => ?_)
          · refine xX12_signOf_68 ?_
            refine xX12_signOf_69 (hM.1 _ _ rfl) ?_
            refine xX12_signOf_72 ?_
            rw [hK]
            refine xX12_signOf_74 (fun c74 => ?_) (fun c74 => ?_)
            · refine xX12_signOf_82 ?_
              refine xX12_signOf_83 (hM.1 _ _ rfl) ?_
              refine xX12_signOf_86 ?_
              rw [hK]
              refine xX12_signOf_88 (fun c88 => ?_) (fun c88 => ?_)
              · refine xX12_signOf_96 ?_
                refine xX12_signOf_97 rfl rfl ?_
                unfold sgO at hQ
                first
                  | (rw [if_pos c5] at hQ; exact hQ)
                  | (rw [if_neg c5, if_pos c18] at hQ; exact hQ)
                  | (rw [if_neg c5, if_neg c18, if_pos c32] at hQ; exact hQ)
                  | (rw [if_neg c5, if_neg c18, if_neg c32, if_pos c46] at hQ; exact hQ)
                  | (rw [if_neg c5, if_neg c18, if_neg c32, if_neg c46, if_pos c60] at hQ; exact hQ)
                  | (rw [if_neg c5, if_neg c18, if_neg c32, if_neg c46, if_neg c60, if_pos c74] at hQ; exact hQ)
                  | (rw [if_neg c5, if_neg c18, if_neg c32, if_neg c46, if_neg c60, if_neg c74, if_pos c88] at hQ; exact hQ)
                  | (rw [if_neg c5, if_neg c18, if_neg c32, if_neg c46, if_neg c60, if_neg c74, if_neg c88] at hQ; exact hQ)
              · refine xX12_signOf_91 ?_
                refine xX12_signOf_93 ?_
                refine xX12_signOf_97 rfl rfl ?_
                unfold sgO at hQ
                first
                  | (rw [if_pos c5] at hQ; exact hQ)
                  | (rw [if_neg c5, if_pos c18] at hQ; exact hQ)
                  | (rw [if_neg c5, if_neg c18, if_pos c32] at hQ; exact hQ)
                  | (rw [if_neg c5, if_neg c18, if_neg c32, if_pos c46] at hQ; exact hQ)
                  | (rw [if_neg c5, if_neg c18, if_neg c32, if_neg c46, if_pos c60] at hQ; exact hQ)
                  | (rw [if_neg c5, if_neg c18, if_neg c32, if_neg c46, if_neg c60, if_pos c74] at hQ; exact hQ)
                  | (rw [if_neg c5, if_neg c18, if_neg c32, if_neg c46, if_neg c60, if_neg c74, if_pos c88] at hQ; exact hQ)
                  | (rw [if_neg c5, if_neg c18, if_neg c32, if_neg c46, if_neg c60, if_neg c74, if_neg c88] at hQ; exact hQ)
            · refine xX12_signOf_77 ?_
              refine xX12_signOf_79 ?_
              refine xX12_signOf_97 rfl rfl ?_
              unfold sgO at hQ
              first
                | (rw [if_pos c5] at hQ; exact hQ)
                | (rw [if_neg c5, if_pos c18] at hQ; exact hQ)
                | (rw [if_neg c5, if_neg c18, if_pos c32] at hQ; exact hQ)
                | (rw [if_neg c5, if_neg c18, if_neg c32, if_pos c46] at hQ; exact hQ)
                | (rw [if_neg c5, if_neg c18, if_neg c32, if_neg c46, if_pos c60] at hQ; exact hQ)
                | (rw [if_neg c5, if_neg c18, if_neg c32, if_neg c46, if_neg c60, if_pos c74] at hQ; exact hQ)
                | (rw [if_neg c5, if_neg c18, if_neg c32, if_neg c46, if_neg c60, if_neg c74, if_pos c88] at hQ; exact hQ)
                | (rw [if_neg c5, if_neg c18, if_neg c32, if_neg c46, if_neg c60, if_neg c74, if_neg c88] at hQ; exact hQ)
          · refine xX12_signOf_63 ?_
            refine xX12_signOf_65 ?_
            refine xX12_signOf_97 rfl rfl ?_
            unfold sgO at hQ
            first
              | (rw [if_pos c5] at hQ; exact hQ)
              | (rw [if_neg c5, if_pos c18] at hQ; exact hQ)
              | (rw [if_neg c5, if_neg c18, if_pos c32] at hQ; exact hQ)
              | (rw [if_neg c5, if_neg c18, if_neg c32, if_pos c46] at hQ; exact hQ)
              | (rw [if_neg c5, if_neg c18, if_neg c32, if_neg c46, if_pos c60] at hQ; exact hQ)
              | (rw [if_neg c5, if_neg c18, if_neg c32, if_neg c46, if_neg c60, if_pos c74] at hQ; exact hQ)
              | (rw [if_neg c5, if_neg c18, if_neg c32, if_neg c46, if_neg c60, if_neg c74, if_pos c88] at hQ; exact hQ)
              | (rw [if_neg c5, if_neg c18, if_neg c32, if_neg c46, if_neg c60, if_neg c74, if_neg c88] at hQ; exact hQ)
        · refine xX12_signOf_49 ?_
          refine xX12_signOf_51 ?_
          refine xX12_signOf_97 rfl rfl ?_
          unfold sgO at hQ
          first
            | (rw [if_pos c5] at hQ; exact hQ)
            | (rw [if_neg c5, if_pos c18] at hQ; exact hQ)
            | (rw [if_neg c5, if_neg c18, if_pos c32] at hQ; exact hQ)
            | (rw [if_neg c5, if_neg c18, if_neg c32, if_pos c46] at hQ; exact hQ)
            | (rw [if_neg c5, if_neg c18, if_neg c32, if_neg c46, if_pos c60] at hQ; exact hQ)
            | (rw [if_neg c5, if_neg c18, if_neg c32, if_neg c46, if_neg c60, if_pos c74] at hQ; exact hQ)
            | (rw [if_neg c5, if_neg c18, if_neg c32, if_neg c46, if_neg c60, if_neg c74, if_pos c88] at hQ; exact hQ)
            | (rw [if_neg c5, if_neg c18, if_neg c32, if_neg c46, if_neg c60, if_neg c74, if_neg c88] at hQ; exact hQ)
      · refine xX12_signOf_35 ?_
        refine xX12_signOf_37 ?_
        refine xX12_signOf_97 rfl rfl ?_
        unfold sgO at hQ
        first
          | (rw [if_pos c5] at hQ; exact hQ)
          | (rw [if_neg c5, if_pos c18] at hQ; exact hQ)
          | (rw [if_neg c5, if_neg c18, if_pos c32] at hQ; exact hQ)
          | (rw [if_neg c5, if_neg c18, if_neg c32, if_pos c46] at hQ; exact hQ)
          | (rw [if_neg c5, if_neg c18, if_neg c32, if_neg c46, if_pos c60] at hQ; exact hQ)
          | (rw [if_neg c5, if_neg c18, if_neg c32, if_neg c46, if_neg c60, if_pos c74] at hQ; exact hQ)
          | (rw [if_neg c5, if_neg c18, if_neg c32, if_neg c46, if_neg c60, if_neg c74, if_pos c88] at hQ; exact hQ)
          | (rw [if_neg c5, if_neg c18, if_neg c32, if_neg c46, if_neg c60, if_neg c74, if_neg c88] at hQ; exact hQ)
    · refine xX12_signOf_21 ?_
      refine xX12_signOf_23 ?_
      refine xX12_signOf_97 rfl rfl ?_
      unfold sgO at hQ
      first
        | (rw [if_pos c5] at hQ; exact hQ)
        | (rw [if_neg c5, if_pos c18] at hQ; exact hQ)
        | (rw [if_neg c5, if_neg c18, if_pos c32] at hQ; exact hQ)
        | (rw [if_neg c5, if_neg c18, if_neg c32, if_pos c46] at hQ; exact hQ)
        | (rw [if_neg c5, if_neg c18, if_neg c32, if_neg c46, if_pos c60] at hQ; exact hQ)
        | (rw [if_neg c5, if_neg c18, if_neg c32, if_neg c46, if_neg c60, if_pos c74] at hQ; exact hQ)
        | (rw [if_neg c5, if_neg c18, if_neg c32, if_neg c46, if_neg c60, if_neg c74, if_pos c88] at hQ; exact hQ)
        | (rw [if_neg c5, if_neg c18, if_neg c32, if_neg c46, if_neg c60, if_neg c74, if_neg c88] at hQ; exact hQ)
  · refine xX12_signOf_8 ?_
    refine xX12_signOf_10 ?_
    refine xX12_signOf_97 rfl rfl ?_
    unfold sgO at hQ
    first
      | (rw [if_pos c5] at hQ; exact hQ)
      | (rw [if_neg c5, if_pos c18] at hQ; exact hQ)
      | (rw [if_neg c5, if_neg c18, if_pos c32] at hQ; exact hQ)
      | (rw [if_neg c5, if_neg c18, if_neg c32, if_pos c46] at hQ; exact hQ)
      | (rw [if_neg c5, if_neg c18, if_neg c32, if_neg c46, if_pos c60] at hQ; exact hQ)
      | (rw [if_neg c5, if_neg c18, if_neg c32, if_neg c46, if_neg c60, if_pos c74] at hQ; exact hQ)
      | (rw [if_neg c5, if_neg c18, if_neg c32, if_neg c46, if_neg c60, if_neg c74, if_pos c88] at hQ; exact hQ)
      | (rw [if_neg c5, if_neg c18, if_neg c32, if_neg c46, if_neg c60, if_neg c74, if_neg c88] at hQ; exact hQ)
theorem s_X12_between {d : Nat} {sc : Nat × (Nat → Int32)} {T : List (Nat × Nat)} {rf : Nat → Nat → Option Nat} {g : Nat → Nat → Int32} {tc o : Nat} {s : Int32} {L0 out B : List Int32} {F : Int32 → AH → Prop} (hM : MS T rf) (hs1 : 1 ≤ rk s) (hE : ES g tc (L0 ++ out) B o) (hcnt : cntO B = o) (hlen : (L0 ++ out).length + B.length < 200) (k0 : rk s = 4 ∧ tp4 (unw (thrS s) B out o).1 = true → ∀ g2, MUf tc g g2 → F 0 (T, rf, g2)) (k1 : ¬ (rk s = 4 ∧ tp4 (unw (thrS s) B out o).1 = true) → ∀ g2, MUf tc g g2 → ES g2 tc (L0 ++ (unw (thrS s) B out o).2.1) (s :: (unw (thrS s) B out o).1) (unw (thrS s) B out o).2.2 → F 1 (T, rf, g2)) : Mok (d + 2) 0 0 sc kX12_between [.ref 53, .int s] (T, rf, g) (Qi F) := by
  have hr7 := rk_le s
  have ul := unw_len (thrS s) B out o
  obtain ⟨U, hU⟩ : ∃ U, U = (unw (thrS s) B out o) := ⟨_, rfl⟩
  rw [← hU] at k0 k1 ul
  simp only [List.length_append] at hlen
  refine Mok.ofWp (L := [some (.ref 53), some (.int s)]) rfl rfl rfl ?_
  refine xX12_between_0 ?_
  refine xX12_between_1 ?_
  refine xX12_between_2 rfl rfl rfl (s_X12_rank  ?_)
  refine xX12_between_5 ?_
  refine xX12_between_6 (fun c6 => ?_) (fun c6 => ?_)
  · have h4 : ¬ rk s = 4 := fun z => c6 (by rw [z]; rfl)
    have eT : thrS s = rk s := if_neg h4
    refine xX12_between_13 ?_
    refine xX12_between_14 rfl rfl rfl (s_X12_rank  ?_)
    refine xX12_between_17 (hM.1 _ _ rfl) rfl rfl rfl (s_X12_unwinds (kk := thrS s) (by rw [eT]; try rfl) hM (by rw [eT]; omega) (by rw [eT]; omega) hE hcnt (by simp only [List.length_append]; omega) (fun g2 ha2 hb2 => ?_))
    rw [← hU] at hb2
    obtain ⟨-, -, -, -, h34, h70, -⟩ := id hb2
    have hu := ha2
    refine xX12_between_20 ?_
    refine xX12_between_21 rfl rfl rfl (s_X12_rank  ?_)
    refine xX12_between_24 ?_
    refine xX12_between_25 (fun d25 => ?_) (fun d25 => ?_)
    · have h4b : ¬ rk s = 4 := fun z => d25 (by rw [z]; rfl)
      refine xX12_between_55 ?_
      refine xX12_between_56 ?_
      refine xX12_between_57 (hM.1 _ _ rfl) rfl rfl rfl (s_X12_holds hM hb2 (by omega) (fun g4 ha4 hb4 => ?_))
      refine xX12_between_60 ?_
      refine xX12_between_61 (Or.inr rfl) rfl rfl ?_
      exact k1 (fun z => by
        first
          | exact h4b z.1
          | (have y := z.2; rw [hn] at y; cases y)
          | (have y := z.2; rw [hab] at y; exact ha4 (of_decide_eq_true y))) _ (hu.tr ha4) hb4
    · have h4b : rk s = 4 := nIinj (b := 4) (by omega) (by omega) d25
      refine xX12_between_28 ?_
      refine xX12_between_29 (hM.1 _ _ rfl) ?_
      rw [h34]
      refine xX12_between_32 (fun d32 => ?_) (fun d32 => ?_)
      · have hn : U.1 = [] := by
          cases e : U.1 with
          | nil => rfl
          | cons a b =>
            rw [e] at d32 ul
            simp only [List.length_cons] at ul
            exact absurd d32 (Int32.not_le.mpr (nI_lt (a := 0) (b := b.length + 1) (by omega) (by omega)))
        refine xX12_between_55 ?_
        refine xX12_between_56 ?_
        refine xX12_between_57 (hM.1 _ _ rfl) rfl rfl rfl (s_X12_holds hM hb2 (by omega) (fun g5 ha5 hb5 => ?_))
        refine xX12_between_60 ?_
        refine xX12_between_61 (Or.inr rfl) rfl rfl ?_
        exact k1 (fun z => by
          first
            | exact h4b z.1
            | (have y := z.2; rw [hn] at y; cases y)
            | (have y := z.2; rw [hab] at y; exact ha4 (of_decide_eq_true y))) _ (hu.tr ha5) hb5
      · obtain ⟨a, b, hab⟩ : ∃ a b, U.1 = a :: b := by
          cases e : U.1 with
          | nil => rw [e] at d32; exact absurd (show nI ([] : List Int32).length ≤ 0 by decide) d32
          | cons a b => exact ⟨a, b, rfl⟩
        rw [hab] at h34 h70
        have h34 : _ = nI (b.length + 1) := h34
        have h70a := h70.1
        have hb9 : b.length + 1 < 200 := by
          rw [hab] at ul
          simp only [List.length_cons] at ul
          omega
        refine xX12_between_35 ?_
        refine xX12_between_36 (hM.1 _ _ rfl) (hM.2 _ _ _ rfl) ?_
        refine xX12_between_39 ?_
        refine xX12_between_40 (hM.1 _ _ rfl) ?_
        refine xX12_between_43 ?_
        refine xX12_between_44 ?_
        refine xX12_between_45 (j := b.length) (hM.1 _ _ rfl) (by rw [h34]; exact nI_pred _) (by omega) rfl ?_
        rw [h70a]
        refine xX12_between_46 rfl rfl rfl (s_X12_rank  ?_)
        refine xX12_between_49 ?_
        refine xX12_between_50 (fun d50 => ?_) (fun d50 => ?_)
        · have ha4 : ¬ rk a = 4 := fun z => d50 (by rw [z]; rfl)
          refine xX12_between_55 ?_
          refine xX12_between_56 ?_
          refine xX12_between_57 (hM.1 _ _ rfl) rfl rfl rfl (s_X12_holds hM hb2 (by omega) (fun g7 ha7 hb7 => ?_))
          refine xX12_between_60 ?_
          refine xX12_between_61 (Or.inr rfl) rfl rfl ?_
          exact k1 (fun z => by
            first
              | exact h4b z.1
              | (have y := z.2; rw [hn] at y; cases y)
              | (have y := z.2; rw [hab] at y; exact ha4 (of_decide_eq_true y))) _ (hu.tr ha7) hb7
        · have ha4 : rk a = 4 := nIinj (b := 4) (by have := rk_le a; omega) (by omega) d50
          refine xX12_between_53 ?_
          refine xX12_between_54 (Or.inl rfl) rfl rfl ?_
          exact k0 ⟨h4b, by rw [hab]; exact decide_eq_true ha4⟩ _ ha2
  · have h4 : rk s = 4 := nIinj (b := 4) (by omega) (by omega) c6
    have eT : thrS s = 5 := if_pos h4
    refine xX12_between_9 ?_
    refine xX12_between_10 ?_
    refine xX12_between_17 (hM.1 _ _ rfl) rfl rfl rfl (s_X12_unwinds (kk := thrS s) (by rw [eT]; try rfl) hM (by rw [eT]; omega) (by rw [eT]; omega) hE hcnt (by simp only [List.length_append]; omega) (fun g8 ha8 hb8 => ?_))
    rw [← hU] at hb8
    obtain ⟨-, -, -, -, h34, h70, -⟩ := id hb8
    have hu := ha8
    refine xX12_between_20 ?_
    refine xX12_between_21 rfl rfl rfl (s_X12_rank  ?_)
    refine xX12_between_24 ?_
    refine xX12_between_25 (fun d25 => ?_) (fun d25 => ?_)
    · have h4b : ¬ rk s = 4 := fun z => d25 (by rw [z]; rfl)
      refine xX12_between_55 ?_
      refine xX12_between_56 ?_
      refine xX12_between_57 (hM.1 _ _ rfl) rfl rfl rfl (s_X12_holds hM hb8 (by omega) (fun g10 ha10 hb10 => ?_))
      refine xX12_between_60 ?_
      refine xX12_between_61 (Or.inr rfl) rfl rfl ?_
      exact k1 (fun z => by
        first
          | exact h4b z.1
          | (have y := z.2; rw [hn] at y; cases y)
          | (have y := z.2; rw [hab] at y; exact ha4 (of_decide_eq_true y))) _ (hu.tr ha10) hb10
    · have h4b : rk s = 4 := nIinj (b := 4) (by omega) (by omega) d25
      refine xX12_between_28 ?_
      refine xX12_between_29 (hM.1 _ _ rfl) ?_
      rw [h34]
      refine xX12_between_32 (fun d32 => ?_) (fun d32 => ?_)
      · have hn : U.1 = [] := by
          cases e : U.1 with
          | nil => rfl
          | cons a b =>
            rw [e] at d32 ul
            simp only [List.length_cons] at ul
            exact absurd d32 (Int32.not_le.mpr (nI_lt (a := 0) (b := b.length + 1) (by omega) (by omega)))
        refine xX12_between_55 ?_
        refine xX12_between_56 ?_
        refine xX12_between_57 (hM.1 _ _ rfl) rfl rfl rfl (s_X12_holds hM hb8 (by omega) (fun g11 ha11 hb11 => ?_))
        refine xX12_between_60 ?_
        refine xX12_between_61 (Or.inr rfl) rfl rfl ?_
        exact k1 (fun z => by
          first
            | exact h4b z.1
            | (have y := z.2; rw [hn] at y; cases y)
            | (have y := z.2; rw [hab] at y; exact ha4 (of_decide_eq_true y))) _ (hu.tr ha11) hb11
      · obtain ⟨a, b, hab⟩ : ∃ a b, U.1 = a :: b := by
          cases e : U.1 with
          | nil => rw [e] at d32; exact absurd (show nI ([] : List Int32).length ≤ 0 by decide) d32
          | cons a b => exact ⟨a, b, rfl⟩
        rw [hab] at h34 h70
        have h34 : _ = nI (b.length + 1) := h34
        have h70a := h70.1
        have hb9 : b.length + 1 < 200 := by
          rw [hab] at ul
          simp only [List.length_cons] at ul
          omega
        refine xX12_between_35 ?_
        refine xX12_between_36 (hM.1 _ _ rfl) (hM.2 _ _ _ rfl) ?_
        refine xX12_between_39 ?_
        refine xX12_between_40 (hM.1 _ _ rfl) ?_
        refine xX12_between_43 ?_
        refine xX12_between_44 ?_
        refine xX12_between_45 (j := b.length) (hM.1 _ _ rfl) (by rw [h34]; exact nI_pred _) (by omega) rfl ?_
        rw [h70a]
        refine xX12_between_46 rfl rfl rfl (s_X12_rank  ?_)
        refine xX12_between_49 ?_
        refine xX12_between_50 (fun d50 => ?_) (fun d50 => ?_)
        · have ha4 : ¬ rk a = 4 := fun z => d50 (by rw [z]; rfl)
          refine xX12_between_55 ?_
          refine xX12_between_56 ?_
          refine xX12_between_57 (hM.1 _ _ rfl) rfl rfl rfl (s_X12_holds hM hb8 (by omega) (fun g13 ha13 hb13 => ?_))
          refine xX12_between_60 ?_
          refine xX12_between_61 (Or.inr rfl) rfl rfl ?_
          exact k1 (fun z => by
            first
              | exact h4b z.1
              | (have y := z.2; rw [hn] at y; cases y)
              | (have y := z.2; rw [hab] at y; exact ha4 (of_decide_eq_true y))) _ (hu.tr ha13) hb13
        · have ha4 : rk a = 4 := nIinj (b := 4) (by have := rk_le a; omega) (by omega) d50
          refine xX12_between_53 ?_
          refine xX12_between_54 (Or.inl rfl) rfl rfl ?_
          exact k0 ⟨h4b, by rw [hab]; exact decide_eq_true ha4⟩ _ ha8
