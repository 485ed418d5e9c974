/-- numbers have four digits at most, names are six -/
def TNk (q : Tok) : Prop := (q.2.1 = 2 → ∃ m, m ≤ 9999 ∧ q.2.2 = nI m) ∧ (106 ≤ q.2.1 → ∃ k, k < 6 ∧ q.2.1 = nI (106 + k))
def TN (ts : List Tok) : Prop := ∀ q ∈ ts, TNk q
theorem numX_le : ∀ (l : List Int32) (m : Nat), (∀ c ∈ l, 48 ≤ c ∧ c ≤ 57) → (m + 1) * 10 ^ l.length ≤ 10000 → ∃ x, x < (m + 1) * 10 ^ l.length ∧ numX l (nI m) = nI x := by
  intro l
  induction l with
  | nil => intro m _ _; exact ⟨m, by simp, rfl⟩
  | cons c l ih =>
    intro m hc hm
    obtain ⟨c1, c2⟩ := hc c List.mem_cons_self
    obtain ⟨k, hk, e⟩ := iIn (N := 57) (M := 57) rfl (Int32.le_trans (by decide) c1) c2
    subst e
    have hk2 := iLe.mp c1
    rw [iT (by omega)] at hk2
    have hk2 : (48 : Int) ≤ (k : Int) := hk2
    rw [List.length_cons, Nat.pow_succ] at hm
    have hp : 1 ≤ 10 ^ l.length := Nat.one_le_pow _ _ (by omega)
    have hm2 : (m + 1) * 10 ≤ 10000 := Nat.le_trans (Nat.le_trans (Nat.le_mul_of_pos_right _ hp) (by rw [Nat.mul_assoc, Nat.mul_comm 10]; exact Nat.le_refl _)) hm
    have e1 : 10 * nI m + nI k - 48 = nI (10 * m + (k - 48)) := by
      rw [show (10 : Int32) = nI 10 from rfl, nI_mulN (by omega) (by omega) (by omega), nI_add]
      apply Int32.toInt_inj.mp
      rw [show (48 : Int32) = nI 48 from rfl, iSub (by rw [iT (by omega), iT (by omega)]; omega) (by rw [iT (by omega), iT (by omega)]; omega), iT (by omega), iT (by omega), iT (by omega)]
      omega
    have hb : (10 * m + (k - 48) + 1) * 10 ^ l.length ≤ (m + 1) * (10 ^ l.length * 10) := by
      rw [Nat.mul_comm (10 ^ l.length) 10, ← Nat.mul_assoc]
      exact Nat.mul_le_mul_right _ (by omega)
    obtain ⟨x, h1, h2⟩ := ih (10 * m + (k - 48)) (fun c hc' => hc c (List.mem_cons_of_mem _ hc')) (Nat.le_trans hb hm)
    refine ⟨x, ?_, ?_⟩
    · rw [List.length_cons, Nat.pow_succ]; exact Nat.lt_of_lt_of_le h1 hb
    · show numX l (10 * nI m + nI k - 48) = _
      rw [e1]; exact h2
theorem runL_all (lo hi : Int32) : ∀ l : List Int32, ∀ c ∈ l.take (runL lo hi l), lo ≤ c ∧ c ≤ hi := by
  intro l
  induction l with
  | nil => intro c h; simp at h
  | cons x l ih =>
    intro c h
    by_cases q : lo ≤ x ∧ x ≤ hi
    · rw [show runL lo hi (x :: l) = runL lo hi l + 1 from if_pos q, List.take_succ_cons] at h
      rcases List.mem_cons.mp h with e | e
      · rw [e]; exact q
      · exact ih c e
    · rw [show runL lo hi (x :: l) = 0 from if_neg q] at h
      simp at h
theorem wdF_le {w : List Int32} : ∀ (xs : List (List Int32)) (k : Nat) (a : Int32), k + xs.length ≤ 12 → (∃ j, (j = 1 ∨ (100 ≤ j ∧ j < 112)) ∧ a = nI j) → ∃ j, (j = 1 ∨ (100 ≤ j ∧ j < 112)) ∧ wdF xs k w a = nI j := by
  intro xs
  induction xs with
  | nil => intro k a _ h; exact h
  | cons x xs ih =>
    intro k a hk h
    simp only [List.length_cons] at hk
    refine ih (k + 1) _ (by omega) ?_
    split
    · exact ⟨100 + k, by omega, by rw [show (100 : Int32) = nI 100 from rfl, nI_add]⟩
    · exact h
theorem tkX_k {l : List Int32} : ((tkX l).1 = 2 → ∃ m, m ≤ 9999 ∧ (tkX l).2.1 = nI m) ∧ (106 ≤ (tkX l).1 → ∃ k, k < 6 ∧ (tkX l).1 = nI (106 + k)) := by
  cases l with
  | nil => exact ⟨fun z => absurd (show (0 : Int32) = 2 from z) (by decide), fun z => absurd (show (106 : Int32) ≤ 0 from z) (by decide)⟩
  | cons c l =>
    rw [tkX_c]
    by_cases h1 : 97 ≤ c ∧ c ≤ 122
    · rw [if_pos h1]
      refine ⟨fun z => absurd z (wdX_2 _), fun z => ?_⟩
      obtain ⟨j, hj, e⟩ := wdF_le (w := (c :: l).take (runL 97 122 (c :: l))) WLs 0 1 (by decide) ⟨1, Or.inl rfl, rfl⟩
      have e : (tkW (c :: l)).1 = nI j := e
      rw [e] at z ⊢
      have z2 := iLe.mp z
      rw [iT (by omega)] at z2
      have z2 : (106 : Int) ≤ (j : Int) := z2
      exact ⟨j - 106, by omega, by congr 1; omega⟩
    · rw [if_neg h1]
      by_cases h2 : 48 ≤ c ∧ c ≤ 57
      · rw [if_pos h2]
        refine ⟨fun _ => ?_, fun z => ?_⟩
        · show ∃ m, m ≤ 9999 ∧ (if 4 < runL 48 57 (c :: l) then (0 : Int32) else numX ((c :: l).take (runL 48 57 (c :: l))) 0) = nI m
          by_cases h4 : 4 < runL 48 57 (c :: l)
          · rw [if_pos h4]; exact ⟨0, by omega, rfl⟩
          · rw [if_neg h4]
            have hlen : ((c :: l).take (runL 48 57 (c :: l))).length ≤ 4 := by rw [List.length_take]; omega
            have hpw : (0 + 1) * 10 ^ ((c :: l).take (runL 48 57 (c :: l))).length ≤ 10000 := by
              have := Nat.pow_le_pow_right (n := 10) (by omega) hlen
              omega
            obtain ⟨x, h5, h6⟩ := numX_le _ 0 (runL_all 48 57 (c :: l)) hpw
            exact ⟨x, by omega, h6⟩
        · have z : (106 : Int32) ≤ (if 4 < runL 48 57 (c :: l) then 1 else 2) := z
          exfalso
          revert z
          split <;> decide
      · rw [if_neg h2]
        refine ⟨fun z => absurd z (sgX_2 c), fun z => ?_⟩
        exfalso
        have z : 106 ≤ sgX c := z
        revert z
        unfold sgX
        repeat' split
        all_goals first | decide | (rename_i h; rw [h]; decide) | skip
        all_goals (simp_all)
theorem toks_ok {tp : List Int32} : ∀ (f p : Nat), TN (toks tp f p) := by
  intro f
  induction f with
  | zero => intro p q h; cases h
  | succ f ih =>
    intro p q h
    rcases List.mem_cons.mp h with e | e
    · rw [e]; exact tkX_k
    · split at e
      · cases e
      · exact ih _ q e
/-- the class's reader in the midst of a text: the tokens left, the codes so far, how many are open -/
def RG (g : Nat → Nat → Int32) (tp : List Int32) (ts : List Tok) (out : List Int32) (o : Nat) : Prop := XP_ g tp ∧ RT g tp ts ∧ g 35 5 = nI out.length ∧ (∀ i v, out[i]? = some v → g 37 i = tr v) ∧ g 35 9 = nI o ∧ TN ts ∧ ts.length ≤ tp.length + 1
def RFr (g g' : Nat → Nat → Int32) : Prop := (∀ a, a ≠ 35 → a ≠ 37 → g' a = g a) ∧ g' 35 0 = g 35 0
theorem RFr.rf {g : Nat → Nat → Int32} : RFr g g := ⟨fun _ _ _ => rfl, rfl⟩
theorem RFr.tr {g1 g2 g3 : Nat → Nat → Int32} (h1 : RFr g1 g2) (h2 : RFr g2 g3) : RFr g1 g3 := ⟨fun a p q => (h2.1 a p q).trans (h1.1 a p q), h2.2.trans h1.2⟩
theorem RFr.u {g : Nat → Nat → Int32} {k : Nat} {v : Int32} (h : k ≠ 0) : RFr g (up g 35 k v) := ⟨fun _ p _ => up_row p, up_ne (by omega)⟩
theorem RAf.fr {g g' : Nat → Nat → Int32} (h : RAf g g') : RFr g g' := ⟨fun a p _ => h.1 a p, h.2 0 (by omega) (by omega) (by omega) (by omega)⟩
def BS5 (g : Nat → Nat → Int32) : Prop := ∃ m, m ≤ 160 ∧ g 35 5 = nI m
theorem RG.x {g : Nat → Nat → Int32} {tp : List Int32} {ts : List Tok} {out : List Int32} {o : Nat} (h : RG g tp ts out o) : XP_ g tp := h.1
theorem RG.op {g : Nat → Nat → Int32} {tp : List Int32} {ts : List Tok} {out : List Int32} {o o2 : Nat} {v : Int32} (h : RG g tp ts out o) (hv : v = nI o2) : RG (up g 35 9 v) tp ts out o2 := by
  obtain ⟨h1, h2, h3, h4, h5, h6, h7⟩ := h
  refine ⟨⟨(up_ne (by omega)).trans h1.1, h1.2.1, fun i x hx => by rw [up_row (by omega)]; exact h1.2.2 i x hx⟩, ?_, (up_ne (by omega)).trans h3, fun i x hx => by rw [up_row (by omega)]; exact h4 i x hx, (up_same _ _ _ _).trans hv, h6, h7⟩
  cases ts with
  | nil => exact h2
  | cons q r =>
    obtain ⟨a1, a2, a3, a4, a5, a6⟩ := h2
    exact ⟨(up_ne (by omega)).trans a1, (up_ne (by omega)).trans a2, fun z => (up_ne (by omega)).trans (a3 z), a4, fun z => (a5 z).imp (fun p y => ⟨y.1, (up_ne (by omega)).trans y.2.1, y.2.2⟩), a6⟩
theorem RG.ad {g : Nat → Nat → Int32} {tp : List Int32} {ts : List Tok} {out : List Int32} {o : Nat} {c x z : Int32} (h : RG g tp ts out o) (hx : x = tr c) (hz : z = nI (out.length + 1)) : RG (up (up g 37 out.length x) 35 5 z) tp ts (out ++ [c]) o := by
  obtain ⟨h1, h2, h3, h4, h5, h6, h7⟩ := h
  have e : ∀ k, k ≠ 5 → up (up g 37 out.length x) 35 5 z 35 k = g 35 k := fun k hk => by rw [up_ne (fun y => hk y.2), up_row (by omega)]
  refine ⟨⟨(e 0 (by omega)).trans h1.1, h1.2.1, fun i y hy => by rw [up_row (by omega), up_row (by omega)]; exact h1.2.2 i y hy⟩, ?_, by rw [up_same, hz, List.length_append]; rfl, fun i y hy => ?_, (e 9 (by omega)).trans h5, h6, h7⟩
  · cases ts with
    | nil => exact h2
    | cons q r =>
      obtain ⟨a1, a2, a3, a4, a5, a6⟩ := h2
      exact ⟨(e 1 (by omega)).trans a1, (e 6 (by omega)).trans a2, fun z => (e 7 (by omega)).trans (a3 z), a4, fun z => (a5 z).imp (fun p y => ⟨y.1, (e 8 (by omega)).trans y.2.1, y.2.2⟩), a6⟩
  · rw [up_row (by omega)]
    by_cases q : i < out.length
    · rw [List.getElem?_append_left q] at hy
      rw [up_ne (by omega)]
      exact h4 i y hy
    · rw [List.getElem?_append_right (by omega)] at hy
      by_cases q2 : i = out.length
      · subst q2
        simp at hy
        rw [up_same, hx, hy]
      · obtain ⟨m, hm⟩ := Nat.exists_eq_succ_of_ne_zero (show i - out.length ≠ 0 by omega)
        rw [hm] at hy
        simp at hy
theorem RG.ne {g : Nat → Nat → Int32} {tp : List Int32} {ts : List Tok} {out : List Int32} {o : Nat} (h : RG g tp ts out o) : ts ≠ [] := fun z => by
  subst z
  exact h.2.1
theorem RG.hd {g : Nat → Nat → Int32} {tp : List Int32} {ts : List Tok} {out : List Int32} {o : Nat} (h : RG g tp ts out o) : g 35 6 = hdT ts := by
  cases ts with
  | nil => exact absurd rfl h.ne
  | cons q r => exact h.2.1.2.1
theorem BS5.of {g : Nat → Nat → Int32} {tp : List Int32} {ts : List Tok} {out : List Int32} {o : Nat} (h : RG g tp ts out o) (h2 : out.length ≤ 160) : BS5 g := ⟨out.length, h2, h.2.2.1⟩
theorem BS5.u {g : Nat → Nat → Int32} {k : Nat} {v : Int32} (h : BS5 g) (hk : k ≠ 5) : BS5 (up g 35 k v) := h.imp (fun _ y => ⟨y.1, (up_ne (by omega)).trans y.2⟩)
def RS7 (κ : MI) (N o : Nat) : Prop := ∀ (d : Nat), N ≤ d → ∀ {sc : Nat × (Nat → Int32)} {T : List (Nat × Nat)} {rf : Nat → Nat → Option Nat} {g : Nat → Nat → Int32} {tp : List Int32} {ts : List Tok} {out : List Int32} {F : Int32 → AH → Prop}, XS T rf → TB tp → RG g tp ts out o → out.length + ts.length ≤ 161 → (∀ g2 ts2 cs, G7 ts o ts2 cs → RG g2 tp ts2 (out ++ cs) o → RFr g g2 → F 1 (T, rf, g2)) → (∀ g2 b, Bad 7 ts o b → g2 35 1 = nI b → BS5 g2 → RFr g g2 → F 0 (T, rf, g2)) → Mok d 0 0 sc κ [.ref 35] (T, rf, g) (Qi F)
def RSr (κ : MI) (r N o : Nat) : Prop := ∀ (d : Nat), N ≤ d → ∀ {sc : Nat × (Nat → Int32)} {T : List (Nat × Nat)} {rf : Nat → Nat → Option Nat} {g : Nat → Nat → Int32} {tp : List Int32} {ts : List Tok} {out : List Int32} {F : Int32 → AH → Prop}, XS T rf → TB tp → RG g tp ts out o → out.length + ts.length ≤ 161 → (∀ g2 ts2 cs, GS r r ts o ts2 cs → RG g2 tp ts2 (out ++ cs) o → RFr g g2 → F 1 (T, rf, g2)) → (∀ g2 b, Bad r ts o b → g2 35 1 = nI b → BS5 g2 → RFr g g2 → F 0 (T, rf, g2)) → Mok d 0 0 sc κ [.ref 35] (T, rf, g) (Qi F)
theorem t_X6_advance {d : Nat} {sc : Nat × (Nat → Int32)} {T : List (Nat × Nat)} {rf : Nat → Nat → Option Nat} {g : Nat → Nat → Int32} {tp : List Int32} {q : Tok} {r : List Tok} {out : List Int32} {o : Nat} {F : AH → Prop} (hd : 6 ≤ d) (hX : XS T rf) (hB : TB tp) (hG : RG g tp (q :: r) out o) (hq : q.2.1 ≠ 0) (hQ : ∀ g2, RG g2 tp r out o → RFr g g2 → F (T, rf, g2)) : Mok d 0 0 sc kX6_advance [.ref 35] (T, rf, g) (Qv F) := by
  obtain ⟨e, rfl⟩ : ∃ e, d = e + 6 := ⟨d - 6, by omega⟩
  obtain ⟨h1, h2, h3, h4, h5, h6, h7⟩ := hG
  obtain ⟨p, p1, p2, p3⟩ := h2.2.2.2.2.1 hq
  refine s_X6_advance hX h1 hB p2 p1 (fun g2 ha hr => hQ g2 ⟨h1.ra ha, by rw [p3]; exact hr, (ha.2 5 (by omega) (by omega) (by omega) (by omega)).trans h3, fun i v hv => by rw [ha.1 37 (by omega)]; exact h4 i v hv, (ha.2 9 (by omega) (by omega) (by omega) (by omega)).trans h5, fun q hq => h6 q (List.mem_cons_of_mem _ hq), by simp only [List.length_cons] at h7; omega⟩ ha.fr)
theorem s_X6_add {d : Nat} {sc : Nat × (Nat → Int32)} {T : List (Nat × Nat)} {rf : Nat → Nat → Option Nat} {g : Nat → Nat → Int32} {tp : List Int32} {ts : List Tok} {out : List Int32} {o : Nat} {x c : Int32} {F : AH → Prop} (hX : XS T rf) (hG : RG g tp ts out o) (hx : x = tr c) (ho : out.length < 160) (hQ : ∀ g2, RG g2 tp ts (out ++ [c]) o → RFr g g2 → F (T, rf, g2)) : Mok d 0 0 sc kX6_add [.ref 35, .int x] (T, rf, g) (Qv F) := by
  have h5 := hG.2.2.1
  refine Mok.ofWp (L := [some (.ref 35), some (.int x)]) rfl rfl rfl ?_
  refine xX6_add_0 ?_
  refine xX6_add_1 (hX.1 _ _ rfl) ?_
  refine xX6_add_4 ?_
  refine xX6_add_5 (hX.1 _ _ rfl) (hX.2 _ _ _ rfl) ?_
  refine xX6_add_8 (hX.1 _ _ rfl) rfl rfl ?_
  rw [h5]
  refine xX6_add_9_f (Int32.not_le.mpr (nI_lt (b := 160) ho (by omega))) ?_
  refine xX6_add_12 ?_
  refine xX6_add_13 (hX.1 _ _ rfl) (hX.2 _ _ _ rfl) ?_
  refine xX6_add_16 ?_
  refine xX6_add_17 (hX.1 _ _ rfl) ?_
  refine xX6_add_20 ?_
  refine xX6_add_21 (j := out.length) (hX.1 _ _ rfl) h5 ho rfl ?_
  refine xX6_add_22 ?_
  refine xX6_add_23 rfl ?_
  refine xX6_add_24 (hX.1 _ _ rfl) ?_
  refine xX6_add_27 ?_
  refine xX6_add_28 ?_
  refine xX6_add_29 (hX.1 _ _ rfl) ?_
  refine xX6_add_32 rfl rfl ?_
  exact hQ _ (hG.ad hx (by rw [up_row (by omega), h5]; exact nI_1 _)) ⟨fun a p q => by rw [up_row p, up_row q], by rw [up_ne (by omega), up_row (by omega)]⟩
theorem b_X6_add {d : Nat} {sc : Nat × (Nat → Int32)} {T : List (Nat × Nat)} {rf : Nat → Nat → Option Nat} {g : Nat → Nat → Int32} {x : Int32} {F : AH → Prop} (hX : XS T rf) (hb : BS5 g) (hQ : ∀ g2, BS5 g2 → g2 35 1 = g 35 1 → RFr g g2 → F (T, rf, g2)) : Mok d 0 0 sc kX6_add [.ref 35, .int x] (T, rf, g) (Qv F) := by
  obtain ⟨m, hm, h5⟩ := hb
  refine Mok.ofWp (L := [some (.ref 35), some (.int x)]) rfl rfl rfl ?_
  refine xX6_add_0 ?_
  refine xX6_add_1 (hX.1 _ _ rfl) ?_
  refine xX6_add_4 ?_
  refine xX6_add_5 (hX.1 _ _ rfl) (hX.2 _ _ _ rfl) ?_
  refine xX6_add_8 (hX.1 _ _ rfl) rfl rfl ?_
  rw [h5]
  refine xX6_add_9 (fun c9 => ?_) (fun c9 => ?_)
  · refine xX6_add_32 rfl rfl ?_
    first
      | exact hQ _ ⟨m, hm, h5⟩ rfl RFr.rf
      | exact hQ _ ⟨m + 1, by omega, by rw [up_same, up_row (by omega), h5]; exact nI_1 _⟩ (by rw [up_ne (by omega), up_row (by omega)]) ⟨fun a p q => by rw [up_row p, up_row q], by rw [up_ne (by omega), up_row (by omega)]⟩
  · have hm2 : m < 160 := Nat.lt_of_not_le (fun z => c9 (nI_le (a := 160) z (by omega)))
    refine xX6_add_12 ?_
    refine xX6_add_13 (hX.1 _ _ rfl) (hX.2 _ _ _ rfl) ?_
    refine xX6_add_16 ?_
    refine xX6_add_17 (hX.1 _ _ rfl) ?_
    refine xX6_add_20 ?_
    refine xX6_add_21 (j := m) (hX.1 _ _ rfl) h5 hm2 rfl ?_
    refine xX6_add_22 ?_
    refine xX6_add_23 rfl ?_
    refine xX6_add_24 (hX.1 _ _ rfl) ?_
    refine xX6_add_27 ?_
    refine xX6_add_28 ?_
    refine xX6_add_29 (hX.1 _ _ rfl) ?_
    refine xX6_add_32 rfl rfl ?_
    first
      | exact hQ _ ⟨m, hm, h5⟩ rfl RFr.rf
      | exact hQ _ ⟨m + 1, by omega, by rw [up_same, up_row (by omega), h5]; exact nI_1 _⟩ (by rw [up_ne (by omega), up_row (by omega)]) ⟨fun a p q => by rw [up_row p, up_row q], by rw [up_ne (by omega), up_row (by omega)]⟩
