def hdP : List Tok → Nat
  | [] => 0
  | q :: _ => q.1
/-- a text: its parts' codes, or the place of its fault -/
def txX : Nat → Nat → List Tok → Sum Nat (List (List Int32))
  | 0, _, ts => if hdT ts = 0 then Sum.inr [] else Sum.inl (hdP ts)
  | k + 1, p, ts => if hdT ts = 100 + nI p then (match sy ts.tail true true [] [] 0 with
    | Sum.inl b => Sum.inl b
    | Sum.inr q => (match txX k (p + 1) q.1 with
      | Sum.inl b => Sum.inl b
      | Sum.inr l => Sum.inr (q.2 :: l))) else Sum.inl (hdP ts)
def apx (css : List (List Int32)) : Sum Nat (List (List Int32)) → Sum Nat (List (List Int32))
  | Sum.inl b => Sum.inl b
  | Sum.inr l => Sum.inr (css ++ l)
theorem tx_key {k p : Nat} {ts : List Tok} (h : ¬ hdT ts = 100 + nI p) : txX (k + 1) p ts = Sum.inl (hdP ts) := if_neg h
theorem tx_inl {k p b : Nat} {ts : List Tok} (h : hdT ts = 100 + nI p) (h2 : sy ts.tail true true [] [] 0 = Sum.inl b) : txX (k + 1) p ts = Sum.inl b := by
  unfold txX
  rw [if_pos h, h2]
theorem tx_inr {k p : Nat} {ts ts2 : List Tok} {cs : List Int32} {css : List (List Int32)} (h : hdT ts = 100 + nI p) (h2 : sy ts.tail true true [] [] 0 = Sum.inr (ts2, cs)) : apx css (txX (k + 1) p ts) = apx (css ++ [cs]) (txX k (p + 1) ts2) := by
  have e : txX (k + 1) p ts = (match txX k (p + 1) ts2 with | Sum.inl b => Sum.inl b | Sum.inr l => Sum.inr (cs :: l)) := by
    show (if hdT ts = 100 + nI p then (match sy ts.tail true true [] [] 0 with | Sum.inl b => Sum.inl b | Sum.inr q => (match txX k (p + 1) q.1 with | Sum.inl b => Sum.inl b | Sum.inr l => Sum.inr (q.2 :: l))) else Sum.inl (hdP ts)) = _
    rw [if_pos h, h2]
  rw [e]
  cases txX k (p + 1) ts2 with
  | inl b => rfl
  | inr l => show Sum.inr (css ++ (cs :: l)) = Sum.inr (css ++ [cs] ++ l); rw [List.append_assoc]; rfl
/-- the reader, its starts too -/
def RFt (g g' : Nat → Nat → Int32) : Prop := (∀ a, a ≠ 35 → a ≠ 37 → a ≠ 38 → g' a = g a) ∧ g' 35 0 = g 35 0
theorem RFt.rf {g : Nat → Nat → Int32} : RFt g g := ⟨fun _ _ _ _ => rfl, rfl⟩
theorem RFt.tr {g1 g2 g3 : Nat → Nat → Int32} (h1 : RFt g1 g2) (h2 : RFt g2 g3) : RFt g1 g3 := ⟨fun a p q r => (h2.1 a p q r).trans (h1.1 a p q r), h2.2.trans h1.2⟩
theorem RFr.t {g g' : Nat → Nat → Int32} (h : RFr g g') : RFt g g' := ⟨fun a p q _ => h.1 a p q, h.2⟩
theorem RG.st {g : Nat → Nat → Int32} {tp : List Int32} {ts : List Tok} {out : List Int32} {o k : Nat} {v : Int32} (h : RG g tp ts out o) : RG (up g 38 k v) tp ts out o := by
  obtain ⟨h1, h2, h3, h4, h5, h6, h7⟩ := h
  have e : ∀ a, a ≠ 38 → up g 38 k v a = g a := fun a p => up_row p
  refine ⟨⟨by rw [e 35 (by omega)]; exact h1.1, h1.2.1, by rw [e 36 (by omega)]; exact h1.2.2⟩, ?_, by rw [e 35 (by omega)]; exact h3, by rw [e 37 (by omega)]; exact h4, by rw [e 35 (by omega)]; exact h5, h6, h7⟩
  cases ts with
  | nil => exact h2
  | cons q r =>
    unfold RT
    rw [e 35 (by omega)]
    exact h2
/-- where the parts begin -/
def ST (g : Nat → Nat → Int32) (css : List (List Int32)) (n : Nat) : Prop := ∀ i, i < n → g 38 i = nI ((css.take i).flatten.length)
theorem ST.row {g g' : Nat → Nat → Int32} {css : List (List Int32)} {n : Nat} (h : ST g css n) (e : g' 38 = g 38) : ST g' css n := fun i hi => by rw [e]; exact h i hi
theorem ST.add {g : Nat → Nat → Int32} {css : List (List Int32)} {cs : List Int32} {v : Int32} (h : ST g css css.length) (hv : v = nI css.flatten.length) : ST (up g 38 css.length v) (css ++ [cs]) (css.length + 1) := by
  intro i hi
  by_cases z : i = css.length
  · subst z
    rw [up_same, hv, List.take_left']
    rfl
  · rw [up_ne (fun y => z y.2), h i (by omega), List.take_append_of_le_length (by omega)]
/-- a text read well, in the class's reader -/
def GT (g : Nat → Nat → Int32) (css : List (List Int32)) : Prop := css.length = 3 ∧ (∀ c ∈ css, wfd c 0) ∧ css.flatten.length ≤ 160 ∧ g 35 5 = nI css.flatten.length ∧ (∀ i v, css.flatten[i]? = some v → g 37 i = tr v) ∧ ∀ i, i < 4 → g 38 i = nI ((css.take i).flatten.length)
theorem RG.t1 {g : Nat → Nat → Int32} {tp : List Int32} {q : Tok} {r : List Tok} {out : List Int32} {o : Nat} (h : RG g tp (q :: r) out o) (hq : q.2.1 ≠ 0) : r ≠ [] := by
  obtain ⟨p, p1, p2, p3⟩ := h.2.1.2.2.2.2.1 hq
  rw [p3]
  exact TKS_ne p1
theorem lp_X6_read {d : Nat} {sc : Nat × (Nat → Int32)} {T : List (Nat × Nat)} {rf : Nat → Nat → Option Nat} {tp : List Int32} {gs : Nat → Nat → Int32} {R : Sum Nat (List (List Int32))} {F : Int32 → AH → Prop} (hX : XS T rf) (hB : TB tp) (k1 : ∀ g2 css, R = Sum.inr css → GT g2 css → RFt gs g2 → F 1 (T, rf, g2)) (k0 : ∀ g2 b, R = Sum.inl b → g2 35 1 = nI b → RFt gs g2 → F 0 (T, rf, g2)) : ∀ (k j : Nat) (x1 : Int32) (g : Nat → Nat → Int32) (ts : List Tok) (css : List (List Int32)), (j + k = 3) → (x1 = nI j) → (css.length = j) → (RG g tp ts css.flatten 0) → (css.flatten.length + ts.length ≤ 161) → (∀ c ∈ css, wfd c 0) → (ST g css css.length) → (apx css (txX k j ts) = R) → (RFt gs g) → Wp (d + 65) 0 0 sc kX6_read (Qi F) 21 [some (.ref 35), some (.int x1)] [] (T, rf, g) 0 0 := by
  intro k
  induction k with
  | zero =>
    intro j x1 g ts css hj hx1 hcl hG hK hwf hst hR hf
    subst hx1
    have hpos := lpos hG.ne
    have hz9 : ∀ v, RFt g (up g 38 css.length v) := fun v => ⟨fun a _ _ p => up_row p, by rw [up_row (by omega)]⟩
    refine xX6_read_21 ?_
    refine xX6_read_22 ?_
    refine xX6_read_23_t (nI_le (a := 3) (by omega) (by omega)) ?_
    refine xX6_read_81 ?_
    refine xX6_read_82 (hX.1 _ _ rfl) (hX.2 _ _ _ rfl) ?_
    refine xX6_read_85 ?_
    refine xX6_read_86 ?_
    refine xX6_read_87 (hX.1 _ _ rfl) ?_
    rw [hG.2.2.1]
    refine xX6_read_90 (j := 3) (hX.1 _ _ rfl) (by decide) (by decide) rfl ?_
    refine xX6_read_91 ?_
    refine xX6_read_92 (hX.1 _ _ rfl) ?_
    rw [show up g 38 3 (nI css.flatten.length) 35 6 = hdT ts from (hG.st).hd]
    refine xX6_read_95 (fun c95 => ?_) (fun c95 => ?_)
    · refine xX6_read_102 ?_
      refine xX6_read_103 (Or.inl rfl) rfl rfl ?_
      have hj3 : j = 3 := by omega
      subst hj3
      have hz : RFt g (up g 38 3 (nI css.flatten.length)) := ⟨fun a _ _ p => up_row p, by rw [up_row (by omega)]⟩
      first
        | (rw [show txX 0 3 ts = Sum.inr [] from if_pos c95] at hR
           have hR : Sum.inr (css ++ []) = R := hR
           rw [List.append_nil] at hR
           refine k1 _ css hR.symm ⟨hcl, hwf, by omega, by rw [up_row (by omega)]; exact hG.2.2.1, fun i v hv => by rw [up_row (by omega)]; exact hG.2.2.2.1 i v hv, fun i hi => ?_⟩ (hf.tr hz)
           by_cases z : i = 3
           · subst z
             rw [up_same, ← hcl, List.take_length]
           · rw [up_ne (fun y => z y.2)]
             exact hst i (by omega))
        | (rw [show txX 0 3 ts = Sum.inl (hdP ts) from if_neg c95] at hR
           obtain ⟨b, t, n, r9, rfl⟩ := hG.cs
           exact k0 _ b hR.symm ((congrFun (up_row (by omega)) 1).trans hG.2.1.1) (hf.tr hz))
    · refine xX6_read_98 ?_
      refine xX6_read_99 ?_
      refine xX6_read_103 (Or.inr rfl) rfl rfl ?_
      have hj3 : j = 3 := by omega
      subst hj3
      have hz : RFt g (up g 38 3 (nI css.flatten.length)) := ⟨fun a _ _ p => up_row p, by rw [up_row (by omega)]⟩
      first
        | (rw [show txX 0 3 ts = Sum.inr [] from if_pos c95] at hR
           have hR : Sum.inr (css ++ []) = R := hR
           rw [List.append_nil] at hR
           refine k1 _ css hR.symm ⟨hcl, hwf, by omega, by rw [up_row (by omega)]; exact hG.2.2.1, fun i v hv => by rw [up_row (by omega)]; exact hG.2.2.2.1 i v hv, fun i hi => ?_⟩ (hf.tr hz)
           by_cases z : i = 3
           · subst z
             rw [up_same, ← hcl, List.take_length]
           · rw [up_ne (fun y => z y.2)]
             exact hst i (by omega))
        | (rw [show txX 0 3 ts = Sum.inl (hdP ts) from if_neg c95] at hR
           obtain ⟨b, t, n, r9, rfl⟩ := hG.cs
           exact k0 _ b hR.symm ((congrFun (up_row (by omega)) 1).trans hG.2.1.1) (hf.tr hz))
  | succ k ih =>
    intro j x1 g ts css hj hx1 hcl hG hK hwf hst hR hf
    subst hx1
    have hpos := lpos hG.ne
    have hz9 : ∀ v, RFt g (up g 38 css.length v) := fun v => ⟨fun a _ _ p => up_row p, by rw [up_row (by omega)]⟩
    refine xX6_read_21 ?_
    refine xX6_read_22 ?_
    refine xX6_read_23_f (nI_ge (b := 3) (by omega) (by omega)) ?_
    refine xX6_read_26 ?_
    refine xX6_read_27 (hX.1 _ _ rfl) (hX.2 _ _ _ rfl) ?_
    refine xX6_read_30 ?_
    refine xX6_read_31 ?_
    refine xX6_read_32 (hX.1 _ _ rfl) ?_
    rw [hG.2.2.1]
    refine xX6_read_35 (j := css.length) (hX.1 _ _ rfl) (by rw [hcl]) (by omega) rfl ?_
    refine xX6_read_36 ?_
    refine xX6_read_37 (hX.1 _ _ rfl) ?_
    rw [(hG.st).hd]
    refine xX6_read_40 ?_
    refine xX6_read_42 ?_
    refine xX6_read_43 ?_
    refine xX6_read_44 (fun c44 => ?_) (fun c44 => ?_)
    · refine xX6_read_49 ?_
      obtain ⟨b, t, n, r9, rfl⟩ := hG.cs
      have c44 : t = 100 + nI j := c44
      have ht0 : t ≠ 0 := by
        rw [c44, show (100 : Int32) = nI 100 from rfl, nI_add]
        intro z
        have := nIinj (a := 100 + j) (b := 0) (by omega) (by omega) z
        omega
      refine xX6_read_50 (hX.1 _ _ rfl) rfl rfl rfl (t_X6_advance (by omega) hX hB hG.st ht0 (fun g0 hrg0 hrf0 => ?_))
      refine xX6_read_53 ?_
      refine xX6_read_54 (hX.1 _ _ rfl) rfl rfl rfl (t_X6_readOr hX hB hrg0 (by simp only [List.length_cons] at hK; omega) (fun g1 ts1 cs1 hgd1 hrg1 hrf1 => ?_) (fun g1 b1 hbd1 hbg1 hbf1 hrf1 => ?_))
      · refine xX6_read_57_f (by decide) ?_
        refine xX6_read_60 ?_
        refine xX6_read_61 (hX.1 _ _ rfl) ?_
        obtain ⟨b3, t3, n3, r3, e3⟩ := hrg1.cs
        subst e3
        rw [show g1 35 6 = t3 from hrg1.hd]
        refine xX6_read_64 ?_
        refine xX6_read_66 (fun c66 => ?_) (fun c66 => ?_)
        · refine xX6_read_71 ?_
          refine xX6_read_72 (hX.1 _ _ rfl) rfl rfl rfl (t_X6_advance (by omega) hX hB hrg1 (show t3 ≠ 0 by rw [c66]; decide) (fun g2 hrg2 hrf2 => ?_))
          refine xX6_read_75 rfl rfl ?_
          refine xX6_read_78 ?_
          subst c66
          have hEk := E_ok (out := []) hgd1
          rw [List.nil_append] at hEk
          have hlen := hgd1.1
          refine ih (j + 1) _ _ _ (css ++ [cs1]) (by omega) (nI_1 j) (by simp only [List.length_append, List.length_cons, List.length_nil]; omega) (by rw [List.flatten_append]; simpa using hrg2) (by simp only [List.flatten_append, List.length_append, List.flatten_cons, List.flatten_nil, List.append_nil, List.length_cons] at *; omega) (fun c hc => ?_) (by rw [List.length_append]; exact ((hst.add rfl (cs := cs1)).row ((((hrf0.tr hrf1).tr hrf2)).1 38 (by omega) (by omega)))) ?_ (hf.tr ((hz9 _).tr (((hrf0.tr hrf1).tr hrf2)).t))
          · rcases List.mem_append.mp hc with z | z
            · exact hwf c z
            · rcases List.mem_singleton.mp z with rfl
              have := hgd1.2.1 0 [] rfl
              rwa [List.append_nil] at this
          · rw [← hR]
            exact (tx_inr (ts := (b, t, n) :: r9) c44 hEk).symm
        · refine xX6_read_69 ?_
          refine xX6_read_70 (Or.inl rfl) rfl rfl ?_
          rw [tx_inl (ts := (b, t, n) :: r9) c44 (E_no hgd1 c66)] at hR
          exact k0 _ _ hR.symm hrg1.2.1.1 (hf.tr ((hz9 _).tr ((hrf0.tr hrf1)).t))
      · refine xX6_read_57_t (by decide) ?_
        refine xX6_read_69 ?_
        refine xX6_read_70 (Or.inl rfl) rfl rfl ?_
        rw [tx_inl (ts := (b, t, n) :: r9) c44 (E_bad hbd1)] at hR
        exact k0 _ _ hR.symm hbg1 (hf.tr ((hz9 _).tr ((hrf0.tr hrf1)).t))
    · refine xX6_read_47 ?_
      refine xX6_read_48 (Or.inl rfl) rfl rfl ?_
      have e9 := tx_key (k := k) c44
      rw [e9] at hR
      obtain ⟨b, t, n, r9, rfl⟩ := hG.cs
      exact k0 _ b hR.symm ((congrFun (up_row (by omega)) 1).trans hG.2.1.1) (hf.tr ⟨fun a _ _ p => up_row p, by rw [up_row (by omega)]⟩)
theorem s_X6_read {d : Nat} {sc : Nat × (Nat → Int32)} {T : List (Nat × Nat)} {rf : Nat → Nat → Option Nat} {g : Nat → Nat → Int32} {tp : List Int32} {F : Int32 → AH → Prop} (hX : XS T rf) (ht : XP_ g tp) (hB : TB tp) (k1 : ∀ g2 css, txX 3 0 (TKS tp 0) = Sum.inr css → GT g2 css → RFt g g2 → F 1 (T, rf, g2)) (k0 : ∀ g2 b, txX 3 0 (TKS tp 0) = Sum.inl b → g2 35 1 = nI b → RFt g g2 → F 0 (T, rf, g2)) : Mok (d + 65) 0 0 sc kX6_read [.ref 35] (T, rf, g) (Qi F) := by
  refine Mok.ofWp (L := [some (.ref 35), none]) rfl rfl rfl ?_
  refine xX6_read_0 ?_
  refine xX6_read_1 ?_
  refine xX6_read_2 (hX.1 _ _ rfl) ?_
  refine xX6_read_5 ?_
  refine xX6_read_6 ?_
  refine xX6_read_7 (hX.1 _ _ rfl) ?_
  refine xX6_read_10 ?_
  refine xX6_read_11 ?_
  refine xX6_read_12 (hX.1 _ _ rfl) ?_
  refine xX6_read_15 ?_
  have hz : ∀ k, k ≠ 5 → k ≠ 9 → k ≠ 8 → up (up (up g 35 5 0) 35 9 0) 35 8 0 35 k = g 35 k := fun k p q r => by rw [up_ne (fun z => r z.2), up_ne (fun z => q z.2), up_ne (fun z => p z.2)]
  have hzr : ∀ a, a ≠ 35 → up (up (up g 35 5 0) 35 9 0) 35 8 0 a = g a := fun a p => by rw [up_row p, up_row p, up_row p]
  have ht2 : XP_ (up (up (up g 35 5 0) 35 9 0) 35 8 0) tp := ⟨(hz 0 (by omega) (by omega) (by omega)).trans ht.1, ht.2.1, by rw [hzr 36 (by omega)]; exact ht.2.2⟩
  refine xX6_read_16 (hX.1 _ _ rfl) rfl rfl rfl (s_X6_advance hX ht2 hB (p := 0) (up_same _ _ _ _) (Nat.zero_le _) (fun g0 ha0 hrt0 => ?_))
  refine xX6_read_19 ?_
  refine xX6_read_20 rfl ?_
  have hG : RG g0 tp (TKS tp 0) [] 0 := ⟨ht2.ra ha0, hrt0, (ha0.2 5 (by omega) (by omega) (by omega) (by omega)).trans ((up_ne (by omega)).trans ((up_ne (by omega)).trans (up_same _ _ _ _))), fun i v hv => by simp at hv, (ha0.2 9 (by omega) (by omega) (by omega) (by omega)).trans ((up_ne (by omega)).trans (up_same _ _ _ _)), toks_ok _ _, TKS_len⟩
  exact lp_X6_read (gs := g) hX hB k1 k0 3 0 _ _ _ [] (by omega) rfl rfl hG (by have := ht.2.1; have h9 := hG.2.2.2.2.2.2; simp; omega) (fun c hc => by cases hc) (fun i hi => absurd hi (Nat.not_lt_zero i)) (by cases txX 3 0 (TKS tp 0) <;> rfl) ⟨fun a p _ _ => (ha0.1 a p).trans (hzr a p), (ha0.2 0 (by omega) (by omega) (by omega) (by omega)).trans (hz 0 (by omega) (by omega) (by omega))⟩
