/-- the reference's reader: at, begun, token, value may change -/
def MN (g g' : Nat → Nat → Int32) : Prop := (∀ a, a ≠ 53 → g' a = g a) ∧ ∀ k, (k < 28 ∨ 31 < k) → g' 53 k = g 53 k
theorem MN.rf {g : Nat → Nat → Int32} : MN g g := ⟨fun _ _ => rfl, fun _ _ => rfl⟩
theorem MN.tr {g1 g2 g3 : Nat → Nat → Int32} (h1 : MN g1 g2) (h2 : MN g2 g3) : MN g1 g3 := ⟨fun a p => (h2.1 a p).trans (h1.1 a p), fun k p => (h2.2 k p).trans (h1.2 k p)⟩
theorem MN.u {g : Nat → Nat → Int32} {k : Nat} {v : Int32} (h : 28 ≤ k ∧ k ≤ 31) : MN g (up g 53 k v) := ⟨fun _ p => up_row p, fun _ _ => up_ne (by omega)⟩
theorem MTp.mn {g g' : Nat → Nat → Int32} {tp : List Int32} (h : MTp g tp) (hf : MN g g') : MTp g' tp := ⟨(hf.2 12 (by omega)).trans h.1, h.2.1, fun i v hv => by rw [hf.1 61 (by omega)]; exact h.2.2 i v hv⟩
theorem WR.mn {g g' : Nat → Nat → Int32} (h : WR g) (hf : MN g g') : WR g' := fun k hk c hc => by rw [hf.1 69 (by omega)]; exact h k hk c hc
theorem runL_by {tp : List Int32} {lo hi : Int32} : ∀ (l : List Int32) (b : Nat), tp.drop b = l → ∀ c, c < runL lo hi l → lo ≤ byX tp (b + c) ∧ byX tp (b + c) ≤ hi := by
  intro l
  induction l with
  | nil => intro b _ c h; exact absurd h (Nat.not_lt_zero c)
  | cons x l ih =>
    intro b hb c h
    obtain ⟨-, h2, h3⟩ := drop_c hb
    by_cases q : lo ≤ x ∧ x ≤ hi
    · have e : runL lo hi (x :: l) = runL lo hi l + 1 := if_pos q
      cases c with
      | zero => rw [Nat.add_zero, h2]; exact q
      | succ c =>
        have := ih (b + 1) h3 c (by omega)
        rw [show b + (c + 1) = b + 1 + c by omega]
        exact this
    · have e : runL lo hi (x :: l) = 0 := if_neg q
      omega
/-- the reference has read up to this token -/
def RTm (g : Nat → Nat → Int32) (tp : List Int32) : List Tok → Prop
  | [] => False
  | q :: r => g 53 29 = nI q.1 ∧ g 53 30 = mtk q.2.1 ∧ (q.2.1 = 2 → g 53 31 = q.2.2) ∧ (106 ≤ q.2.1 → g 53 31 = q.2.1 - 106) ∧ (100 ≤ q.2.1 ∧ q.2.1 ≤ 102 → g 53 31 = q.2.1 - 100) ∧ q.1 ≤ tp.length ∧ (q.2.1 ≠ 0 → ∃ p, p ≤ tp.length ∧ g 53 28 = nI p ∧ r = TKS tp p) ∧ (q.2.1 = 0 → r = [])
theorem mw_t : ∀ k, k < 13 → mwt k = if 3 ≤ nI k then (if 9 ≤ nI k then (if nI k = 12 then -1 else 4 + nI k - 9) else 2) else 3 := by decide +kernel
theorem mw_v : ∀ k, k < 13 → mwv k = if 3 ≤ nI k then nI k - 3 else nI k := by decide +kernel
theorem mtk_sg (c : Int32) : isSg c → mtk (sgX c) = c := by
  rintro (h | h | h | h | h | h | h | h) <;> subst h <;> decide
theorem mtk_sn (c : Int32) (h : ¬ isSg c) : mtk (sgX c) = -1 := by
  have e : sgX c = 1 := by
    unfold sgX
    rw [if_neg (fun z => h (Or.inl z)), if_neg (fun z => h (Or.inr (Or.inl z))), if_neg (fun z => h (Or.inr (Or.inr (Or.inl z)))), if_neg (fun z => h (Or.inr (Or.inr (Or.inr (Or.inl z))))), if_neg (fun z => h (Or.inr (Or.inr (Or.inr (Or.inr (Or.inl z)))))), if_neg (fun z => h (Or.inr (Or.inr (Or.inr (Or.inr (Or.inr (Or.inl z))))))), if_neg (fun z => h (Or.inr (Or.inr (Or.inr (Or.inr (Or.inr (Or.inr (Or.inl z)))))))), if_neg (fun z => h (Or.inr (Or.inr (Or.inr (Or.inr (Or.inr (Or.inr (Or.inr z)))))))) ]
  rw [e]; decide
theorem sgX_hi (c : Int32) : sgX c < 62 := by
  unfold sgX
  repeat' split
  all_goals first | decide | (rename_i h; rw [h]; decide) | skip
  all_goals (simp_all)
theorem lp_X12_next {d : Nat} {sc : Nat × (Nat → Int32)} {T : List (Nat × Nat)} {rf : Nat → Nat → Option Nat} {tp : List Int32} {g0 : Nat → Nat → Int32} {E : Nat} {F : AH → Prop} (hM : MS T rf) (hE9 : E ≤ tp.length) (hQ : ∀ g2, MN g0 g2 → g2 53 28 = nI E → Wp (d + 2) 0 0 sc kX12_next (Qv F) 52 [some (.ref 53), none, none] [] (T, rf, g2) 0 0) : ∀ (l : List Int32) (i : Nat) (g : Nat → Nat → Int32), (MTp g tp) → (MN g0 g) → (g 53 28 = nI i) → (tp.drop i = l) → (i ≤ tp.length) → (i + skpL l = E) → Wp (d + 2) 0 0 sc kX12_next (Qv F) 0 [some (.ref 53), none, none] [] (T, rf, g) 0 0 := by
  intro l
  induction l with
  | nil =>
    intro i g ht hf hb hl2 hi9 hE
    have hl := ht.2.1
    have e0 := ht.1
    have hn := drop_n hl2
    have e : i = E := hE
    subst e
    refine xX12_next_0 ?_
    refine xX12_next_1 (hM.1 _ _ rfl) ?_
    refine xX12_next_4 ?_
    refine xX12_next_5 (hM.1 _ _ rfl) ?_
    rw [hb, e0]
    refine xX12_next_8_t (nI_le hn (by omega)) ?_
    exact hQ _ hf hb
  | cons c l ih =>
    intro i g ht hf hb hl2 hi9 hE
    have hl := ht.2.1
    have e0 := ht.1
    obtain ⟨hi, hby, hl3⟩ := drop_c hl2
    refine xX12_next_0 ?_
    refine xX12_next_1 (hM.1 _ _ rfl) ?_
    refine xX12_next_4 ?_
    refine xX12_next_5 (hM.1 _ _ rfl) ?_
    rw [hb, e0]
    refine xX12_next_8_f (Int32.not_le.mpr (nI_lt hi (by omega))) ?_
    refine xX12_next_11 ?_
    refine xX12_next_12 (hM.1 _ _ rfl) (hM.2 _ _ _ rfl) ?_
    refine xX12_next_15 ?_
    refine xX12_next_16 (hM.1 _ _ rfl) ?_
    refine xX12_next_19 (j := i) (hM.1 _ _ rfl) hb (by omega) rfl ?_
    refine xX12_next_20 ?_
    rw [ht.by hi, hby]
    refine xX12_next_22 (fun c22 => ?_) (fun c22 => ?_)
    · refine xX12_next_39 ?_
      refine xX12_next_40 rfl ?_
      refine xX12_next_41 (hM.1 _ _ rfl) ?_
      refine xX12_next_44 ?_
      refine xX12_next_45 ?_
      rw [hb, show nI i + 1 = nI (i + 1) from nI_1 i]
      refine xX12_next_46 (hM.1 _ _ rfl) ?_
      refine xX12_next_49 ?_
      have hs : skpL (c :: l) = skpL l + 1 := if_pos (by first | exact Or.inl c22 | exact Or.inr c36)
      exact ih (i + 1) _ (ht.mn (MN.u (by omega))) (hf.tr (MN.u (by omega))) (up_same _ _ _ _) hl3 (by omega) (by rw [← hE, hs]; omega)
    · refine xX12_next_25 ?_
      refine xX12_next_26 (hM.1 _ _ rfl) (hM.2 _ _ _ rfl) ?_
      refine xX12_next_29 ?_
      refine xX12_next_30 (hM.1 _ _ rfl) ?_
      refine xX12_next_33 (j := i) (hM.1 _ _ rfl) hb (by omega) rfl ?_
      refine xX12_next_34 ?_
      rw [ht.by hi, hby]
      refine xX12_next_36 (fun c36 => ?_) (fun c36 => ?_)
      · have hs : skpL (c :: l) = 0 := if_neg (fun z => z.elim c22 c36)
        have e : i = E := by rw [← hE, hs]; rfl
        subst e
        exact hQ _ hf hb
      · refine xX12_next_39 ?_
        refine xX12_next_40 rfl ?_
        refine xX12_next_41 (hM.1 _ _ rfl) ?_
        refine xX12_next_44 ?_
        refine xX12_next_45 ?_
        rw [hb, show nI i + 1 = nI (i + 1) from nI_1 i]
        refine xX12_next_46 (hM.1 _ _ rfl) ?_
        refine xX12_next_49 ?_
        have hs : skpL (c :: l) = skpL l + 1 := if_pos (by first | exact Or.inl c22 | exact Or.inr c36)
        exact ih (i + 1) _ (ht.mn (MN.u (by omega))) (hf.tr (MN.u (by omega))) (up_same _ _ _ _) hl3 (by omega) (by rw [← hE, hs]; omega)
theorem lp_X12_next2 {d : Nat} {sc : Nat × (Nat → Int32)} {T : List (Nat × Nat)} {rf : Nat → Nat → Option Nat} {tp : List Int32} {g0 : Nat → Nat → Int32} {B x1 : Int32} {e : Nat} {F : AH → Prop} (hM : MS T rf) (he : e ≤ tp.length) (hQ : ∀ g2, MN g0 g2 → g2 53 28 = nI e → g2 53 29 = B → Wp (d + 2) 0 0 sc kX12_next (Qv F) 146 [some (.ref 53), some (.int x1), none] [] (T, rf, g2) 0 0) : ∀ (l : List Int32) (i : Nat) (g : Nat → Nat → Int32), (MTp g tp) → (MN g0 g) → (g 53 28 = nI i) → (g 53 29 = B) → (tp.drop i = l) → (i ≤ tp.length) → (i + runL 97 122 l = e) → Wp (d + 2) 0 0 sc kX12_next (Qv F) 103 [some (.ref 53), some (.int x1), none] [] (T, rf, g) 0 0 := by
  intro l
  induction l with
  | nil =>
    intro i g ht hf hb hB hl2 hi9 hE
    have hl := ht.2.1
    have e0 := ht.1
    have hn := drop_n hl2
    have e : i = e := hE
    subst e
    refine xX12_next_103 ?_
    refine xX12_next_104 (hM.1 _ _ rfl) ?_
    refine xX12_next_107 ?_
    refine xX12_next_108 (hM.1 _ _ rfl) ?_
    rw [hb, e0]
    refine xX12_next_111_t (nI_le hn (by omega)) ?_
    exact hQ _ hf hb hB
  | cons c l ih =>
    intro i g ht hf hb hB hl2 hi9 hE
    have hl := ht.2.1
    have e0 := ht.1
    obtain ⟨hi, hby, hl3⟩ := drop_c hl2
    refine xX12_next_103 ?_
    refine xX12_next_104 (hM.1 _ _ rfl) ?_
    refine xX12_next_107 ?_
    refine xX12_next_108 (hM.1 _ _ rfl) ?_
    rw [hb, e0]
    refine xX12_next_111_f (Int32.not_le.mpr (nI_lt hi (by omega))) ?_
    refine xX12_next_114 ?_
    refine xX12_next_115 (hM.1 _ _ rfl) (hM.2 _ _ _ rfl) ?_
    refine xX12_next_118 ?_
    refine xX12_next_119 (hM.1 _ _ rfl) ?_
    refine xX12_next_122 (j := i) (hM.1 _ _ rfl) hb (by omega) rfl ?_
    refine xX12_next_123 ?_
    refine xX12_next_125 ?_
    rw [ht.by hi, hby]
    refine xX12_next_127 rfl rfl rfl (s_X12_in  (fun hw0 => ?_) (fun nw0 => ?_))
    · refine xX12_next_130_f (by decide) ?_
      refine xX12_next_133 ?_
      refine xX12_next_134 rfl ?_
      refine xX12_next_135 (hM.1 _ _ rfl) ?_
      refine xX12_next_138 ?_
      refine xX12_next_139 ?_
      rw [hb, show nI i + 1 = nI (i + 1) from nI_1 i]
      refine xX12_next_140 (hM.1 _ _ rfl) ?_
      refine xX12_next_143 ?_
      have hs : runL 97 122 (c :: l) = runL 97 122 l + 1 := if_pos hw0
      exact ih (i + 1) _ (ht.mn (MN.u (by omega))) (hf.tr (MN.u (by omega))) (up_same _ _ _ _) ((up_ne (by omega)).trans hB) hl3 (by omega) (by rw [← hE, hs]; omega)
    · refine xX12_next_130_t (by decide) ?_
      have hs : runL 97 122 (c :: l) = 0 := if_neg nw0
      have e : i = e := by rw [← hE, hs]; rfl
      subst e
      exact hQ _ hf hb hB
theorem lp_X12_next3 {d : Nat} {sc : Nat × (Nat → Int32)} {T : List (Nat × Nat)} {rf : Nat → Nat → Option Nat} {tp : List Int32} {g0 : Nat → Nat → Int32} {B N x1 : Int32} {e n : Nat} {F : AH → Prop} (hM : MS T rf) (he : e ≤ tp.length) (hQ : ∀ g2, MN g0 g2 → g2 53 28 = nI e → g2 53 29 = B → (¬ 4 < n → g2 53 31 = N) → Wp (d + 2) 0 0 sc kX12_next (Qv F) 309 [some (.ref 53), some (.int x1), some (.int (nI n))] [] (T, rf, g2) 0 0) : ∀ (l : List Int32) (x2 : Int32) (i j : Nat) (g : Nat → Nat → Int32), (x2 = nI j) → (MTp g tp) → (MN g0 g) → (g 53 28 = nI i) → (g 53 29 = B) → (tp.drop i = l) → (i ≤ tp.length) → (i + runL 48 57 l = e) → (j + runL 48 57 l = n) → (j ≤ i) → (¬ 4 < n → numX (l.take (runL 48 57 l)) (g 53 31) = N) → Wp (d + 2) 0 0 sc kX12_next (Qv F) 230 [some (.ref 53), some (.int x1), some (.int x2)] [] (T, rf, g) 0 0 := by
  intro l
  induction l with
  | nil =>
    intro x2 i j g hx2 ht hf hb hB hl2 hi9 hE hj hj9 hN
    subst hx2
    have hl := ht.2.1
    have e0 := ht.1
    have hn := drop_n hl2
    have e : i = e := hE
    subst e
    have ej : j = n := hj
    subst ej
    refine xX12_next_230 ?_
    refine xX12_next_231 (hM.1 _ _ rfl) ?_
    refine xX12_next_234 ?_
    refine xX12_next_235 (hM.1 _ _ rfl) ?_
    rw [hb, e0]
    refine xX12_next_238_t (nI_le hn (by omega)) ?_
    exact hQ _ hf hb hB hN
  | cons c l ih =>
    intro x2 i j g hx2 ht hf hb hB hl2 hi9 hE hj hj9 hN
    subst hx2
    have hl := ht.2.1
    have e0 := ht.1
    obtain ⟨hi, hby, hl3⟩ := drop_c hl2
    refine xX12_next_230 ?_
    refine xX12_next_231 (hM.1 _ _ rfl) ?_
    refine xX12_next_234 ?_
    refine xX12_next_235 (hM.1 _ _ rfl) ?_
    rw [hb, e0]
    refine xX12_next_238_f (Int32.not_le.mpr (nI_lt hi (by omega))) ?_
    refine xX12_next_241 ?_
    refine xX12_next_242 (hM.1 _ _ rfl) (hM.2 _ _ _ rfl) ?_
    refine xX12_next_245 ?_
    refine xX12_next_246 (hM.1 _ _ rfl) ?_
    refine xX12_next_249 (j := i) (hM.1 _ _ rfl) hb (by omega) rfl ?_
    refine xX12_next_250 ?_
    refine xX12_next_252 ?_
    rw [ht.by hi, hby]
    refine xX12_next_254 rfl rfl rfl (s_X12_in  (fun hw0 => ?_) (fun nw0 => ?_))
    · refine xX12_next_257_f (by decide) ?_
      refine xX12_next_260 ?_
      refine xX12_next_261 ?_
      refine xX12_next_262 ?_
      refine xX12_next_263 (fun c263 => ?_) (fun c263 => ?_)
      · have j4 : 4 ≤ j := Nat.le_of_not_lt (fun z => absurd c263 (Int32.not_le.mpr (nI_lt (b := 4) z (by omega))))
        refine xX12_next_289 ?_
        refine xX12_next_290 (hM.1 _ _ rfl) ?_
        refine xX12_next_293 rfl rfl ?_
        refine xX12_next_296 ?_
        refine xX12_next_297 rfl ?_
        refine xX12_next_298 (hM.1 _ _ rfl) ?_
        refine xX12_next_301 ?_
        refine xX12_next_302 ?_
        rw [show (up g 53 31 _) 53 28 = nI i from (up_ne (by omega)).trans hb, show nI i + 1 = nI (i + 1) from nI_1 i]
        refine xX12_next_303 (hM.1 _ _ rfl) ?_
        refine xX12_next_306 ?_
        have hs : runL 48 57 (c :: l) = runL 48 57 l + 1 := if_pos hw0
        exact ih _ (i + 1) (j + 1) _ (nI_1 j) (ht.mn ((MN.u (by omega)).tr (MN.u (by omega)))) (hf.tr ((MN.u (by omega)).tr (MN.u (by omega)))) (up_same _ _ _ _) ((up_ne (by omega)).trans ((up_ne (by omega)).trans hB)) hl3 (by omega) (by rw [← hE, hs]; omega) (by rw [← hj, hs]; omega) (by omega) (fun z => by
          first
            | exact absurd z (by omega)
            | (rw [up_ne (by omega), up_same, ← hN z, hs]; rfl))
      · have j4 : ¬ 4 ≤ j := fun z => c263 (nI_le (a := 4) z (by omega))
        refine xX12_next_266 ?_
        refine xX12_next_268 ?_
        refine xX12_next_269 (hM.1 _ _ rfl) ?_
        refine xX12_next_272 ?_
        refine xX12_next_273 ?_
        refine xX12_next_274 (hM.1 _ _ rfl) (hM.2 _ _ _ rfl) ?_
        refine xX12_next_277 ?_
        refine xX12_next_278 (hM.1 _ _ rfl) ?_
        refine xX12_next_281 (j := i) (hM.1 _ _ rfl) hb (by omega) rfl ?_
        rw [ht.by hi, hby]
        refine xX12_next_282 ?_
        refine xX12_next_283 ?_
        refine xX12_next_285 ?_
        refine xX12_next_286 ?_
        refine xX12_next_290 (hM.1 _ _ rfl) ?_
        refine xX12_next_293 rfl rfl ?_
        refine xX12_next_296 ?_
        refine xX12_next_297 rfl ?_
        refine xX12_next_298 (hM.1 _ _ rfl) ?_
        refine xX12_next_301 ?_
        refine xX12_next_302 ?_
        rw [show (up g 53 31 _) 53 28 = nI i from (up_ne (by omega)).trans hb, show nI i + 1 = nI (i + 1) from nI_1 i]
        refine xX12_next_303 (hM.1 _ _ rfl) ?_
        refine xX12_next_306 ?_
        have hs : runL 48 57 (c :: l) = runL 48 57 l + 1 := if_pos hw0
        exact ih _ (i + 1) (j + 1) _ (nI_1 j) (ht.mn ((MN.u (by omega)).tr (MN.u (by omega)))) (hf.tr ((MN.u (by omega)).tr (MN.u (by omega)))) (up_same _ _ _ _) ((up_ne (by omega)).trans ((up_ne (by omega)).trans hB)) hl3 (by omega) (by rw [← hE, hs]; omega) (by rw [← hj, hs]; omega) (by omega) (fun z => by
          first
            | exact absurd z (by omega)
            | (rw [up_ne (by omega), up_same, ← hN z, hs]; rfl))
    · refine xX12_next_257_t (by decide) ?_
      have hs : runL 48 57 (c :: l) = 0 := if_neg nw0
      have e : i = e := by rw [← hE, hs]; rfl
      subst e
      have ej : j = n := by rw [← hj, hs]; rfl
      subst ej
      exact hQ _ hf hb hB (fun z => by have := hN z; rw [hs] at this; exact this)
theorem s_X12_next {d : Nat} {sc : Nat × (Nat → Int32)} {T : List (Nat × Nat)} {rf : Nat → Nat → Option Nat} {g : Nat → Nat → Int32} {tp : List Int32} {p : Nat} {F : AH → Prop} (hM : MS T rf) (hW : WR g) (ht : MTp g tp) (hp : g 53 28 = nI p) (hp9 : p ≤ tp.length) (hQ : ∀ g2, MN g g2 → RTm g2 tp (TKS tp p) → F (T, rf, g2)) : Mok (d + 2) 0 0 sc kX12_next [.ref 53] (T, rf, g) (Qv F) := by
  have hl := ht.2.1
  have hs := skpL_le (tp.drop p)
  rw [List.length_drop] at hs
  refine Mok.ofWp (L := [some (.ref 53), none, none]) rfl rfl rfl ?_
  obtain ⟨E, hE⟩ : ∃ E, E = p + skpL (tp.drop p) := ⟨_, rfl⟩
  have hEl : E ≤ tp.length := by omega
  refine lp_X12_next (g0 := g) hM hEl (fun g9 hf9 hb9 => ?_) (tp.drop p) p _ ht MN.rf hp rfl hp9 hE.symm
  cases hdr : tp.drop E with
  | nil =>
    have hn := drop_n hdr
    refine xX12_next_52 ?_
    refine xX12_next_53 ?_
    refine xX12_next_54 (hM.1 _ _ rfl) ?_
    rw [hb9]
    refine xX12_next_57 (hM.1 _ _ rfl) ?_
    refine xX12_next_60 ?_
    refine xX12_next_61 ?_
    refine xX12_next_62 (hM.1 _ _ rfl) ?_
    refine xX12_next_65 ?_
    refine xX12_next_66 ?_
    refine xX12_next_67 (hM.1 _ _ rfl) ?_
    refine xX12_next_70 ?_
    refine xX12_next_71 (hM.1 _ _ rfl) ?_
    refine xX12_next_74 ?_
    refine xX12_next_75 (hM.1 _ _ rfl) ?_
    rw [show up (up (up g9 53 29 (nI E)) 53 30 0) 53 31 0 53 28 = nI E from by rw [up_ne (by omega), up_ne (by omega), up_ne (by omega)]; exact hb9, show up (up (up g9 53 29 (nI E)) 53 30 0) 53 31 0 53 12 = nI tp.length from by rw [up_ne (by omega), up_ne (by omega), up_ne (by omega)]; exact (ht.mn hf9).1]
    refine xX12_next_78_f (show nI E = nI tp.length by rw [show E = tp.length by omega]) ?_
    refine xX12_next_81 rfl rfl ?_
    refine hQ _ (hf9.tr (((MN.u (by omega)).tr (MN.u (by omega))).tr (MN.u (by omega)))) ?_
    rw [TKS_eq hp9, ← hE, hdr]
    exact ⟨by rw [up_ne (by omega), up_ne (by omega), up_same], by rw [up_ne (by omega), up_same]; rfl, fun z => absurd (show (0 : Int32) = 2 from z) (by decide), fun z => absurd (show (106 : Int32) ≤ 0 from z) (by decide), fun z => absurd (show (100 : Int32) ≤ 0 from z.1) (by decide), hEl, fun z => absurd rfl z, fun _ => if_pos rfl⟩
  | cons c l =>
    obtain ⟨hi, hby, hl3⟩ := drop_c hdr
    refine xX12_next_52 ?_
    refine xX12_next_53 ?_
    refine xX12_next_54 (hM.1 _ _ rfl) ?_
    rw [hb9]
    refine xX12_next_57 (hM.1 _ _ rfl) ?_
    refine xX12_next_60 ?_
    refine xX12_next_61 ?_
    refine xX12_next_62 (hM.1 _ _ rfl) ?_
    refine xX12_next_65 ?_
    refine xX12_next_66 ?_
    refine xX12_next_67 (hM.1 _ _ rfl) ?_
    refine xX12_next_70 ?_
    refine xX12_next_71 (hM.1 _ _ rfl) ?_
    refine xX12_next_74 ?_
    refine xX12_next_75 (hM.1 _ _ rfl) ?_
    rw [show up (up (up g9 53 29 (nI E)) 53 30 0) 53 31 0 53 28 = nI E from by rw [up_ne (by omega), up_ne (by omega), up_ne (by omega)]; exact hb9, show up (up (up g9 53 29 (nI E)) 53 30 0) 53 31 0 53 12 = nI tp.length from by rw [up_ne (by omega), up_ne (by omega), up_ne (by omega)]; exact (ht.mn hf9).1]
    refine xX12_next_78_t (fun z => absurd (nIinj (by omega) (by omega) z) (by omega)) ?_
    obtain ⟨gA, hgA⟩ : ∃ gA, gA = up (up (up g9 53 29 (nI E)) 53 30 0) 53 31 0 := ⟨_, rfl⟩
    rw [← hgA]
    have hmA : MN g9 gA := by rw [hgA]; exact ((MN.u (by omega)).tr (MN.u (by omega))).tr (MN.u (by omega))
    have hfA : MN g gA := hf9.tr hmA
    have hbA : gA 53 28 = nI E := by rw [hgA, up_ne (by omega), up_ne (by omega), up_ne (by omega)]; exact hb9
    have hBA : gA 53 29 = nI E := by rw [hgA, up_ne (by omega), up_ne (by omega), up_same]
    have h31 : gA 53 31 = 0 := by rw [hgA, up_same]
    have htA := ht.mn hfA
    have e0 := htA.1
    refine xX12_next_82 ?_
    refine xX12_next_83 (hM.1 _ _ rfl) (hM.2 _ _ _ rfl) ?_
    refine xX12_next_86 ?_
    refine xX12_next_87 (hM.1 _ _ rfl) ?_
    refine xX12_next_90 (j := E) (hM.1 _ _ rfl) hbA (by omega) rfl ?_
    rw [htA.by hi, hby]
    refine xX12_next_91 rfl ?_
    refine xX12_next_92 ?_
    refine xX12_next_93 ?_
    refine xX12_next_95 ?_
    refine xX12_next_97 rfl rfl rfl (s_X12_in  (fun hw0 => ?_) (fun nw0 => ?_))
    · refine xX12_next_100_f (by decide) ?_
      have hw := hw0
      refine lp_X12_next2 (g0 := gA) (e := E + runL 97 122 (c :: l)) hM (by
        have hdl : (tp.drop E).length = (c :: l).length := by rw [hdr]
        have hrl := runL_le 97 122 (c :: l)
        rw [List.length_drop] at hdl
        omega) (fun g4 hf4' hb4 hB4 => ?_) (c :: l) E gA htA MN.rf hbA hBA hdr hEl rfl
      have hf4 : MN gA g4 := hf4'
      refine xX12_next_146 ?_
      refine xX12_next_147 ?_
      refine xX12_next_148 (hM.1 _ _ rfl) ?_
      refine xX12_next_151 ?_
      refine xX12_next_152 (hM.1 _ _ rfl) ?_
      rw [hB4, hb4]
      have hlt9 : ∀ y, y < E + runL 97 122 (c :: l) - E → byX tp (E + y) ≠ 32 := fun y hy z => by
        have q := runL_by (lo := 97) (hi := 122) (c :: l) E hdr y (by omega)
        rw [z] at q
        exact absurd q.1 (by decide)
      have hdl : (tp.drop E).length = (c :: l).length := by rw [hdr]
      rw [List.length_drop] at hdl
      have hrl := runL_le 97 122 (c :: l)
      refine xX12_next_155 (hM.1 _ _ rfl) rfl rfl rfl (s_X12_wordFrom hM (hW.mn (hfA.tr hf4)) (htA.mn hf4) (Nat.le_add_right _ _) (by omega) hlt9 ?_)
      refine xX12_next_158 rfl ?_
      refine xX12_next_159 ?_
      refine xX12_next_160 ?_
      refine xX12_next_161 ?_
      refine xX12_next_162 (fun c162 => ?_) (fun c162 => ?_)
      · refine xX12_next_169 ?_
        refine xX12_next_170 ?_
        refine xX12_next_172 (fun c172 => ?_) (fun c172 => ?_)
        · refine xX12_next_179 ?_
          refine xX12_next_180 ?_
          refine xX12_next_182 (fun c182 => ?_) (fun c182 => ?_)
          · refine xX12_next_189 ?_
            refine xX12_next_190 ?_
            refine xX12_next_191 ?_
            refine xX12_next_192 ?_
            refine xX12_next_194 ?_
            refine xX12_next_195 (hM.1 _ _ rfl) ?_
            refine xX12_next_198 ?_
            refine xX12_next_199 ?_
            refine xX12_next_200 ?_
            refine xX12_next_201 (fun c201 => ?_) (fun c201 => ?_)
            · refine xX12_next_208 ?_
              refine xX12_next_209 ?_
              refine xX12_next_210 ?_
              refine xX12_next_211 (hM.1 _ _ rfl) ?_
              refine xX12_next_214 ?_
              refine xX12_next_403 rfl rfl ?_
              obtain ⟨wk, w1, w2, w3⟩ := wm_all ((tp.drop E).take (E + runL 97 122 (c :: l) - E))
              have ew : (tp.drop E).take (E + runL 97 122 (c :: l) - E) = (c :: l).take (runL 97 122 (c :: l)) := by rw [hdr]; congr 1; omega
              refine hQ _ ((hfA.tr hf4).tr ((MN.u (by omega)).tr (MN.u (by omega)))) ?_
              have eT := TKS_eq hp9
              rw [← hE, hdr] at eT
              rw [eT]
              have e : tkX (c :: l) = tkW (c :: l) := (tkX_c c l).trans (if_pos hw)
              rw [e]
              rw [ew] at w1 w2 w3
              refine ⟨(up_ne (by omega)).trans ((up_ne (by omega)).trans hB4), ?_, fun z => absurd z (wdX_2 _), fun z => ?_, fun z => ?_, hEl, fun _ => ⟨E + runL 97 122 (c :: l), by omega, (up_ne (by omega)).trans ((up_ne (by omega)).trans hb4), if_neg (wdX_ne _)⟩, fun z => absurd z (wdX_ne _)⟩
              · refine Eq.trans ?_ w1
                rw [up_ne (by omega), up_same, mw_t _ (by rw [← ew]; omega), ← ew]
                first
                  | rw [if_neg c162]
                  | rw [if_pos c162, if_neg c172]
                  | rw [if_pos c162, if_pos c172, if_pos c182]
                  | rw [if_pos c162, if_pos c172, if_neg c182]
              · refine Eq.trans ?_ (w2 z)
                rw [up_same, mw_v _ (by rw [← ew]; omega), ← ew]
                first
                  | rw [if_neg c201]
                  | rw [if_pos c201]
              · refine Eq.trans ?_ (w3 z)
                rw [up_same, mw_v _ (by rw [← ew]; omega), ← ew]
                first
                  | rw [if_neg c201]
                  | rw [if_pos c201]
            · refine xX12_next_204 ?_
              refine xX12_next_205 ?_
              refine xX12_next_211 (hM.1 _ _ rfl) ?_
              refine xX12_next_214 ?_
              refine xX12_next_403 rfl rfl ?_
              obtain ⟨wk, w1, w2, w3⟩ := wm_all ((tp.drop E).take (E + runL 97 122 (c :: l) - E))
              have ew : (tp.drop E).take (E + runL 97 122 (c :: l) - E) = (c :: l).take (runL 97 122 (c :: l)) := by rw [hdr]; congr 1; omega
              refine hQ _ ((hfA.tr hf4).tr ((MN.u (by omega)).tr (MN.u (by omega)))) ?_
              have eT := TKS_eq hp9
              rw [← hE, hdr] at eT
              rw [eT]
              have e : tkX (c :: l) = tkW (c :: l) := (tkX_c c l).trans (if_pos hw)
              rw [e]
              rw [ew] at w1 w2 w3
              refine ⟨(up_ne (by omega)).trans ((up_ne (by omega)).trans hB4), ?_, fun z => absurd z (wdX_2 _), fun z => ?_, fun z => ?_, hEl, fun _ => ⟨E + runL 97 122 (c :: l), by omega, (up_ne (by omega)).trans ((up_ne (by omega)).trans hb4), if_neg (wdX_ne _)⟩, fun z => absurd z (wdX_ne _)⟩
              · refine Eq.trans ?_ w1
                rw [up_ne (by omega), up_same, mw_t _ (by rw [← ew]; omega), ← ew]
                first
                  | rw [if_neg c162]
                  | rw [if_pos c162, if_neg c172]
                  | rw [if_pos c162, if_pos c172, if_pos c182]
                  | rw [if_pos c162, if_pos c172, if_neg c182]
              · refine Eq.trans ?_ (w2 z)
                rw [up_same, mw_v _ (by rw [← ew]; omega), ← ew]
                first
                  | rw [if_neg c201]
                  | rw [if_pos c201]
              · refine Eq.trans ?_ (w3 z)
                rw [up_same, mw_v _ (by rw [← ew]; omega), ← ew]
                first
                  | rw [if_neg c201]
                  | rw [if_pos c201]
          · refine xX12_next_185 ?_
            refine xX12_next_186 ?_
            refine xX12_next_195 (hM.1 _ _ rfl) ?_
            refine xX12_next_198 ?_
            refine xX12_next_199 ?_
            refine xX12_next_200 ?_
            refine xX12_next_201 (fun c201 => ?_) (fun c201 => ?_)
            · refine xX12_next_208 ?_
              refine xX12_next_209 ?_
              refine xX12_next_210 ?_
              refine xX12_next_211 (hM.1 _ _ rfl) ?_
              refine xX12_next_214 ?_
              refine xX12_next_403 rfl rfl ?_
              obtain ⟨wk, w1, w2, w3⟩ := wm_all ((tp.drop E).take (E + runL 97 122 (c :: l) - E))
              have ew : (tp.drop E).take (E + runL 97 122 (c :: l) - E) = (c :: l).take (runL 97 122 (c :: l)) := by rw [hdr]; congr 1; omega
              refine hQ _ ((hfA.tr hf4).tr ((MN.u (by omega)).tr (MN.u (by omega)))) ?_
              have eT := TKS_eq hp9
              rw [← hE, hdr] at eT
              rw [eT]
              have e : tkX (c :: l) = tkW (c :: l) := (tkX_c c l).trans (if_pos hw)
              rw [e]
              rw [ew] at w1 w2 w3
              refine ⟨(up_ne (by omega)).trans ((up_ne (by omega)).trans hB4), ?_, fun z => absurd z (wdX_2 _), fun z => ?_, fun z => ?_, hEl, fun _ => ⟨E + runL 97 122 (c :: l), by omega, (up_ne (by omega)).trans ((up_ne (by omega)).trans hb4), if_neg (wdX_ne _)⟩, fun z => absurd z (wdX_ne _)⟩
              · refine Eq.trans ?_ w1
                rw [up_ne (by omega), up_same, mw_t _ (by rw [← ew]; omega), ← ew]
                first
                  | rw [if_neg c162]
                  | rw [if_pos c162, if_neg c172]
                  | rw [if_pos c162, if_pos c172, if_pos c182]
                  | rw [if_pos c162, if_pos c172, if_neg c182]
              · refine Eq.trans ?_ (w2 z)
                rw [up_same, mw_v _ (by rw [← ew]; omega), ← ew]
                first
                  | rw [if_neg c201]
                  | rw [if_pos c201]
              · refine Eq.trans ?_ (w3 z)
                rw [up_same, mw_v _ (by rw [← ew]; omega), ← ew]
                first
                  | rw [if_neg c201]
                  | rw [if_pos c201]
            · refine xX12_next_204 ?_
              refine xX12_next_205 ?_
              refine xX12_next_211 (hM.1 _ _ rfl) ?_
              refine xX12_next_214 ?_
              refine xX12_next_403 rfl rfl ?_
              obtain ⟨wk, w1, w2, w3⟩ := wm_all ((tp.drop E).take (E + runL 97 122 (c :: l) - E))
              have ew : (tp.drop E).take (E + runL 97 122 (c :: l) - E) = (c :: l).take (runL 97 122 (c :: l)) := by rw [hdr]; congr 1; omega
              refine hQ _ ((hfA.tr hf4).tr ((MN.u (by omega)).tr (MN.u (by omega)))) ?_
              have eT := TKS_eq hp9
              rw [← hE, hdr] at eT
              rw [eT]
              have e : tkX (c :: l) = tkW (c :: l) := (tkX_c c l).trans (if_pos hw)
              rw [e]
              rw [ew] at w1 w2 w3
              refine ⟨(up_ne (by omega)).trans ((up_ne (by omega)).trans hB4), ?_, fun z => absurd z (wdX_2 _), fun z => ?_, fun z => ?_, hEl, fun _ => ⟨E + runL 97 122 (c :: l), by omega, (up_ne (by omega)).trans ((up_ne (by omega)).trans hb4), if_neg (wdX_ne _)⟩, fun z => absurd z (wdX_ne _)⟩
              · refine Eq.trans ?_ w1
                rw [up_ne (by omega), up_same, mw_t _ (by rw [← ew]; omega), ← ew]
                first
                  | rw [if_neg c162]
                  | rw [if_pos c162, if_neg c172]
                  | rw [if_pos c162, if_pos c172, if_pos c182]
                  | rw [if_pos c162, if_pos c172, if_neg c182]
              · refine Eq.trans ?_ (w2 z)
                rw [up_same, mw_v _ (by rw [← ew]; omega), ← ew]
                first
                  | rw [if_neg c201]
                  | rw [if_pos c201]
              · refine Eq.trans ?_ (w3 z)
                rw [up_same, mw_v _ (by rw [← ew]; omega), ← ew]
                first
                  | rw [if_neg c201]
                  | rw [if_pos c201]
        · refine xX12_next_175 ?_
          refine xX12_next_176 ?_
          refine xX12_next_195 (hM.1 _ _ rfl) ?_
          refine xX12_next_198 ?_
          refine xX12_next_199 ?_
          refine xX12_next_200 ?_
          refine xX12_next_201 (fun c201 => ?_) (fun c201 => ?_)
          · refine xX12_next_208 ?_
            refine xX12_next_209 ?_
            refine xX12_next_210 ?_
            refine xX12_next_211 (hM.1 _ _ rfl) ?_
            refine xX12_next_214 ?_
            refine xX12_next_403 rfl rfl ?_
            obtain ⟨wk, w1, w2, w3⟩ := wm_all ((tp.drop E).take (E + runL 97 122 (c :: l) - E))
            have ew : (tp.drop E).take (E + runL 97 122 (c :: l) - E) = (c :: l).take (runL 97 122 (c :: l)) := by rw [hdr]; congr 1; omega
            refine hQ _ ((hfA.tr hf4).tr ((MN.u (by omega)).tr (MN.u (by omega)))) ?_
            have eT := TKS_eq hp9
            rw [← hE, hdr] at eT
            rw [eT]
            have e : tkX (c :: l) = tkW (c :: l) := (tkX_c c l).trans (if_pos hw)
            rw [e]
            rw [ew] at w1 w2 w3
            refine ⟨(up_ne (by omega)).trans ((up_ne (by omega)).trans hB4), ?_, fun z => absurd z (wdX_2 _), fun z => ?_, fun z => ?_, hEl, fun _ => ⟨E + runL 97 122 (c :: l), by omega, (up_ne (by omega)).trans ((up_ne (by omega)).trans hb4), if_neg (wdX_ne _)⟩, fun z => absurd z (wdX_ne _)⟩
            · refine Eq.trans ?_ w1
              rw [up_ne (by omega), up_same, mw_t _ (by rw [← ew]; omega), ← ew]
              first
                | rw [if_neg c162]
                | rw [if_pos c162, if_neg c172]
                | rw [if_pos c162, if_pos c172, if_pos c182]
                | rw [if_pos c162, if_pos c172, if_neg c182]
            · refine Eq.trans ?_ (w2 z)
              rw [up_same, mw_v _ (by rw [← ew]; omega), ← ew]
              first
                | rw [if_neg c201]
                | rw [if_pos c201]
            · refine Eq.trans ?_ (w3 z)
              rw [up_same, mw_v _ (by rw [← ew]; omega), ← ew]
              first
                | rw [if_neg c201]
                | rw [if_pos c201]
          · refine xX12_next_204 ?_
            refine xX12_next_205 ?_
            refine xX12_next_211 (hM.1 _ _ rfl) ?_
            refine xX12_next_214 ?_
            refine xX12_next_403 rfl rfl ?_
            obtain ⟨wk, w1, w2, w3⟩ := wm_all ((tp.drop E).take (E + runL 97 122 (c :: l) - E))
            have ew : (tp.drop E).take (E + runL 97 122 (c :: l) - E) = (c :: l).take (runL 97 122 (c :: l)) := by rw [hdr]; congr 1; omega
            refine hQ _ ((hfA.tr hf4).tr ((MN.u (by omega)).tr (MN.u (by omega)))) ?_
            have eT := TKS_eq hp9
            rw [← hE, hdr] at eT
            rw [eT]
            have e : tkX (c :: l) = tkW (c :: l) := (tkX_c c l).trans (if_pos hw)
            rw [e]
            rw [ew] at w1 w2 w3
            refine ⟨(up_ne (by omega)).trans ((up_ne (by omega)).trans hB4), ?_, fun z => absurd z (wdX_2 _), fun z => ?_, fun z => ?_, hEl, fun _ => ⟨E + runL 97 122 (c :: l), by omega, (up_ne (by omega)).trans ((up_ne (by omega)).trans hb4), if_neg (wdX_ne _)⟩, fun z => absurd z (wdX_ne _)⟩
            · refine Eq.trans ?_ w1
              rw [up_ne (by omega), up_same, mw_t _ (by rw [← ew]; omega), ← ew]
              first
                | rw [if_neg c162]
                | rw [if_pos c162, if_neg c172]
                | rw [if_pos c162, if_pos c172, if_pos c182]
                | rw [if_pos c162, if_pos c172, if_neg c182]
            · refine Eq.trans ?_ (w2 z)
              rw [up_same, mw_v _ (by rw [← ew]; omega), ← ew]
              first
                | rw [if_neg c201]
                | rw [if_pos c201]
            · refine Eq.trans ?_ (w3 z)
              rw [up_same, mw_v _ (by rw [← ew]; omega), ← ew]
              first
                | rw [if_neg c201]
                | rw [if_pos c201]
      · refine xX12_next_165 ?_
        refine xX12_next_166 ?_
        refine xX12_next_195 (hM.1 _ _ rfl) ?_
        refine xX12_next_198 ?_
        refine xX12_next_199 ?_
        refine xX12_next_200 ?_
        refine xX12_next_201 (fun c201 => ?_) (fun c201 => ?_)
        · refine xX12_next_208 ?_
          refine xX12_next_209 ?_
          refine xX12_next_210 ?_
          refine xX12_next_211 (hM.1 _ _ rfl) ?_
          refine xX12_next_214 ?_
          refine xX12_next_403 rfl rfl ?_
          obtain ⟨wk, w1, w2, w3⟩ := wm_all ((tp.drop E).take (E + runL 97 122 (c :: l) - E))
          have ew : (tp.drop E).take (E + runL 97 122 (c :: l) - E) = (c :: l).take (runL 97 122 (c :: l)) := by rw [hdr]; congr 1; omega
          refine hQ _ ((hfA.tr hf4).tr ((MN.u (by omega)).tr (MN.u (by omega)))) ?_
          have eT := TKS_eq hp9
          rw [← hE, hdr] at eT
          rw [eT]
          have e : tkX (c :: l) = tkW (c :: l) := (tkX_c c l).trans (if_pos hw)
          rw [e]
          rw [ew] at w1 w2 w3
          refine ⟨(up_ne (by omega)).trans ((up_ne (by omega)).trans hB4), ?_, fun z => absurd z (wdX_2 _), fun z => ?_, fun z => ?_, hEl, fun _ => ⟨E + runL 97 122 (c :: l), by omega, (up_ne (by omega)).trans ((up_ne (by omega)).trans hb4), if_neg (wdX_ne _)⟩, fun z => absurd z (wdX_ne _)⟩
          · refine Eq.trans ?_ w1
            rw [up_ne (by omega), up_same, mw_t _ (by rw [← ew]; omega), ← ew]
            first
              | rw [if_neg c162]
              | rw [if_pos c162, if_neg c172]
              | rw [if_pos c162, if_pos c172, if_pos c182]
              | rw [if_pos c162, if_pos c172, if_neg c182]
          · refine Eq.trans ?_ (w2 z)
            rw [up_same, mw_v _ (by rw [← ew]; omega), ← ew]
            first
              | rw [if_neg c201]
              | rw [if_pos c201]
          · refine Eq.trans ?_ (w3 z)
            rw [up_same, mw_v _ (by rw [← ew]; omega), ← ew]
            first
              | rw [if_neg c201]
              | rw [if_pos c201]
        · refine xX12_next_204 ?_
          refine xX12_next_205 ?_
          refine xX12_next_211 (hM.1 _ _ rfl) ?_
          refine xX12_next_214 ?_
          refine xX12_next_403 rfl rfl ?_
          obtain ⟨wk, w1, w2, w3⟩ := wm_all ((tp.drop E).take (E + runL 97 122 (c :: l) - E))
          have ew : (tp.drop E).take (E + runL 97 122 (c :: l) - E) = (c :: l).take (runL 97 122 (c :: l)) := by rw [hdr]; congr 1; omega
          refine hQ _ ((hfA.tr hf4).tr ((MN.u (by omega)).tr (MN.u (by omega)))) ?_
          have eT := TKS_eq hp9
          rw [← hE, hdr] at eT
          rw [eT]
          have e : tkX (c :: l) = tkW (c :: l) := (tkX_c c l).trans (if_pos hw)
          rw [e]
          rw [ew] at w1 w2 w3
          refine ⟨(up_ne (by omega)).trans ((up_ne (by omega)).trans hB4), ?_, fun z => absurd z (wdX_2 _), fun z => ?_, fun z => ?_, hEl, fun _ => ⟨E + runL 97 122 (c :: l), by omega, (up_ne (by omega)).trans ((up_ne (by omega)).trans hb4), if_neg (wdX_ne _)⟩, fun z => absurd z (wdX_ne _)⟩
          · refine Eq.trans ?_ w1
            rw [up_ne (by omega), up_same, mw_t _ (by rw [← ew]; omega), ← ew]
            first
              | rw [if_neg c162]
              | rw [if_pos c162, if_neg c172]
              | rw [if_pos c162, if_pos c172, if_pos c182]
              | rw [if_pos c162, if_pos c172, if_neg c182]
          · refine Eq.trans ?_ (w2 z)
            rw [up_same, mw_v _ (by rw [← ew]; omega), ← ew]
            first
              | rw [if_neg c201]
              | rw [if_pos c201]
          · refine Eq.trans ?_ (w3 z)
            rw [up_same, mw_v _ (by rw [← ew]; omega), ← ew]
            first
              | rw [if_neg c201]
              | rw [if_pos c201]
    · refine xX12_next_100_t (by decide) ?_
      refine xX12_next_217 ?_
      refine xX12_next_218 ?_
      refine xX12_next_220 ?_
      refine xX12_next_222 rfl rfl rfl (s_X12_in  (fun hw1 => ?_) (fun nw1 => ?_))
      · refine xX12_next_225_f (by decide) ?_
        refine xX12_next_228 ?_
        refine xX12_next_229 rfl ?_
        have hw := nw0
        have hd := hw1
        refine lp_X12_next3 (g0 := gA) (e := E + runL 48 57 (c :: l)) (n := runL 48 57 (c :: l)) (N := numX ((c :: l).take (runL 48 57 (c :: l))) 0) hM (by
          have hdl : (tp.drop E).length = (c :: l).length := by rw [hdr]
          have hrl := runL_le 48 57 (c :: l)
          rw [List.length_drop] at hdl
          omega) (fun g4 hf4 hb4 hB4 h314 => ?_) (c :: l) _ E 0 gA rfl htA MN.rf hbA hBA hdr hEl rfl (by omega) (by omega) (fun _ => by rw [h31])
        refine xX12_next_309 ?_
        refine xX12_next_310 ?_
        refine xX12_next_311 ?_
        refine xX12_next_312 (fun c312 => ?_) (fun c312 => ?_)
        · refine xX12_next_319 ?_
          refine xX12_next_320 (hM.1 _ _ rfl) ?_
          refine xX12_next_323 ?_
          refine xX12_next_403 rfl rfl ?_
          have hdl : (tp.drop E).length = (c :: l).length := by rw [hdr]
          rw [List.length_drop] at hdl
          have hrl := runL_le 48 57 (c :: l)
          refine hQ _ ((hfA.tr hf4).tr (MN.u (by omega))) ?_
          rw [TKS_eq hp9, ← hE, hdr]
          have e : tkX (c :: l) = tkN (c :: l) := ((tkX_c c l).trans (if_neg hw)).trans (if_pos hd)
          rw [e]
          have h9 : tkN (c :: l) = (if 4 < runL 48 57 (c :: l) then 1 else 2, if 4 < runL 48 57 (c :: l) then 0 else numX ((c :: l).take (runL 48 57 (c :: l))) 0, runL 48 57 (c :: l)) := rfl
          rw [h9]
          by_cases h4 : 4 < runL 48 57 (c :: l)
          · rw [if_pos h4, if_pos h4]
            refine ⟨(up_ne (by omega)).trans hB4, ?_, fun z => absurd (show (1 : Int32) = 2 from z) (by decide), fun z => absurd (show (106 : Int32) ≤ 1 from z) (by decide), fun z => absurd (show (100 : Int32) ≤ 1 from z.1) (by decide), hEl, fun _ => ⟨E + runL 48 57 (c :: l), by omega, (up_ne (by omega)).trans hb4, if_neg (show ¬ (1 : Int32) = 0 by decide)⟩, fun z => absurd (show (1 : Int32) = 0 from z) (by decide)⟩
            first
              | exact absurd c312 (Int32.not_le.mpr (nI_lt (a := 4) h4 (by omega)))
              | exact up_same _ _ _ _
          · rw [if_neg h4, if_neg h4]
            refine ⟨(up_ne (by omega)).trans hB4, ?_, fun _ => (up_ne (by omega)).trans (h314 h4), fun z => absurd (show (106 : Int32) ≤ 2 from z) (by decide), fun z => absurd (show (100 : Int32) ≤ 2 from z.1) (by decide), hEl, fun _ => ⟨E + runL 48 57 (c :: l), by omega, (up_ne (by omega)).trans hb4, if_neg (show ¬ (2 : Int32) = 0 by decide)⟩, fun z => absurd (show (2 : Int32) = 0 from z) (by decide)⟩
            first
              | exact absurd (nI_le (b := 4) (Nat.le_of_not_lt h4) (by omega)) c312
              | exact up_same _ _ _ _
        · refine xX12_next_315 ?_
          refine xX12_next_316 ?_
          refine xX12_next_320 (hM.1 _ _ rfl) ?_
          refine xX12_next_323 ?_
          refine xX12_next_403 rfl rfl ?_
          have hdl : (tp.drop E).length = (c :: l).length := by rw [hdr]
          rw [List.length_drop] at hdl
          have hrl := runL_le 48 57 (c :: l)
          refine hQ _ ((hfA.tr hf4).tr (MN.u (by omega))) ?_
          rw [TKS_eq hp9, ← hE, hdr]
          have e : tkX (c :: l) = tkN (c :: l) := ((tkX_c c l).trans (if_neg hw)).trans (if_pos hd)
          rw [e]
          have h9 : tkN (c :: l) = (if 4 < runL 48 57 (c :: l) then 1 else 2, if 4 < runL 48 57 (c :: l) then 0 else numX ((c :: l).take (runL 48 57 (c :: l))) 0, runL 48 57 (c :: l)) := rfl
          rw [h9]
          by_cases h4 : 4 < runL 48 57 (c :: l)
          · rw [if_pos h4, if_pos h4]
            refine ⟨(up_ne (by omega)).trans hB4, ?_, fun z => absurd (show (1 : Int32) = 2 from z) (by decide), fun z => absurd (show (106 : Int32) ≤ 1 from z) (by decide), fun z => absurd (show (100 : Int32) ≤ 1 from z.1) (by decide), hEl, fun _ => ⟨E + runL 48 57 (c :: l), by omega, (up_ne (by omega)).trans hb4, if_neg (show ¬ (1 : Int32) = 0 by decide)⟩, fun z => absurd (show (1 : Int32) = 0 from z) (by decide)⟩
            first
              | exact absurd c312 (Int32.not_le.mpr (nI_lt (a := 4) h4 (by omega)))
              | exact up_same _ _ _ _
          · rw [if_neg h4, if_neg h4]
            refine ⟨(up_ne (by omega)).trans hB4, ?_, fun _ => (up_ne (by omega)).trans (h314 h4), fun z => absurd (show (106 : Int32) ≤ 2 from z) (by decide), fun z => absurd (show (100 : Int32) ≤ 2 from z.1) (by decide), hEl, fun _ => ⟨E + runL 48 57 (c :: l), by omega, (up_ne (by omega)).trans hb4, if_neg (show ¬ (2 : Int32) = 0 by decide)⟩, fun z => absurd (show (2 : Int32) = 0 from z) (by decide)⟩
            first
              | exact absurd (nI_le (b := 4) (Nat.le_of_not_lt h4) (by omega)) c312
              | exact up_same _ _ _ _
      · refine xX12_next_225_t (by decide) ?_
        have hw := nw0
        have hd := nw1
        refine xX12_next_326 ?_
        refine xX12_next_327 ?_
        refine xX12_next_329 (fun c329 => ?_) (fun c329 => ?_)
        · refine xX12_next_374 ?_
          refine xX12_next_375 ?_
          refine xX12_next_379 rfl ?_
          refine xX12_next_380 ?_
          refine xX12_next_381 ?_
          refine xX12_next_382_f (by decide) ?_
          refine xX12_next_385 ?_
          refine xX12_next_386 ?_
          refine xX12_next_390 (hM.1 _ _ rfl) ?_
          refine xX12_next_393 ?_
          refine xX12_next_394 rfl ?_
          refine xX12_next_395 (hM.1 _ _ rfl) ?_
          refine xX12_next_398 ?_
          refine xX12_next_399 ?_
          rw [show (up gA 53 30 _) 53 28 = nI E from (up_ne (by omega)).trans hbA, show nI E + 1 = nI (E + 1) from nI_1 E]
          refine xX12_next_400 (hM.1 _ _ rfl) ?_
          refine xX12_next_403 rfl rfl ?_
          refine hQ _ (hfA.tr ((MN.u (by omega)).tr (MN.u (by omega)))) ?_
          rw [TKS_eq hp9, ← hE, hdr]
          have e : tkX (c :: l) = (sgX c, 0, 1) := ((tkX_c c l).trans (if_neg hw)).trans (if_neg hd)
          rw [e]
          have hdl : (tp.drop E).length = (c :: l).length := by rw [hdr]
          rw [List.length_drop, List.length_cons] at hdl
          have h62 := sgX_hi c
          exact ⟨(up_ne (by omega)).trans ((up_ne (by omega)).trans hBA), (up_ne (by omega)).trans ((up_same _ _ _ _).trans (mtk_sg c (by unfold isSg; first | exact Or.inl c329 | exact Or.inr (Or.inl c335) | exact Or.inr (Or.inr (Or.inl c341)) | exact Or.inr (Or.inr (Or.inr (Or.inl c347))) | exact Or.inr (Or.inr (Or.inr (Or.inr (Or.inl c353)))) | exact Or.inr (Or.inr (Or.inr (Or.inr (Or.inr (Or.inl c359))))) | exact Or.inr (Or.inr (Or.inr (Or.inr (Or.inr (Or.inr (Or.inl c365)))))) | exact Or.inr (Or.inr (Or.inr (Or.inr (Or.inr (Or.inr (Or.inr c371)))))))).symm), fun z => absurd z (sgX_2 c), fun z => absurd (show (106 : Int32) ≤ sgX c from z) (by intro z; exact absurd (Int32.lt_of_le_of_lt z h62) (by decide)), fun z => absurd (show (100 : Int32) ≤ sgX c from z.1) (by intro z; exact absurd (Int32.lt_of_le_of_lt z h62) (by decide)), hEl, fun _ => ⟨E + 1, by omega, (up_same _ _ _ _).trans (by first | rfl | (rw [up_ne (by omega), hbA]; exact nI_1 E) | exact nI_1 E), if_neg (sgX_ne c)⟩, fun z => absurd z (sgX_ne c)⟩
        · refine xX12_next_332 ?_
          refine xX12_next_333 ?_
          refine xX12_next_335 (fun c335 => ?_) (fun c335 => ?_)
          · refine xX12_next_374 ?_
            refine xX12_next_375 ?_
            refine xX12_next_379 rfl ?_
            refine xX12_next_380 ?_
            refine xX12_next_381 ?_
            refine xX12_next_382_f (by decide) ?_
            refine xX12_next_385 ?_
            refine xX12_next_386 ?_
            refine xX12_next_390 (hM.1 _ _ rfl) ?_
            refine xX12_next_393 ?_
            refine xX12_next_394 rfl ?_
            refine xX12_next_395 (hM.1 _ _ rfl) ?_
            refine xX12_next_398 ?_
            refine xX12_next_399 ?_
            rw [show (up gA 53 30 _) 53 28 = nI E from (up_ne (by omega)).trans hbA, show nI E + 1 = nI (E + 1) from nI_1 E]
            refine xX12_next_400 (hM.1 _ _ rfl) ?_
            refine xX12_next_403 rfl rfl ?_
            refine hQ _ (hfA.tr ((MN.u (by omega)).tr (MN.u (by omega)))) ?_
            rw [TKS_eq hp9, ← hE, hdr]
            have e : tkX (c :: l) = (sgX c, 0, 1) := ((tkX_c c l).trans (if_neg hw)).trans (if_neg hd)
            rw [e]
            have hdl : (tp.drop E).length = (c :: l).length := by rw [hdr]
            rw [List.length_drop, List.length_cons] at hdl
            have h62 := sgX_hi c
            exact ⟨(up_ne (by omega)).trans ((up_ne (by omega)).trans hBA), (up_ne (by omega)).trans ((up_same _ _ _ _).trans (mtk_sg c (by unfold isSg; first | exact Or.inl c329 | exact Or.inr (Or.inl c335) | exact Or.inr (Or.inr (Or.inl c341)) | exact Or.inr (Or.inr (Or.inr (Or.inl c347))) | exact Or.inr (Or.inr (Or.inr (Or.inr (Or.inl c353)))) | exact Or.inr (Or.inr (Or.inr (Or.inr (Or.inr (Or.inl c359))))) | exact Or.inr (Or.inr (Or.inr (Or.inr (Or.inr (Or.inr (Or.inl c365)))))) | exact Or.inr (Or.inr (Or.inr (Or.inr (Or.inr (Or.inr (Or.inr c371)))))))).symm), fun z => absurd z (sgX_2 c), fun z => absurd (show (106 : Int32) ≤ sgX c from z) (by intro z; exact absurd (Int32.lt_of_le_of_lt z h62) (by decide)), fun z => absurd (show (100 : Int32) ≤ sgX c from z.1) (by intro z; exact absurd (Int32.lt_of_le_of_lt z h62) (by decide)), hEl, fun _ => ⟨E + 1, by omega, (up_same _ _ _ _).trans (by first | rfl | (rw [up_ne (by omega), hbA]; exact nI_1 E) | exact nI_1 E), if_neg (sgX_ne c)⟩, fun z => absurd z (sgX_ne c)⟩
          · refine xX12_next_338 ?_
            refine xX12_next_339 ?_
            refine xX12_next_341 (fun c341 => ?_) (fun c341 => ?_)
            · refine xX12_next_374 ?_
              refine xX12_next_375 ?_
              refine xX12_next_379 rfl ?_
              refine xX12_next_380 ?_
              refine xX12_next_381 ?_
              refine xX12_next_382_f (by decide) ?_
              refine xX12_next_385 ?_
              refine xX12_next_386 ?_
              refine xX12_next_390 (hM.1 _ _ rfl) ?_
              refine xX12_next_393 ?_
              refine xX12_next_394 rfl ?_
              refine xX12_next_395 (hM.1 _ _ rfl) ?_
              refine xX12_next_398 ?_
              refine xX12_next_399 ?_
              rw [show (up gA 53 30 _) 53 28 = nI E from (up_ne (by omega)).trans hbA, show nI E + 1 = nI (E + 1) from nI_1 E]
              refine xX12_next_400 (hM.1 _ _ rfl) ?_
              refine xX12_next_403 rfl rfl ?_
              refine hQ _ (hfA.tr ((MN.u (by omega)).tr (MN.u (by omega)))) ?_
              rw [TKS_eq hp9, ← hE, hdr]
              have e : tkX (c :: l) = (sgX c, 0, 1) := ((tkX_c c l).trans (if_neg hw)).trans (if_neg hd)
              rw [e]
              have hdl : (tp.drop E).length = (c :: l).length := by rw [hdr]
              rw [List.length_drop, List.length_cons] at hdl
              have h62 := sgX_hi c
              exact ⟨(up_ne (by omega)).trans ((up_ne (by omega)).trans hBA), (up_ne (by omega)).trans ((up_same _ _ _ _).trans (mtk_sg c (by unfold isSg; first | exact Or.inl c329 | exact Or.inr (Or.inl c335) | exact Or.inr (Or.inr (Or.inl c341)) | exact Or.inr (Or.inr (Or.inr (Or.inl c347))) | exact Or.inr (Or.inr (Or.inr (Or.inr (Or.inl c353)))) | exact Or.inr (Or.inr (Or.inr (Or.inr (Or.inr (Or.inl c359))))) | exact Or.inr (Or.inr (Or.inr (Or.inr (Or.inr (Or.inr (Or.inl c365)))))) | exact Or.inr (Or.inr (Or.inr (Or.inr (Or.inr (Or.inr (Or.inr c371)))))))).symm), fun z => absurd z (sgX_2 c), fun z => absurd (show (106 : Int32) ≤ sgX c from z) (by intro z; exact absurd (Int32.lt_of_le_of_lt z h62) (by decide)), fun z => absurd (show (100 : Int32) ≤ sgX c from z.1) (by intro z; exact absurd (Int32.lt_of_le_of_lt z h62) (by decide)), hEl, fun _ => ⟨E + 1, by omega, (up_same _ _ _ _).trans (by first | rfl | (rw [up_ne (by omega), hbA]; exact nI_1 E) | exact nI_1 E), if_neg (sgX_ne c)⟩, fun z => absurd z (sgX_ne c)⟩
            · refine xX12_next_344 ?_
              refine xX12_next_345 ?_
              refine xX12_next_347 (fun c347 => ?_) (fun c347 => ?_)
              · refine xX12_next_374 ?_
                refine xX12_next_375 ?_
                refine xX12_next_379 rfl ?_
                refine xX12_next_380 ?_
                refine xX12_next_381 ?_
                refine xX12_next_382_f (by decide) ?_
                refine xX12_next_385 ?_
                refine xX12_next_386 ?_
                refine xX12_next_390 (hM.1 _ _ rfl) ?_
                refine xX12_next_393 ?_
                refine xX12_next_394 rfl ?_
                refine xX12_next_395 (hM.1 _ _ rfl) ?_
                refine xX12_next_398 ?_
                refine xX12_next_399 ?_
                rw [show (up gA 53 30 _) 53 28 = nI E from (up_ne (by omega)).trans hbA, show nI E + 1 = nI (E + 1) from nI_1 E]
                refine xX12_next_400 (hM.1 _ _ rfl) ?_
                refine xX12_next_403 rfl rfl ?_
                refine hQ _ (hfA.tr ((MN.u (by omega)).tr (MN.u (by omega)))) ?_
                rw [TKS_eq hp9, ← hE, hdr]
                have e : tkX (c :: l) = (sgX c, 0, 1) := ((tkX_c c l).trans (if_neg hw)).trans (if_neg hd)
                rw [e]
                have hdl : (tp.drop E).length = (c :: l).length := by rw [hdr]
                rw [List.length_drop, List.length_cons] at hdl
                have h62 := sgX_hi c
                exact ⟨(up_ne (by omega)).trans ((up_ne (by omega)).trans hBA), (up_ne (by omega)).trans ((up_same _ _ _ _).trans (mtk_sg c (by unfold isSg; first | exact Or.inl c329 | exact Or.inr (Or.inl c335) | exact Or.inr (Or.inr (Or.inl c341)) | exact Or.inr (Or.inr (Or.inr (Or.inl c347))) | exact Or.inr (Or.inr (Or.inr (Or.inr (Or.inl c353)))) | exact Or.inr (Or.inr (Or.inr (Or.inr (Or.inr (Or.inl c359))))) | exact Or.inr (Or.inr (Or.inr (Or.inr (Or.inr (Or.inr (Or.inl c365)))))) | exact Or.inr (Or.inr (Or.inr (Or.inr (Or.inr (Or.inr (Or.inr c371)))))))).symm), fun z => absurd z (sgX_2 c), fun z => absurd (show (106 : Int32) ≤ sgX c from z) (by intro z; exact absurd (Int32.lt_of_le_of_lt z h62) (by decide)), fun z => absurd (show (100 : Int32) ≤ sgX c from z.1) (by intro z; exact absurd (Int32.lt_of_le_of_lt z h62) (by decide)), hEl, fun _ => ⟨E + 1, by omega, (up_same _ _ _ _).trans (by first | rfl | (rw [up_ne (by omega), hbA]; exact nI_1 E) | exact nI_1 E), if_neg (sgX_ne c)⟩, fun z => absurd z (sgX_ne c)⟩
              · refine xX12_next_350 ?_
                refine xX12_next_351 ?_
                refine xX12_next_353 (fun c353 => ?_) (fun c353 => ?_)
                · refine xX12_next_374 ?_
                  refine xX12_next_375 ?_
                  refine xX12_next_379 rfl ?_
                  refine xX12_next_380 ?_
                  refine xX12_next_381 ?_
                  refine xX12_next_382_f (by decide) ?_
                  refine xX12_next_385 ?_
                  refine xX12_next_386 ?_
                  refine xX12_next_390 (hM.1 _ _ rfl) ?_
                  refine xX12_next_393 ?_
                  refine xX12_next_394 rfl ?_
                  refine xX12_next_395 (hM.1 _ _ rfl) ?_
                  refine xX12_next_398 ?_
                  refine xX12_next_399 ?_
                  rw [show (up gA 53 30 _) 53 28 = nI E from (up_ne (by omega)).trans hbA, show nI E + 1 = nI (E + 1) from nI_1 E]
                  refine xX12_next_400 (hM.1 _ _ rfl) ?_
                  refine xX12_next_403 rfl rfl ?_
                  refine hQ _ (hfA.tr ((MN.u (by omega)).tr (MN.u (by omega)))) ?_
                  rw [TKS_eq hp9, ← hE, hdr]
                  have e : tkX (c :: l) = (sgX c, 0, 1) := ((tkX_c c l).trans (if_neg hw)).trans (if_neg hd)
                  rw [e]
                  have hdl : (tp.drop E).length = (c :: l).length := by rw [hdr]
                  rw [List.length_drop, List.length_cons] at hdl
                  have h62 := sgX_hi c
                  exact ⟨(up_ne (by omega)).trans ((up_ne (by omega)).trans hBA), (up_ne (by omega)).trans ((up_same _ _ _ _).trans (mtk_sg c (by unfold isSg; first | exact Or.inl c329 | exact Or.inr (Or.inl c335) | exact Or.inr (Or.inr (Or.inl c341)) | exact Or.inr (Or.inr (Or.inr (Or.inl c347))) | exact Or.inr (Or.inr (Or.inr (Or.inr (Or.inl c353)))) | exact Or.inr (Or.inr (Or.inr (Or.inr (Or.inr (Or.inl c359))))) | exact Or.inr (Or.inr (Or.inr (Or.inr (Or.inr (Or.inr (Or.inl c365)))))) | exact Or.inr (Or.inr (Or.inr (Or.inr (Or.inr (Or.inr (Or.inr c371)))))))).symm), fun z => absurd z (sgX_2 c), fun z => absurd (show (106 : Int32) ≤ sgX c from z) (by intro z; exact absurd (Int32.lt_of_le_of_lt z h62) (by decide)), fun z => absurd (show (100 : Int32) ≤ sgX c from z.1) (by intro z; exact absurd (Int32.lt_of_le_of_lt z h62) (by decide)), hEl, fun _ => ⟨E + 1, by omega, (up_same _ _ _ _).trans (by first | rfl | (rw [up_ne (by omega), hbA]; exact nI_1 E) | exact nI_1 E), if_neg (sgX_ne c)⟩, fun z => absurd z (sgX_ne c)⟩
                · refine xX12_next_356 ?_
                  refine xX12_next_357 ?_
                  refine xX12_next_359 (fun c359 => ?_) (fun c359 => ?_)
                  · refine xX12_next_374 ?_
                    refine xX12_next_375 ?_
                    refine xX12_next_379 rfl ?_
                    refine xX12_next_380 ?_
                    refine xX12_next_381 ?_
                    refine xX12_next_382_f (by decide) ?_
                    refine xX12_next_385 ?_
                    refine xX12_next_386 ?_
                    refine xX12_next_390 (hM.1 _ _ rfl) ?_
                    refine xX12_next_393 ?_
                    refine xX12_next_394 rfl ?_
                    refine xX12_next_395 (hM.1 _ _ rfl) ?_
                    refine xX12_next_398 ?_
                    refine xX12_next_399 ?_
                    rw [show (up gA 53 30 _) 53 28 = nI E from (up_ne (by omega)).trans hbA, show nI E + 1 = nI (E + 1) from nI_1 E]
                    refine xX12_next_400 (hM.1 _ _ rfl) ?_
                    refine xX12_next_403 rfl rfl ?_
                    refine hQ _ (hfA.tr ((MN.u (by omega)).tr (MN.u (by omega)))) ?_
                    rw [TKS_eq hp9, ← hE, hdr]
                    have e : tkX (c :: l) = (sgX c, 0, 1) := ((tkX_c c l).trans (if_neg hw)).trans (if_neg hd)
                    rw [e]
                    have hdl : (tp.drop E).length = (c :: l).length := by rw [hdr]
                    rw [List.length_drop, List.length_cons] at hdl
                    have h62 := sgX_hi c
                    exact ⟨(up_ne (by omega)).trans ((up_ne (by omega)).trans hBA), (up_ne (by omega)).trans ((up_same _ _ _ _).trans (mtk_sg c (by unfold isSg; first | exact Or.inl c329 | exact Or.inr (Or.inl c335) | exact Or.inr (Or.inr (Or.inl c341)) | exact Or.inr (Or.inr (Or.inr (Or.inl c347))) | exact Or.inr (Or.inr (Or.inr (Or.inr (Or.inl c353)))) | exact Or.inr (Or.inr (Or.inr (Or.inr (Or.inr (Or.inl c359))))) | exact Or.inr (Or.inr (Or.inr (Or.inr (Or.inr (Or.inr (Or.inl c365)))))) | exact Or.inr (Or.inr (Or.inr (Or.inr (Or.inr (Or.inr (Or.inr c371)))))))).symm), fun z => absurd z (sgX_2 c), fun z => absurd (show (106 : Int32) ≤ sgX c from z) (by intro z; exact absurd (Int32.lt_of_le_of_lt z h62) (by decide)), fun z => absurd (show (100 : Int32) ≤ sgX c from z.1) (by intro z; exact absurd (Int32.lt_of_le_of_lt z h62) (by decide)), hEl, fun _ => ⟨E + 1, by omega, (up_same _ _ _ _).trans (by first | rfl | (rw [up_ne (by omega), hbA]; exact nI_1 E) | exact nI_1 E), if_neg (sgX_ne c)⟩, fun z => absurd z (sgX_ne c)⟩
                  · refine xX12_next_362 ?_
                    refine xX12_next_363 ?_
                    refine xX12_next_365 (fun c365 => ?_) (fun c365 => ?_)
                    · refine xX12_next_374 ?_
                      refine xX12_next_375 ?_
                      refine xX12_next_379 rfl ?_
                      refine xX12_next_380 ?_
                      refine xX12_next_381 ?_
                      refine xX12_next_382_f (by decide) ?_
                      refine xX12_next_385 ?_
                      refine xX12_next_386 ?_
                      refine xX12_next_390 (hM.1 _ _ rfl) ?_
                      refine xX12_next_393 ?_
                      refine xX12_next_394 rfl ?_
                      refine xX12_next_395 (hM.1 _ _ rfl) ?_
                      refine xX12_next_398 ?_
                      refine xX12_next_399 ?_
                      rw [show (up gA 53 30 _) 53 28 = nI E from (up_ne (by omega)).trans hbA, show nI E + 1 = nI (E + 1) from nI_1 E]
                      refine xX12_next_400 (hM.1 _ _ rfl) ?_
                      refine xX12_next_403 rfl rfl ?_
                      refine hQ _ (hfA.tr ((MN.u (by omega)).tr (MN.u (by omega)))) ?_
                      rw [TKS_eq hp9, ← hE, hdr]
                      have e : tkX (c :: l) = (sgX c, 0, 1) := ((tkX_c c l).trans (if_neg hw)).trans (if_neg hd)
                      rw [e]
                      have hdl : (tp.drop E).length = (c :: l).length := by rw [hdr]
                      rw [List.length_drop, List.length_cons] at hdl
                      have h62 := sgX_hi c
                      exact ⟨(up_ne (by omega)).trans ((up_ne (by omega)).trans hBA), (up_ne (by omega)).trans ((up_same _ _ _ _).trans (mtk_sg c (by unfold isSg; first | exact Or.inl c329 | exact Or.inr (Or.inl c335) | exact Or.inr (Or.inr (Or.inl c341)) | exact Or.inr (Or.inr (Or.inr (Or.inl c347))) | exact Or.inr (Or.inr (Or.inr (Or.inr (Or.inl c353)))) | exact Or.inr (Or.inr (Or.inr (Or.inr (Or.inr (Or.inl c359))))) | exact Or.inr (Or.inr (Or.inr (Or.inr (Or.inr (Or.inr (Or.inl c365)))))) | exact Or.inr (Or.inr (Or.inr (Or.inr (Or.inr (Or.inr (Or.inr c371)))))))).symm), fun z => absurd z (sgX_2 c), fun z => absurd (show (106 : Int32) ≤ sgX c from z) (by intro z; exact absurd (Int32.lt_of_le_of_lt z h62) (by decide)), fun z => absurd (show (100 : Int32) ≤ sgX c from z.1) (by intro z; exact absurd (Int32.lt_of_le_of_lt z h62) (by decide)), hEl, fun _ => ⟨E + 1, by omega, (up_same _ _ _ _).trans (by first | rfl | (rw [up_ne (by omega), hbA]; exact nI_1 E) | exact nI_1 E), if_neg (sgX_ne c)⟩, fun z => absurd z (sgX_ne c)⟩
                    · refine xX12_next_368 ?_
                      refine xX12_next_369 ?_
                      refine xX12_next_371 (fun c371 => ?_) (fun c371 => ?_)
                      · refine xX12_next_378 ?_
                        refine xX12_next_379 rfl ?_
                        refine xX12_next_380 ?_
                        refine xX12_next_381 ?_
                        refine xX12_next_382_t rfl ?_
                        refine xX12_next_389 ?_
                        refine xX12_next_390 (hM.1 _ _ rfl) ?_
                        refine xX12_next_393 ?_
                        refine xX12_next_394 rfl ?_
                        refine xX12_next_395 (hM.1 _ _ rfl) ?_
                        refine xX12_next_398 ?_
                        refine xX12_next_399 ?_
                        rw [show (up gA 53 30 _) 53 28 = nI E from (up_ne (by omega)).trans hbA, show nI E + 1 = nI (E + 1) from nI_1 E]
                        refine xX12_next_400 (hM.1 _ _ rfl) ?_
                        refine xX12_next_403 rfl rfl ?_
                        refine hQ _ (hfA.tr ((MN.u (by omega)).tr (MN.u (by omega)))) ?_
                        rw [TKS_eq hp9, ← hE, hdr]
                        have e : tkX (c :: l) = (sgX c, 0, 1) := ((tkX_c c l).trans (if_neg hw)).trans (if_neg hd)
                        rw [e]
                        have hdl : (tp.drop E).length = (c :: l).length := by rw [hdr]
                        rw [List.length_drop, List.length_cons] at hdl
                        have h62 := sgX_hi c
                        exact ⟨(up_ne (by omega)).trans ((up_ne (by omega)).trans hBA), (up_ne (by omega)).trans ((up_same _ _ _ _).trans (mtk_sn c (fun z => by rcases z with z | z | z | z | z | z | z | z <;> first | exact absurd z c329 | exact absurd z c335 | exact absurd z c341 | exact absurd z c347 | exact absurd z c353 | exact absurd z c359 | exact absurd z c365 | exact absurd z c371)).symm), fun z => absurd z (sgX_2 c), fun z => absurd (show (106 : Int32) ≤ sgX c from z) (by intro z; exact absurd (Int32.lt_of_le_of_lt z h62) (by decide)), fun z => absurd (show (100 : Int32) ≤ sgX c from z.1) (by intro z; exact absurd (Int32.lt_of_le_of_lt z h62) (by decide)), hEl, fun _ => ⟨E + 1, by omega, (up_same _ _ _ _).trans (by first | rfl | (rw [up_ne (by omega), hbA]; exact nI_1 E) | exact nI_1 E), if_neg (sgX_ne c)⟩, fun z => absurd z (sgX_ne c)⟩
                      · refine xX12_next_374 ?_
                        refine xX12_next_375 ?_
                        refine xX12_next_379 rfl ?_
                        refine xX12_next_380 ?_
                        refine xX12_next_381 ?_
                        refine xX12_next_382_f (by decide) ?_
                        refine xX12_next_385 ?_
                        refine xX12_next_386 ?_
                        refine xX12_next_390 (hM.1 _ _ rfl) ?_
                        refine xX12_next_393 ?_
                        refine xX12_next_394 rfl ?_
                        refine xX12_next_395 (hM.1 _ _ rfl) ?_
                        refine xX12_next_398 ?_
                        refine xX12_next_399 ?_
                        rw [show (up gA 53 30 _) 53 28 = nI E from (up_ne (by omega)).trans hbA, show nI E + 1 = nI (E + 1) from nI_1 E]
                        refine xX12_next_400 (hM.1 _ _ rfl) ?_
                        refine xX12_next_403 rfl rfl ?_
                        refine hQ _ (hfA.tr ((MN.u (by omega)).tr (MN.u (by omega)))) ?_
                        rw [TKS_eq hp9, ← hE, hdr]
                        have e : tkX (c :: l) = (sgX c, 0, 1) := ((tkX_c c l).trans (if_neg hw)).trans (if_neg hd)
                        rw [e]
                        have hdl : (tp.drop E).length = (c :: l).length := by rw [hdr]
                        rw [List.length_drop, List.length_cons] at hdl
                        have h62 := sgX_hi c
                        exact ⟨(up_ne (by omega)).trans ((up_ne (by omega)).trans hBA), (up_ne (by omega)).trans ((up_same _ _ _ _).trans (mtk_sg c (by unfold isSg; first | exact Or.inl c329 | exact Or.inr (Or.inl c335) | exact Or.inr (Or.inr (Or.inl c341)) | exact Or.inr (Or.inr (Or.inr (Or.inl c347))) | exact Or.inr (Or.inr (Or.inr (Or.inr (Or.inl c353)))) | exact Or.inr (Or.inr (Or.inr (Or.inr (Or.inr (Or.inl c359))))) | exact Or.inr (Or.inr (Or.inr (Or.inr (Or.inr (Or.inr (Or.inl c365)))))) | exact Or.inr (Or.inr (Or.inr (Or.inr (Or.inr (Or.inr (Or.inr c371)))))))).symm), fun z => absurd z (sgX_2 c), fun z => absurd (show (106 : Int32) ≤ sgX c from z) (by intro z; exact absurd (Int32.lt_of_le_of_lt z h62) (by decide)), fun z => absurd (show (100 : Int32) ≤ sgX c from z.1) (by intro z; exact absurd (Int32.lt_of_le_of_lt z h62) (by decide)), hEl, fun _ => ⟨E + 1, by omega, (up_same _ _ _ _).trans (by first | rfl | (rw [up_ne (by omega), hbA]; exact nI_1 E) | exact nI_1 E), if_neg (sgX_ne c)⟩, fun z => absurd z (sgX_ne c)⟩
