-- ===== the reference's text() =====
def MTx (tc : Nat) (g g' : Nat → Nat → Int32) : Prop := (∀ a, a ≠ 53 → a ≠ 62 → a ≠ 63 → a ≠ 70 → g' a = g a) ∧ (∀ k, (k < 12 ∨ k = 13 ∨ k = 14 ∨ (15 < k ∧ k < 28) ∨ (31 < k ∧ k < 34) ∨ 36 < k) → g' 53 k = g 53 k) ∧ (∀ i, i < 200 * tc → g' 62 i = g 62 i) ∧ ∀ i, i < 4 * tc → g' 63 i = g 63 i
theorem MTx.rf {tc : Nat} {g : Nat → Nat → Int32} : MTx tc g g := ⟨fun _ _ _ _ _ => rfl, fun _ _ => rfl, fun _ _ => rfl, fun _ _ => rfl⟩
theorem MTx.tr {tc : Nat} {g1 g2 g3 : Nat → Nat → Int32} (h1 : MTx tc g1 g2) (h2 : MTx tc g2 g3) : MTx tc g1 g3 := ⟨fun a p q r s => (h2.1 a p q r s).trans (h1.1 a p q r s), fun k p => (h2.2.1 k p).trans (h1.2.1 k p), fun i p => (h2.2.2.1 i p).trans (h1.2.2.1 i p), fun i p => (h2.2.2.2 i p).trans (h1.2.2.2 i p)⟩
theorem MEf.tx {tc : Nat} {g g' : Nat → Nat → Int32} (h : MEf tc g g') : MTx tc g g' := ⟨fun a p q _ s => h.1 a p q s, fun k p => h.2.1 k (by omega), h.2.2, fun i _ => by rw [h.1 63 (by omega) (by omega) (by omega)]⟩
theorem MTx.u {tc : Nat} {g : Nat → Nat → Int32} {k : Nat} {v : Int32} (h : k = 12 ∨ k = 15 ∨ (28 ≤ k ∧ k ≤ 31) ∨ (34 ≤ k ∧ k ≤ 36)) : MTx tc g (up g 53 k v) := ⟨fun _ p _ _ _ => up_row p, fun _ _ => up_ne (by omega), fun _ _ => congrFun (up_row (by omega)) _, fun _ _ => congrFun (up_row (by omega)) _⟩
theorem MTx.s {tc : Nat} {g : Nat → Nat → Int32} {k : Nat} {v : Int32} (h : 4 * tc ≤ k) : MTx tc g (up g 63 k v) := ⟨fun _ _ _ r _ => up_row r, fun _ _ => congrFun (up_row (by omega)) _, fun _ _ => congrFun (up_row (by omega)) _, fun _ _ => up_ne (by omega)⟩
theorem WR.tx {tc : Nat} {g g' : Nat → Nat → Int32} (h : WR g) (hf : MTx tc g g') : WR g' := fun k hk c hc => by rw [hf.1 69 (by omega) (by omega) (by omega) (by omega)]; exact h k hk c hc
theorem ML.tx {g g' : Nat → Nat → Int32} {tc q : Nat} {cs : Nat → List Int32} (h : ML g q cs) (hq : q < tc) (hf : MTx tc g g') : ML g' q cs := by
  intro p hp
  obtain ⟨h1, s, h2, h3, h4, h5⟩ := h p hp
  refine ⟨h1, s, (hf.2.2.2 _ (by omega)).trans h2, (hf.2.2.2 _ (by omega)).trans h3, h4, fun i v hv => ?_⟩
  have hi : i < (cs p).length := (List.getElem?_eq_some_iff.mp hv).1
  exact (hf.2.2.1 _ (by omega)).trans (h5 i v hv)
theorem MTp.s {g : Nat → Nat → Int32} {tp : List Int32} {k : Nat} {v : Int32} (h : MTp g tp) : MTp (up g 63 k v) tp := ⟨(congrFun (up_row (by omega)) _).trans h.1, h.2.1, fun i v hv => by rw [up_row (by omega)]; exact h.2.2 i v hv⟩
theorem CDp.s {g : Nat → Nat → Int32} {tc k : Nat} {L : List Int32} {v : Int32} (h : CDp g tc L) : CDp (up g 63 k v) tc L := ⟨(congrFun (up_row (by omega)) _).trans h.1, h.2.1, (congrFun (up_row (by omega)) _).trans h.2.2.1, fun i v hv => by rw [up_row (by omega)]; exact h.2.2.2 i v hv⟩
theorem CDp.mn {g g' : Nat → Nat → Int32} {tc : Nat} {L : List Int32} (h : CDp g tc L) (hf : MN g g') : CDp g' tc L := ⟨(hf.2 _ (by omega)).trans h.1, h.2.1, (hf.2 _ (by omega)).trans h.2.2.1, fun i v hv => by rw [hf.1 62 (by omega)]; exact h.2.2.2 i v hv⟩
theorem MTp_nil {g : Nat → Nat → Int32} (h : g 53 12 = 0) : MTp g [] := ⟨h, by simp, fun i v hv => by simp at hv⟩
/-- where the parts begin -/
def SPs (g : Nat → Nat → Int32) (tc : Nat) (css : List (List Int32)) (j : Nat) : Prop := ∀ i, i < j → g 63 (4 * tc + i) = nI (css.take i).flatten.length
theorem SPs.up {g : Nat → Nat → Int32} {tc j : Nat} {css : List (List Int32)} {cs : List Int32} (h : SPs g tc css j) (hl : css.length = j) : SPs (up g 63 (4 * tc + j) (nI css.flatten.length)) tc (css ++ [cs]) (j + 1) := by
  intro i hi
  by_cases e : i = j
  · subst e
    rw [up_same, List.take_append_of_le_length (by omega), List.take_of_length_le (by omega)]
  · rw [up_ne (by omega), h i (by omega), List.take_append_of_le_length (by omega)]
theorem SPs.keep {g g' : Nat → Nat → Int32} {tc j : Nat} {css : List (List Int32)} (h : SPs g tc css j) (hf : g' 63 = g 63) : SPs g' tc css j := fun i hi => by rw [hf]; exact h i hi
theorem ML_new {g : Nat → Nat → Int32} {tc : Nat} {css : List (List Int32)} (hl : css.length = 3) (hw : ∀ c ∈ css, wfd c 0) (h2 : css.flatten.length ≤ 200) (hC : ∀ (i : Nat) (v : Int32), css.flatten[i]? = some v → g 62 (200 * tc + i) = v) (hS : SPs g tc css 4) : ML g tc (fun p => css.getD p []) := by
  intro p hp
  have e := flat_t (css := css) (p := p) (by omega)
  have hle := flat_le (css := css) (p := p + 1)
  rw [e, List.length_append] at hle
  show wfd (css.getD p []) 0 ∧ ∃ s : Nat, g 63 (4 * tc + p) = nI s ∧ g 63 (4 * tc + p + 1) = nI (s + (css.getD p []).length) ∧ s + (css.getD p []).length ≤ 200 ∧ ∀ (i : Nat) (v : Int32), (css.getD p [])[i]? = some v → g 62 (200 * tc + (s + i)) = v
  refine ⟨hw _ ?_, (css.take p).flatten.length, hS p (by omega), ?_, by omega, fun i v hv => ?_⟩
  · rw [List.getD_eq_getElem?_getD, List.getElem?_eq_getElem (by omega)]
    exact List.getElem_mem _
  · rw [show 4 * tc + p + 1 = 4 * tc + (p + 1) by omega, hS (p + 1) (by omega), e, List.length_append]
  · apply hC
    have hi : i < (css.getD p []).length := (List.getElem?_eq_some_iff.mp hv).1
    rw [flat_d (css := css) (p := p + 1), e, List.append_assoc, List.getElem?_append_right (Nat.le_add_right _ _), Nat.add_sub_cancel_left, List.getElem?_append_left hi]
    exact hv
theorem SPs.app {g : Nat → Nat → Int32} {tc j : Nat} {css : List (List Int32)} {cs : List Int32} (h : SPs g tc (css ++ [cs]) (j + 1)) (hl : css.length = j) : SPs g tc css (j + 1) := fun i hi => by
  rw [h i hi, List.take_append_of_le_length (by omega)]
theorem lp_X12_text {d : Nat} {sc : Nat × (Nat → Int32)} {T : List (Nat × Nat)} {rf : Nat → Nat → Option Nat} {gs : Nat → Nat → Int32} {tc N : Nat} {tp : List Int32} {R : Sum Nat (List (List Int32))} {F : Int32 → AH → Prop} (hM : MS T rf) (hWs : WR gs) (htc : tc < 6) (hN : N < 200) (hwf : ∀ css, R = Sum.inr css → css.length = 3 ∧ (∀ c ∈ css, wfd c 0) ∧ css.flatten.length ≤ 200) (k0 : ∀ b, R = Sum.inl b → ∀ g2, MTx tc gs g2 → MTp g2 [] → g2 53 15 = nI tc → F (-100 - nI b) (T, rf, g2)) (k1 : ∀ css, R = Sum.inr css → ∀ g2, MTx tc gs g2 → MTp g2 [] → g2 53 15 = nI (tc + 1) → ML g2 tc (fun p => css.getD p []) → F (nI tc) (T, rf, g2)) : ∀ (k j : Nat) (x2 : Int32) (css : List (List Int32)) (p : Nat) (g : Nat → Nat → Int32) (ts : List Tok), j + k = 3 → x2 = nI j → css.length = j → CDp g tc css.flatten → SPs g tc css j → ts = TKS tp p → p ≤ tp.length → g 53 28 = nI p → MTx tc gs g → MTp g tp → css.flatten.length + ts.length ≤ N → apx css (txX k j ts) = R → Wp (d + 5) 0 0 sc kX12_text (Qi F) 26 [some (.ref 53), some (.int 1), some (.int x2)] [] (T, rf, g) 0 0 := by
  intro k
  induction k with
  | zero =>
    intro j x2 css p g ts hj hx2 hcl hC hS hts hp9 hp hf ht hlen hR
    subst hx2
    have hW := hWs.tx hf
    obtain ⟨q, r, hqr⟩ : ∃ q r, ts = q :: r := by
      cases ts with
      | nil => exact absurd hts.symm (TKS_ne hp9)
      | cons q r => exact ⟨q, r, rfl⟩
    subst hqr
    have htk := TK_in hp9 hts
    obtain ⟨f1, f2, f6, f45, f40, f59, f41, f0, fs, f3, fr, fn⟩ := tk_fs _ htk
    have ej : j = 3 := by omega
    subst ej
    refine xX12_text_26 ?_
    refine xX12_text_27 ?_
    refine xX12_text_28_t (by decide) ?_
    refine xX12_text_101 ?_
    refine xX12_text_102_f (by decide) ?_
    refine xX12_text_105 ?_
    refine xX12_text_106 (hM.1 _ _ rfl) rfl rfl rfl (s_X12_next hM hW ht hp hp9 (fun g0 ha0 hb0 => ?_))
    rw [← hts] at hb0
    obtain ⟨t1, t2, t3, t4, t5, t6, t7, t8⟩ := hb0
    have hC1 := hC.mn ha0
    have hf1 : MTx tc gs g0 := hf.tr ha0.me.tx
    have h30 : g0 53 30 = mtk q.2.1 := t2
    have h15 : g0 53 15 = nI tc := hC1.1
    have h36 : g0 53 36 = nI css.flatten.length := hC1.2.2.1
    have hS1 : SPs g0 tc css _ := hS.keep (ha0.1 63 (by omega))
    have ht1 := ht.mn ha0
    refine xX12_text_109 ?_
    refine xX12_text_110 (hM.1 _ _ rfl) ?_
    refine xX12_text_113 (fun c113 => ?_) (fun c113 => ?_)
    · refine xX12_text_120 ?_
      refine xX12_text_121 rfl ?_
      obtain ⟨b, eb⟩ : ∃ b, b = q.1 := ⟨_, rfl⟩
      have hRZ : R = Sum.inl b := by
        rw [← hR, show txX 0 3 (q :: r) = Sum.inl (hdP (q :: r)) from if_neg (fun z => c113 (by rw [h30]; exact f0.mpr z)), eb]; rfl
      have hfZ := hf1
      have h15Z := h15
      have hbZ : g0 53 29 = nI b := by rw [eb]; exact t1
      refine xX12_text_122 ?_
      refine xX12_text_123 (hM.1 _ _ rfl) (hM.2 _ _ _ rfl) ?_
      refine xX12_text_126 ?_
      refine xX12_text_127 ?_
      refine xX12_text_128 (hM.1 _ _ rfl) ?_
      refine xX12_text_131 ?_
      refine xX12_text_132 ?_
      refine xX12_text_133 ?_
      refine xX12_text_134 ?_
      refine xX12_text_135 (hM.1 _ _ rfl) ?_
      refine xX12_text_138 (j := (4 * tc + 3)) (hM.1 _ _ rfl) (by rw [h15Z]; exact (congrArg (· + (3 : Int32)) (nI_mulN (a := 4) (by omega) (by omega) (by omega))).trans (nI_add (4 * tc) 3)) (by omega) rfl ?_
      refine xX12_text_139 ?_
      refine xX12_text_140 ?_
      refine xX12_text_141 (hM.1 _ _ rfl) ?_
      refine xX12_text_144 ?_
      refine xX12_text_145_f (by decide) ?_
      refine xX12_text_148 ?_
      refine xX12_text_150 ?_
      refine xX12_text_151 (hM.1 _ _ rfl) ?_
      rw [show ∀ z v, up (up g0 63 (4 * tc + 3) z) 53 12 v 53 29 = nI b from fun z v => (up_ne (by omega)).trans ((congrFun (up_row (by omega)) _).trans hbZ)]
      refine xX12_text_154 ?_
      refine xX12_text_155 rfl rfl ?_
      exact k0 b hRZ _ (hfZ.tr ((MTx.s (by omega)).tr (MTx.u (by omega)))) (MTp_nil (up_same _ _ _ _)) ((up_ne (by omega)).trans ((congrFun (up_row (by omega)) _).trans h15Z))
    · refine xX12_text_116 ?_
      refine xX12_text_117 ?_
      refine xX12_text_121 rfl ?_
      have hz : hdT (q :: r) = 0 := f0.mp (by rw [← h30]; exact c113)
      rw [show txX 0 3 (q :: r) = Sum.inr [] from if_pos hz] at hR
      have hRZ : R = Sum.inr css := by rw [← hR]; show Sum.inr (css ++ []) = _; rw [List.append_nil]
      obtain ⟨w1, w2, w3⟩ := hwf css hRZ
      refine xX12_text_122 ?_
      refine xX12_text_123 (hM.1 _ _ rfl) (hM.2 _ _ _ rfl) ?_
      refine xX12_text_126 ?_
      refine xX12_text_127 ?_
      refine xX12_text_128 (hM.1 _ _ rfl) ?_
      refine xX12_text_131 ?_
      refine xX12_text_132 ?_
      refine xX12_text_133 ?_
      refine xX12_text_134 ?_
      refine xX12_text_135 (hM.1 _ _ rfl) ?_
      refine xX12_text_138 (j := (4 * tc + 3)) (hM.1 _ _ rfl) (by rw [h15]; exact (congrArg (· + (3 : Int32)) (nI_mulN (a := 4) (by omega) (by omega) (by omega))).trans (nI_add (4 * tc) 3)) (by omega) rfl ?_
      rw [h36]
      refine xX12_text_139 ?_
      refine xX12_text_140 ?_
      refine xX12_text_141 (hM.1 _ _ rfl) ?_
      refine xX12_text_144 ?_
      refine xX12_text_145_t (by decide) ?_
      refine xX12_text_156 ?_
      refine xX12_text_157 rfl ?_
      refine xX12_text_158 (hM.1 _ _ rfl) ?_
      refine xX12_text_161 ?_
      refine xX12_text_162 ?_
      rw [show up (up g0 63 (4 * tc + 3) (nI css.flatten.length)) 53 12 0 53 15 = nI tc from (up_ne (by omega)).trans ((congrFun (up_row (by omega)) _).trans h15), show nI tc + 1 = nI (tc + 1) from nI_1 tc]
      refine xX12_text_163 (hM.1 _ _ rfl) ?_
      refine xX12_text_166 ?_
      refine xX12_text_167 (hM.1 _ _ rfl) ?_
      refine xX12_text_170 ?_
      refine xX12_text_171 ?_
      rw [show up (up (up g0 63 (4 * tc + 3) (nI css.flatten.length)) 53 12 0) 53 15 (nI (tc + 1)) 53 15 = nI (tc + 1) from up_same _ _ _ _, show nI (tc + 1) - 1 = nI tc from nI_pred tc]
      refine xX12_text_172 rfl rfl ?_
      have hS2 : SPs (up g0 63 (4 * tc + 3) (nI css.flatten.length)) tc css 4 := (hS1.up (cs := []) hcl).app hcl
      refine k1 css hRZ _ (hf1.tr ((MTx.s (by omega)).tr ((MTx.u (by omega)).tr (MTx.u (by omega))))) (MTp_nil ((up_ne (by omega)).trans (up_same _ _ _ _))) (up_same _ _ _ _) (ML_new w1 w2 w3 (fun i v hv => ?_) (hS2.keep ?_))
      · rw [up_row (by omega), up_row (by omega), up_row (by omega)]; exact hC1.2.2.2 i v hv
      · rw [up_row (by omega), up_row (by omega)]
  | succ k ih =>
    intro j x2 css p g ts hj hx2 hcl hC hS hts hp9 hp hf ht hlen hR
    subst hx2
    have hW := hWs.tx hf
    obtain ⟨q, r, hqr⟩ : ∃ q r, ts = q :: r := by
      cases ts with
      | nil => exact absurd hts.symm (TKS_ne hp9)
      | cons q r => exact ⟨q, r, rfl⟩
    subst hqr
    have htk := TK_in hp9 hts
    obtain ⟨f1, f2, f6, f45, f40, f59, f41, f0, fs, f3, fr, fn⟩ := tk_fs _ htk
    refine xX12_text_26 ?_
    refine xX12_text_27 ?_
    refine xX12_text_28_f (nI_ge (b := 3) (by omega) (by omega)) ?_
    refine xX12_text_31 ?_
    refine xX12_text_32_f (by decide) ?_
    refine xX12_text_35 ?_
    refine xX12_text_36 (hM.1 _ _ rfl) rfl rfl rfl (s_X12_next hM hW ht hp hp9 (fun g0 ha0 hb0 => ?_))
    rw [← hts] at hb0
    obtain ⟨t1, t2, t3, t4, t5, t6, t7, t8⟩ := hb0
    have hC1 := hC.mn ha0
    have hf1 : MTx tc gs g0 := hf.tr ha0.me.tx
    have h30 : g0 53 30 = mtk q.2.1 := t2
    have h15 : g0 53 15 = nI tc := hC1.1
    have h36 : g0 53 36 = nI css.flatten.length := hC1.2.2.1
    have hS1 : SPs g0 tc css _ := hS.keep (ha0.1 63 (by omega))
    have ht1 := ht.mn ha0
    refine xX12_text_39 ?_
    refine xX12_text_40 (hM.1 _ _ rfl) ?_
    refine xX12_text_43 ?_
    refine xX12_text_44 (fun c44 => ?_) (fun c44 => ?_)
    · have hk : ¬ hdT (q :: r) = 100 + nI j := fun z => by
        have z : q.2.1 = 100 + nI j := z
        apply c44
        rw [h30]
        apply f3.mpr
        rw [z]
        rcases (by omega : j = 0 ∨ j = 1 ∨ j = 2) with rfl | rfl | rfl <;> decide
      refine xX12_text_59 ?_
      refine xX12_text_60 rfl ?_
      refine xX12_text_61 ?_
      refine xX12_text_62 (hM.1 _ _ rfl) (hM.2 _ _ _ rfl) ?_
      refine xX12_text_65 ?_
      refine xX12_text_66 ?_
      refine xX12_text_67 (hM.1 _ _ rfl) ?_
      refine xX12_text_70 ?_
      refine xX12_text_71 ?_
      refine xX12_text_72 ?_
      refine xX12_text_73 ?_
      refine xX12_text_74 (hM.1 _ _ rfl) ?_
      refine xX12_text_77 (j := (4 * tc + j)) (hM.1 _ _ rfl) (by rw [h15]; exact nI_mul4 (k := 4) htc (by omega) (by omega)) (by omega) rfl ?_
      refine xX12_text_78 ?_
      refine xX12_text_79_t (by decide) ?_
      refine xX12_text_93 ?_
      refine xX12_text_94 rfl ?_
      refine xX12_text_95 rfl rfl ?_
      refine xX12_text_98 ?_
      obtain ⟨b, eb⟩ : ∃ b, b = q.1 := ⟨_, rfl⟩
      have hRZ : R = Sum.inl b := by
        rw [← hR, tx_key (ts := q :: r) hk, eb]; rfl
      obtain ⟨gZ, hgZ⟩ : ∃ gZ, gZ = up g0 63 (4 * tc + j) (nI css.flatten.length) := ⟨_, rfl⟩
      rw [h36, ← hgZ]
      have hfZ : MTx tc gs gZ := by rw [hgZ]; exact hf1.tr (MTx.s (by omega))
      have h15Z : gZ 53 15 = nI tc := by rw [hgZ]; exact (congrFun (up_row (by omega)) _).trans h15
      have hbZ : gZ 53 29 = nI b := by rw [hgZ, eb]; exact (congrFun (up_row (by omega)) _).trans t1
      refine xX12_text_26 ?_
      refine xX12_text_27 ?_
      refine xX12_text_28 (fun dz => ?_) (fun dz => ?_)
      · refine xX12_text_101 ?_
        refine xX12_text_102_t (by decide) ?_
        refine xX12_text_122 ?_
        refine xX12_text_123 (hM.1 _ _ rfl) (hM.2 _ _ _ rfl) ?_
        refine xX12_text_126 ?_
        refine xX12_text_127 ?_
        refine xX12_text_128 (hM.1 _ _ rfl) ?_
        refine xX12_text_131 ?_
        refine xX12_text_132 ?_
        refine xX12_text_133 ?_
        refine xX12_text_134 ?_
        refine xX12_text_135 (hM.1 _ _ rfl) ?_
        refine xX12_text_138 (j := (4 * tc + 3)) (hM.1 _ _ rfl) (by rw [h15Z]; exact (congrArg (· + (3 : Int32)) (nI_mulN (a := 4) (by omega) (by omega) (by omega))).trans (nI_add (4 * tc) 3)) (by omega) rfl ?_
        refine xX12_text_139 ?_
        refine xX12_text_140 ?_
        refine xX12_text_141 (hM.1 _ _ rfl) ?_
        refine xX12_text_144 ?_
        refine xX12_text_145_f (by decide) ?_
        refine xX12_text_148 ?_
        refine xX12_text_150 ?_
        refine xX12_text_151 (hM.1 _ _ rfl) ?_
        rw [show ∀ z v, up (up gZ 63 (4 * tc + 3) z) 53 12 v 53 29 = nI b from fun z v => (up_ne (by omega)).trans ((congrFun (up_row (by omega)) _).trans hbZ)]
        refine xX12_text_154 ?_
        refine xX12_text_155 rfl rfl ?_
        exact k0 b hRZ _ (hfZ.tr ((MTx.s (by omega)).tr (MTx.u (by omega)))) (MTp_nil (up_same _ _ _ _)) ((up_ne (by omega)).trans ((congrFun (up_row (by omega)) _).trans h15Z))
      · refine xX12_text_31 ?_
        refine xX12_text_32_t (by decide) ?_
        refine xX12_text_101 ?_
        refine xX12_text_102_t (by decide) ?_
        refine xX12_text_122 ?_
        refine xX12_text_123 (hM.1 _ _ rfl) (hM.2 _ _ _ rfl) ?_
        refine xX12_text_126 ?_
        refine xX12_text_127 ?_
        refine xX12_text_128 (hM.1 _ _ rfl) ?_
        refine xX12_text_131 ?_
        refine xX12_text_132 ?_
        refine xX12_text_133 ?_
        refine xX12_text_134 ?_
        refine xX12_text_135 (hM.1 _ _ rfl) ?_
        refine xX12_text_138 (j := (4 * tc + 3)) (hM.1 _ _ rfl) (by rw [h15Z]; exact (congrArg (· + (3 : Int32)) (nI_mulN (a := 4) (by omega) (by omega) (by omega))).trans (nI_add (4 * tc) 3)) (by omega) rfl ?_
        refine xX12_text_139 ?_
        refine xX12_text_140 ?_
        refine xX12_text_141 (hM.1 _ _ rfl) ?_
        refine xX12_text_144 ?_
        refine xX12_text_145_f (by decide) ?_
        refine xX12_text_148 ?_
        refine xX12_text_150 ?_
        refine xX12_text_151 (hM.1 _ _ rfl) ?_
        rw [show ∀ z v, up (up gZ 63 (4 * tc + 3) z) 53 12 v 53 29 = nI b from fun z v => (up_ne (by omega)).trans ((congrFun (up_row (by omega)) _).trans hbZ)]
        refine xX12_text_154 ?_
        refine xX12_text_155 rfl rfl ?_
        exact k0 b hRZ _ (hfZ.tr ((MTx.s (by omega)).tr (MTx.u (by omega)))) (MTp_nil (up_same _ _ _ _)) ((up_ne (by omega)).trans ((congrFun (up_row (by omega)) _).trans h15Z))
    · have h012 := f3.mp (h30.symm.trans c44)
      have h31 := t5 h012
      refine xX12_text_47 ?_
      refine xX12_text_48 (hM.1 _ _ rfl) ?_
      refine xX12_text_51 ?_
      refine xX12_text_52 (fun c52 => ?_) (fun c52 => ?_)
      · have hk : ¬ hdT (q :: r) = 100 + nI j := fun z => by
          have z : q.2.1 = 100 + nI j := z
          apply c52
          rw [h31, z, Int32.add_comm, Int32.add_sub_cancel]
        refine xX12_text_59 ?_
        refine xX12_text_60 rfl ?_
        refine xX12_text_61 ?_
        refine xX12_text_62 (hM.1 _ _ rfl) (hM.2 _ _ _ rfl) ?_
        refine xX12_text_65 ?_
        refine xX12_text_66 ?_
        refine xX12_text_67 (hM.1 _ _ rfl) ?_
        refine xX12_text_70 ?_
        refine xX12_text_71 ?_
        refine xX12_text_72 ?_
        refine xX12_text_73 ?_
        refine xX12_text_74 (hM.1 _ _ rfl) ?_
        refine xX12_text_77 (j := (4 * tc + j)) (hM.1 _ _ rfl) (by rw [h15]; exact nI_mul4 (k := 4) htc (by omega) (by omega)) (by omega) rfl ?_
        refine xX12_text_78 ?_
        refine xX12_text_79_t (by decide) ?_
        refine xX12_text_93 ?_
        refine xX12_text_94 rfl ?_
        refine xX12_text_95 rfl rfl ?_
        refine xX12_text_98 ?_
        obtain ⟨b, eb⟩ : ∃ b, b = q.1 := ⟨_, rfl⟩
        have hRZ : R = Sum.inl b := by
          rw [← hR, tx_key (ts := q :: r) hk, eb]; rfl
        obtain ⟨gZ, hgZ⟩ : ∃ gZ, gZ = up g0 63 (4 * tc + j) (nI css.flatten.length) := ⟨_, rfl⟩
        rw [h36, ← hgZ]
        have hfZ : MTx tc gs gZ := by rw [hgZ]; exact hf1.tr (MTx.s (by omega))
        have h15Z : gZ 53 15 = nI tc := by rw [hgZ]; exact (congrFun (up_row (by omega)) _).trans h15
        have hbZ : gZ 53 29 = nI b := by rw [hgZ, eb]; exact (congrFun (up_row (by omega)) _).trans t1
        refine xX12_text_26 ?_
        refine xX12_text_27 ?_
        refine xX12_text_28 (fun dz => ?_) (fun dz => ?_)
        · refine xX12_text_101 ?_
          refine xX12_text_102_t (by decide) ?_
          refine xX12_text_122 ?_
          refine xX12_text_123 (hM.1 _ _ rfl) (hM.2 _ _ _ rfl) ?_
          refine xX12_text_126 ?_
          refine xX12_text_127 ?_
          refine xX12_text_128 (hM.1 _ _ rfl) ?_
          refine xX12_text_131 ?_
          refine xX12_text_132 ?_
          refine xX12_text_133 ?_
          refine xX12_text_134 ?_
          refine xX12_text_135 (hM.1 _ _ rfl) ?_
          refine xX12_text_138 (j := (4 * tc + 3)) (hM.1 _ _ rfl) (by rw [h15Z]; exact (congrArg (· + (3 : Int32)) (nI_mulN (a := 4) (by omega) (by omega) (by omega))).trans (nI_add (4 * tc) 3)) (by omega) rfl ?_
          refine xX12_text_139 ?_
          refine xX12_text_140 ?_
          refine xX12_text_141 (hM.1 _ _ rfl) ?_
          refine xX12_text_144 ?_
          refine xX12_text_145_f (by decide) ?_
          refine xX12_text_148 ?_
          refine xX12_text_150 ?_
          refine xX12_text_151 (hM.1 _ _ rfl) ?_
          rw [show ∀ z v, up (up gZ 63 (4 * tc + 3) z) 53 12 v 53 29 = nI b from fun z v => (up_ne (by omega)).trans ((congrFun (up_row (by omega)) _).trans hbZ)]
          refine xX12_text_154 ?_
          refine xX12_text_155 rfl rfl ?_
          exact k0 b hRZ _ (hfZ.tr ((MTx.s (by omega)).tr (MTx.u (by omega)))) (MTp_nil (up_same _ _ _ _)) ((up_ne (by omega)).trans ((congrFun (up_row (by omega)) _).trans h15Z))
        · refine xX12_text_31 ?_
          refine xX12_text_32_t (by decide) ?_
          refine xX12_text_101 ?_
          refine xX12_text_102_t (by decide) ?_
          refine xX12_text_122 ?_
          refine xX12_text_123 (hM.1 _ _ rfl) (hM.2 _ _ _ rfl) ?_
          refine xX12_text_126 ?_
          refine xX12_text_127 ?_
          refine xX12_text_128 (hM.1 _ _ rfl) ?_
          refine xX12_text_131 ?_
          refine xX12_text_132 ?_
          refine xX12_text_133 ?_
          refine xX12_text_134 ?_
          refine xX12_text_135 (hM.1 _ _ rfl) ?_
          refine xX12_text_138 (j := (4 * tc + 3)) (hM.1 _ _ rfl) (by rw [h15Z]; exact (congrArg (· + (3 : Int32)) (nI_mulN (a := 4) (by omega) (by omega) (by omega))).trans (nI_add (4 * tc) 3)) (by omega) rfl ?_
          refine xX12_text_139 ?_
          refine xX12_text_140 ?_
          refine xX12_text_141 (hM.1 _ _ rfl) ?_
          refine xX12_text_144 ?_
          refine xX12_text_145_f (by decide) ?_
          refine xX12_text_148 ?_
          refine xX12_text_150 ?_
          refine xX12_text_151 (hM.1 _ _ rfl) ?_
          rw [show ∀ z v, up (up gZ 63 (4 * tc + 3) z) 53 12 v 53 29 = nI b from fun z v => (up_ne (by omega)).trans ((congrFun (up_row (by omega)) _).trans hbZ)]
          refine xX12_text_154 ?_
          refine xX12_text_155 rfl rfl ?_
          exact k0 b hRZ _ (hfZ.tr ((MTx.s (by omega)).tr (MTx.u (by omega)))) (MTp_nil (up_same _ _ _ _)) ((up_ne (by omega)).trans ((congrFun (up_row (by omega)) _).trans h15Z))
      · have hk : hdT (q :: r) = 100 + nI j := by
          show q.2.1 = 100 + nI j
          rw [h31] at c52
          rw [← c52, Int32.add_comm, Int32.sub_add_cancel]
        refine xX12_text_55 ?_
        refine xX12_text_56 ?_
        refine xX12_text_60 rfl ?_
        refine xX12_text_61 ?_
        refine xX12_text_62 (hM.1 _ _ rfl) (hM.2 _ _ _ rfl) ?_
        refine xX12_text_65 ?_
        refine xX12_text_66 ?_
        refine xX12_text_67 (hM.1 _ _ rfl) ?_
        refine xX12_text_70 ?_
        refine xX12_text_71 ?_
        refine xX12_text_72 ?_
        refine xX12_text_73 ?_
        refine xX12_text_74 (hM.1 _ _ rfl) ?_
        refine xX12_text_77 (j := (4 * tc + j)) (hM.1 _ _ rfl) (by rw [h15]; exact nI_mul4 (k := 4) htc (by omega) (by omega)) (by omega) rfl ?_
        refine xX12_text_78 ?_
        refine xX12_text_79_f (by decide) ?_
        refine xX12_text_82 ?_
        rw [h36]
        obtain ⟨p2, hp2, hq2, hts2⟩ := t7 (fun z => by
          have hk : q.2.1 = 100 + nI j := hk
          rw [z] at hk
          revert hk
          rcases (by omega : j = 0 ∨ j = 1 ∨ j = 2) with rfl | rfl | rfl <;> decide)
        have hlr : css.flatten.length + (TKS tp p2).length ≤ N := by rw [← hts2]; simp only [List.length_cons] at hlen; omega
        refine xX12_text_83 (hM.1 _ _ rfl) rfl rfl rfl (s_X12_eRead hM ((hWs.tx hf1).tx (MTx.s (tc := tc) (by omega))) ((ht.mn ha0).s) ((congrFun (up_row (by omega)) _).trans hq2) hp2 hC1.s hlr hN rfl (fun ts1 cs1 hR1 g1 p1 ha1 hpl1 hp1 hts1 hE1 hl1 => ?_) (fun b1 hR1 g1 ha1 hb1 => ?_))
        · refine xX12_text_86_f (by decide) ?_
          refine xX12_text_89 ?_
          refine xX12_text_90 ?_
          refine xX12_text_94 rfl ?_
          refine xX12_text_95 rfl rfl ?_
          refine xX12_text_98 ?_
          have hsy : sy (q :: r).tail true true [] [] 0 = Sum.inr (ts1, cs1) := by
            show sy r true true [] [] 0 = _
            rw [hts2]; exact hR1
          rw [tx_inr (ts := q :: r) hk hsy] at hR
          exact ih (j + 1) _ (css ++ [cs1]) p1 g1 ts1 (by omega) (nI_1 j) (by rw [List.length_append, hcl]; rfl) (by rw [List.flatten_append]; simpa using hE1) ((hS1.up hcl).keep (ha1.1 63 (by omega) (by omega) (by omega))) hts1 hpl1 hp1 ((hf1.tr (MTx.s (by omega))).tr ha1.tx) ((ht1.s).me ha1) (by rw [List.flatten_append]; simpa using hl1) hR
        · refine xX12_text_86_t (by decide) ?_
          refine xX12_text_93 ?_
          refine xX12_text_94 rfl ?_
          refine xX12_text_95 rfl rfl ?_
          refine xX12_text_98 ?_
          obtain ⟨b, eb⟩ : ∃ b, b = b1 := ⟨_, rfl⟩
          have hsy : sy (q :: r).tail true true [] [] 0 = Sum.inl b := by
            show sy r true true [] [] 0 = _
            rw [hts2, eb]; exact hR1
          have hRZ : R = Sum.inl b := by
            rw [← hR, tx_inl (ts := q :: r) hk hsy]; rfl
          have hfZ : MTx tc gs g1 := (hf1.tr (MTx.s (by omega))).tr ha1.tx
          have h15Z : g1 53 15 = nI tc := (ha1.2.1 15 (by omega)).trans ((congrFun (up_row (by omega)) _).trans h15)
          have hbZ : g1 53 29 = nI b := by rw [eb]; exact hb1
          refine xX12_text_26 ?_
          refine xX12_text_27 ?_
          refine xX12_text_28 (fun dz => ?_) (fun dz => ?_)
          · refine xX12_text_101 ?_
            refine xX12_text_102_t (by decide) ?_
            refine xX12_text_122 ?_
            refine xX12_text_123 (hM.1 _ _ rfl) (hM.2 _ _ _ rfl) ?_
            refine xX12_text_126 ?_
            refine xX12_text_127 ?_
            refine xX12_text_128 (hM.1 _ _ rfl) ?_
            refine xX12_text_131 ?_
            refine xX12_text_132 ?_
            refine xX12_text_133 ?_
            refine xX12_text_134 ?_
            refine xX12_text_135 (hM.1 _ _ rfl) ?_
            refine xX12_text_138 (j := (4 * tc + 3)) (hM.1 _ _ rfl) (by rw [h15Z]; exact (congrArg (· + (3 : Int32)) (nI_mulN (a := 4) (by omega) (by omega) (by omega))).trans (nI_add (4 * tc) 3)) (by omega) rfl ?_
            refine xX12_text_139 ?_
            refine xX12_text_140 ?_
            refine xX12_text_141 (hM.1 _ _ rfl) ?_
            refine xX12_text_144 ?_
            refine xX12_text_145_f (by decide) ?_
            refine xX12_text_148 ?_
            refine xX12_text_150 ?_
            refine xX12_text_151 (hM.1 _ _ rfl) ?_
            rw [show ∀ z v, up (up g1 63 (4 * tc + 3) z) 53 12 v 53 29 = nI b from fun z v => (up_ne (by omega)).trans ((congrFun (up_row (by omega)) _).trans hbZ)]
            refine xX12_text_154 ?_
            refine xX12_text_155 rfl rfl ?_
            exact k0 b hRZ _ (hfZ.tr ((MTx.s (by omega)).tr (MTx.u (by omega)))) (MTp_nil (up_same _ _ _ _)) ((up_ne (by omega)).trans ((congrFun (up_row (by omega)) _).trans h15Z))
          · refine xX12_text_31 ?_
            refine xX12_text_32_t (by decide) ?_
            refine xX12_text_101 ?_
            refine xX12_text_102_t (by decide) ?_
            refine xX12_text_122 ?_
            refine xX12_text_123 (hM.1 _ _ rfl) (hM.2 _ _ _ rfl) ?_
            refine xX12_text_126 ?_
            refine xX12_text_127 ?_
            refine xX12_text_128 (hM.1 _ _ rfl) ?_
            refine xX12_text_131 ?_
            refine xX12_text_132 ?_
            refine xX12_text_133 ?_
            refine xX12_text_134 ?_
            refine xX12_text_135 (hM.1 _ _ rfl) ?_
            refine xX12_text_138 (j := (4 * tc + 3)) (hM.1 _ _ rfl) (by rw [h15Z]; exact (congrArg (· + (3 : Int32)) (nI_mulN (a := 4) (by omega) (by omega) (by omega))).trans (nI_add (4 * tc) 3)) (by omega) rfl ?_
            refine xX12_text_139 ?_
            refine xX12_text_140 ?_
            refine xX12_text_141 (hM.1 _ _ rfl) ?_
            refine xX12_text_144 ?_
            refine xX12_text_145_f (by decide) ?_
            refine xX12_text_148 ?_
            refine xX12_text_150 ?_
            refine xX12_text_151 (hM.1 _ _ rfl) ?_
            rw [show ∀ z v, up (up g1 63 (4 * tc + 3) z) 53 12 v 53 29 = nI b from fun z v => (up_ne (by omega)).trans ((congrFun (up_row (by omega)) _).trans hbZ)]
            refine xX12_text_154 ?_
            refine xX12_text_155 rfl rfl ?_
            exact k0 b hRZ _ (hfZ.tr ((MTx.s (by omega)).tr (MTx.u (by omega)))) (MTp_nil (up_same _ _ _ _)) ((up_ne (by omega)).trans ((congrFun (up_row (by omega)) _).trans h15Z))
theorem s_X12_text {d : Nat} {sc : Nat × (Nat → Int32)} {T : List (Nat × Nat)} {rf : Nat → Nat → Option Nat} {g : Nat → Nat → Int32} {tc : Nat} {tp : List Int32} {R : Sum Nat (List (List Int32))} {F : Int32 → AH → Prop} (hM : MS T rf) (hW : WR g) (ht : MTp g tp) (h15 : g 53 15 = nI tc) (htc : tc ≤ 6) (hR : txX 3 0 (TKS tp 0) = R) (hwf : tc < 6 → ∀ css, R = Sum.inr css → css.length = 3 ∧ (∀ c ∈ css, wfd c 0) ∧ css.flatten.length ≤ 200) (k9 : tc = 6 → F (-4) (T, rf, g)) (k0 : tc < 6 → ∀ b, R = Sum.inl b → ∀ g2, MTx tc g g2 → MTp g2 [] → g2 53 15 = nI tc → F (-100 - nI b) (T, rf, g2)) (k1 : tc < 6 → ∀ css, R = Sum.inr css → ∀ g2, MTx tc g g2 → MTp g2 [] → g2 53 15 = nI (tc + 1) → ML g2 tc (fun p => css.getD p []) → F (nI tc) (T, rf, g2)) : Mok (d + 5) 0 0 sc kX12_text [.ref 53] (T, rf, g) (Qi F) := by
  have hl := ht.2.1
  refine Mok.ofWp (L := [some (.ref 53), none, none]) rfl rfl rfl ?_
  refine xX12_text_0 ?_
  refine xX12_text_1 (hM.1 _ _ rfl) ?_
  refine xX12_text_4 ?_
  rw [h15]
  refine xX12_text_6 (fun c6 => ?_) (fun c6 => ?_)
  · have htc6 : tc < 6 := Nat.lt_of_le_of_ne htc (fun z => c6 (by rw [z]; rfl))
    refine xX12_text_12 ?_
    refine xX12_text_13 ?_
    refine xX12_text_14 (hM.1 _ _ rfl) ?_
    refine xX12_text_17 ?_
    refine xX12_text_18 ?_
    refine xX12_text_19 (hM.1 _ _ rfl) ?_
    refine xX12_text_22 ?_
    refine xX12_text_23 rfl ?_
    refine xX12_text_24 ?_
    refine xX12_text_25 rfl ?_
    have hz : MTx tc g (up (up g 53 28 0) 53 36 0) := (MTx.u (by omega)).tr (MTx.u (by omega))
    exact lp_X12_text (gs := g) (N := 161) hM hW htc6 (by omega) (hwf htc6) (k0 htc6) (k1 htc6) 3 0 _ [] 0 _ (TKS tp 0) (by omega) rfl rfl ⟨(up_ne (by omega)).trans ((up_ne (by omega)).trans h15), htc6, up_same _ _ _ _, fun i v hv => by simp at hv⟩ (fun i hi => absurd hi (Nat.not_lt_zero i)) rfl (by omega) ((up_ne (by omega)).trans (up_same _ _ _ _)) hz ⟨(up_ne (by omega)).trans ((up_ne (by omega)).trans ht.1), hl, fun i v hv => by rw [up_row (by omega), up_row (by omega)]; exact ht.2.2 i v hv⟩ (by have := TKS_len (tp := tp) (p := 0); simp only [List.flatten_nil, List.length_nil]; omega) (by rw [← hR]; cases txX 3 0 (TKS tp 0) <;> rfl)
  · have e6 : tc = 6 := nIinj (b := 6) (by omega) (by omega) c6
    refine xX12_text_9 ?_
    refine xX12_text_11 rfl rfl ?_
    exact k9 e6
