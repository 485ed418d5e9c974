theorem lp_X12_says {d : Nat} {sc : Nat × (Nat → Int32)} {T : List (Nat × Nat)} {rf : Nat → Nat → Option Nat} {t p : Nat} {F : Int32 → AH → Prop} {g0 : Nat → Nat → Int32} {N : Nat} (hM : MS T rf) (ht : t < 6) (hp : p < 3) (hT0 : g0 53 16 = nI t) (hN : g0 63 (4 * t + p + 1) = nI N) (hN2 : N ≤ 200) : ∀ (cs : List Int32) (j : Nat) (x2 x3 : Int32) (g : Nat → Nat → Int32) (st : List Int32), x3 = nI j → x2 = nI st.length → MSl g st → st.length ≤ j → wfd cs st.length → j + cs.length = N → (∀ a, a ≠ 71 → g a = g0 a) → (∀ (i : Nat) (v : Int32), cs[i]? = some v → g0 62 (200 * t + (j + i)) = v) → (∀ g2, (∀ a, a ≠ 71 → g2 a = g0 a) → F (hd0 (evX (g0 72) (cs.map tr) st)) (T, rf, g2)) → Wp (d + 1) 0 0 sc kX12_says (Qi F) 16 [some (.ref 53), some (.int (nI p)), some (.int x2), some (.int x3), none] [] (T, rf, g) 0 0 := by
  intro cs
  induction cs with
  | nil =>
    intro j x2 x3 g st hx3 hx2 hs hlj hw hje hf hcs hQ
    have hT : g 53 16 = nI t := by rw [hf 53 (by omega)]; exact hT0
    have e63 : g 63 = g0 63 := hf 63 (by omega)
    have e62 : g 62 = g0 62 := hf 62 (by omega)
    have e72 : g 72 = g0 72 := hf 72 (by omega)
    have e4 : 4 * g 53 16 + nI p + 1 = nI (4 * t + p + 1) := by rw [show (4 : Int32) = nI 4 from rfl, hT, nI_mul4 ht (by omega) (by omega)]; exact nI_1 _
    have e5 : g 63 (4 * t + p + 1) = nI N := by rw [e63]; exact hN
    obtain ⟨v, rfl⟩ : ∃ v, st = [v] := by
      have hw : st.length = 1 := hw
      match st, hw with
      | [v], _ => exact ⟨v, rfl⟩
    have e0 : g 71 0 = v := hs.1
    refine xX12_says_16 ?_
    refine xX12_says_17 ?_
    refine xX12_says_18 (hM.1 _ _ rfl) (hM.2 _ _ _ rfl) ?_
    refine xX12_says_21 ?_
    refine xX12_says_22 ?_
    refine xX12_says_23 (hM.1 _ _ rfl) ?_
    refine xX12_says_26 ?_
    refine xX12_says_27 ?_
    refine xX12_says_28 ?_
    refine xX12_says_29 ?_
    refine xX12_says_30 ?_
    refine xX12_says_31 (j := (4 * t + p + 1)) (hM.1 _ _ rfl) e4 (by omega) rfl ?_
    rw [e5]
    refine xX12_says_32_t (by rw [hx3]; exact nI_le (by simp at hje; omega) (by simp at hje; omega)) ?_
    refine xX12_says_197 ?_
    refine xX12_says_198 (hM.1 _ _ rfl) (hM.2 _ _ _ rfl) ?_
    refine xX12_says_201 ?_
    refine xX12_says_202 (j := 0) (hM.1 _ _ rfl) (by decide) (by decide) rfl ?_
    refine xX12_says_203 rfl rfl ?_
    rw [e0]
    exact hQ _ hf
  | cons c cs ih =>
    intro j x2 x3 g st hx3 hx2 hs hlj hw hje hf hcs hQ
    simp only [List.length_cons] at hje
    have hT : g 53 16 = nI t := by rw [hf 53 (by omega)]; exact hT0
    have e63 : g 63 = g0 63 := hf 63 (by omega)
    have e62 : g 62 = g0 62 := hf 62 (by omega)
    have e72 : g 72 = g0 72 := hf 72 (by omega)
    have e4 : 4 * g 53 16 + nI p + 1 = nI (4 * t + p + 1) := by rw [show (4 : Int32) = nI 4 from rfl, hT, nI_mul4 ht (by omega) (by omega)]; exact nI_1 _
    have e5 : g 63 (4 * t + p + 1) = nI N := by rw [e63]; exact hN
    have hc0 : g 62 (200 * t + j) = c := by rw [e62]; exact hcs 0 c rfl
    rw [List.map_cons] at hQ
    rcases hw with ⟨hl | ⟨k, hk, rfl⟩, hw⟩ | ⟨rfl | rfl, h1, hw⟩ | ⟨hb, h2, hw⟩
    · refine xX12_says_16 ?_
      refine xX12_says_17 ?_
      refine xX12_says_18 (hM.1 _ _ rfl) (hM.2 _ _ _ rfl) ?_
      refine xX12_says_21 ?_
      refine xX12_says_22 ?_
      refine xX12_says_23 (hM.1 _ _ rfl) ?_
      refine xX12_says_26 ?_
      refine xX12_says_27 ?_
      refine xX12_says_28 ?_
      refine xX12_says_29 ?_
      refine xX12_says_30 ?_
      refine xX12_says_31 (j := (4 * t + p + 1)) (hM.1 _ _ rfl) e4 (by omega) rfl ?_
      rw [e5]
      refine xX12_says_32_f (by rw [hx3]; exact nI_ge (by omega) (by omega)) ?_
      refine xX12_says_35 ?_
      refine xX12_says_36 (hM.1 _ _ rfl) (hM.2 _ _ _ rfl) ?_
      refine xX12_says_39 ?_
      refine xX12_says_42 ?_
      refine xX12_says_43 (hM.1 _ _ rfl) ?_
      refine xX12_says_46 ?_
      refine xX12_says_47 ?_
      refine xX12_says_48 ?_
      refine xX12_says_49 (j := (200 * t + j)) (hM.1 _ _ rfl) (by rw [show (200 : Int32) = nI 200 from rfl, hT, hx3]; exact nI_mul4 ht (by omega) (by omega)) (by omega) rfl ?_
      rw [hc0]
      refine xX12_says_50 rfl ?_
      refine xX12_says_52 ?_
      refine xX12_says_54 ?_
      refine xX12_says_56_t hl.1 ?_
      refine xX12_says_66 ?_
      refine xX12_says_67 (hM.1 _ _ rfl) (hM.2 _ _ _ rfl) ?_
      refine xX12_says_70 ?_
      refine xX12_says_71 ?_
      refine xX12_says_73 ?_
      refine xX12_says_75_t (Int32.le_trans (by decide) hl.1) ?_
      refine xX12_says_88 ?_
      refine xX12_says_90 ?_
      refine xX12_says_92 ?_
      refine xX12_says_93 (j := st.length) (hM.1 _ _ rfl) hx2 (by omega) rfl ?_
      refine xX12_says_94 rfl rfl ?_
      refine xX12_says_97 ?_
      refine xX12_says_191 rfl rfl ?_
      refine xX12_says_194 ?_
      refine wp_kill_4 ?_
      exact ih (j + 1) _ _ _ ((c - 100000) :: st) (by rw [hx3]; exact nI_1 _) (by rw [hx2]; exact nI_1 _) (MSl_push hs) (by simp only [List.length_cons] at *; omega) hw (by omega) (fun a h => by rw [up_row h]; exact hf a h) (fun i v hi => by rw [show j + 1 + i = j + (i + 1) by omega]; exact hcs (i + 1) v hi) (fun g2 h2 => by rw [evX_cons, st1_num hl] at hQ; exact hQ g2 h2)
    · refine xX12_says_16 ?_
      refine xX12_says_17 ?_
      refine xX12_says_18 (hM.1 _ _ rfl) (hM.2 _ _ _ rfl) ?_
      refine xX12_says_21 ?_
      refine xX12_says_22 ?_
      refine xX12_says_23 (hM.1 _ _ rfl) ?_
      refine xX12_says_26 ?_
      refine xX12_says_27 ?_
      refine xX12_says_28 ?_
      refine xX12_says_29 ?_
      refine xX12_says_30 ?_
      refine xX12_says_31 (j := (4 * t + p + 1)) (hM.1 _ _ rfl) e4 (by omega) rfl ?_
      rw [e5]
      refine xX12_says_32_f (by rw [hx3]; exact nI_ge (by omega) (by omega)) ?_
      refine xX12_says_35 ?_
      refine xX12_says_36 (hM.1 _ _ rfl) (hM.2 _ _ _ rfl) ?_
      refine xX12_says_39 ?_
      refine xX12_says_42 ?_
      refine xX12_says_43 (hM.1 _ _ rfl) ?_
      refine xX12_says_46 ?_
      refine xX12_says_47 ?_
      refine xX12_says_48 ?_
      refine xX12_says_49 (j := (200 * t + j)) (hM.1 _ _ rfl) (by rw [show (200 : Int32) = nI 200 from rfl, hT, hx3]; exact nI_mul4 ht (by omega) (by omega)) (by omega) rfl ?_
      rw [hc0]
      refine xX12_says_50 rfl ?_
      refine xX12_says_52 ?_
      refine xX12_says_54 ?_
      refine xX12_says_56_f (fun z => absurd (iLe.mp z) (by rw [iT (by omega)]; show ¬ (100000 : Int) ≤ _; omega)) ?_
      refine xX12_says_59 ?_
      refine xX12_says_61 ?_
      refine xX12_says_63_f (fun z => absurd (iLe.mp z) (by rw [iT (by omega)]; show ¬ (11 : Int) ≤ _; omega)) ?_
      refine xX12_says_66 ?_
      refine xX12_says_67 (hM.1 _ _ rfl) (hM.2 _ _ _ rfl) ?_
      refine xX12_says_70 ?_
      refine xX12_says_71 ?_
      refine xX12_says_73 ?_
      refine xX12_says_75_f (fun z => absurd (iLe.mp z) (by rw [iT (by omega)]; show ¬ (11 : Int) ≤ _; omega)) ?_
      refine xX12_says_78 ?_
      refine xX12_says_79 (hM.1 _ _ rfl) (hM.2 _ _ _ rfl) ?_
      refine xX12_says_82 ?_
      refine xX12_says_84 (j := k) (hM.1 _ _ rfl) rfl hk rfl ?_
      refine xX12_says_85 ?_
      rw [e72]
      refine xX12_says_93 (j := st.length) (hM.1 _ _ rfl) hx2 (by omega) rfl ?_
      refine xX12_says_94 rfl rfl ?_
      refine xX12_says_97 ?_
      refine xX12_says_191 rfl rfl ?_
      refine xX12_says_194 ?_
      refine wp_kill_4 ?_
      exact ih (j + 1) _ _ _ (g0 72 k :: st) (by rw [hx3]; exact nI_1 _) (by rw [hx2]; exact nI_1 _) (MSl_push hs) (by simp only [List.length_cons] at *; omega) hw (by omega) (fun a h => by rw [up_row h]; exact hf a h) (fun i v hi => by rw [show j + 1 + i = j + (i + 1) by omega]; exact hcs (i + 1) v hi) (fun g2 h2 => by rw [evX_cons, st1_name hk] at hQ; exact hQ g2 h2)
    · obtain ⟨v, st, rfl⟩ : ∃ v s2, st = v :: s2 := by
        cases st with
        | nil => exact absurd h1 (by decide)
        | cons v st => exact ⟨v, st, rfl⟩
      simp only [List.length_cons] at hx2 hlj
      have e1 : x2 - 1 = nI st.length := by rw [hx2]; exact nI_pred _
      have ev : g 71 st.length = v := hs.1
      refine xX12_says_16 ?_
      refine xX12_says_17 ?_
      refine xX12_says_18 (hM.1 _ _ rfl) (hM.2 _ _ _ rfl) ?_
      refine xX12_says_21 ?_
      refine xX12_says_22 ?_
      refine xX12_says_23 (hM.1 _ _ rfl) ?_
      refine xX12_says_26 ?_
      refine xX12_says_27 ?_
      refine xX12_says_28 ?_
      refine xX12_says_29 ?_
      refine xX12_says_30 ?_
      refine xX12_says_31 (j := (4 * t + p + 1)) (hM.1 _ _ rfl) e4 (by omega) rfl ?_
      rw [e5]
      refine xX12_says_32_f (by rw [hx3]; exact nI_ge (by omega) (by omega)) ?_
      refine xX12_says_35 ?_
      refine xX12_says_36 (hM.1 _ _ rfl) (hM.2 _ _ _ rfl) ?_
      refine xX12_says_39 ?_
      refine xX12_says_42 ?_
      refine xX12_says_43 (hM.1 _ _ rfl) ?_
      refine xX12_says_46 ?_
      refine xX12_says_47 ?_
      refine xX12_says_48 ?_
      refine xX12_says_49 (j := (200 * t + j)) (hM.1 _ _ rfl) (by rw [show (200 : Int32) = nI 200 from rfl, hT, hx3]; exact nI_mul4 ht (by omega) (by omega)) (by omega) rfl ?_
      rw [hc0]
      refine xX12_says_50 rfl ?_
      refine xX12_says_52 ?_
      refine xX12_says_54 ?_
      refine xX12_says_56_f (by decide) ?_
      refine xX12_says_59 ?_
      refine xX12_says_61 ?_
      refine xX12_says_63_t (by decide) ?_
      refine xX12_says_100 ?_
      refine xX12_says_102 ?_
      refine xX12_says_104_f (by decide) ?_
      refine xX12_says_107 ?_
      refine xX12_says_108 (hM.1 _ _ rfl) (hM.2 _ _ _ rfl) ?_
      refine xX12_says_111 ?_
      refine xX12_says_112 ?_
      refine xX12_says_113 ?_
      refine xX12_says_114 ?_
      refine xX12_says_115 (hM.1 _ _ rfl) (hM.2 _ _ _ rfl) ?_
      refine xX12_says_118 ?_
      refine xX12_says_119 ?_
      refine xX12_says_120 ?_
      refine xX12_says_121 (j := st.length) (hM.1 _ _ rfl) e1 (by omega) rfl ?_
      rw [ev]
      refine xX12_says_122 (fun cv => ?_) (fun cv => ?_)
      · have ew : (if v = 0 then (1 : Int32) else 0) = 0 := if_neg cv
        refine xX12_says_129 ?_
        refine xX12_says_130 (j := st.length) (hM.1 _ _ rfl) e1 (by omega) rfl ?_
        refine xX12_says_131 ?_
        refine xX12_says_191 rfl rfl ?_
        refine xX12_says_194 ?_
        refine wp_kill_4 ?_
        exact ih (j + 1) _ _ _ ((if v = 0 then 1 else 0) :: st) (by rw [hx3]; exact nI_1 _) hx2 (by rw [ew]; exact MSl_push hs.2) (by simp only [List.length_cons]; omega) hw (by omega) (fun a h => by rw [up_row h]; exact hf a h) (fun i v hi => by rw [show j + 1 + i = j + (i + 1) by omega]; exact hcs (i + 1) v hi) (fun g2 h2 => by rw [evX_cons, st1_not] at hQ; exact hQ g2 h2)
      · have ew : (if v = 0 then (1 : Int32) else 0) = 1 := if_pos cv
        refine xX12_says_125 ?_
        refine xX12_says_126 ?_
        refine xX12_says_130 (j := st.length) (hM.1 _ _ rfl) e1 (by omega) rfl ?_
        refine xX12_says_131 ?_
        refine xX12_says_191 rfl rfl ?_
        refine xX12_says_194 ?_
        refine wp_kill_4 ?_
        exact ih (j + 1) _ _ _ ((if v = 0 then 1 else 0) :: st) (by rw [hx3]; exact nI_1 _) hx2 (by rw [ew]; exact MSl_push hs.2) (by simp only [List.length_cons]; omega) hw (by omega) (fun a h => by rw [up_row h]; exact hf a h) (fun i v hi => by rw [show j + 1 + i = j + (i + 1) by omega]; exact hcs (i + 1) v hi) (fun g2 h2 => by rw [evX_cons, st1_not] at hQ; exact hQ g2 h2)
    · obtain ⟨v, st, rfl⟩ : ∃ v s2, st = v :: s2 := by
        cases st with
        | nil => exact absurd h1 (by decide)
        | cons v st => exact ⟨v, st, rfl⟩
      simp only [List.length_cons] at hx2 hlj
      have e1 : x2 - 1 = nI st.length := by rw [hx2]; exact nI_pred _
      have ev : g 71 st.length = v := hs.1
      refine xX12_says_16 ?_
      refine xX12_says_17 ?_
      refine xX12_says_18 (hM.1 _ _ rfl) (hM.2 _ _ _ rfl) ?_
      refine xX12_says_21 ?_
      refine xX12_says_22 ?_
      refine xX12_says_23 (hM.1 _ _ rfl) ?_
      refine xX12_says_26 ?_
      refine xX12_says_27 ?_
      refine xX12_says_28 ?_
      refine xX12_says_29 ?_
      refine xX12_says_30 ?_
      refine xX12_says_31 (j := (4 * t + p + 1)) (hM.1 _ _ rfl) e4 (by omega) rfl ?_
      rw [e5]
      refine xX12_says_32_f (by rw [hx3]; exact nI_ge (by omega) (by omega)) ?_
      refine xX12_says_35 ?_
      refine xX12_says_36 (hM.1 _ _ rfl) (hM.2 _ _ _ rfl) ?_
      refine xX12_says_39 ?_
      refine xX12_says_42 ?_
      refine xX12_says_43 (hM.1 _ _ rfl) ?_
      refine xX12_says_46 ?_
      refine xX12_says_47 ?_
      refine xX12_says_48 ?_
      refine xX12_says_49 (j := (200 * t + j)) (hM.1 _ _ rfl) (by rw [show (200 : Int32) = nI 200 from rfl, hT, hx3]; exact nI_mul4 ht (by omega) (by omega)) (by omega) rfl ?_
      rw [hc0]
      refine xX12_says_50 rfl ?_
      refine xX12_says_52 ?_
      refine xX12_says_54 ?_
      refine xX12_says_56_f (by decide) ?_
      refine xX12_says_59 ?_
      refine xX12_says_61 ?_
      refine xX12_says_63_t (by decide) ?_
      refine xX12_says_100 ?_
      refine xX12_says_102 ?_
      refine xX12_says_104_t (by decide) ?_
      refine xX12_says_134 ?_
      refine xX12_says_136 ?_
      refine xX12_says_138_f (by decide) ?_
      refine xX12_says_141 ?_
      refine xX12_says_142 (hM.1 _ _ rfl) (hM.2 _ _ _ rfl) ?_
      refine xX12_says_145 ?_
      refine xX12_says_146 ?_
      refine xX12_says_147 ?_
      refine xX12_says_148 ?_
      refine xX12_says_149 (hM.1 _ _ rfl) (hM.2 _ _ _ rfl) ?_
      refine xX12_says_152 ?_
      refine xX12_says_153 ?_
      refine xX12_says_154 ?_
      refine xX12_says_155 (j := st.length) (hM.1 _ _ rfl) e1 (by omega) rfl ?_
      rw [ev]
      refine xX12_says_156 ?_
      refine xX12_says_157 (j := st.length) (hM.1 _ _ rfl) e1 (by omega) rfl ?_
      refine xX12_says_158 ?_
      refine xX12_says_191 rfl rfl ?_
      refine xX12_says_194 ?_
      refine wp_kill_4 ?_
      exact ih (j + 1) _ _ _ (-v :: st) (by rw [hx3]; exact nI_1 _) hx2 (MSl_push hs.2) (by simp only [List.length_cons]; omega) hw (by omega) (fun a h => by rw [up_row h]; exact hf a h) (fun i v hi => by rw [show j + 1 + i = j + (i + 1) by omega]; exact hcs (i + 1) v hi) (fun g2 h2 => by rw [evX_cons, st1_neg] at hQ; exact hQ g2 h2)
    · obtain ⟨b, a, st, rfl⟩ : ∃ b a s2, st = b :: a :: s2 := by
        match st, h2 with
        | b :: a :: s2, _ => exact ⟨b, a, s2, rfl⟩
      simp only [List.length_cons] at hx2 hlj hw
      have e1 : x2 + -1 = nI (st.length + 1) := by rw [hx2, ← Int32.sub_eq_add_neg]; exact nI_pred _
      have e2 : x2 + -1 - 1 = nI st.length := by rw [e1]; exact nI_pred _
      have ea : g 71 st.length = a := hs.2.1
      have eb : g 71 (st.length + 1) = b := hs.1
      have n1 : ¬ 100000 ≤ c := by rcases hb with rfl | rfl | rfl | rfl | rfl | rfl | rfl <;> decide
      have n2 : 11 ≤ c := by rcases hb with rfl | rfl | rfl | rfl | rfl | rfl | rfl <;> decide
      have n3 : ¬ c = 13 := by rcases hb with rfl | rfl | rfl | rfl | rfl | rfl | rfl <;> decide
      have n4 : ¬ c = 19 := by rcases hb with rfl | rfl | rfl | rfl | rfl | rfl | rfl <;> decide
      refine xX12_says_16 ?_
      refine xX12_says_17 ?_
      refine xX12_says_18 (hM.1 _ _ rfl) (hM.2 _ _ _ rfl) ?_
      refine xX12_says_21 ?_
      refine xX12_says_22 ?_
      refine xX12_says_23 (hM.1 _ _ rfl) ?_
      refine xX12_says_26 ?_
      refine xX12_says_27 ?_
      refine xX12_says_28 ?_
      refine xX12_says_29 ?_
      refine xX12_says_30 ?_
      refine xX12_says_31 (j := (4 * t + p + 1)) (hM.1 _ _ rfl) e4 (by omega) rfl ?_
      rw [e5]
      refine xX12_says_32_f (by rw [hx3]; exact nI_ge (by omega) (by omega)) ?_
      refine xX12_says_35 ?_
      refine xX12_says_36 (hM.1 _ _ rfl) (hM.2 _ _ _ rfl) ?_
      refine xX12_says_39 ?_
      refine xX12_says_42 ?_
      refine xX12_says_43 (hM.1 _ _ rfl) ?_
      refine xX12_says_46 ?_
      refine xX12_says_47 ?_
      refine xX12_says_48 ?_
      refine xX12_says_49 (j := (200 * t + j)) (hM.1 _ _ rfl) (by rw [show (200 : Int32) = nI 200 from rfl, hT, hx3]; exact nI_mul4 ht (by omega) (by omega)) (by omega) rfl ?_
      rw [hc0]
      refine xX12_says_50 rfl ?_
      refine xX12_says_52 ?_
      refine xX12_says_54 ?_
      refine xX12_says_56_f n1 ?_
      refine xX12_says_59 ?_
      refine xX12_says_61 ?_
      refine xX12_says_63_t n2 ?_
      refine xX12_says_100 ?_
      refine xX12_says_102 ?_
      refine xX12_says_104_t n3 ?_
      refine xX12_says_134 ?_
      refine xX12_says_136 ?_
      refine xX12_says_138_t n4 ?_
      refine xX12_says_161 rfl rfl ?_
      refine xX12_says_164 ?_
      refine xX12_says_165 (hM.1 _ _ rfl) (hM.2 _ _ _ rfl) ?_
      refine xX12_says_168 ?_
      refine xX12_says_169 ?_
      refine xX12_says_170 ?_
      refine xX12_says_171 ?_
      refine xX12_says_173 ?_
      refine xX12_says_174 (hM.1 _ _ rfl) (hM.2 _ _ _ rfl) ?_
      refine xX12_says_177 ?_
      refine xX12_says_178 ?_
      refine xX12_says_179 ?_
      refine xX12_says_180 (j := st.length) (hM.1 _ _ rfl) e2 (by omega) rfl ?_
      rw [ea]
      refine xX12_says_181 ?_
      refine xX12_says_182 (hM.1 _ _ rfl) (hM.2 _ _ _ rfl) ?_
      refine xX12_says_185 ?_
      refine xX12_says_186 (j := (st.length + 1)) (hM.1 _ _ rfl) e1 (by omega) rfl ?_
      rw [eb]
      refine xX12_says_187 rfl rfl rfl (s_X12_two hb ?_)
      refine xX12_says_190 (j := st.length) (hM.1 _ _ rfl) e2 (by omega) rfl ?_
      refine xX12_says_191 rfl rfl ?_
      refine xX12_says_194 ?_
      refine wp_kill_4 ?_
      exact ih (j + 1) _ _ _ (twoM c a b :: st) (by rw [hx3]; exact nI_1 _) e1 (MSl_push hs.2.2) (by simp only [List.length_cons]; omega) hw (by omega) (fun a h => by rw [up_row h]; exact hf a h) (fun i v hi => by rw [show j + 1 + i = j + (i + 1) by omega]; exact hcs (i + 1) v hi) (fun g2 h2 => by rw [evX_cons, st1_bin hb] at hQ; exact hQ g2 h2)
