-- ===== the reference's tokens =====
def WMl : List (List Int32) := [[98, 114, 111, 119, 110, 115], [99, 111, 111, 108, 115], [109, 105, 110, 100, 115], [104, 101, 97, 116], [109, 105, 110, 117, 116, 101], [98, 114, 111, 119, 110], [109, 111, 114, 101], [115, 105, 110, 99, 101], [111, 112, 101, 110, 105, 110, 103, 115], [111, 114], [97, 110, 100], [110, 111, 116]]
def mfi : List (List Int32) → Nat → List Int32 → Nat
  | [], k, _ => k
  | x :: xs, k, w => if w = x then k else mfi xs (k + 1) w
def wmi (w : List Int32) : Nat := mfi WMl 0 w
def mtk (t : Int32) : Int32 := if t = 1 then -1 else if t = 2 then 1 else if 106 ≤ t then 2 else if t = 103 then 4 else if t = 104 then 5 else if t = 105 then 6 else if 100 ≤ t then 3 else t
def mwt (k : Nat) : Int32 := if k < 3 then 3 else if k < 9 then 2 else if k = 12 then -1 else nI (4 + k - 9)
def mwv (k : Nat) : Int32 := if k < 3 then nI k else nI k - 3
/-- the reference's row of words -/
def WR (g : Nat → Nat → Int32) : Prop := ∀ k, k < 12 → ∀ c, c < 8 → g 69 (8 * k + c) = (WMl.getD k []).getD c 32
theorem wm_all (w : List Int32) : wmi w ≤ 12 ∧ mwt (wmi w) = mtk (wdX w) ∧ (106 ≤ wdX w → mwv (wmi w) = wdX w - 106) ∧ (100 ≤ wdX w ∧ wdX w ≤ 102 → mwv (wmi w) = wdX w - 100) := by
  by_cases h0 : w = [98, 114, 111, 119, 110, 115]
  · subst h0; decide +kernel
  by_cases h1 : w = [99, 111, 111, 108, 115]
  · subst h1; decide +kernel
  by_cases h2 : w = [109, 105, 110, 100, 115]
  · subst h2; decide +kernel
  by_cases h3 : w = [104, 101, 97, 116]
  · subst h3; decide +kernel
  by_cases h4 : w = [109, 105, 110, 117, 116, 101]
  · subst h4; decide +kernel
  by_cases h5 : w = [98, 114, 111, 119, 110]
  · subst h5; decide +kernel
  by_cases h6 : w = [109, 111, 114, 101]
  · subst h6; decide +kernel
  by_cases h7 : w = [115, 105, 110, 99, 101]
  · subst h7; decide +kernel
  by_cases h8 : w = [111, 112, 101, 110, 105, 110, 103, 115]
  · subst h8; decide +kernel
  by_cases h9 : w = [111, 114]
  · subst h9; decide +kernel
  by_cases h10 : w = [97, 110, 100]
  · subst h10; decide +kernel
  by_cases h11 : w = [110, 111, 116]
  · subst h11; decide +kernel
  have e1 : wmi w = 12 := by
    unfold wmi WMl mfi
    rw [if_neg h0]; unfold mfi; rw [if_neg h1]; unfold mfi; rw [if_neg h2]; unfold mfi; rw [if_neg h3]; unfold mfi; rw [if_neg h4]; unfold mfi; rw [if_neg h5]; unfold mfi; rw [if_neg h6]; unfold mfi; rw [if_neg h7]; unfold mfi; rw [if_neg h8]; unfold mfi; rw [if_neg h9]; unfold mfi; rw [if_neg h10]; unfold mfi; rw [if_neg h11]; unfold mfi; rfl
  have e2 : wdX w = 1 := by
    have eW : WLs = [[98, 114, 111, 119, 110, 115], [99, 111, 111, 108, 115], [109, 105, 110, 100, 115], [111, 114], [97, 110, 100], [110, 111, 116], [104, 101, 97, 116], [109, 105, 110, 117, 116, 101], [98, 114, 111, 119, 110], [109, 111, 114, 101], [115, 105, 110, 99, 101], [111, 112, 101, 110, 105, 110, 103, 115]] := by decide +kernel
    unfold wdX
    rw [eW]
    simp only [wdF, if_neg h0, if_neg h1, if_neg h2, if_neg h3, if_neg h4, if_neg h5, if_neg h6, if_neg h7, if_neg h8, if_neg h9, if_neg h10, if_neg h11]
  rw [e1, e2]
  decide
theorem gd_any {W : List Int32} {j : Nat} {a b : Int32} (h : j < W.length) : W.getD j a = W.getD j b := by
  rw [List.getD_eq_getElem?_getD, List.getD_eq_getElem?_getD, List.getElem?_eq_getElem h]
  rfl
theorem gd_out {W : List Int32} {j : Nat} {a : Int32} (h : W.length ≤ j) : W.getD j a = a := by
  rw [List.getD_eq_getElem?_getD, List.getElem?_eq_none h]
  rfl
theorem WMl_ok : ∀ k, k < 12 → (WMl.getD k []).length ≤ 8 ∧ ∀ c, c < 8 → c < (WMl.getD k []).length → (WMl.getD k []).getD c 32 ≠ 32 := by decide +kernel
/-- the k-th word stands there, blanks behind it -/
theorem word_pad {tp : List Int32} {b e k : Nat} (hk : k < 12) (hbe : b ≤ e) (he : e ≤ tp.length) (hl : ∀ c, c < e - b → byX tp (b + c) ≠ 32) : (e - b ≤ 8 ∧ ∀ c, c < 8 → (WMl.getD k []).getD c 32 = if b + c < e then byX tp (b + c) else 32) ↔ (tp.drop b).take (e - b) = WMl.getD k [] := by
  obtain ⟨k1, k2⟩ := WMl_ok k hk
  have hdl : e - b ≤ (tp.drop b).length := by rw [List.length_drop]; omega
  rw [take_eq hdl]
  constructor
  · rintro ⟨h8, h⟩
    have hlen : (WMl.getD k []).length = e - b := by
      rcases Nat.lt_trichotomy (WMl.getD k []).length (e - b) with q | q | q
      · have := h (WMl.getD k []).length (by omega)
        rw [if_pos (by omega), gd_out (Nat.le_refl _)] at this
        exact absurd this.symm (hl _ q)
      · exact q
      · have := h (e - b) (by omega)
        rw [if_neg (by omega)] at this
        exact absurd this (k2 _ (by omega) q)
    refine ⟨hlen, fun j hj => ?_⟩
    have := h j (by omega)
    rw [if_pos (by omega)] at this
    rw [byX_d, ← this]
    exact gd_any (by omega)
  · rintro ⟨h1, h2⟩
    refine ⟨by omega, fun c hc => ?_⟩
    by_cases q : b + c < e
    · rw [if_pos q]
      have := h2 c (by omega)
      rw [byX_d] at this
      rw [← this]
      exact gd_any (by omega)
    · rw [if_neg q]
      exact gd_out (by omega)
theorem MTp.by {g : Nat → Nat → Int32} {tp : List Int32} {i : Nat} (h : MTp g tp) (hi : i < tp.length) : g 61 i = byX tp i := by
  unfold byX
  rw [List.getD_eq_getElem?_getD, List.getElem?_eq_getElem hi]
  exact h.2.2 i _ (List.getElem?_eq_getElem hi)
theorem mfi_s {w : List Int32} {j : Nat} (hj : j < 12) : mfi (WMl.drop j) j w = if w = WMl.getD j [] then j else mfi (WMl.drop (j + 1)) (j + 1) w := by
  have hl : j < WMl.length := hj
  rw [List.drop_eq_getElem_cons hl, List.getD_eq_getElem?_getD, List.getElem?_eq_getElem hl]
  rfl
theorem i8 {k c : Nat} (hk : k < 12) (hc : c < 8) : 8 * nI k + nI c = nI (8 * k + c) := by
  rw [show (8 : Int32) = nI 8 from rfl, nI_mulN (by omega) (by omega) (by omega), nI_add]
theorem lp_X12_wordFrom1 {d : Nat} {sc : Nat × (Nat → Int32)} {T : List (Nat × Nat)} {rf : Nat → Nat → Option Nat} {g : Nat → Nat → Int32} {tp : List Int32} {b e k : Nat} {F : Int32 → AH → Prop} (hM : MS T rf) (hW : WR g) (ht : MTp g tp) (he : e ≤ tp.length) (hb9 : b ≤ 160) (hk : k < 12) (k1 : (∀ c, c < 8 → (WMl.getD k []).getD c 32 = if b + c < e then byX tp (b + c) else 32) → ∀ x5, Wp d 0 0 sc kX12_wordFrom (Qi F) 88 [some (.ref 53), some (.int (nI b)), some (.int (nI e)), some (.int (nI k)), some (.int 1), some (.int x5)] [] (T, rf, g) 0 0) (k0 : ¬ (∀ c, c < 8 → (WMl.getD k []).getD c 32 = if b + c < e then byX tp (b + c) else 32) → ∀ x5, Wp d 0 0 sc kX12_wordFrom (Qi F) 88 [some (.ref 53), some (.int (nI b)), some (.int (nI e)), some (.int (nI k)), some (.int 0), some (.int x5)] [] (T, rf, g) 0 0) : ∀ (k_ j : Nat) (x5 : Int32), (j + k_ = 8) → (x5 = nI j) → (∀ c, c < j → (WMl.getD k []).getD c 32 = if b + c < e then byX tp (b + c) else 32) → Wp d 0 0 sc kX12_wordFrom (Qi F) 26 [some (.ref 53), some (.int (nI b)), some (.int (nI e)), some (.int (nI k)), some (.int 1), some (.int x5)] [] (T, rf, g) 0 0 := by
  intro k_
  induction k_ with
  | zero =>
    intro j x5 hj hx5 hs
    subst hx5
    have hl := ht.2.1
    refine xX12_wordFrom_26 ?_
    refine xX12_wordFrom_28 ?_
    refine xX12_wordFrom_30_t (nI_le (a := 8) (by omega) (by omega)) ?_
    have ej : j = 8 := by omega
    subst ej
    exact k1 hs _
  | succ k_ ih =>
    intro j x5 hj hx5 hs
    subst hx5
    have hl := ht.2.1
    refine xX12_wordFrom_26 ?_
    refine xX12_wordFrom_28 ?_
    refine xX12_wordFrom_30_f (nI_ge (b := 8) (by omega) (by omega)) ?_
    refine xX12_wordFrom_33 ?_
    refine xX12_wordFrom_35_f (by decide) ?_
    refine xX12_wordFrom_38 ?_
    refine xX12_wordFrom_39 (hM.1 _ _ rfl) (hM.2 _ _ _ rfl) ?_
    refine xX12_wordFrom_42 ?_
    refine xX12_wordFrom_44 ?_
    refine xX12_wordFrom_45 ?_
    refine xX12_wordFrom_46 ?_
    refine xX12_wordFrom_48 ?_
    refine xX12_wordFrom_49 (j := (8 * k + j)) (hM.1 _ _ rfl) (i8 hk (by omega)) (by omega) rfl ?_
    rw [hW k hk j (by omega)]
    refine xX12_wordFrom_50 ?_
    refine xX12_wordFrom_51 ?_
    refine xX12_wordFrom_53 ?_
    rw [nI_add b j]
    refine xX12_wordFrom_54 ?_
    refine xX12_wordFrom_55 (fun c55 => ?_) (fun c55 => ?_)
    · have hbe : ¬ b + j < e := fun z => absurd c55 (Int32.not_le.mpr (nI_lt z (by omega)))
      have hv : (32 : Int32) = if b + j < e then byX tp (b + j) else 32 := (if_neg hbe).symm
      refine xX12_wordFrom_70 ?_
      refine xX12_wordFrom_72 (fun c72 => ?_) (fun c72 => ?_)
      · refine xX12_wordFrom_79 ?_
        refine xX12_wordFrom_80 rfl ?_
        refine xX12_wordFrom_82 rfl rfl ?_
        refine xX12_wordFrom_85 ?_
        refine xX12_wordFrom_26 ?_
        refine xX12_wordFrom_28 ?_
        refine xX12_wordFrom_30 (fun c30 => ?_) (fun c30 => ?_)
        · exact k0 (fun z => c72 ((z j (by omega)).trans hv.symm)) _
        · refine xX12_wordFrom_33 ?_
          refine xX12_wordFrom_35_t (by decide) ?_
          exact k0 (fun z => c72 ((z j (by omega)).trans hv.symm)) _
      · refine xX12_wordFrom_75 ?_
        refine xX12_wordFrom_76 ?_
        refine xX12_wordFrom_80 rfl ?_
        refine xX12_wordFrom_82 rfl rfl ?_
        refine xX12_wordFrom_85 ?_
        exact ih (j + 1) _ (by omega) (nI_1 j) (fun c hc => by
          by_cases z : c = j
          · subst z; exact c72.trans hv
          · exact hs c (by omega))
    · have hbe : b + j < e := Nat.lt_of_not_le (fun z => c55 (nI_le z (by omega)))
      refine xX12_wordFrom_58 ?_
      refine xX12_wordFrom_59 (hM.1 _ _ rfl) (hM.2 _ _ _ rfl) ?_
      refine xX12_wordFrom_62 ?_
      refine xX12_wordFrom_63 ?_
      refine xX12_wordFrom_65 ?_
      refine xX12_wordFrom_66 (j := (b + j)) (hM.1 _ _ rfl) (nI_add b j) (by omega) rfl ?_
      rw [ht.by (by omega)]
      have hv : byX tp (b + j) = if b + j < e then byX tp (b + j) else 32 := (if_pos hbe).symm
      refine xX12_wordFrom_67 ?_
      refine xX12_wordFrom_72 (fun c72 => ?_) (fun c72 => ?_)
      · refine xX12_wordFrom_79 ?_
        refine xX12_wordFrom_80 rfl ?_
        refine xX12_wordFrom_82 rfl rfl ?_
        refine xX12_wordFrom_85 ?_
        refine xX12_wordFrom_26 ?_
        refine xX12_wordFrom_28 ?_
        refine xX12_wordFrom_30 (fun c30 => ?_) (fun c30 => ?_)
        · exact k0 (fun z => c72 ((z j (by omega)).trans hv.symm)) _
        · refine xX12_wordFrom_33 ?_
          refine xX12_wordFrom_35_t (by decide) ?_
          exact k0 (fun z => c72 ((z j (by omega)).trans hv.symm)) _
      · refine xX12_wordFrom_75 ?_
        refine xX12_wordFrom_76 ?_
        refine xX12_wordFrom_80 rfl ?_
        refine xX12_wordFrom_82 rfl rfl ?_
        refine xX12_wordFrom_85 ?_
        exact ih (j + 1) _ (by omega) (nI_1 j) (fun c hc => by
          by_cases z : c = j
          · subst z; exact c72.trans hv
          · exact hs c (by omega))
theorem lp_X12_wordFrom {d : Nat} {sc : Nat × (Nat → Int32)} {T : List (Nat × Nat)} {rf : Nat → Nat → Option Nat} {g : Nat → Nat → Int32} {tp : List Int32} {b e : Nat} {F : Int32 → AH → Prop} (hM : MS T rf) (hW : WR g) (ht : MTp g tp) (hbe : b ≤ e) (he : e ≤ tp.length) (hlt : ∀ c, c < e - b → byX tp (b + c) ≠ 32) (hQ : F (nI (wmi ((tp.drop b).take (e - b)))) (T, rf, g)) : ∀ (k j : Nat) (x3 : Int32), (j + k = 12) → (x3 = nI j) → (mfi (WMl.drop j) j ((tp.drop b).take (e - b)) = wmi ((tp.drop b).take (e - b))) → Wp d 0 0 sc kX12_wordFrom (Qi F) 2 [some (.ref 53), some (.int (nI b)), some (.int (nI e)), some (.int x3), none, none] [] (T, rf, g) 0 0 := by
  intro k
  induction k with
  | zero =>
    intro j x3 hj hx3 hs
    subst hx3
    have hl := ht.2.1
    have esub : nI e - nI b = nI (e - b) := by
      apply Int32.toInt_inj.mp
      rw [iSub (by rw [iT (by omega), iT (by omega)]; omega) (by rw [iT (by omega), iT (by omega)]; omega), iT (by omega), iT (by omega), iT (by omega)]
      omega
    refine xX12_wordFrom_2 ?_
    refine xX12_wordFrom_3 ?_
    refine xX12_wordFrom_5_t (nI_le (a := 12) (by omega) (by omega)) ?_
    refine xX12_wordFrom_101 ?_
    refine xX12_wordFrom_103 rfl rfl ?_
    have ej : j = 12 := by omega
    subst ej
    have hs : 12 = wmi ((tp.drop b).take (e - b)) := hs
    rw [← hs] at hQ
    exact hQ
  | succ k ih =>
    intro j x3 hj hx3 hs
    subst hx3
    have hl := ht.2.1
    have esub : nI e - nI b = nI (e - b) := by
      apply Int32.toInt_inj.mp
      rw [iSub (by rw [iT (by omega), iT (by omega)]; omega) (by rw [iT (by omega), iT (by omega)]; omega), iT (by omega), iT (by omega), iT (by omega)]
      omega
    refine xX12_wordFrom_2 ?_
    refine xX12_wordFrom_3 ?_
    refine xX12_wordFrom_5_f (nI_ge (b := 12) (by omega) (by omega)) ?_
    refine xX12_wordFrom_8 ?_
    refine xX12_wordFrom_9 ?_
    refine xX12_wordFrom_10 ?_
    refine xX12_wordFrom_11 ?_
    rw [esub]
    have hj12 : j < 12 := by omega
    have hiff := word_pad hj12 hbe he hlt
    refine xX12_wordFrom_13 (fun c13 => ?_) (fun c13 => ?_)
    · have hne : ¬ ((tp.drop b).take (e - b)) = WMl.getD j [] := fun z => by
        have := (hiff.mpr z).1
        exact absurd c13 (Int32.not_lt.mpr (nI_le (b := 8) this (by omega)))
      refine xX12_wordFrom_20 ?_
      refine xX12_wordFrom_21 rfl ?_
      refine xX12_wordFrom_23 ?_
      refine xX12_wordFrom_24 rfl ?_
      refine xX12_wordFrom_26 ?_
      refine xX12_wordFrom_28 ?_
      refine xX12_wordFrom_30_f (by decide) ?_
      refine xX12_wordFrom_33 ?_
      refine xX12_wordFrom_35_t (by decide) ?_
      refine xX12_wordFrom_88 ?_
      refine xX12_wordFrom_90_t (by decide) ?_
      refine xX12_wordFrom_95 rfl rfl ?_
      refine xX12_wordFrom_98 ?_
      refine wp_kill_4 ?_
      refine wp_kill_5 ?_
      exact ih (j + 1) _ (by omega) (nI_1 j) (by rw [mfi_s hj12, if_neg hne] at hs; exact hs)
    · have h8 : e - b ≤ 8 := Nat.le_of_not_lt (fun z => c13 (nI_lt (a := 8) z (by omega)))
      refine xX12_wordFrom_16 ?_
      refine xX12_wordFrom_17 ?_
      refine xX12_wordFrom_21 rfl ?_
      refine xX12_wordFrom_23 ?_
      refine xX12_wordFrom_24 rfl ?_
      refine lp_X12_wordFrom1 hM hW ht he (by omega) hj12 (fun hp x5 => ?_) (fun hp x5 => ?_) 8 0 _ (by omega) rfl (fun c hc => absurd hc (Nat.not_lt_zero c))
      · have heq := hiff.mp ⟨h8, hp⟩
        refine xX12_wordFrom_88 ?_
        refine xX12_wordFrom_90_f (by decide) ?_
        refine xX12_wordFrom_93 ?_
        refine xX12_wordFrom_94 rfl rfl ?_
        rw [mfi_s hj12, if_pos heq] at hs
        rw [← hs] at hQ
        exact hQ
      · have hne : ¬ ((tp.drop b).take (e - b)) = WMl.getD j [] := fun z => hp (hiff.mpr z).2
        refine xX12_wordFrom_88 ?_
        refine xX12_wordFrom_90_t (by decide) ?_
        refine xX12_wordFrom_95 rfl rfl ?_
        refine xX12_wordFrom_98 ?_
        refine wp_kill_4 ?_
        refine wp_kill_5 ?_
        exact ih (j + 1) _ (by omega) (nI_1 j) (by rw [mfi_s hj12, if_neg hne] at hs; exact hs)
theorem s_X12_wordFrom {d : Nat} {sc : Nat × (Nat → Int32)} {T : List (Nat × Nat)} {rf : Nat → Nat → Option Nat} {g : Nat → Nat → Int32} {tp : List Int32} {b e : Nat} {F : Int32 → AH → Prop} (hM : MS T rf) (hW : WR g) (ht : MTp g tp) (hbe : b ≤ e) (he : e ≤ tp.length) (hlt : ∀ c, c < e - b → byX tp (b + c) ≠ 32) (hQ : F (nI (wmi ((tp.drop b).take (e - b)))) (T, rf, g)) : Mok d 0 0 sc kX12_wordFrom [.ref 53, .int (nI b), .int (nI e)] (T, rf, g) (Qi F) := by
  refine Mok.ofWp (L := [some (.ref 53), some (.int (nI b)), some (.int (nI e)), none, none, none]) rfl rfl rfl ?_
  refine xX12_wordFrom_0 ?_
  refine xX12_wordFrom_1 rfl ?_
  exact lp_X12_wordFrom hM hW ht hbe he hlt hQ 12 0 _ (by omega) rfl rfl
