theorem flat_t {css : List (List Int32)} {p : Nat} (h : p < css.length) : (css.take (p + 1)).flatten = (css.take p).flatten ++ css.getD p [] := by
  rw [List.take_succ, List.getElem?_eq_getElem h, List.getD_eq_getElem?_getD, List.getElem?_eq_getElem h, List.flatten_append]
  simp
theorem flat_d {css : List (List Int32)} {p : Nat} : css.flatten = (css.take p).flatten ++ (css.drop p).flatten := by
  rw [← List.flatten_append, List.take_append_drop]
theorem flat_le {css : List (List Int32)} {p : Nat} : (css.take p).flatten.length ≤ css.flatten.length := by
  rw [flat_d (css := css) (p := p), List.length_append]
  exact Nat.le_add_right _ _
def lwC (css : List (List Int32)) : Nat → List Int32 := fun p => (css.getD p []).map tr
theorem GT.lawG {g g2 : Nat → Nat → Int32} {css : List (List Int32)} {la n : Nat} (h : GT g css) (hn : n = css.flatten.length) (h1 : ∀ i, i < 4 → g2 (la + 1) i = g 38 i) (h2 : ∀ i, i < n → g2 (la + 2) i = g 37 i) : LawG g2 la n (lwC css) := by
  obtain ⟨a1, a2, a3, a4, a5, a6⟩ := h
  intro p hp
  have e := flat_t (css := css) (p := p) (by omega)
  have hle := flat_le (css := css) (p := p + 1)
  rw [e, List.length_append] at hle
  refine ⟨(css.take p).flatten.length, ?_, ?_, ?_, fun i v hv => ?_⟩
  · rw [h1 p (by omega), a6 p (by omega)]
  · rw [h1 (p + 1) (by omega), a6 (p + 1) (by omega), e, List.length_append]
    unfold lwC
    rw [List.length_map]
  · unfold lwC
    rw [List.length_map, hn]
    exact hle
  · unfold lwC at hv
    rw [List.getElem?_map] at hv
    cases hc : (css.getD p [])[i]? with
    | none => rw [hc] at hv; cases hv
    | some c =>
      rw [hc] at hv
      have hv : tr c = v := by injection hv
      have hi := (List.getElem?_eq_some_iff.mp hc).1
      rw [h2 _ (by omega), ← hv]
      refine a5 _ _ ?_
      rw [flat_d (css := css) (p := p + 1), e, List.append_assoc, List.getElem?_append_right (Nat.le_add_right _ _), Nat.add_sub_cancel_left, List.getElem?_append_left hi, hc]
theorem XRf_hi {a k : Nat} (h : 49 ≤ a) : XRf a k = none := by
  unfold XRf
  rw [List.getD_eq_getElem?_getD (l := XRt), List.getElem?_eq_none (show XRt.length ≤ a from by rw [show XRt.length = 49 from rfl]; exact h)]
  rfl
theorem XS.app {T : List (Nat × Nat)} {rf rf2 : Nat → Nat → Option Nat} {x : Nat × Nat} (h : XS T rf) (hr : ∀ a, a < 49 → rf2 a = rf a) : XS (T ++ [x]) rf2 := by
  refine ⟨fun a t ha => tA (h.1 a t ha), fun a k b hb => ?_⟩
  rcases Nat.lt_or_ge a 49 with q | q
  · rw [hr a q]; exact h.2 a k b hb
  · rw [XRf_hi q] at hb; cases hb
theorem XS.rr {T : List (Nat × Nat)} {rf rf2 : Nat → Nat → Option Nat} (h : XS T rf) (hr : ∀ a, a < 49 → a ≠ 39 → rf2 a = rf a) : XS T rf2 := by
  refine ⟨h.1, fun a k b hb => ?_⟩
  rcases Nat.lt_or_ge a 49 with q | q
  · by_cases z : a = 39
    · subst z
      exact absurd hb (by
        have e : XRf 39 k = none := by
          show ([] : List (Option Nat)).getD k none = none
          rfl
        rw [e]
        exact fun y => by cases y)
    · rw [hr a q z]; exact h.2 a k b hb
  · rw [XRf_hi q] at hb; cases hb
theorem s_X6_law {d : Nat} {sc : Nat × (Nat → Int32)} {T : List (Nat × Nat)} {rf : Nat → Nat → Option Nat} {g : Nat → Nat → Int32} {la : Nat} {css : List (List Int32)} {F : Option Nat → AH → Prop} (hX : XS T rf) (hl : T.length = la) (hla : 40 ≤ la) (hla9 : la < 890) (hG : GT g css) (hQ : ∀ rf2 g2, LawAt (T ++ [(4, 0)] ++ [(20, 4)] ++ [(20, css.flatten.length)] ++ [(20, css.flatten.length)]) rf2 la css.flatten.length → LawG g2 la css.flatten.length (lwC css) → (∀ a, a ≠ la → rf2 a = rf a) → (∀ a, a ≠ la + 1 → a ≠ la + 2 → g2 a = g a) → F (some la) (T ++ [(4, 0)] ++ [(20, 4)] ++ [(20, css.flatten.length)] ++ [(20, css.flatten.length)], rf2, g2)) : Mok (d + 2) 4 328 sc kX6_law [.ref 35] (T, rf, g) (Qr F) := by
  refine Mok.ofWp (L := [some (.ref 35)]) rfl rfl rfl ?_
  refine xX6_law_0 (n := la) (kc1 := 1) (ks1 := 4) hl (blt (by omega)) rfl rfl rfl rfl (fun hra0 hga0 => ?_)
  refine xX6_law_3 rfl ?_
  refine xX6_law_4 ?_
  refine xX6_law_5 (tA (hX.1 _ _ rfl)) (hX.2 _ _ _ rfl) ?_
  refine xX6_law_8 ?_
  refine xX6_law_9 (tA (hX.1 _ _ rfl)) ?_
  refine xX6_law_12 ?_
  refine xX6_law_13 (tA (hX.1 _ _ rfl)) (hX.2 _ _ _ rfl) ?_
  rw [hG.2.2.2.1]
  refine xX6_law_16A (mc1 := 3) (ms1 := 324) (kc1 := 4) (ks1 := 328) rfl rfl rfl rfl rfl (s_X4_init (tL hl) hla (by omega) (tN hl) (tA (hX.1 _ _ rfl)) (tA (hX.1 _ _ rfl)) rfl hG.2.2.1 (fun rf1 g1 q10 q20 q30 q40 q50 q60 q70 => ?_))
  refine xX6_law_19 rfl rfl ?_
  refine hQ _ _ ⟨tA (tA (tA (tN hl))), tA (tA (tN (tL hl))), tA (tN (tL (tL hl))), tN (tL (tL (tL hl))), q10, q20, q30⟩ (hG.lawG rfl q60 q70) q40 q50
