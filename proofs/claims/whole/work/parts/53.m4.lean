/-- the plan's minutes rise -/
def PI (o : OV) : Prop := ∀ i j, i < j → j < nN (o 0 8) → nN (o 6 i) < nN (o 6 j)
def sumQ (o : OV) : Nat → Nat
  | 0 => nN (o 0 10)
  | n + 1 => sumQ o n + nN (o 7 n)
def lstN (o : OV) : Nat → Option Nat
  | 0 => none
  | k + 1 => some (nN (o 6 k))
theorem opn_sp {o : OV} (hP : PI o) (hl : nN (o 0 10) < 4) : ∀ M, (∀ i, i < (opn o M).2.2 → nN (o 6 i) < M) ∧ (∀ i, (opn o M).2.2 ≤ i → i < nN (o 0 8) → M ≤ nN (o 6 i)) ∧ (opn o M).1 = sumQ o (opn o M).2.2 % 4 ∧ (opn o M).2.1 = lstN o (opn o M).2.2 := by
  intro M
  induction M with
  | zero => exact ⟨fun i h => absurd h (Nat.not_lt_zero i), fun _ _ _ => Nat.zero_le _, (Nat.mod_eq_of_lt hl).symm, rfl⟩
  | succ M ih =>
    obtain ⟨h1, h2, h3, h4⟩ := ih
    by_cases q : (opn o M).2.2 < nN (o 0 8) ∧ nN (o 6 (opn o M).2.2) = M
    · rw [opn_yes q.1 q.2]
      refine ⟨fun i hi => ?_, fun i hi hn => ?_, ?_, ?_⟩
      · by_cases z : i = (opn o M).2.2
        · rw [z, q.2]; omega
        · have hi : i < (opn o M).2.2 + 1 := hi
          have := h1 i (by omega); omega
      · have hi : (opn o M).2.2 + 1 ≤ i := hi
        have := hP (opn o M).2.2 i (by omega) hn
        omega
      · show ((opn o M).1 + nN (o 7 (opn o M).2.2)) % 4 = (sumQ o (opn o M).2.2 + nN (o 7 (opn o M).2.2)) % 4
        rw [h3]; omega
      · show some M = some (nN (o 6 (opn o M).2.2))
        rw [q.2]
    · rw [opn_no q]
      refine ⟨fun i hi => by have := h1 i hi; omega, fun i hi hn => ?_, h3, h4⟩
      have := h2 i hi hn
      by_cases z : i = (opn o M).2.2
      · by_cases y : nN (o 6 i) = M
        · exact absurd ⟨by omega, by rw [← z]; exact y⟩ q
        · omega
      · have := h2 (opn o M).2.2 (Nat.le_refl _) (by omega)
        have := hP (opn o M).2.2 i (by omega) hn
        omega
theorem OVk.qt {o : OV} {nc k : Nat} (h : OVk o nc) (hk : k < nN (o 0 8)) : nN (o 7 k) < 4 ∧ o 7 k = nI (nN (o 7 k)) := by
  obtain ⟨-, -, ⟨no, h3, h31, h32, h33⟩, -⟩ := h
  rw [h31, nN_nI (by omega)] at hk
  obtain ⟨q, hq, e⟩ := h33 k hk
  rw [e, nN_nI (by omega)]
  exact ⟨hq, rfl⟩
theorem OVk.mi {o : OV} {nc k : Nat} (h : OVk o nc) (hk : k < nN (o 0 8)) : nN (o 6 k) < 40 ∧ o 6 k = nI (nN (o 6 k)) := by
  obtain ⟨-, -, ⟨no, h3, h31, h32, h33⟩, -⟩ := h
  rw [h31, nN_nI (by omega)] at hk
  obtain ⟨q, hq, e⟩ := h32 k hk
  rw [e, nN_nI (by omega)]
  exact ⟨hq, rfl⟩
theorem sumQ_le {o : OV} {nc : Nat} (h : OVk o nc) : ∀ n, n ≤ nN (o 0 8) → sumQ o n < 4 + 3 * n := by
  intro n
  induction n with
  | zero =>
    intro _
    obtain ⟨li, h1, h2⟩ := h.li
    show nN (o 0 10) < 4
    rw [h2, nN_nI (by omega)]; exact h1
  | succ n ih =>
    intro hn
    have := ih (by omega)
    have := (h.qt (show n < nN (o 0 8) by omega)).1
    show sumQ o n + nN (o 7 n) < _
    omega
theorem OVk.liN {o : OV} {nc : Nat} (h : OVk o nc) : nN (o 0 10) < 4 ∧ o 0 10 = nI (nN (o 0 10)) := by
  obtain ⟨li, h1, h2⟩ := h.li
  rw [h2, nN_nI (by omega)]
  exact ⟨h1, rfl⟩
theorem lp_X12_turnedBy {d : Nat} {sc : Nat × (Nat → Int32)} {T : List (Nat × Nat)} {rf : Nat → Nat → Option Nat} {g : Nat → Nat → Int32} {o : OV} {nc t m : Nat} {cs : Nat → List Int32} {x1 : Int32} {F : Int32 → AH → Prop} (hB : MB T rf g o nc t cs) (hP : PI o) (hx1 : x1 = nI m) (hm : m < 100) (hQ : F (nI (opn o (m + 1)).1) (T, rf, g)) : ∀ (k j : Nat) (x2 x3 : Int32), j + k = nN (o 0 8) → x3 = nI j → x2 = nI (sumQ o (min j (opn o (m + 1)).2.2)) → Wp d 0 0 sc kX12_turnedBy (Qi F) 7 [some (.ref 53), some (.int x1), some (.int x2), some (.int x3)] [] (T, rf, g) 0 0 := by
  intro k
  induction k with
  | zero =>
    intro j x2 x3 hj hx3 hx2
    obtain ⟨hM, hE, hV, hlw, ht6, hL⟩ := id hB
    have hn8 := hV.2.1
    have h6 := hV.no
    have e8 : g 53 10 = nI (nN (o 0 8)) := hE.1.2.1.trans hV.nI8
    have hsp := opn_sp hP hV.liN.1 (m + 1)
    have hnx := opn_next o (m + 1)
    have ej : min j (opn o (m + 1)).2.2 = (opn o (m + 1)).2.2 := by omega
    rw [ej] at hx2
    refine xX12_turnedBy_7 ?_
    refine xX12_turnedBy_8 ?_
    refine xX12_turnedBy_9 (hM.1 _ _ rfl) ?_
    rw [e8]
    refine xX12_turnedBy_12_t (by rw [hx3]; exact nI_le (by omega) (by omega)) ?_
    refine xX12_turnedBy_44 ?_
    refine xX12_turnedBy_45 ?_
    refine xX12_turnedBy_46 (by decide) ?_
    refine xX12_turnedBy_47 rfl rfl ?_
    have hb := sumQ_le hV (opn o (m + 1)).2.2 hnx
    rw [hsp.2.2.1] at hQ
    rw [hx2]
    exact byEq hQ (remI_nat (m := 4) (by omega) (by omega))
  | succ k ih =>
    intro j x2 x3 hj hx3 hx2
    obtain ⟨hM, hE, hV, hlw, ht6, hL⟩ := id hB
    have hn8 := hV.2.1
    have h6 := hV.no
    have e8 : g 53 10 = nI (nN (o 0 8)) := hE.1.2.1.trans hV.nI8
    have hsp := opn_sp hP hV.liN.1 (m + 1)
    have hnx := opn_next o (m + 1)
    have mj := hV.mi (show j < nN (o 0 8) by omega)
    have qj := hV.qt (show j < nN (o 0 8) by omega)
    have r6 : g 59 j = nI (nN (o 6 j)) := (hE.2.2.2 j (by omega)).1.trans mj.2
    have r7 : g 60 j = nI (nN (o 7 j)) := (hE.2.2.2 j (by omega)).2.trans qj.2
    by_cases q : j < (opn o (m + 1)).2.2
    · refine xX12_turnedBy_7 ?_
      refine xX12_turnedBy_8 ?_
      refine xX12_turnedBy_9 (hM.1 _ _ rfl) ?_
      rw [e8]
      refine xX12_turnedBy_12_f (by rw [hx3]; exact nI_ge (by omega) (by omega)) ?_
      refine xX12_turnedBy_15 ?_
      refine xX12_turnedBy_16 ?_
      refine xX12_turnedBy_17 (hM.1 _ _ rfl) (hM.2 _ _ _ rfl) ?_
      refine xX12_turnedBy_20 ?_
      refine xX12_turnedBy_21 (j := j) (hM.1 _ _ rfl) hx3 (by omega) rfl ?_
      refine xX12_turnedBy_22 ?_
      rw [r6]
      refine xX12_turnedBy_23_f (by rw [hx1]; exact Int32.not_lt.mpr (nI_le (by have := hsp.1 j q; omega) (by omega))) ?_
      refine xX12_turnedBy_26 ?_
      refine xX12_turnedBy_27 (hM.1 _ _ rfl) (hM.2 _ _ _ rfl) ?_
      refine xX12_turnedBy_30 ?_
      refine xX12_turnedBy_31 (j := j) (hM.1 _ _ rfl) hx3 (by omega) rfl ?_
      rw [r7]
      refine xX12_turnedBy_32 ?_
      refine xX12_turnedBy_36 ?_
      refine xX12_turnedBy_37 rfl ?_
      refine xX12_turnedBy_38 rfl rfl ?_
      refine xX12_turnedBy_41 ?_
      exact ih (j + 1) _ _ (by omega) (by rw [hx3]; exact nI_1 j) (by
        rw [hx2, nI_add, show min j (opn o (m + 1)).2.2 = j by omega, show min (j + 1) (opn o (m + 1)).2.2 = j + 1 by omega]
        rfl)
    · refine xX12_turnedBy_7 ?_
      refine xX12_turnedBy_8 ?_
      refine xX12_turnedBy_9 (hM.1 _ _ rfl) ?_
      rw [e8]
      refine xX12_turnedBy_12_f (by rw [hx3]; exact nI_ge (by omega) (by omega)) ?_
      refine xX12_turnedBy_15 ?_
      refine xX12_turnedBy_16 ?_
      refine xX12_turnedBy_17 (hM.1 _ _ rfl) (hM.2 _ _ _ rfl) ?_
      refine xX12_turnedBy_20 ?_
      refine xX12_turnedBy_21 (j := j) (hM.1 _ _ rfl) hx3 (by omega) rfl ?_
      refine xX12_turnedBy_22 ?_
      rw [r6]
      refine xX12_turnedBy_23_t (by rw [hx1]; exact nI_lt (by have := hsp.2.1 j (by omega) (by omega); omega) (by omega)) ?_
      refine xX12_turnedBy_35 ?_
      refine xX12_turnedBy_36 ?_
      refine xX12_turnedBy_37 rfl ?_
      refine xX12_turnedBy_38 rfl rfl ?_
      refine xX12_turnedBy_41 ?_
      exact ih (j + 1) _ _ (by omega) (by rw [hx3]; exact nI_1 j) (by
        rw [hx2, Int32.add_zero, show min j (opn o (m + 1)).2.2 = (opn o (m + 1)).2.2 by omega, show min (j + 1) (opn o (m + 1)).2.2 = (opn o (m + 1)).2.2 by omega])
theorem lp_X12_lastBy {d : Nat} {sc : Nat × (Nat → Int32)} {T : List (Nat × Nat)} {rf : Nat → Nat → Option Nat} {g : Nat → Nat → Int32} {o : OV} {nc t m : Nat} {cs : Nat → List Int32} {x1 : Int32} {F : Int32 → AH → Prop} (hB : MB T rf g o nc t cs) (hP : PI o) (hx1 : x1 = nI m) (hm : m < 100) (hQ : F (lastI (opn o (m + 1)).2.1) (T, rf, g)) : ∀ (k j : Nat) (x2 x3 : Int32), j + k = nN (o 0 8) → x3 = nI j → x2 = lastI (lstN o (min j (opn o (m + 1)).2.2)) → Wp d 0 0 sc kX12_lastBy (Qi F) 4 [some (.ref 53), some (.int x1), some (.int x2), some (.int x3)] [] (T, rf, g) 0 0 := by
  intro k
  induction k with
  | zero =>
    intro j x2 x3 hj hx3 hx2
    obtain ⟨hM, hE, hV, hlw, ht6, hL⟩ := id hB
    have hn8 := hV.2.1
    have h6 := hV.no
    have e8 : g 53 10 = nI (nN (o 0 8)) := hE.1.2.1.trans hV.nI8
    have hsp := opn_sp hP hV.liN.1 (m + 1)
    have hnx := opn_next o (m + 1)
    have ej : min j (opn o (m + 1)).2.2 = (opn o (m + 1)).2.2 := by omega
    rw [ej] at hx2
    refine xX12_lastBy_4 ?_
    refine xX12_lastBy_5 ?_
    refine xX12_lastBy_6 (hM.1 _ _ rfl) ?_
    rw [e8]
    refine xX12_lastBy_9_t (by rw [hx3]; exact nI_le (by omega) (by omega)) ?_
    refine xX12_lastBy_39 ?_
    refine xX12_lastBy_40 rfl rfl ?_
    rw [hsp.2.2.2] at hQ
    rw [hx2]
    exact hQ
  | succ k ih =>
    intro j x2 x3 hj hx3 hx2
    obtain ⟨hM, hE, hV, hlw, ht6, hL⟩ := id hB
    have hn8 := hV.2.1
    have h6 := hV.no
    have e8 : g 53 10 = nI (nN (o 0 8)) := hE.1.2.1.trans hV.nI8
    have hsp := opn_sp hP hV.liN.1 (m + 1)
    have hnx := opn_next o (m + 1)
    have mj := hV.mi (show j < nN (o 0 8) by omega)
    have qj := hV.qt (show j < nN (o 0 8) by omega)
    have r6 : g 59 j = nI (nN (o 6 j)) := (hE.2.2.2 j (by omega)).1.trans mj.2
    have r7 : g 60 j = nI (nN (o 7 j)) := (hE.2.2.2 j (by omega)).2.trans qj.2
    by_cases q : j < (opn o (m + 1)).2.2
    · refine xX12_lastBy_4 ?_
      refine xX12_lastBy_5 ?_
      refine xX12_lastBy_6 (hM.1 _ _ rfl) ?_
      rw [e8]
      refine xX12_lastBy_9_f (by rw [hx3]; exact nI_ge (by omega) (by omega)) ?_
      refine xX12_lastBy_12 ?_
      refine xX12_lastBy_13 (hM.1 _ _ rfl) (hM.2 _ _ _ rfl) ?_
      refine xX12_lastBy_16 ?_
      refine xX12_lastBy_17 (j := j) (hM.1 _ _ rfl) hx3 (by omega) rfl ?_
      refine xX12_lastBy_18 ?_
      rw [r6]
      refine xX12_lastBy_19_f (by rw [hx1]; exact Int32.not_lt.mpr (nI_le (by have := hsp.1 j q; omega) (by omega))) ?_
      refine xX12_lastBy_22 ?_
      refine xX12_lastBy_23 (hM.1 _ _ rfl) (hM.2 _ _ _ rfl) ?_
      refine xX12_lastBy_26 ?_
      refine xX12_lastBy_27 (j := j) (hM.1 _ _ rfl) hx3 (by omega) rfl ?_
      rw [r6]
      refine xX12_lastBy_28 ?_
      refine xX12_lastBy_32 rfl ?_
      refine xX12_lastBy_33 rfl rfl ?_
      refine xX12_lastBy_36 ?_
      exact ih (j + 1) _ _ (by omega) (by rw [hx3]; exact nI_1 j) (by
        rw [show min (j + 1) (opn o (m + 1)).2.2 = j + 1 by omega]
        rfl)
    · refine xX12_lastBy_4 ?_
      refine xX12_lastBy_5 ?_
      refine xX12_lastBy_6 (hM.1 _ _ rfl) ?_
      rw [e8]
      refine xX12_lastBy_9_f (by rw [hx3]; exact nI_ge (by omega) (by omega)) ?_
      refine xX12_lastBy_12 ?_
      refine xX12_lastBy_13 (hM.1 _ _ rfl) (hM.2 _ _ _ rfl) ?_
      refine xX12_lastBy_16 ?_
      refine xX12_lastBy_17 (j := j) (hM.1 _ _ rfl) hx3 (by omega) rfl ?_
      refine xX12_lastBy_18 ?_
      rw [r6]
      refine xX12_lastBy_19_t (by rw [hx1]; exact nI_lt (by have := hsp.2.1 j (by omega) (by omega); omega) (by omega)) ?_
      refine xX12_lastBy_31 ?_
      refine xX12_lastBy_32 rfl ?_
      refine xX12_lastBy_33 rfl rfl ?_
      refine xX12_lastBy_36 ?_
      exact ih (j + 1) _ _ (by omega) (by rw [hx3]; exact nI_1 j) (by
        rw [hx2, show min j (opn o (m + 1)).2.2 = (opn o (m + 1)).2.2 by omega, show min (j + 1) (opn o (m + 1)).2.2 = (opn o (m + 1)).2.2 by omega])
theorem s_X12_turnedBy {d : Nat} {sc : Nat × (Nat → Int32)} {T : List (Nat × Nat)} {rf : Nat → Nat → Option Nat} {g : Nat → Nat → Int32} {o : OV} {nc t m : Nat} {cs : Nat → List Int32} {x1 : Int32} {F : Int32 → AH → Prop} (hB : MB T rf g o nc t cs) (hP : PI o) (hx1 : x1 = nI m) (hm : m < 100) (hQ : F (nI (opn o (m + 1)).1) (T, rf, g)) : Mok d 0 0 sc kX12_turnedBy [.ref 53, .int x1] (T, rf, g) (Qi F) := by
  obtain ⟨hM, hE, hV, hlw, ht6, hL⟩ := id hB
  refine Mok.ofWp (L := [some (.ref 53), some (.int x1), none, none]) rfl rfl rfl ?_
  refine xX12_turnedBy_0 ?_
  refine xX12_turnedBy_1 (hM.1 _ _ rfl) ?_
  refine xX12_turnedBy_4 rfl ?_
  refine xX12_turnedBy_5 ?_
  refine xX12_turnedBy_6 rfl ?_
  exact lp_X12_turnedBy hB hP hx1 hm hQ (nN (o 0 8)) 0 _ _ (by omega) rfl (by show g 53 2 = _; rw [show min 0 (opn o (m + 1)).2.2 = 0 by omega]; exact hE.1.2.2.2.1.trans hV.liN.2)
theorem s_X12_lastBy {d : Nat} {sc : Nat × (Nat → Int32)} {T : List (Nat × Nat)} {rf : Nat → Nat → Option Nat} {g : Nat → Nat → Int32} {o : OV} {nc t m : Nat} {cs : Nat → List Int32} {x1 : Int32} {F : Int32 → AH → Prop} (hB : MB T rf g o nc t cs) (hP : PI o) (hx1 : x1 = nI m) (hm : m < 100) (hQ : F (lastI (opn o (m + 1)).2.1) (T, rf, g)) : Mok d 0 0 sc kX12_lastBy [.ref 53, .int x1] (T, rf, g) (Qi F) := by
  obtain ⟨hM, hE, hV, hlw, ht6, hL⟩ := id hB
  refine Mok.ofWp (L := [some (.ref 53), some (.int x1), none, none]) rfl rfl rfl ?_
  refine xX12_lastBy_0 ?_
  refine xX12_lastBy_1 rfl ?_
  refine xX12_lastBy_2 ?_
  refine xX12_lastBy_3 rfl ?_
  exact lp_X12_lastBy hB hP hx1 hm hQ (nN (o 0 8)) 0 _ _ (by omega) rfl (by rw [show min 0 (opn o (m + 1)).2.2 = 0 by omega]; rfl)
