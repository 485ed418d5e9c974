theorem PI_cakeX {o o2 : OV} {nc n2 : Nat} {km w p : Int32} (h : PI o) (hx : cakeX o nc km w p o2 n2) : PI o2 := by
  rcases hx with ⟨-, rfl, -⟩ | ⟨-, rfl, -⟩
  · unfold ck
    exact PI_up (PI_up (PI_up (PI_up (PI_up h (by omega) (by omega)) (by omega) (by omega)) (by omega) (by omega)) (by omega) (by omega)) (by omega) (by omega)
  · exact h
theorem bmod_hi {z : Int} (h1 : 2147483648 ≤ z) (h2 : z < 4294967296) : z.bmod (2 ^ 32) = z - 4294967296 := by
  rw [Int.bmod_def]
  show (if z % 4294967296 < (4294967296 + 1) / 2 then z % 4294967296 else z % 4294967296 - 4294967296) = _
  rw [if_neg (by omega)]
  omega
/-- the place, three by three, or where it wraps -/
theorem cbyM {sh : Nat → Nat → Int32} {s j k : Nat} {at_ : Int32} (hk : sh s 1 = nI k) (hk4 : k ≤ 40) (hj : j < 10) : cbyB sh s j at_ ↔ (at_ < 0 ∨ at_ + 3 * nI j < at_ ∨ ¬ at_ + 3 * nI j ≤ nI k - 3) := by
  unfold cbyB
  rw [hk]
  by_cases h0 : at_ < 0
  · exact ⟨fun _ => Or.inl h0, fun _ => Or.inl h0⟩
  · obtain ⟨f, hf, rfl, hfi⟩ := iNat (Int32.not_lt.mp h0)
    have e3 : 3 * nI j = nI (3 * j) := by rw [show (3 : Int32) = nI 3 from rfl, nI_mulN (by omega) (by omega) (by omega)]
    have e4 : 3 * (nI j + 1) = nI (3 * (j + 1)) := by rw [show nI j + 1 = nI (j + 1) from nI_1 j, show (3 : Int32) = nI 3 from rfl, nI_mulN (by omega) (by omega) (by omega)]
    have t1 : (nI k - 3 * (nI j + 1)).toInt = (k : Int) - 3 * (j + 1) := by
      rw [e4, iSub (by rw [iT (by omega), iT (by omega)]; omega) (by rw [iT (by omega), iT (by omega)]; omega), iT (by omega), iT (by omega)]
      omega
    have t2 : (nI k - 3).toInt = (k : Int) - 3 := by
      rw [show (3 : Int32) = nI 3 from rfl, iSub (by rw [iT (by omega), iT (by omega)]; omega) (by rw [iT (by omega), iT (by omega)]; omega), iT (by omega), iT (by omega)]
      omega
    have h0' : ¬ nI f < 0 := h0
    rw [iLt, iLt, iLt, iLe, t1, t2, hfi, e3, show (0 : Int32).toInt = 0 from rfl]
    by_cases q : f + 3 * j < 2147483648
    · have t3 : (nI f + nI (3 * j)).toInt = (f : Int) + 3 * j := by
        rw [nI_add, iT q]; omega
      rw [t3]; omega
    · have t3 : (nI f + nI (3 * j)).toInt = (f : Int) + 3 * j - 4294967296 := by
        rw [Int32.toInt_add, iT hf, iT (by omega), bmod_hi (by omega) (by omega)]
        omega
      rw [t3]; omega
theorem lp_X12_cakesBy {d : Nat} {sc : Nat × (Nat → Int32)} {T : List (Nat × Nat)} {rf : Nat → Nat → Option Nat} {t N : Nat} {cs : Nat → List Int32} {g0 : Nat → Nat → Int32} {sh : Nat → Nat → Int32} {s so at_ n : Int32} {F : Int32 → AH → Prop} {o0 : OV} {nc0 : Nat} (es : s = nI (nN s)) (hs4 : nN s < 4) (hz4 : ∀ a, a < 4 → ∃ n, n ≤ 40 ∧ sh a 1 = nI n) (hn : n = nI N) (hN8 : N ≤ 8) (hQ : ∀ g2 o2 n2 r, cbyR sh (nN s) at_ N 0 o0 nc0 0 o2 n2 r → OEq (MOv g2) o2 n2 → MV g0 g2 → F r (T, rf, g2)) : ∀ (k j : Nat) (c x6 : Int32) (g : Nat → Nat → Int32) (o : OV) (nc : Nat), (j + k = N) → (x6 = nI j) → (MC T rf g o nc t cs) → (MH g sh) → (MV g0 g) → (∀ o2 n2 r, cbyR sh (nN s) at_ k j o nc c o2 n2 r → cbyR sh (nN s) at_ N 0 o0 nc0 0 o2 n2 r) → Wp (d + 3) 0 0 sc kX12_cakesBy (Qi F) 64 [some (.ref 53), some (.int s), some (.int so), some (.int at_), some (.int n), some (.int c), some (.int x6), none, none] [] (T, rf, g) 0 0 := by
  intro k
  induction k with
  | zero =>
    intro j c x6 g o nc hj hx6 hC hH hf hR
    obtain ⟨hB, hP⟩ := id hC
    obtain ⟨hM, hE, hV, hlw, ht6, hL⟩ := id hB
    have hn8 := hV.2.1
    have e9 : g 53 1 = nI (nN (o 0 9)) := hE.1.2.2.1.trans hV.tN.1
    have ht40 := hV.tN.2.1
    have hcn0 : g 53 3 = nI nc := hE.1.1.trans hV.1
    subst hx6
    subst hn
    obtain ⟨k4, hk4, ek4⟩ := hz4 (nN s) hs4
    refine xX12_cakesBy_64 ?_
    refine xX12_cakesBy_66 ?_
    refine xX12_cakesBy_68_t (nI_le (by omega) (by omega)) ?_
    refine xX12_cakesBy_162 ?_
    refine xX12_cakesBy_164 rfl rfl ?_
    exact hQ g _ _ _ (hR _ _ _ ⟨rfl, rfl, rfl⟩) hE hf
  | succ k ih =>
    intro j c x6 g o nc hj hx6 hC hH hf hR
    obtain ⟨hB, hP⟩ := id hC
    obtain ⟨hM, hE, hV, hlw, ht6, hL⟩ := id hB
    have hn8 := hV.2.1
    have e9 : g 53 1 = nI (nN (o 0 9)) := hE.1.2.2.1.trans hV.tN.1
    have ht40 := hV.tN.2.1
    have hcn0 : g 53 3 = nI nc := hE.1.1.trans hV.1
    subst hx6
    subst hn
    obtain ⟨k4, hk4, ek4⟩ := hz4 (nN s) hs4
    refine xX12_cakesBy_64 ?_
    refine xX12_cakesBy_66 ?_
    refine xX12_cakesBy_68_f (nI_ge (by omega) (by omega)) ?_
    refine xX12_cakesBy_71 ?_
    refine xX12_cakesBy_72 ?_
    refine xX12_cakesBy_73 ?_
    refine xX12_cakesBy_75 ?_
    refine xX12_cakesBy_76 ?_
    refine xX12_cakesBy_77 rfl ?_
    refine xX12_cakesBy_79 ?_
    refine xX12_cakesBy_80 (fun c80 => ?_) (fun c80 => ?_)
    · refine xX12_cakesBy_102 ?_
      refine xX12_cakesBy_104 rfl rfl ?_
      exact hQ g _ _ _ (hR _ _ _ (Or.inl ⟨(cbyM ek4 hk4 (by omega)).mpr (by first | exact Or.inl c80 | exact Or.inr (Or.inl c86) | exact Or.inr (Or.inr c99)), rfl, rfl, rfl⟩)) hE hf
    · refine xX12_cakesBy_83 ?_
      refine xX12_cakesBy_85 ?_
      refine xX12_cakesBy_86 (fun c86 => ?_) (fun c86 => ?_)
      · refine xX12_cakesBy_102 ?_
        refine xX12_cakesBy_104 rfl rfl ?_
        exact hQ g _ _ _ (hR _ _ _ (Or.inl ⟨(cbyM ek4 hk4 (by omega)).mpr (by first | exact Or.inl c80 | exact Or.inr (Or.inl c86) | exact Or.inr (Or.inr c99)), rfl, rfl, rfl⟩)) hE hf
      · refine xX12_cakesBy_89 ?_
        refine xX12_cakesBy_91 ?_
        refine xX12_cakesBy_92 (hM.1 _ _ rfl) (hM.2 _ _ _ rfl) ?_
        refine xX12_cakesBy_95 ?_
        refine xX12_cakesBy_96 (j := (nN s)) (hM.1 _ _ rfl) es (by omega) rfl ?_
        rw [(hH (nN s) hs4).2.1, ek4]
        refine xX12_cakesBy_97 ?_
        refine xX12_cakesBy_98 ?_
        refine xX12_cakesBy_99 (fun c99 => ?_) (fun c99 => ?_)
        · have nb : ¬ cbyB sh (nN s) j at_ := fun z => (show ¬ (at_ < 0 ∨ at_ + 3 * nI j < at_ ∨ ¬ at_ + 3 * nI j ≤ nI k4 - 3) from fun z => z.elim c80 (fun z => z.elim c86 (fun z => z c99))) ((cbyM ek4 hk4 (by omega)).mp z)
          obtain ⟨ea, la40⟩ := cbyB_no nb ek4 hk4 (by omega)
          have e8 : at_ + 3 * nI j = nI (nN at_ + 3 * j) := by rw [show (3 : Int32) = nI 3 from rfl, nI_mulN (by omega) (by omega) (by omega)]; exact (congrArg (· + nI (3 * j)) ea).trans (nI_add _ _)
          have e9_ : 40 * s + (at_ + 3 * nI j) = nI (40 * nN s + (nN at_ + 3 * j)) := (congr (congrArg (fun z y => 40 * z + y) es) e8).trans (i40 (by omega) (by omega))
          refine xX12_cakesBy_105 ?_
          refine xX12_cakesBy_107 ?_
          refine xX12_cakesBy_108 ?_
          refine xX12_cakesBy_109 ?_
          refine xX12_cakesBy_111 ?_
          refine xX12_cakesBy_112 rfl ?_
          refine xX12_cakesBy_114 ?_
          refine xX12_cakesBy_116 ?_
          refine xX12_cakesBy_117 ?_
          refine xX12_cakesBy_118 (hM.1 _ _ rfl) (hM.2 _ _ _ rfl) ?_
          refine xX12_cakesBy_121 ?_
          refine xX12_cakesBy_123 (j := (40 * nN s + (nN at_ + 3 * j))) (hM.1 _ _ rfl) e9_ (by omega) rfl ?_
          refine xX12_cakesBy_124 ?_
          refine xX12_cakesBy_125 (hM.1 _ _ rfl) (hM.2 _ _ _ rfl) ?_
          refine xX12_cakesBy_128 ?_
          refine xX12_cakesBy_130 ?_
          refine xX12_cakesBy_131 ?_
          refine xX12_cakesBy_132 (j := (40 * nN s + (nN at_ + 3 * j + 1))) (hM.1 _ _ rfl) (by rw [e9_]; exact nI_1 _) (by omega) rfl ?_
          refine xX12_cakesBy_133 ?_
          refine xX12_cakesBy_134 (hM.1 _ _ rfl) (hM.2 _ _ _ rfl) ?_
          refine xX12_cakesBy_137 ?_
          refine xX12_cakesBy_139 ?_
          refine xX12_cakesBy_140 ?_
          refine xX12_cakesBy_141 (j := (40 * nN s + (nN at_ + 3 * j + 2))) (hM.1 _ _ rfl) (by rw [e9_]; exact nI_add _ 2) (by omega) rfl ?_
          rw [(hH (nN s) hs4).2.2 (nN at_ + 3 * j) (by omega), (hH (nN s) hs4).2.2 (nN at_ + 3 * j + 1) (by omega), (hH (nN s) hs4).2.2 (nN at_ + 3 * j + 2) (by omega)]
          refine xX12_cakesBy_142 (hM.1 _ _ rfl) rfl rfl rfl (s_X12_cake hC (fun g0 oo0 nn0 hx0 he0 hv0 => ?_))
          refine xX12_cakesBy_145 (fun cc => ?_) (fun cc => ?_)
          · refine xX12_cakesBy_152 ?_
            refine xX12_cakesBy_153 ?_
            refine xX12_cakesBy_154 rfl ?_
            refine xX12_cakesBy_156 rfl rfl ?_
            refine xX12_cakesBy_159 ?_
            refine wp_kill_7 ?_
            refine wp_kill_8 ?_
            refine ih (j + 1) _ _ _ _ _ (by omega) (nI_1 _) (hC.mv he0 (OVk_cakeX hV hx0) (PI_cakeX hP hx0) ((cakeX_lw hx0).trans hlw) ht6 (hL.mv hv0)) (hH.mv hv0) (hf.tr hv0) (fun o2 n2 r h => hR o2 n2 r (Or.inr ⟨nb, _, _, hx0, ?_⟩))
            first
              | (rw [if_neg (Int32.not_le.mpr cc)]; exact h)
              | (rw [if_pos (Int32.not_lt.mp cc)]; exact h)
          · refine xX12_cakesBy_148 ?_
            refine xX12_cakesBy_149 ?_
            refine xX12_cakesBy_153 ?_
            refine xX12_cakesBy_154 rfl ?_
            refine xX12_cakesBy_156 rfl rfl ?_
            refine xX12_cakesBy_159 ?_
            refine wp_kill_7 ?_
            refine wp_kill_8 ?_
            refine ih (j + 1) _ _ _ _ _ (by omega) (nI_1 _) (hC.mv he0 (OVk_cakeX hV hx0) (PI_cakeX hP hx0) ((cakeX_lw hx0).trans hlw) ht6 (hL.mv hv0)) (hH.mv hv0) (hf.tr hv0) (fun o2 n2 r h => hR o2 n2 r (Or.inr ⟨nb, _, _, hx0, ?_⟩))
            first
              | (rw [if_neg (Int32.not_le.mpr cc)]; exact h)
              | (rw [if_pos (Int32.not_lt.mp cc)]; exact h)
        · refine xX12_cakesBy_102 ?_
          refine xX12_cakesBy_104 rfl rfl ?_
          exact hQ g _ _ _ (hR _ _ _ (Or.inl ⟨(cbyM ek4 hk4 (by omega)).mpr (by first | exact Or.inl c80 | exact Or.inr (Or.inl c86) | exact Or.inr (Or.inr c99)), rfl, rfl, rfl⟩)) hE hf
theorem s_X12_cakesBy {d : Nat} {sc : Nat × (Nat → Int32)} {T : List (Nat × Nat)} {rf : Nat → Nat → Option Nat} {o : OV} {nc t : Nat} {cs : Nat → List Int32} {g : Nat → Nat → Int32} {s so at_ n : Int32} {sh : Nat → Nat → Int32} {F : Int32 → AH → Prop} (hC : MC T rf g o nc t cs) (hH : MH g sh) (hz4 : ∀ a, a < 4 → ∃ n, n ≤ 40 ∧ sh a 1 = nI n) (hQ : ∀ g2 o2 n2 r, cbyX sh o nc s so at_ n o2 n2 r → OEq (MOv g2) o2 n2 → MV g g2 → F r (T, rf, g2)) : Mok (d + 3) 0 0 sc kX12_cakesBy [.ref 53, .int s, .int so, .int at_, .int n] (T, rf, g) (Qi F) := by
  obtain ⟨hB, hP⟩ := id hC
  obtain ⟨hM, hE, hV, hlw, ht6, hL⟩ := id hB
  have hn8 := hV.2.1
  have e9 : g 53 1 = nI (nN (o 0 9)) := hE.1.2.2.1.trans hV.tN.1
  have ht40 := hV.tN.2.1
  have hcn0 : g 53 3 = nI nc := hE.1.1.trans hV.1
  refine Mok.ofWp (L := [some (.ref 53), some (.int s), some (.int so), some (.int at_), some (.int n), none, none, none, none]) rfl rfl rfl ?_
  refine xX12_cakesBy_0 ?_
  refine xX12_cakesBy_1 ?_
  refine xX12_cakesBy_2 ?_
  refine xX12_cakesBy_3 rfl rfl rfl (s_X12_in  (fun hw0 => ?_) (fun nw0 => ?_))
  · have hs4 : nN s < 4 := Nat.lt_succ_of_le (inN hw0).2
    refine xX12_cakesBy_6_f (by decide) ?_
    refine xX12_cakesBy_9 ?_
    refine xX12_cakesBy_10 ?_
    refine xX12_cakesBy_11 ?_
    refine xX12_cakesBy_12 rfl rfl rfl (s_X12_in  (fun hw1 => ?_) (fun nw1 => ?_))
    · refine xX12_cakesBy_15_f (by decide) ?_
      refine xX12_cakesBy_18 ?_
      refine xX12_cakesBy_20 ?_
      refine xX12_cakesBy_21 ?_
      refine xX12_cakesBy_23 rfl rfl rfl (s_X12_in  (fun hw2 => ?_) (fun nw2 => ?_))
      · refine xX12_cakesBy_26_t (by decide) ?_
        refine xX12_cakesBy_32 ?_
        refine xX12_cakesBy_33 (hM.1 _ _ rfl) (hM.2 _ _ _ rfl) ?_
        refine xX12_cakesBy_36 ?_
        refine xX12_cakesBy_37 (j := (nN s)) (hM.1 _ _ rfl) (inN hw0).1 (Nat.lt_succ_of_le (inN hw0).2) rfl ?_
        rw [(hH (nN s) hs4).1]
        refine xX12_cakesBy_38 ?_
        refine xX12_cakesBy_39 (fun c39 => ?_) (fun c39 => ?_)
        · refine xX12_cakesBy_45 ?_
          refine xX12_cakesBy_46 (hM.1 _ _ rfl) (hM.2 _ _ _ rfl) ?_
          refine xX12_cakesBy_49 ?_
          refine xX12_cakesBy_50 (j := (nN s)) (hM.1 _ _ rfl) (inN hw0).1 (Nat.lt_succ_of_le (inN hw0).2) rfl ?_
          rw [(hH (nN s) hs4).1]
          refine xX12_cakesBy_51 ?_
          refine xX12_cakesBy_52 (fun c52 => ?_) (fun c52 => ?_)
          · refine xX12_cakesBy_58 ?_
            refine xX12_cakesBy_59 rfl ?_
            refine xX12_cakesBy_61 ?_
            refine xX12_cakesBy_62 rfl ?_
            exact lp_X12_cakesBy (inN hw0).1 hs4 hz4 (inN hw2).1 (inN hw2).2 (fun g2 o2 n2 r h1 h2 h3 => hQ g2 o2 n2 r (Or.inr (Or.inr (Or.inr ⟨⟨hw0, hw1, hw2⟩, c39, c52, h1⟩))) h2 h3) (nN n) 0 _ _ _ _ _ (by omega) rfl hC hH MV.rf (fun _ _ _ h => h)
          · refine xX12_cakesBy_55 ?_
            refine xX12_cakesBy_57 rfl rfl ?_
            exact hQ g _ _ _ (Or.inr (Or.inr (Or.inl ⟨⟨hw0, hw1, hw2⟩, c39, c52, rfl, rfl, rfl⟩))) hE MV.rf
        · refine xX12_cakesBy_42 ?_
          refine xX12_cakesBy_44 rfl rfl ?_
          exact hQ g _ _ _ (Or.inr (Or.inl ⟨⟨hw0, hw1, hw2⟩, c39, rfl, rfl, rfl⟩)) hE MV.rf
      · refine xX12_cakesBy_26_f (by decide) ?_
        refine xX12_cakesBy_29 ?_
        refine xX12_cakesBy_31 rfl rfl ?_
        exact hQ g _ _ _ (Or.inl ⟨fun z => nw2 z.2.2, rfl, rfl, rfl⟩) hE MV.rf
    · refine xX12_cakesBy_15_t (by decide) ?_
      refine xX12_cakesBy_29 ?_
      refine xX12_cakesBy_31 rfl rfl ?_
      exact hQ g _ _ _ (Or.inl ⟨fun z => nw1 z.2.1, rfl, rfl, rfl⟩) hE MV.rf
  · refine xX12_cakesBy_6_t (by decide) ?_
    refine xX12_cakesBy_29 ?_
    refine xX12_cakesBy_31 rfl rfl ?_
    exact hQ g _ _ _ (Or.inl ⟨fun z => nw0 z.1, rfl, rfl, rfl⟩) hE MV.rf
/-- the reference's tape -/
def MTp (g : Nat → Nat → Int32) (tp : List Int32) : Prop := g 53 12 = nI tp.length ∧ tp.length ≤ 160 ∧ ∀ i v, tp[i]? = some v → g 61 i = v
def MTF (g g' : Nat → Nat → Int32) : Prop := (∀ a, a ≠ 53 → a ≠ 61 → g' a = g a) ∧ ∀ k, k ≠ 12 → g' 53 k = g 53 k
theorem MTF.rf {g : Nat → Nat → Int32} : MTF g g := ⟨fun _ _ _ => rfl, fun _ _ => rfl⟩
theorem MTF.tr {g1 g2 g3 : Nat → Nat → Int32} (h1 : MTF g1 g2) (h2 : MTF g2 g3) : MTF g1 g3 := ⟨fun a p q => (h2.1 a p q).trans (h1.1 a p q), fun k hk => (h2.2 k hk).trans (h1.2 k hk)⟩
theorem MTp_add {g : Nat → Nat → Int32} {tp : List Int32} {b z : Int32} (h : MTp g tp) (hl : tp.length < 160) (hz : z = nI (tp.length + 1)) : MTp (up (up g 61 tp.length b) 53 12 z) (tp ++ [b]) := by
  obtain ⟨h1, h2, h3⟩ := h
  refine ⟨by rw [up_same, List.length_append, hz]; rfl, by rw [List.length_append]; simp; omega, fun i v hv => ?_⟩
  rw [up_row (by decide)]
  by_cases q : i < tp.length
  · rw [List.getElem?_append_left q] at hv
    rw [up_ne (by omega)]
    exact h3 i v hv
  · rw [List.getElem?_append_right (by omega)] at hv
    by_cases q2 : i = tp.length
    · subst q2
      simp at hv
      rw [up_same]; exact hv
    · have : i - tp.length ≠ 0 := by omega
      obtain ⟨m, hm⟩ := Nat.exists_eq_succ_of_ne_zero this
      rw [hm] at hv
      simp at hv
theorem full_iff {n : Int32} {l m : Nat} (hn : n = nI m) (hm : m ≤ 5) (hl : l ≤ 160) : ¬ nI l + n ≤ 160 ↔ 160 - nI l < n := by
  subst hn
  rw [nI_add, iLe, iLt, iSub (by rw [iT (by omega)]; show _ ≤ (160 : Int) - _; omega) (by rw [iT (by omega)]; show (160 : Int) - _ < _; omega), iT (by omega), iT (by omega), iT (by omega), show (160 : Int32).toInt = 160 from rfl]
  omega
theorem lp_X12_feed {d : Nat} {sc : Nat × (Nat → Int32)} {T : List (Nat × Nat)} {rf : Nat → Nat → Option Nat} {g0 : Nat → Nat → Int32} {n a b c d0 e : Int32} {tp : List Int32} {N : Nat} {F : Int32 → AH → Prop} (hM : MS T rf) (hn : n = nI N) (hN : N ≤ 5) (hfit : tp.length + N ≤ 160) (hQ : ∀ g2, MTp g2 (tp ++ [a, b, c, d0, e].take N) → MTF g0 g2 → F (nI (tp.length + N)) (T, rf, g2)) : ∀ (k j : Nat) (x7 : Int32) (g : Nat → Nat → Int32), (j + k = N) → (x7 = nI j) → (MTp g (tp ++ [a, b, c, d0, e].take j)) → (MTF g0 g) → Wp d 0 0 sc kX12_feed (Qi F) 68 [some (.ref 53), some (.int n), some (.int a), some (.int b), some (.int c), some (.int d0), some (.int e), some (.int x7)] [] (T, rf, g) 0 0 := by
  intro k
  induction k with
  | zero =>
    intro j x7 g hj hx7 ht hf
    subst hx7
    subst hn
    have hlen : (tp ++ [a, b, c, d0, e].take j).length = tp.length + j := by rw [List.length_append, List.length_take]; simp; omega
    have et := ht.1
    rw [hlen] at et
    refine xX12_feed_68 ?_
    refine xX12_feed_70 ?_
    refine xX12_feed_71_t (nI_le (by omega) (by omega)) ?_
    refine xX12_feed_142 ?_
    
    refine xX12_feed_143 (hM.1 _ _ rfl) ?_
    refine xX12_feed_146 rfl rfl ?_
    have e9 : j = N := by omega
    subst e9
    rw [et]
    exact hQ _ ht hf
  | succ k ih =>
    intro j x7 g hj hx7 ht hf
    subst hx7
    subst hn
    have hlen : (tp ++ [a, b, c, d0, e].take j).length = tp.length + j := by rw [List.length_append, List.length_take]; simp; omega
    have et := ht.1
    rw [hlen] at et
    refine xX12_feed_68 ?_
    refine xX12_feed_70 ?_
    refine xX12_feed_71_f (nI_ge (by omega) (by omega)) ?_
    refine xX12_feed_74 ?_
    refine xX12_feed_75 (hM.1 _ _ rfl) (hM.2 _ _ _ rfl) ?_
    refine xX12_feed_78 ?_
    refine xX12_feed_79 (hM.1 _ _ rfl) ?_
    refine xX12_feed_82 ?_
    refine xX12_feed_84 (fun c84 => ?_) (fun c84 => ?_)
    · refine xX12_feed_91 ?_
      refine xX12_feed_93 ?_
      refine xX12_feed_94 (fun c94 => ?_) (fun c94 => ?_)
      · refine xX12_feed_101 ?_
        refine xX12_feed_103 ?_
        refine xX12_feed_104 (fun c104 => ?_) (fun c104 => ?_)
        · refine xX12_feed_112 ?_
          refine xX12_feed_114 ?_
          refine xX12_feed_115 (fun c115 => ?_) (fun c115 => ?_)
          · have hv : [a, b, c, d0, e][j]? = some e := by
              have n0 : j ≠ 0 := fun z => c84 (by rw [z]; rfl)
              have n1 : j ≠ 1 := fun z => c94 (by rw [z]; rfl)
              have n2 : j ≠ 2 := fun z => c104 (by rw [z]; rfl)
              have n3 : j ≠ 3 := fun z => c115 (by rw [z]; rfl)
              rw [show j = 4 by omega]; rfl
            refine xX12_feed_123 ?_
            refine xX12_feed_125 (j := (tp.length + j)) (hM.1 _ _ rfl) et (by omega) rfl ?_
            refine xX12_feed_126 ?_
            refine xX12_feed_127 rfl ?_
            refine xX12_feed_128 (hM.1 _ _ rfl) ?_
            refine xX12_feed_131 ?_
            refine xX12_feed_132 ?_
            refine xX12_feed_133 (hM.1 _ _ rfl) ?_
            refine xX12_feed_136 rfl rfl ?_
            refine xX12_feed_139 ?_
            have e1 : ∀ z, up g 61 (tp.length + j) z 53 12 + 1 = nI (tp.length + j + 1) := fun z => by rw [up_row (by omega), et]; exact nI_1 _
            refine ih (j + 1) _ _ (by omega) (nI_1 _) ?_ (hf.tr ⟨fun x p q => by rw [up_row p, up_row q], fun k hk => by rw [up_ne (fun z => hk z.2), up_row (by omega)]⟩)
            rw [e1]
            have h9 := fun b => MTp_add (b := b) (z := nI (tp.length + j + 1)) ht (by omega) (by rw [hlen])
            rw [List.take_succ, hv]
            refine (?_ : MTp _ (tp ++ ([_, _, _, _, _].take j ++ [_])))
            rw [← List.append_assoc]
            simp only [hlen] at h9
            exact h9 _
          · have hv : [a, b, c, d0, e][j]? = some d0 := by rw [nIinj (b := 3) (by omega) (by omega) c115]; rfl
            refine xX12_feed_118 ?_
            refine xX12_feed_120 ?_
            refine xX12_feed_125 (j := (tp.length + j)) (hM.1 _ _ rfl) et (by omega) rfl ?_
            refine xX12_feed_126 ?_
            refine xX12_feed_127 rfl ?_
            refine xX12_feed_128 (hM.1 _ _ rfl) ?_
            refine xX12_feed_131 ?_
            refine xX12_feed_132 ?_
            refine xX12_feed_133 (hM.1 _ _ rfl) ?_
            refine xX12_feed_136 rfl rfl ?_
            refine xX12_feed_139 ?_
            have e1 : ∀ z, up g 61 (tp.length + j) z 53 12 + 1 = nI (tp.length + j + 1) := fun z => by rw [up_row (by omega), et]; exact nI_1 _
            refine ih (j + 1) _ _ (by omega) (nI_1 _) ?_ (hf.tr ⟨fun x p q => by rw [up_row p, up_row q], fun k hk => by rw [up_ne (fun z => hk z.2), up_row (by omega)]⟩)
            rw [e1]
            have h9 := fun b => MTp_add (b := b) (z := nI (tp.length + j + 1)) ht (by omega) (by rw [hlen])
            rw [List.take_succ, hv]
            refine (?_ : MTp _ (tp ++ ([_, _, _, _, _].take j ++ [_])))
            rw [← List.append_assoc]
            simp only [hlen] at h9
            exact h9 _
        · have hv : [a, b, c, d0, e][j]? = some c := by rw [nIinj (b := 2) (by omega) (by omega) c104]; rfl
          refine xX12_feed_107 ?_
          refine xX12_feed_109 ?_
          refine xX12_feed_125 (j := (tp.length + j)) (hM.1 _ _ rfl) et (by omega) rfl ?_
          refine xX12_feed_126 ?_
          refine xX12_feed_127 rfl ?_
          refine xX12_feed_128 (hM.1 _ _ rfl) ?_
          refine xX12_feed_131 ?_
          refine xX12_feed_132 ?_
          refine xX12_feed_133 (hM.1 _ _ rfl) ?_
          refine xX12_feed_136 rfl rfl ?_
          refine xX12_feed_139 ?_
          have e1 : ∀ z, up g 61 (tp.length + j) z 53 12 + 1 = nI (tp.length + j + 1) := fun z => by rw [up_row (by omega), et]; exact nI_1 _
          refine ih (j + 1) _ _ (by omega) (nI_1 _) ?_ (hf.tr ⟨fun x p q => by rw [up_row p, up_row q], fun k hk => by rw [up_ne (fun z => hk z.2), up_row (by omega)]⟩)
          rw [e1]
          have h9 := fun b => MTp_add (b := b) (z := nI (tp.length + j + 1)) ht (by omega) (by rw [hlen])
          rw [List.take_succ, hv]
          refine (?_ : MTp _ (tp ++ ([_, _, _, _, _].take j ++ [_])))
          rw [← List.append_assoc]
          simp only [hlen] at h9
          exact h9 _
      · have hv : [a, b, c, d0, e][j]? = some b := by rw [nIinj (b := 1) (by omega) (by omega) c94]; rfl
        refine xX12_feed_97 ?_
        refine xX12_feed_98 ?_
        refine xX12_feed_125 (j := (tp.length + j)) (hM.1 _ _ rfl) et (by omega) rfl ?_
        refine xX12_feed_126 ?_
        refine xX12_feed_127 rfl ?_
        refine xX12_feed_128 (hM.1 _ _ rfl) ?_
        refine xX12_feed_131 ?_
        refine xX12_feed_132 ?_
        refine xX12_feed_133 (hM.1 _ _ rfl) ?_
        refine xX12_feed_136 rfl rfl ?_
        refine xX12_feed_139 ?_
        have e1 : ∀ z, up g 61 (tp.length + j) z 53 12 + 1 = nI (tp.length + j + 1) := fun z => by rw [up_row (by omega), et]; exact nI_1 _
        refine ih (j + 1) _ _ (by omega) (nI_1 _) ?_ (hf.tr ⟨fun x p q => by rw [up_row p, up_row q], fun k hk => by rw [up_ne (fun z => hk z.2), up_row (by omega)]⟩)
        rw [e1]
        have h9 := fun b => MTp_add (b := b) (z := nI (tp.length + j + 1)) ht (by omega) (by rw [hlen])
        rw [List.take_succ, hv]
        refine (?_ : MTp _ (tp ++ ([_, _, _, _, _].take j ++ [_])))
        rw [← List.append_assoc]
        simp only [hlen] at h9
        exact h9 _
    · have hv : [a, b, c, d0, e][j]? = some a := by rw [nIinj (b := 0) (by omega) (by omega) c84]; rfl
      refine xX12_feed_87 ?_
      refine xX12_feed_88 ?_
      refine xX12_feed_125 (j := (tp.length + j)) (hM.1 _ _ rfl) et (by omega) rfl ?_
      refine xX12_feed_126 ?_
      refine xX12_feed_127 rfl ?_
      refine xX12_feed_128 (hM.1 _ _ rfl) ?_
      refine xX12_feed_131 ?_
      refine xX12_feed_132 ?_
      refine xX12_feed_133 (hM.1 _ _ rfl) ?_
      refine xX12_feed_136 rfl rfl ?_
      refine xX12_feed_139 ?_
      have e1 : ∀ z, up g 61 (tp.length + j) z 53 12 + 1 = nI (tp.length + j + 1) := fun z => by rw [up_row (by omega), et]; exact nI_1 _
      refine ih (j + 1) _ _ (by omega) (nI_1 _) ?_ (hf.tr ⟨fun x p q => by rw [up_row p, up_row q], fun k hk => by rw [up_ne (fun z => hk z.2), up_row (by omega)]⟩)
      rw [e1]
      have h9 := fun b => MTp_add (b := b) (z := nI (tp.length + j + 1)) ht (by omega) (by rw [hlen])
      rw [List.take_succ, hv]
      refine (?_ : MTp _ (tp ++ ([_, _, _, _, _].take j ++ [_])))
      rw [← List.append_assoc]
      simp only [hlen] at h9
      exact h9 _
theorem s_X12_feed {d : Nat} {sc : Nat × (Nat → Int32)} {T : List (Nat × Nat)} {rf : Nat → Nat → Option Nat} {g : Nat → Nat → Int32} {n a b c d0 e : Int32} {tp : List Int32} {F : Int32 → AH → Prop} (hM : MS T rf) (ht : MTp g tp) (hQ : ∀ g2 r tp2, feedX tp n a b c d0 e r tp2 → MTp g2 tp2 → MTF g g2 → F r (T, rf, g2)) : Mok (d + 2) 0 0 sc kX12_feed [.ref 53, .int n, .int a, .int b, .int c, .int d0, .int e] (T, rf, g) (Qi F) := by
  refine Mok.ofWp (L := [some (.ref 53), some (.int n), some (.int a), some (.int b), some (.int c), some (.int d0), some (.int e), none]) rfl rfl rfl ?_
  refine xX12_feed_0 ?_
  refine xX12_feed_1 ?_
  refine xX12_feed_2 ?_
  refine xX12_feed_3 rfl rfl rfl (s_X12_in  (fun hw0 => ?_) (fun nw0 => ?_))
  · refine xX12_feed_6_f (by decide) ?_
    refine xX12_feed_9 ?_
    refine xX12_feed_10 rfl rfl rfl (s_X12_isByte  (fun hw1 => ?_) (fun nw1 => ?_))
    · refine xX12_feed_13_f (by decide) ?_
      refine xX12_feed_16 ?_
      refine xX12_feed_17 rfl rfl rfl (s_X12_isByte  (fun hw2 => ?_) (fun nw2 => ?_))
      · refine xX12_feed_20_f (by decide) ?_
        refine xX12_feed_23 ?_
        refine xX12_feed_25 rfl rfl rfl (s_X12_isByte  (fun hw3 => ?_) (fun nw3 => ?_))
        · refine xX12_feed_28_f (by decide) ?_
          refine xX12_feed_31 ?_
          refine xX12_feed_33 rfl rfl rfl (s_X12_isByte  (fun hw4 => ?_) (fun nw4 => ?_))
          · refine xX12_feed_36_f (by decide) ?_
            refine xX12_feed_39 ?_
            refine xX12_feed_41 rfl rfl rfl (s_X12_isByte  (fun hw5 => ?_) (fun nw5 => ?_))
            · refine xX12_feed_44_t (by decide) ?_
              refine xX12_feed_50 ?_
              refine xX12_feed_51 (hM.1 _ _ rfl) ?_
              have hC : feedC n a b c d0 e := ⟨hw0, hw1, hw2, hw3, hw4, hw5⟩
              have q := inN (v := n) (M := 5) ⟨Int32.le_trans (by decide) hw0.1, hw0.2⟩
              have q5 : nN n ≤ 5 := q.2
              rw [ht.1]
              refine xX12_feed_54 ?_
              refine xX12_feed_55 ?_
              refine xX12_feed_56 ?_
              refine xX12_feed_59 (fun c59 => ?_) (fun c59 => ?_)
              · refine xX12_feed_65 ?_
                refine xX12_feed_66 rfl ?_
                have hnf : ¬ 160 - nI tp.length < n := fun z => (full_iff q.1 q5 ht.2.1).mpr z c59
                have hfit := feed_len q.1 q5 ht.2.1 hnf
                exact lp_X12_feed hM q.1 q5 hfit (fun g2 h1 h2 => hQ g2 _ _ (Or.inr (Or.inr ⟨hC, hnf, rfl, rfl⟩)) h1 h2) (nN n) 0 _ _ (by omega) rfl (by simpa using ht) MTF.rf
              · refine xX12_feed_62 ?_
                refine xX12_feed_64 rfl rfl ?_
                exact hQ g _ _ (Or.inr (Or.inl ⟨hC, (full_iff q.1 q5 ht.2.1).mp c59, rfl, rfl⟩)) ht MTF.rf
            · refine xX12_feed_44_f (by decide) ?_
              refine xX12_feed_47 ?_
              refine xX12_feed_49 rfl rfl ?_
              exact hQ g _ _ (Or.inl ⟨fun z => nw5 z.2.2.2.2.2, rfl, rfl⟩) ht MTF.rf
          · refine xX12_feed_36_t (by decide) ?_
            refine xX12_feed_47 ?_
            refine xX12_feed_49 rfl rfl ?_
            exact hQ g _ _ (Or.inl ⟨fun z => nw4 z.2.2.2.2.1, rfl, rfl⟩) ht MTF.rf
        · refine xX12_feed_28_t (by decide) ?_
          refine xX12_feed_47 ?_
          refine xX12_feed_49 rfl rfl ?_
          exact hQ g _ _ (Or.inl ⟨fun z => nw3 z.2.2.2.1, rfl, rfl⟩) ht MTF.rf
      · refine xX12_feed_20_t (by decide) ?_
        refine xX12_feed_47 ?_
        refine xX12_feed_49 rfl rfl ?_
        exact hQ g _ _ (Or.inl ⟨fun z => nw2 z.2.2.1, rfl, rfl⟩) ht MTF.rf
    · refine xX12_feed_13_t (by decide) ?_
      refine xX12_feed_47 ?_
      refine xX12_feed_49 rfl rfl ?_
      exact hQ g _ _ (Or.inl ⟨fun z => nw1 z.2.1, rfl, rfl⟩) ht MTF.rf
  · refine xX12_feed_6_t (by decide) ?_
    refine xX12_feed_47 ?_
    refine xX12_feed_49 rfl rfl ?_
    exact hQ g _ _ (Or.inl ⟨fun z => nw0 z.1, rfl, rfl⟩) ht MTF.rf
