/-- the class's reader: where a token begins, which, its number, where the next begins may change -/
def RAf (g g' : Nat → Nat → Int32) : Prop := (∀ a, a ≠ 35 → g' a = g a) ∧ ∀ k, k ≠ 1 → k ≠ 6 → k ≠ 7 → k ≠ 8 → g' 35 k = g 35 k
theorem RAf.rf {g : Nat → Nat → Int32} : RAf g g := ⟨fun _ _ => rfl, fun _ _ _ _ _ => rfl⟩
theorem RAf.tr {g1 g2 g3 : Nat → Nat → Int32} (h1 : RAf g1 g2) (h2 : RAf g2 g3) : RAf g1 g3 := ⟨fun a p => (h2.1 a p).trans (h1.1 a p), fun k p q r s => (h2.2 k p q r s).trans (h1.2 k p q r s)⟩
theorem RAf.u {g : Nat → Nat → Int32} {k : Nat} {v : Int32} (h : k = 1 ∨ k = 6 ∨ k = 7 ∨ k = 8) : RAf g (up g 35 k v) := ⟨fun _ p => up_row p, fun _ _ _ _ _ => up_ne (by omega)⟩
theorem XP_.ra {g g' : Nat → Nat → Int32} {tp : List Int32} (h : XP_ g tp) (hf : RAf g g') : XP_ g' tp := ⟨(hf.2 0 (by omega) (by omega) (by omega) (by omega)).trans h.1, h.2.1, fun i v hv => by rw [hf.1 36 (by omega)]; exact h.2.2 i v hv⟩
theorem XP_.by {g : Nat → Nat → Int32} {tp : List Int32} {i : Nat} (h : XP_ g tp) (hi : i < tp.length) : g 36 i = byX tp i := by
  unfold byX
  rw [List.getD_eq_getElem?_getD, List.getElem?_eq_getElem hi]
  exact h.2.2 i _ (List.getElem?_eq_getElem hi)
theorem s_X6_byteAt {d : Nat} {sc : Nat × (Nat → Int32)} {T : List (Nat × Nat)} {rf : Nat → Nat → Option Nat} {g : Nat → Nat → Int32} {tp : List Int32} {i : Nat} {x : Int32} {F : Int32 → AH → Prop} (hX : XS T rf) (ht : XP_ g tp) (hx : x = nI i) (hi : i < 2000) (hQ : F (byX tp i) (T, rf, g)) : Mok d 0 0 sc kX6_byteAt [.ref 35, .int x] (T, rf, g) (Qi F) := by
  have hl := ht.2.1
  have e0 := ht.1
  refine Mok.ofWp (L := [some (.ref 35), some (.int x)]) rfl rfl rfl ?_
  refine xX6_byteAt_0 ?_
  refine xX6_byteAt_1_f (by rw [hx]; exact Int32.not_lt.mpr (nI_le (a := 0) (by omega) (by omega))) ?_
  refine xX6_byteAt_4 ?_
  refine xX6_byteAt_5 ?_
  refine xX6_byteAt_6 (hX.1 _ _ rfl) ?_
  rw [e0]
  refine xX6_byteAt_9 (fun c9 => ?_) (fun c9 => ?_)
  · have hn : tp.length ≤ i := Nat.le_of_not_lt (fun z => absurd c9 (Int32.not_le.mpr (by rw [hx]; exact nI_lt z (by omega))))
    refine xX6_byteAt_30 ?_
    refine xX6_byteAt_31 rfl rfl ?_
    first
      | exact hQ
      | (rw [byX_n hn] at hQ; exact hQ)
  · have hn : i < tp.length := Nat.lt_of_not_le (fun z => c9 (by rw [hx]; exact nI_le z (by omega)))
    refine xX6_byteAt_12 ?_
    refine xX6_byteAt_13 ?_
    refine xX6_byteAt_14 (hX.1 _ _ rfl) (hX.2 _ _ _ rfl) ?_
    refine xX6_byteAt_17 (hX.1 _ _ rfl) rfl rfl ?_
    refine xX6_byteAt_18_f (by rw [hx]; exact Int32.not_le.mpr (nI_lt (b := 160) (by omega) (by omega))) ?_
    refine xX6_byteAt_21 ?_
    refine xX6_byteAt_22 (hX.1 _ _ rfl) (hX.2 _ _ _ rfl) ?_
    refine xX6_byteAt_25 ?_
    refine xX6_byteAt_26 (j := i) (hX.1 _ _ rfl) hx (by omega) rfl ?_
    rw [ht.by hn]
    refine xX6_byteAt_27 ?_
    refine xX6_byteAt_31 rfl rfl ?_
    first
      | exact hQ
      | (rw [byX_n hn] at hQ; exact hQ)
theorem lp_X6_endOf {d : Nat} {sc : Nat × (Nat → Int32)} {T : List (Nat × Nat)} {rf : Nat → Nat → Option Nat} {g : Nat → Nat → Int32} {tp : List Int32} {lo hg : Int32} {F : Int32 → AH → Prop} (hX : XS T rf) (ht : XP_ g tp) {E : Nat} (hQ : F (nI E) (T, rf, g)) : ∀ (l : List Int32) (x3 : Int32) (i : Nat), (x3 = nI i) → (i ≤ 160) → (tp.drop i = l) → (i + runL lo hg l = E) → Wp (d + 1) 0 0 sc kX6_endOf (Qi F) 5 [some (.ref 35), some (.int lo), some (.int hg), some (.int x3)] [] (T, rf, g) 0 0 := by
  intro l
  induction l with
  | nil =>
    intro x3 i hx3 hi9 hl2 hE
    have hl := ht.2.1
    have e0 := ht.1
    have hn := drop_n hl2
    subst hx3
    refine xX6_endOf_5 ?_
    refine xX6_endOf_6 ?_
    refine xX6_endOf_7 (hX.1 _ _ rfl) ?_
    rw [e0]
    refine xX6_endOf_10_t (nI_le hn (by omega)) ?_
    refine xX6_endOf_37 ?_
    refine xX6_endOf_38 rfl rfl ?_
    have e : i = E := hE
    subst e
    exact hQ
  | cons c l ih =>
    intro x3 i hx3 hi9 hl2 hE
    have hl := ht.2.1
    have e0 := ht.1
    obtain ⟨hi, hby, hl3⟩ := drop_c hl2
    subst hx3
    refine xX6_endOf_5 ?_
    refine xX6_endOf_6 ?_
    refine xX6_endOf_7 (hX.1 _ _ rfl) ?_
    rw [e0]
    refine xX6_endOf_10_f (Int32.not_le.mpr (nI_lt hi (by omega))) ?_
    refine xX6_endOf_13 ?_
    refine xX6_endOf_14 ?_
    refine xX6_endOf_15 (hX.1 _ _ rfl) rfl rfl rfl (s_X6_byteAt hX ht rfl (by omega) ?_)
    refine xX6_endOf_18 ?_
    rw [hby]
    refine xX6_endOf_19 (fun c19 => ?_) (fun c19 => ?_)
    · refine xX6_endOf_37 ?_
      refine xX6_endOf_38 rfl rfl ?_
      have e : i = E := by
        rw [← hE, show runL lo hg (c :: l) = 0 from if_neg (fun z => by first | exact c19 (Int32.not_lt.mpr z.1) | exact c28 (Int32.not_lt.mpr z.2) | exact absurd c19 (Int32.not_lt.mpr z.1) | exact absurd c28 (Int32.not_lt.mpr z.2))]
        rfl
      subst e
      exact hQ
    · refine xX6_endOf_22 ?_
      refine xX6_endOf_23 ?_
      refine xX6_endOf_24 (hX.1 _ _ rfl) rfl rfl rfl (s_X6_byteAt hX ht rfl (by omega) ?_)
      refine xX6_endOf_27 ?_
      rw [hby]
      refine xX6_endOf_28 (fun c28 => ?_) (fun c28 => ?_)
      · refine xX6_endOf_37 ?_
        refine xX6_endOf_38 rfl rfl ?_
        have e : i = E := by
          rw [← hE, show runL lo hg (c :: l) = 0 from if_neg (fun z => by first | exact c19 (Int32.not_lt.mpr z.1) | exact c28 (Int32.not_lt.mpr z.2) | exact absurd c19 (Int32.not_lt.mpr z.1) | exact absurd c28 (Int32.not_lt.mpr z.2))]
          rfl
        subst e
        exact hQ
      · refine xX6_endOf_31 rfl rfl ?_
        refine xX6_endOf_34 ?_
        exact ih _ (i + 1) (nI_1 i) (by omega) hl3 (by rw [← hE, show runL lo hg (c :: l) = runL lo hg l + 1 from if_pos ⟨Int32.not_lt.mp c19, Int32.not_lt.mp c28⟩]; omega)
theorem s_X6_endOf {d : Nat} {sc : Nat × (Nat → Int32)} {T : List (Nat × Nat)} {rf : Nat → Nat → Option Nat} {g : Nat → Nat → Int32} {tp : List Int32} {lo hg : Int32} {b : Nat} {F : Int32 → AH → Prop} (hX : XS T rf) (ht : XP_ g tp) (hb : g 35 1 = nI b) (hb9 : b ≤ 160) (hQ : F (nI (b + runL lo hg (tp.drop b))) (T, rf, g)) : Mok (d + 1) 0 0 sc kX6_endOf [.ref 35, .int lo, .int hg] (T, rf, g) (Qi F) := by
  refine Mok.ofWp (L := [some (.ref 35), some (.int lo), some (.int hg), none]) rfl rfl rfl ?_
  refine xX6_endOf_0 ?_
  refine xX6_endOf_1 (hX.1 _ _ rfl) ?_
  refine xX6_endOf_4 rfl ?_
  exact lp_X6_endOf hX ht hQ _ _ b hb hb9 rfl rfl
theorem WLs_at : ∀ k, k < 12 → WLs[k]? = some (strByt.getD (k + 1) []) := by decide +kernel
theorem s_X6_word0 {d : Nat} {sc : Nat × (Nat → Int32)} {h : AH} {F : Option Nat → AH → Prop} (hQ : F (some 1000001) h) : Mok d 0 0 sc kX6_word [.int (nI 0)] h (Qr F) := by
  refine Mok.ofWp (L := [some (.int (nI 0))]) rfl rfl rfl ?_
  refine xX6_word_0 ?_
  refine xX6_word_1 (fun c1 => ?_) (fun c1 => ?_) (fun c1 => ?_) (fun c1 => ?_) (fun c1 => ?_) (fun c1 => ?_) (fun c1 => ?_) (fun c1 => ?_) (fun c1 => ?_) (fun c1 => ?_) (fun c1 => ?_) (fun c1 => ?_)
  · refine xX6_word_60 ?_
    refine xX6_word_62 rfl rfl ?_
    exact hQ
  · exact absurd c1 (by decide)
  · exact absurd c1 (by decide)
  · exact absurd c1 (by decide)
  · exact absurd c1 (by decide)
  · exact absurd c1 (by decide)
  · exact absurd c1 (by decide)
  · exact absurd c1 (by decide)
  · exact absurd c1 (by decide)
  · exact absurd c1 (by decide)
  · exact absurd c1 (by decide)
  · exact absurd c1 (by decide)
theorem s_X6_word1 {d : Nat} {sc : Nat × (Nat → Int32)} {h : AH} {F : Option Nat → AH → Prop} (hQ : F (some 1000002) h) : Mok d 0 0 sc kX6_word [.int (nI 1)] h (Qr F) := by
  refine Mok.ofWp (L := [some (.int (nI 1))]) rfl rfl rfl ?_
  refine xX6_word_0 ?_
  refine xX6_word_1 (fun c1 => ?_) (fun c1 => ?_) (fun c1 => ?_) (fun c1 => ?_) (fun c1 => ?_) (fun c1 => ?_) (fun c1 => ?_) (fun c1 => ?_) (fun c1 => ?_) (fun c1 => ?_) (fun c1 => ?_) (fun c1 => ?_)
  · exact absurd c1 (by decide)
  · refine xX6_word_63 ?_
    refine xX6_word_65 rfl rfl ?_
    exact hQ
  · exact absurd c1 (by decide)
  · exact absurd c1 (by decide)
  · exact absurd c1 (by decide)
  · exact absurd c1 (by decide)
  · exact absurd c1 (by decide)
  · exact absurd c1 (by decide)
  · exact absurd c1 (by decide)
  · exact absurd c1 (by decide)
  · exact absurd c1 (by decide)
  · exact absurd c1 (by decide)
theorem s_X6_word2 {d : Nat} {sc : Nat × (Nat → Int32)} {h : AH} {F : Option Nat → AH → Prop} (hQ : F (some 1000003) h) : Mok d 0 0 sc kX6_word [.int (nI 2)] h (Qr F) := by
  refine Mok.ofWp (L := [some (.int (nI 2))]) rfl rfl rfl ?_
  refine xX6_word_0 ?_
  refine xX6_word_1 (fun c1 => ?_) (fun c1 => ?_) (fun c1 => ?_) (fun c1 => ?_) (fun c1 => ?_) (fun c1 => ?_) (fun c1 => ?_) (fun c1 => ?_) (fun c1 => ?_) (fun c1 => ?_) (fun c1 => ?_) (fun c1 => ?_)
  · exact absurd c1 (by decide)
  · exact absurd c1 (by decide)
  · refine xX6_word_66 ?_
    refine xX6_word_68 rfl rfl ?_
    exact hQ
  · exact absurd c1 (by decide)
  · exact absurd c1 (by decide)
  · exact absurd c1 (by decide)
  · exact absurd c1 (by decide)
  · exact absurd c1 (by decide)
  · exact absurd c1 (by decide)
  · exact absurd c1 (by decide)
  · exact absurd c1 (by decide)
  · exact absurd c1 (by decide)
theorem s_X6_word3 {d : Nat} {sc : Nat × (Nat → Int32)} {h : AH} {F : Option Nat → AH → Prop} (hQ : F (some 1000004) h) : Mok d 0 0 sc kX6_word [.int (nI 3)] h (Qr F) := by
  refine Mok.ofWp (L := [some (.int (nI 3))]) rfl rfl rfl ?_
  refine xX6_word_0 ?_
  refine xX6_word_1 (fun c1 => ?_) (fun c1 => ?_) (fun c1 => ?_) (fun c1 => ?_) (fun c1 => ?_) (fun c1 => ?_) (fun c1 => ?_) (fun c1 => ?_) (fun c1 => ?_) (fun c1 => ?_) (fun c1 => ?_) (fun c1 => ?_)
  · exact absurd c1 (by decide)
  · exact absurd c1 (by decide)
  · exact absurd c1 (by decide)
  · refine xX6_word_69 ?_
    refine xX6_word_71 rfl rfl ?_
    exact hQ
  · exact absurd c1 (by decide)
  · exact absurd c1 (by decide)
  · exact absurd c1 (by decide)
  · exact absurd c1 (by decide)
  · exact absurd c1 (by decide)
  · exact absurd c1 (by decide)
  · exact absurd c1 (by decide)
  · exact absurd c1 (by decide)
theorem s_X6_word4 {d : Nat} {sc : Nat × (Nat → Int32)} {h : AH} {F : Option Nat → AH → Prop} (hQ : F (some 1000005) h) : Mok d 0 0 sc kX6_word [.int (nI 4)] h (Qr F) := by
  refine Mok.ofWp (L := [some (.int (nI 4))]) rfl rfl rfl ?_
  refine xX6_word_0 ?_
  refine xX6_word_1 (fun c1 => ?_) (fun c1 => ?_) (fun c1 => ?_) (fun c1 => ?_) (fun c1 => ?_) (fun c1 => ?_) (fun c1 => ?_) (fun c1 => ?_) (fun c1 => ?_) (fun c1 => ?_) (fun c1 => ?_) (fun c1 => ?_)
  · exact absurd c1 (by decide)
  · exact absurd c1 (by decide)
  · exact absurd c1 (by decide)
  · exact absurd c1 (by decide)
  · refine xX6_word_72 ?_
    refine xX6_word_74 rfl rfl ?_
    exact hQ
  · exact absurd c1 (by decide)
  · exact absurd c1 (by decide)
  · exact absurd c1 (by decide)
  · exact absurd c1 (by decide)
  · exact absurd c1 (by decide)
  · exact absurd c1 (by decide)
  · exact absurd c1 (by decide)
theorem s_X6_word5 {d : Nat} {sc : Nat × (Nat → Int32)} {h : AH} {F : Option Nat → AH → Prop} (hQ : F (some 1000006) h) : Mok d 0 0 sc kX6_word [.int (nI 5)] h (Qr F) := by
  refine Mok.ofWp (L := [some (.int (nI 5))]) rfl rfl rfl ?_
  refine xX6_word_0 ?_
  refine xX6_word_1 (fun c1 => ?_) (fun c1 => ?_) (fun c1 => ?_) (fun c1 => ?_) (fun c1 => ?_) (fun c1 => ?_) (fun c1 => ?_) (fun c1 => ?_) (fun c1 => ?_) (fun c1 => ?_) (fun c1 => ?_) (fun c1 => ?_)
  · exact absurd c1 (by decide)
  · exact absurd c1 (by decide)
  · exact absurd c1 (by decide)
  · exact absurd c1 (by decide)
  · exact absurd c1 (by decide)
  · refine xX6_word_75 ?_
    refine xX6_word_77 rfl rfl ?_
    exact hQ
  · exact absurd c1 (by decide)
  · exact absurd c1 (by decide)
  · exact absurd c1 (by decide)
  · exact absurd c1 (by decide)
  · exact absurd c1 (by decide)
  · exact absurd c1 (by decide)
theorem s_X6_word6 {d : Nat} {sc : Nat × (Nat → Int32)} {h : AH} {F : Option Nat → AH → Prop} (hQ : F (some 1000007) h) : Mok d 0 0 sc kX6_word [.int (nI 6)] h (Qr F) := by
  refine Mok.ofWp (L := [some (.int (nI 6))]) rfl rfl rfl ?_
  refine xX6_word_0 ?_
  refine xX6_word_1 (fun c1 => ?_) (fun c1 => ?_) (fun c1 => ?_) (fun c1 => ?_) (fun c1 => ?_) (fun c1 => ?_) (fun c1 => ?_) (fun c1 => ?_) (fun c1 => ?_) (fun c1 => ?_) (fun c1 => ?_) (fun c1 => ?_)
  · exact absurd c1 (by decide)
  · exact absurd c1 (by decide)
  · exact absurd c1 (by decide)
  · exact absurd c1 (by decide)
  · exact absurd c1 (by decide)
  · exact absurd c1 (by decide)
  · refine xX6_word_78 ?_
    refine xX6_word_80 rfl rfl ?_
    exact hQ
  · exact absurd c1 (by decide)
  · exact absurd c1 (by decide)
  · exact absurd c1 (by decide)
  · exact absurd c1 (by decide)
  · exact absurd c1 (by decide)
theorem s_X6_word7 {d : Nat} {sc : Nat × (Nat → Int32)} {h : AH} {F : Option Nat → AH → Prop} (hQ : F (some 1000008) h) : Mok d 0 0 sc kX6_word [.int (nI 7)] h (Qr F) := by
  refine Mok.ofWp (L := [some (.int (nI 7))]) rfl rfl rfl ?_
  refine xX6_word_0 ?_
  refine xX6_word_1 (fun c1 => ?_) (fun c1 => ?_) (fun c1 => ?_) (fun c1 => ?_) (fun c1 => ?_) (fun c1 => ?_) (fun c1 => ?_) (fun c1 => ?_) (fun c1 => ?_) (fun c1 => ?_) (fun c1 => ?_) (fun c1 => ?_)
  · exact absurd c1 (by decide)
  · exact absurd c1 (by decide)
  · exact absurd c1 (by decide)
  · exact absurd c1 (by decide)
  · exact absurd c1 (by decide)
  · exact absurd c1 (by decide)
  · exact absurd c1 (by decide)
  · refine xX6_word_81 ?_
    refine xX6_word_83 rfl rfl ?_
    exact hQ
  · exact absurd c1 (by decide)
  · exact absurd c1 (by decide)
  · exact absurd c1 (by decide)
  · exact absurd c1 (by decide)
theorem s_X6_word8 {d : Nat} {sc : Nat × (Nat → Int32)} {h : AH} {F : Option Nat → AH → Prop} (hQ : F (some 1000009) h) : Mok d 0 0 sc kX6_word [.int (nI 8)] h (Qr F) := by
  refine Mok.ofWp (L := [some (.int (nI 8))]) rfl rfl rfl ?_
  refine xX6_word_0 ?_
  refine xX6_word_1 (fun c1 => ?_) (fun c1 => ?_) (fun c1 => ?_) (fun c1 => ?_) (fun c1 => ?_) (fun c1 => ?_) (fun c1 => ?_) (fun c1 => ?_) (fun c1 => ?_) (fun c1 => ?_) (fun c1 => ?_) (fun c1 => ?_)
  · exact absurd c1 (by decide)
  · exact absurd c1 (by decide)
  · exact absurd c1 (by decide)
  · exact absurd c1 (by decide)
  · exact absurd c1 (by decide)
  · exact absurd c1 (by decide)
  · exact absurd c1 (by decide)
  · exact absurd c1 (by decide)
  · refine xX6_word_84 ?_
    refine xX6_word_86 rfl rfl ?_
    exact hQ
  · exact absurd c1 (by decide)
  · exact absurd c1 (by decide)
  · exact absurd c1 (by decide)
theorem s_X6_word9 {d : Nat} {sc : Nat × (Nat → Int32)} {h : AH} {F : Option Nat → AH → Prop} (hQ : F (some 1000010) h) : Mok d 0 0 sc kX6_word [.int (nI 9)] h (Qr F) := by
  refine Mok.ofWp (L := [some (.int (nI 9))]) rfl rfl rfl ?_
  refine xX6_word_0 ?_
  refine xX6_word_1 (fun c1 => ?_) (fun c1 => ?_) (fun c1 => ?_) (fun c1 => ?_) (fun c1 => ?_) (fun c1 => ?_) (fun c1 => ?_) (fun c1 => ?_) (fun c1 => ?_) (fun c1 => ?_) (fun c1 => ?_) (fun c1 => ?_)
  · exact absurd c1 (by decide)
  · exact absurd c1 (by decide)
  · exact absurd c1 (by decide)
  · exact absurd c1 (by decide)
  · exact absurd c1 (by decide)
  · exact absurd c1 (by decide)
  · exact absurd c1 (by decide)
  · exact absurd c1 (by decide)
  · exact absurd c1 (by decide)
  · refine xX6_word_87 ?_
    refine xX6_word_89 rfl rfl ?_
    exact hQ
  · exact absurd c1 (by decide)
  · exact absurd c1 (by decide)
theorem s_X6_word10 {d : Nat} {sc : Nat × (Nat → Int32)} {h : AH} {F : Option Nat → AH → Prop} (hQ : F (some 1000011) h) : Mok d 0 0 sc kX6_word [.int (nI 10)] h (Qr F) := by
  refine Mok.ofWp (L := [some (.int (nI 10))]) rfl rfl rfl ?_
  refine xX6_word_0 ?_
  refine xX6_word_1 (fun c1 => ?_) (fun c1 => ?_) (fun c1 => ?_) (fun c1 => ?_) (fun c1 => ?_) (fun c1 => ?_) (fun c1 => ?_) (fun c1 => ?_) (fun c1 => ?_) (fun c1 => ?_) (fun c1 => ?_) (fun c1 => ?_)
  · exact absurd c1 (by decide)
  · exact absurd c1 (by decide)
  · exact absurd c1 (by decide)
  · exact absurd c1 (by decide)
  · exact absurd c1 (by decide)
  · exact absurd c1 (by decide)
  · exact absurd c1 (by decide)
  · exact absurd c1 (by decide)
  · exact absurd c1 (by decide)
  · exact absurd c1 (by decide)
  · refine xX6_word_90 ?_
    refine xX6_word_92 rfl rfl ?_
    exact hQ
  · exact absurd c1 (by decide)
theorem s_X6_word11 {d : Nat} {sc : Nat × (Nat → Int32)} {h : AH} {F : Option Nat → AH → Prop} (hQ : F (some 1000012) h) : Mok d 0 0 sc kX6_word [.int (nI 11)] h (Qr F) := by
  refine Mok.ofWp (L := [some (.int (nI 11))]) rfl rfl rfl ?_
  refine xX6_word_0 ?_
  refine xX6_word_1 (fun c1 => ?_) (fun c1 => ?_) (fun c1 => ?_) (fun c1 => ?_) (fun c1 => ?_) (fun c1 => ?_) (fun c1 => ?_) (fun c1 => ?_) (fun c1 => ?_) (fun c1 => ?_) (fun c1 => ?_) (fun c1 => ?_)
  · exact absurd c1 (by decide)
  · exact absurd c1 (by decide)
  · exact absurd c1 (by decide)
  · exact absurd c1 (by decide)
  · exact absurd c1 (by decide)
  · exact absurd c1 (by decide)
  · exact absurd c1 (by decide)
  · exact absurd c1 (by decide)
  · exact absurd c1 (by decide)
  · exact absurd c1 (by decide)
  · exact absurd c1 (by decide)
  · refine xX6_word_93 ?_
    refine xX6_word_95 rfl rfl ?_
    exact hQ
theorem s_X6_word {d : Nat} {sc : Nat × (Nat → Int32)} {h : AH} {F : Option Nat → AH → Prop} {k : Nat} (hk : k < 12) (hQ : F (some (1000001 + k)) h) : Mok d 0 0 sc kX6_word [.int (nI k)] h (Qr F) := by
  rcases (by omega : k = 0 ∨ k = 1 ∨ k = 2 ∨ k = 3 ∨ k = 4 ∨ k = 5 ∨ k = 6 ∨ k = 7 ∨ k = 8 ∨ k = 9 ∨ k = 10 ∨ k = 11) with rfl | rfl | rfl | rfl | rfl | rfl | rfl | rfl | rfl | rfl | rfl | rfl
  · exact s_X6_word0 hQ
  · exact s_X6_word1 hQ
  · exact s_X6_word2 hQ
  · exact s_X6_word3 hQ
  · exact s_X6_word4 hQ
  · exact s_X6_word5 hQ
  · exact s_X6_word6 hQ
  · exact s_X6_word7 hQ
  · exact s_X6_word8 hQ
  · exact s_X6_word9 hQ
  · exact s_X6_word10 hQ
  · exact s_X6_word11 hQ
theorem take_eq {l w : List Int32} {n : Nat} (hn : n ≤ l.length) : l.take n = w ↔ w.length = n ∧ ∀ j, j < n → w.getD j 0 = l.getD j (-1) := by
  constructor
  · rintro rfl
    refine ⟨by rw [List.length_take]; omega, fun j hj => ?_⟩
    rw [List.getD_eq_getElem?_getD, List.getD_eq_getElem?_getD, List.getElem?_take, if_pos hj, List.getElem?_eq_getElem (by omega)]
    rfl
  · rintro ⟨h1, h2⟩
    apply List.ext_getElem?
    intro j
    rw [List.getElem?_take]
    by_cases q : j < n
    · rw [if_pos q, List.getElem?_eq_getElem (by omega), List.getElem?_eq_getElem (by omega)]
      have := h2 j q
      rw [List.getD_eq_getElem?_getD, List.getD_eq_getElem?_getD, List.getElem?_eq_getElem (by omega), List.getElem?_eq_getElem (by omega)] at this
      exact congrArg some this.symm
    · rw [if_neg q, List.getElem?_eq_none (by omega)]
theorem byX_d {tp : List Int32} {b j : Nat} : (tp.drop b).getD j (-1) = byX tp (b + j) := by
  unfold byX
  rw [List.getD_eq_getElem?_getD, List.getD_eq_getElem?_getD, List.getElem?_drop]
theorem lp_X6_isHere {d : Nat} {sc : Nat × (Nat → Int32)} {T : List (Nat × Nat)} {rf : Nat → Nat → Option Nat} {g : Nat → Nat → Int32} {tp : List Int32} {i q b n : Nat} {F : Int32 → AH → Prop} (hX : XS T rf) (ht : XP_ g tp) (hi : i < 13) (hq : q = 1000000 + i) (hb : g 35 1 = nI b) (hn : g 35 8 = nI (b + n)) (hbn : b + n ≤ tp.length) (hL : strLen.getD i 0 = n) (k1 : (tp.drop b).take n = (strByt.getD i []) → F 1 (T, rf, g)) (k0 : ¬ (tp.drop b).take n = (strByt.getD i []) → F 0 (T, rf, g)) : ∀ (k j : Nat) (x2 : Int32), (j + k = n) → (x2 = nI j) → (∀ m, m < j → (strByt.getD i []).getD m 0 = byX tp (b + m)) → Wp (d + 4) 0 0 sc kX6_isHere (Qi F) 20 [some (.ref 35), some (.ref q), some (.int x2)] [] (T, rf, g) 0 0 := by
  intro k
  induction k with
  | zero =>
    intro j x2 hj hx2 hs
    subst hx2
    have hl := ht.2.1
    have hll := strLl i hi
    have hdl : n ≤ (tp.drop b).length := by rw [List.length_drop]; omega
    refine xX6_isHere_20 ?_
    refine xX6_isHere_21 ?_
    refine xX6_isHere_22 hi hq rfl rfl rfl (s_J0_length hi hq ?_)
    rw [hL]
    refine xX6_isHere_25_t (nI_le (by omega) (by omega)) ?_
    refine xX6_isHere_54 ?_
    refine xX6_isHere_55 (Or.inr rfl) rfl rfl ?_
    have e : j = n := by omega
    subst e
    exact k1 ((take_eq hdl).mpr ⟨by rw [hll.2, hL], fun m hm => by rw [byX_d]; exact hs m hm⟩)
  | succ k ih =>
    intro j x2 hj hx2 hs
    subst hx2
    have hl := ht.2.1
    have hll := strLl i hi
    have hdl : n ≤ (tp.drop b).length := by rw [List.length_drop]; omega
    refine xX6_isHere_20 ?_
    refine xX6_isHere_21 ?_
    refine xX6_isHere_22 hi hq rfl rfl rfl (s_J0_length hi hq ?_)
    rw [hL]
    refine xX6_isHere_25_f (nI_ge (by omega) (by omega)) ?_
    refine xX6_isHere_28 ?_
    refine xX6_isHere_29 ?_
    refine xX6_isHere_30 hi hq rfl rfl rfl (s_J0_charAt hi rfl (by omega) hq ?_)
    refine xX6_isHere_33 ?_
    refine xX6_isHere_34 ?_
    refine xX6_isHere_35 (hX.1 _ _ rfl) ?_
    refine xX6_isHere_38 ?_
    refine xX6_isHere_39 ?_
    rw [hb]
    refine xX6_isHere_40 (hX.1 _ _ rfl) rfl rfl rfl (s_X6_byteAt hX ht (nI_add b j) (by omega) ?_)
    refine xX6_isHere_43 (fun cc => ?_) (fun cc => ?_)
    · refine xX6_isHere_48 rfl rfl ?_
      refine xX6_isHere_51 ?_
      exact ih (j + 1) _ (by omega) (nI_1 j) (fun m hm => by
        by_cases z : m = j
        · subst z; exact cc
        · exact hs m (by omega))
    · refine xX6_isHere_46 ?_
      refine xX6_isHere_47 (Or.inl rfl) rfl rfl ?_
      exact k0 (fun z => cc (by
        have := ((take_eq hdl).mp z).2 j (by omega)
        rw [byX_d] at this
        exact this))
theorem s_X6_isHere {d : Nat} {sc : Nat × (Nat → Int32)} {T : List (Nat × Nat)} {rf : Nat → Nat → Option Nat} {g : Nat → Nat → Int32} {tp : List Int32} {i q b n : Nat} {F : Int32 → AH → Prop} (hX : XS T rf) (ht : XP_ g tp) (hi : i < 13) (hq : q = 1000000 + i) (hb : g 35 1 = nI b) (hn : g 35 8 = nI (b + n)) (hbn : b + n ≤ tp.length) (k1 : (tp.drop b).take n = (strByt.getD i []) → F 1 (T, rf, g)) (k0 : ¬ (tp.drop b).take n = (strByt.getD i []) → F 0 (T, rf, g)) : Mok (d + 4) 0 0 sc kX6_isHere [.ref 35, .ref q] (T, rf, g) (Qi F) := by
  have hl := ht.2.1
  have hll := strLl i hi
  have hdl : n ≤ (tp.drop b).length := by rw [List.length_drop]; omega
  have esub : nI (b + n) - nI b = nI n := by
    apply Int32.toInt_inj.mp
    rw [iSub (by rw [iT (by omega), iT (by omega)]; omega) (by rw [iT (by omega), iT (by omega)]; omega), iT (by omega), iT (by omega), iT (by omega)]
    omega
  refine Mok.ofWp (L := [some (.ref 35), some (.ref q), none]) rfl rfl rfl ?_
  refine xX6_isHere_0 ?_
  refine xX6_isHere_1 hi hq rfl rfl rfl (s_J0_length hi hq ?_)
  refine xX6_isHere_4 ?_
  refine xX6_isHere_5 (hX.1 _ _ rfl) ?_
  refine xX6_isHere_8 ?_
  refine xX6_isHere_9 (hX.1 _ _ rfl) ?_
  refine xX6_isHere_12 ?_
  rw [hb, hn, esub]
  refine xX6_isHere_13 (fun c13 => ?_) (fun c13 => ?_)
  · have hL : strLen.getD i 0 = n := nIinj (by omega) (by omega) c13
    refine xX6_isHere_18 ?_
    refine xX6_isHere_19 rfl ?_
    exact lp_X6_isHere hX ht hi hq hb hn hbn hL k1 k0 n 0 _ (by omega) rfl (fun m hm => absurd hm (Nat.not_lt_zero m))
  · have hL : ¬ strLen.getD i 0 = n := fun z => c13 (by rw [z])
    refine xX6_isHere_16 ?_
    refine xX6_isHere_17 (Or.inl rfl) rfl rfl ?_
    exact k0 (fun z => hL (by rw [← hll.2]; exact ((take_eq hdl).mp z).1))
