/-- the class's tape -/
def XP_ (g : Nat → Nat → Int32) (tp : List Int32) : Prop := g 35 0 = nI tp.length ∧ tp.length ≤ 160 ∧ ∀ i v, tp[i]? = some v → g 36 i = v
/-- what changes when bytes are fed -/
def TPF (g g' : Nat → Nat → Int32) : Prop := (∀ a, a ≠ 35 → a ≠ 36 → g' a = g a) ∧ ∀ k, k ≠ 0 → g' 35 k = g 35 k
theorem TPF.rf {g : Nat → Nat → Int32} : TPF g g := ⟨fun _ _ _ => rfl, fun _ _ => rfl⟩
theorem TPF.tr {g1 g2 g3 : Nat → Nat → Int32} (h1 : TPF g1 g2) (h2 : TPF g2 g3) : TPF g1 g3 := ⟨fun a p q => (h2.1 a p q).trans (h1.1 a p q), fun k hk => (h2.2 k hk).trans (h1.2 k hk)⟩
theorem XP_add {g : Nat → Nat → Int32} {tp : List Int32} {b : Int32} (h : XP_ g tp) (hl : tp.length < 160) : XP_ (up (up g 36 tp.length b) 35 0 (nI (tp.length + 1))) (tp ++ [b]) := by
  obtain ⟨h1, h2, h3⟩ := h
  refine ⟨by rw [up_same, List.length_append]; rfl, by rw [List.length_append]; simp; omega, fun i v hv => ?_⟩
  rw [up_row (by decide)]
  by_cases q : i < tp.length
  · rw [List.getElem?_append_left q] at hv
    rw [up_ne (by omega)]
    exact h3 i v hv
  · rw [List.getElem?_append_right (by omega)] at hv
    by_cases q2 : i = tp.length
    · subst q2
      simp at hv
      rw [up_same]; exact hv
    · have : i - tp.length ≠ 0 := by omega
      obtain ⟨m, hm⟩ := Nat.exists_eq_succ_of_ne_zero this
      rw [hm] at hv
      simp at hv
def isB (v : Int32) : Prop := 0 ≤ v ∧ v ≤ 255
def feedL (n a b c d e : Int32) : List Int32 := [a, b, c, d, e].take (nN n)
def feedC (n a b c d e : Int32) : Prop := (1 ≤ n ∧ n ≤ 5) ∧ isB a ∧ isB b ∧ isB c ∧ isB d ∧ isB e
/-- what feeding answers, and the tape then -/
def feedX (tp : List Int32) (n a b c d e : Int32) (r : Int32) (tp2 : List Int32) : Prop := (¬ feedC n a b c d e ∧ r = -2 ∧ tp2 = tp) ∨ (feedC n a b c d e ∧ 160 - nI tp.length < n ∧ r = -4 ∧ tp2 = tp) ∨ (feedC n a b c d e ∧ ¬ 160 - nI tp.length < n ∧ r = nI (tp.length + nN n) ∧ tp2 = tp ++ feedL n a b c d e)
theorem s_X6_take {d : Nat} {sc : Nat × (Nat → Int32)} {T : List (Nat × Nat)} {rf : Nat → Nat → Option Nat} {g : Nat → Nat → Int32} {tp : List Int32} {b : Int32} {F : AH → Prop} (hX : XS T rf) (ht : XP_ g tp) (hl : tp.length < 160) (hQ : ∀ g2, XP_ g2 (tp ++ [b]) → TPF g g2 → F (T, rf, g2)) : Mok d 0 0 sc kX6_take [.ref 35, .int b] (T, rf, g) (Qv F) := by
  refine Mok.ofWp (L := [some (.ref 35), some (.int b)]) rfl rfl rfl ?_
  refine xX6_take_0 ?_
  refine xX6_take_1 (hX.1 _ _ rfl) ?_
  refine xX6_take_4 ?_
  refine xX6_take_5 (hX.1 _ _ rfl) (hX.2 _ _ _ rfl) ?_
  refine xX6_take_8 (hX.1 _ _ rfl) rfl rfl ?_
  refine xX6_take_9_f (by rw [ht.1]; exact nI_ge (b := 160) hl (by omega)) ?_
  refine xX6_take_12 ?_
  refine xX6_take_13 (hX.1 _ _ rfl) (hX.2 _ _ _ rfl) ?_
  refine xX6_take_16 ?_
  refine xX6_take_17 (hX.1 _ _ rfl) ?_
  refine xX6_take_20 ?_
  refine xX6_take_21 (j := tp.length) (hX.1 _ _ rfl) ht.1 hl rfl ?_
  refine xX6_take_22 ?_
  refine xX6_take_23 rfl ?_
  refine xX6_take_24 (hX.1 _ _ rfl) ?_
  refine xX6_take_27 ?_
  refine xX6_take_28 ?_
  refine xX6_take_29 (hX.1 _ _ rfl) ?_
  refine xX6_take_32 rfl rfl ?_
  have e : up g 36 tp.length b 35 0 + 1 = nI (tp.length + 1) := by rw [up_row (by decide), ht.1]; exact nI_1 _
  rw [e]
  exact hQ _ (XP_add ht hl) ⟨fun a p q => by rw [up_row p, up_row q], fun k hk => by rw [up_ne (fun z => hk z.2), up_row (by decide)]⟩
theorem feed_len {tp : List Int32} {n : Int32} {m : Nat} (hn : n = nI m) (hm : m ≤ 5) (h2 : tp.length ≤ 160) (h : ¬ 160 - nI tp.length < n) : tp.length + m ≤ 160 := by
  have h1 := iLe.mp (Int32.not_lt.mp h)
  have e : (160 : Int32).toInt = 160 := rfl
  rw [iSub (by rw [e, iT (by omega)]; omega) (by rw [e, iT (by omega)]; omega), e, iT (by omega), hn, iT (by omega)] at h1
  omega
theorem s_X11_feed {d : Nat} {sc : Nat × (Nat → Int32)} {T : List (Nat × Nat)} {rf : Nat → Nat → Option Nat} {g : Nat → Nat → Int32} {n a b c d0 e : Int32} {tp : List Int32} {F : Int32 → AH → Prop} (hX : XS T rf) (ht : XP_ g tp) (hQ : ∀ g2 r tp2, feedX tp n a b c d0 e r tp2 → XP_ g2 tp2 → TPF g g2 → F r (T, rf, g2)) : Mok (d + 2) 0 0 sc kX11_feed [.ref 0, .int n, .int a, .int b, .int c, .int d0, .int e] (T, rf, g) (Qi F) := by
  refine Mok.ofWp (L := [some (.ref 0), some (.int n), some (.int a), some (.int b), some (.int c), some (.int d0), some (.int e), none]) rfl rfl rfl ?_
  refine xX11_feed_0 ?_
  refine xX11_feed_1 ?_
  refine xX11_feed_2 ?_
  refine xX11_feed_3 rfl rfl rfl (s_X11_within  (fun hw0 => ?_) (fun nw0 => ?_))
  · refine xX11_feed_6_f (by decide) ?_
    refine xX11_feed_9 ?_
    refine xX11_feed_10 rfl rfl rfl (s_X11_isByte  (fun hw1 => ?_) (fun nw1 => ?_))
    · refine xX11_feed_13_f (by decide) ?_
      refine xX11_feed_16 ?_
      refine xX11_feed_17 rfl rfl rfl (s_X11_isByte  (fun hw2 => ?_) (fun nw2 => ?_))
      · refine xX11_feed_20_f (by decide) ?_
        refine xX11_feed_23 ?_
        refine xX11_feed_25 rfl rfl rfl (s_X11_isByte  (fun hw3 => ?_) (fun nw3 => ?_))
        · refine xX11_feed_28_f (by decide) ?_
          refine xX11_feed_31 ?_
          refine xX11_feed_33 rfl rfl rfl (s_X11_isByte  (fun hw4 => ?_) (fun nw4 => ?_))
          · refine xX11_feed_36_f (by decide) ?_
            refine xX11_feed_39 ?_
            refine xX11_feed_41 rfl rfl rfl (s_X11_isByte  (fun hw5 => ?_) (fun nw5 => ?_))
            · refine xX11_feed_44_t (by decide) ?_
              refine xX11_feed_50 ?_
              refine xX11_feed_51 ?_
              refine xX11_feed_54 ?_
              refine xX11_feed_55 (hX.1 _ _ rfl) (hX.2 _ _ _ rfl) ?_
              refine xX11_feed_58 (hX.1 _ _ rfl) ?_
              rw [ht.1]
              refine xX11_feed_61 ?_
              refine xX11_feed_62 (fun c62 => ?_) (fun c62 => ?_)
              · have hC : feedC n a b c d0 e := ⟨hw0, hw1, hw2, hw3, hw4, hw5⟩
                obtain ⟨m, hm, em⟩ : ∃ m : Nat, (1 ≤ m ∧ m ≤ 5) ∧ n = nI m := by
                  have q := inN (v := n) (M := 5) ⟨Int32.le_trans (by decide) hw0.1, hw0.2⟩
                  refine ⟨nN n, ⟨?_, q.2⟩, q.1⟩
                  have q1 := iLe.mp hw0.1
                  have q1 : 1 ≤ n.toInt := q1
                  unfold nN; omega
                have c62' : ¬ 160 - nI tp.length < n := Int32.not_lt.mpr c62
                have hfl := feed_len em hm.2 ht.2.1 c62'
                rcases (by omega : m = 1 ∨ m = 2 ∨ m = 3 ∨ m = 4 ∨ m = 5) with rfl | rfl | rfl | rfl | rfl <;> subst em
                · refine xX11_feed_68 ?_
                  refine xX11_feed_69 rfl ?_
                  refine xX11_feed_71 ?_
                  refine xX11_feed_73 ?_
                  refine xX11_feed_74_f (by decide) ?_
                  refine xX11_feed_77 ?_
                  refine xX11_feed_78 (hX.1 _ _ rfl) (hX.2 _ _ _ rfl) ?_
                  refine xX11_feed_81 ?_
                  refine xX11_feed_83_f (by decide) ?_
                  refine xX11_feed_86 ?_
                  refine xX11_feed_87 ?_
                  refine xX11_feed_124 (hX.1 _ _ rfl) rfl rfl rfl (s_X6_take hX ht (by first | omega | (simp only [List.length_append, List.length_cons, List.length_nil]; omega)) (fun g0 ht0 hf0 => ?_))
                  refine xX11_feed_127 rfl rfl ?_
                  refine xX11_feed_130 ?_
                  refine xX11_feed_71 ?_
                  refine xX11_feed_73 ?_
                  refine xX11_feed_74_t (by decide) ?_
                  refine xX11_feed_133 ?_
                  refine xX11_feed_134 (hX.1 _ _ rfl) (hX.2 _ _ _ rfl) ?_
                  refine xX11_feed_137 (hX.1 _ _ rfl) ?_
                  refine xX11_feed_140 rfl rfl ?_
                  rw [ht0.1]
                  refine hQ _ _ _ (Or.inr (Or.inr ⟨hC, c62', ?_, ?_⟩)) ht0 hf0
                  · congr 1; simp only [List.length_append, List.length_cons, List.length_nil, nN_nI (show 1 < 2147483648 by omega)]
                  · show _ = tp ++ List.take 1 [a, b, c, d0, e]; simp
                · refine xX11_feed_68 ?_
                  refine xX11_feed_69 rfl ?_
                  refine xX11_feed_71 ?_
                  refine xX11_feed_73 ?_
                  refine xX11_feed_74_f (by decide) ?_
                  refine xX11_feed_77 ?_
                  refine xX11_feed_78 (hX.1 _ _ rfl) (hX.2 _ _ _ rfl) ?_
                  refine xX11_feed_81 ?_
                  refine xX11_feed_83_f (by decide) ?_
                  refine xX11_feed_86 ?_
                  refine xX11_feed_87 ?_
                  refine xX11_feed_124 (hX.1 _ _ rfl) rfl rfl rfl (s_X6_take hX ht (by first | omega | (simp only [List.length_append, List.length_cons, List.length_nil]; omega)) (fun g0 ht0 hf0 => ?_))
                  refine xX11_feed_127 rfl rfl ?_
                  refine xX11_feed_130 ?_
                  refine xX11_feed_71 ?_
                  refine xX11_feed_73 ?_
                  refine xX11_feed_74_f (by decide) ?_
                  refine xX11_feed_77 ?_
                  refine xX11_feed_78 (hX.1 _ _ rfl) (hX.2 _ _ _ rfl) ?_
                  refine xX11_feed_81 ?_
                  refine xX11_feed_83_t (by decide) ?_
                  refine xX11_feed_90 ?_
                  refine xX11_feed_92 ?_
                  refine xX11_feed_93_f (by decide) ?_
                  refine xX11_feed_96 ?_
                  refine xX11_feed_97 ?_
                  refine xX11_feed_124 (hX.1 _ _ rfl) rfl rfl rfl (s_X6_take hX ht0 (by first | omega | (simp only [List.length_append, List.length_cons, List.length_nil]; omega)) (fun g1 ht1 hf1 => ?_))
                  refine xX11_feed_127 rfl rfl ?_
                  refine xX11_feed_130 ?_
                  refine xX11_feed_71 ?_
                  refine xX11_feed_73 ?_
                  refine xX11_feed_74_t (by decide) ?_
                  refine xX11_feed_133 ?_
                  refine xX11_feed_134 (hX.1 _ _ rfl) (hX.2 _ _ _ rfl) ?_
                  refine xX11_feed_137 (hX.1 _ _ rfl) ?_
                  refine xX11_feed_140 rfl rfl ?_
                  rw [ht1.1]
                  refine hQ _ _ _ (Or.inr (Or.inr ⟨hC, c62', ?_, ?_⟩)) ht1 (hf0.tr hf1)
                  · congr 1; simp only [List.length_append, List.length_cons, List.length_nil, nN_nI (show 2 < 2147483648 by omega)]
                  · show _ = tp ++ List.take 2 [a, b, c, d0, e]; simp
                · refine xX11_feed_68 ?_
                  refine xX11_feed_69 rfl ?_
                  refine xX11_feed_71 ?_
                  refine xX11_feed_73 ?_
                  refine xX11_feed_74_f (by decide) ?_
                  refine xX11_feed_77 ?_
                  refine xX11_feed_78 (hX.1 _ _ rfl) (hX.2 _ _ _ rfl) ?_
                  refine xX11_feed_81 ?_
                  refine xX11_feed_83_f (by decide) ?_
                  refine xX11_feed_86 ?_
                  refine xX11_feed_87 ?_
                  refine xX11_feed_124 (hX.1 _ _ rfl) rfl rfl rfl (s_X6_take hX ht (by first | omega | (simp only [List.length_append, List.length_cons, List.length_nil]; omega)) (fun g0 ht0 hf0 => ?_))
                  refine xX11_feed_127 rfl rfl ?_
                  refine xX11_feed_130 ?_
                  refine xX11_feed_71 ?_
                  refine xX11_feed_73 ?_
                  refine xX11_feed_74_f (by decide) ?_
                  refine xX11_feed_77 ?_
                  refine xX11_feed_78 (hX.1 _ _ rfl) (hX.2 _ _ _ rfl) ?_
                  refine xX11_feed_81 ?_
                  refine xX11_feed_83_t (by decide) ?_
                  refine xX11_feed_90 ?_
                  refine xX11_feed_92 ?_
                  refine xX11_feed_93_f (by decide) ?_
                  refine xX11_feed_96 ?_
                  refine xX11_feed_97 ?_
                  refine xX11_feed_124 (hX.1 _ _ rfl) rfl rfl rfl (s_X6_take hX ht0 (by first | omega | (simp only [List.length_append, List.length_cons, List.length_nil]; omega)) (fun g1 ht1 hf1 => ?_))
                  refine xX11_feed_127 rfl rfl ?_
                  refine xX11_feed_130 ?_
                  refine xX11_feed_71 ?_
                  refine xX11_feed_73 ?_
                  refine xX11_feed_74_f (by decide) ?_
                  refine xX11_feed_77 ?_
                  refine xX11_feed_78 (hX.1 _ _ rfl) (hX.2 _ _ _ rfl) ?_
                  refine xX11_feed_81 ?_
                  refine xX11_feed_83_t (by decide) ?_
                  refine xX11_feed_90 ?_
                  refine xX11_feed_92 ?_
                  refine xX11_feed_93_t (by decide) ?_
                  refine xX11_feed_100 ?_
                  refine xX11_feed_102 ?_
                  refine xX11_feed_103_f (by decide) ?_
                  refine xX11_feed_106 ?_
                  refine xX11_feed_108 ?_
                  refine xX11_feed_124 (hX.1 _ _ rfl) rfl rfl rfl (s_X6_take hX ht1 (by first | omega | (simp only [List.length_append, List.length_cons, List.length_nil]; omega)) (fun g2 ht2 hf2 => ?_))
                  refine xX11_feed_127 rfl rfl ?_
                  refine xX11_feed_130 ?_
                  refine xX11_feed_71 ?_
                  refine xX11_feed_73 ?_
                  refine xX11_feed_74_t (by decide) ?_
                  refine xX11_feed_133 ?_
                  refine xX11_feed_134 (hX.1 _ _ rfl) (hX.2 _ _ _ rfl) ?_
                  refine xX11_feed_137 (hX.1 _ _ rfl) ?_
                  refine xX11_feed_140 rfl rfl ?_
                  rw [ht2.1]
                  refine hQ _ _ _ (Or.inr (Or.inr ⟨hC, c62', ?_, ?_⟩)) ht2 ((hf0.tr hf1).tr hf2)
                  · congr 1; simp only [List.length_append, List.length_cons, List.length_nil, nN_nI (show 3 < 2147483648 by omega)]
                  · show _ = tp ++ List.take 3 [a, b, c, d0, e]; simp
                · refine xX11_feed_68 ?_
                  refine xX11_feed_69 rfl ?_
                  refine xX11_feed_71 ?_
                  refine xX11_feed_73 ?_
                  refine xX11_feed_74_f (by decide) ?_
                  refine xX11_feed_77 ?_
                  refine xX11_feed_78 (hX.1 _ _ rfl) (hX.2 _ _ _ rfl) ?_
                  refine xX11_feed_81 ?_
                  refine xX11_feed_83_f (by decide) ?_
                  refine xX11_feed_86 ?_
                  refine xX11_feed_87 ?_
                  refine xX11_feed_124 (hX.1 _ _ rfl) rfl rfl rfl (s_X6_take hX ht (by first | omega | (simp only [List.length_append, List.length_cons, List.length_nil]; omega)) (fun g0 ht0 hf0 => ?_))
                  refine xX11_feed_127 rfl rfl ?_
                  refine xX11_feed_130 ?_
                  refine xX11_feed_71 ?_
                  refine xX11_feed_73 ?_
                  refine xX11_feed_74_f (by decide) ?_
                  refine xX11_feed_77 ?_
                  refine xX11_feed_78 (hX.1 _ _ rfl) (hX.2 _ _ _ rfl) ?_
                  refine xX11_feed_81 ?_
                  refine xX11_feed_83_t (by decide) ?_
                  refine xX11_feed_90 ?_
                  refine xX11_feed_92 ?_
                  refine xX11_feed_93_f (by decide) ?_
                  refine xX11_feed_96 ?_
                  refine xX11_feed_97 ?_
                  refine xX11_feed_124 (hX.1 _ _ rfl) rfl rfl rfl (s_X6_take hX ht0 (by first | omega | (simp only [List.length_append, List.length_cons, List.length_nil]; omega)) (fun g1 ht1 hf1 => ?_))
                  refine xX11_feed_127 rfl rfl ?_
                  refine xX11_feed_130 ?_
                  refine xX11_feed_71 ?_
                  refine xX11_feed_73 ?_
                  refine xX11_feed_74_f (by decide) ?_
                  refine xX11_feed_77 ?_
                  refine xX11_feed_78 (hX.1 _ _ rfl) (hX.2 _ _ _ rfl) ?_
                  refine xX11_feed_81 ?_
                  refine xX11_feed_83_t (by decide) ?_
                  refine xX11_feed_90 ?_
                  refine xX11_feed_92 ?_
                  refine xX11_feed_93_t (by decide) ?_
                  refine xX11_feed_100 ?_
                  refine xX11_feed_102 ?_
                  refine xX11_feed_103_f (by decide) ?_
                  refine xX11_feed_106 ?_
                  refine xX11_feed_108 ?_
                  refine xX11_feed_124 (hX.1 _ _ rfl) rfl rfl rfl (s_X6_take hX ht1 (by first | omega | (simp only [List.length_append, List.length_cons, List.length_nil]; omega)) (fun g2 ht2 hf2 => ?_))
                  refine xX11_feed_127 rfl rfl ?_
                  refine xX11_feed_130 ?_
                  refine xX11_feed_71 ?_
                  refine xX11_feed_73 ?_
                  refine xX11_feed_74_f (by decide) ?_
                  refine xX11_feed_77 ?_
                  refine xX11_feed_78 (hX.1 _ _ rfl) (hX.2 _ _ _ rfl) ?_
                  refine xX11_feed_81 ?_
                  refine xX11_feed_83_t (by decide) ?_
                  refine xX11_feed_90 ?_
                  refine xX11_feed_92 ?_
                  refine xX11_feed_93_t (by decide) ?_
                  refine xX11_feed_100 ?_
                  refine xX11_feed_102 ?_
                  refine xX11_feed_103_t (by decide) ?_
                  refine xX11_feed_111 ?_
                  refine xX11_feed_113 ?_
                  refine xX11_feed_114_f (by decide) ?_
                  refine xX11_feed_117 ?_
                  refine xX11_feed_119 ?_
                  refine xX11_feed_124 (hX.1 _ _ rfl) rfl rfl rfl (s_X6_take hX ht2 (by first | omega | (simp only [List.length_append, List.length_cons, List.length_nil]; omega)) (fun g3 ht3 hf3 => ?_))
                  refine xX11_feed_127 rfl rfl ?_
                  refine xX11_feed_130 ?_
                  refine xX11_feed_71 ?_
                  refine xX11_feed_73 ?_
                  refine xX11_feed_74_t (by decide) ?_
                  refine xX11_feed_133 ?_
                  refine xX11_feed_134 (hX.1 _ _ rfl) (hX.2 _ _ _ rfl) ?_
                  refine xX11_feed_137 (hX.1 _ _ rfl) ?_
                  refine xX11_feed_140 rfl rfl ?_
                  rw [ht3.1]
                  refine hQ _ _ _ (Or.inr (Or.inr ⟨hC, c62', ?_, ?_⟩)) ht3 (((hf0.tr hf1).tr hf2).tr hf3)
                  · congr 1; simp only [List.length_append, List.length_cons, List.length_nil, nN_nI (show 4 < 2147483648 by omega)]
                  · show _ = tp ++ List.take 4 [a, b, c, d0, e]; simp
                · refine xX11_feed_68 ?_
                  refine xX11_feed_69 rfl ?_
                  refine xX11_feed_71 ?_
                  refine xX11_feed_73 ?_
                  refine xX11_feed_74_f (by decide) ?_
                  refine xX11_feed_77 ?_
                  refine xX11_feed_78 (hX.1 _ _ rfl) (hX.2 _ _ _ rfl) ?_
                  refine xX11_feed_81 ?_
                  refine xX11_feed_83_f (by decide) ?_
                  refine xX11_feed_86 ?_
                  refine xX11_feed_87 ?_
                  refine xX11_feed_124 (hX.1 _ _ rfl) rfl rfl rfl (s_X6_take hX ht (by first | omega | (simp only [List.length_append, List.length_cons, List.length_nil]; omega)) (fun g0 ht0 hf0 => ?_))
                  refine xX11_feed_127 rfl rfl ?_
                  refine xX11_feed_130 ?_
                  refine xX11_feed_71 ?_
                  refine xX11_feed_73 ?_
                  refine xX11_feed_74_f (by decide) ?_
                  refine xX11_feed_77 ?_
                  refine xX11_feed_78 (hX.1 _ _ rfl) (hX.2 _ _ _ rfl) ?_
                  refine xX11_feed_81 ?_
                  refine xX11_feed_83_t (by decide) ?_
                  refine xX11_feed_90 ?_
                  refine xX11_feed_92 ?_
                  refine xX11_feed_93_f (by decide) ?_
                  refine xX11_feed_96 ?_
                  refine xX11_feed_97 ?_
                  refine xX11_feed_124 (hX.1 _ _ rfl) rfl rfl rfl (s_X6_take hX ht0 (by first | omega | (simp only [List.length_append, List.length_cons, List.length_nil]; omega)) (fun g1 ht1 hf1 => ?_))
                  refine xX11_feed_127 rfl rfl ?_
                  refine xX11_feed_130 ?_
                  refine xX11_feed_71 ?_
                  refine xX11_feed_73 ?_
                  refine xX11_feed_74_f (by decide) ?_
                  refine xX11_feed_77 ?_
                  refine xX11_feed_78 (hX.1 _ _ rfl) (hX.2 _ _ _ rfl) ?_
                  refine xX11_feed_81 ?_
                  refine xX11_feed_83_t (by decide) ?_
                  refine xX11_feed_90 ?_
                  refine xX11_feed_92 ?_
                  refine xX11_feed_93_t (by decide) ?_
                  refine xX11_feed_100 ?_
                  refine xX11_feed_102 ?_
                  refine xX11_feed_103_f (by decide) ?_
                  refine xX11_feed_106 ?_
                  refine xX11_feed_108 ?_
                  refine xX11_feed_124 (hX.1 _ _ rfl) rfl rfl rfl (s_X6_take hX ht1 (by first | omega | (simp only [List.length_append, List.length_cons, List.length_nil]; omega)) (fun g2 ht2 hf2 => ?_))
                  refine xX11_feed_127 rfl rfl ?_
                  refine xX11_feed_130 ?_
                  refine xX11_feed_71 ?_
                  refine xX11_feed_73 ?_
                  refine xX11_feed_74_f (by decide) ?_
                  refine xX11_feed_77 ?_
                  refine xX11_feed_78 (hX.1 _ _ rfl) (hX.2 _ _ _ rfl) ?_
                  refine xX11_feed_81 ?_
                  refine xX11_feed_83_t (by decide) ?_
                  refine xX11_feed_90 ?_
                  refine xX11_feed_92 ?_
                  refine xX11_feed_93_t (by decide) ?_
                  refine xX11_feed_100 ?_
                  refine xX11_feed_102 ?_
                  refine xX11_feed_103_t (by decide) ?_
                  refine xX11_feed_111 ?_
                  refine xX11_feed_113 ?_
                  refine xX11_feed_114_f (by decide) ?_
                  refine xX11_feed_117 ?_
                  refine xX11_feed_119 ?_
                  refine xX11_feed_124 (hX.1 _ _ rfl) rfl rfl rfl (s_X6_take hX ht2 (by first | omega | (simp only [List.length_append, List.length_cons, List.length_nil]; omega)) (fun g3 ht3 hf3 => ?_))
                  refine xX11_feed_127 rfl rfl ?_
                  refine xX11_feed_130 ?_
                  refine xX11_feed_71 ?_
                  refine xX11_feed_73 ?_
                  refine xX11_feed_74_f (by decide) ?_
                  refine xX11_feed_77 ?_
                  refine xX11_feed_78 (hX.1 _ _ rfl) (hX.2 _ _ _ rfl) ?_
                  refine xX11_feed_81 ?_
                  refine xX11_feed_83_t (by decide) ?_
                  refine xX11_feed_90 ?_
                  refine xX11_feed_92 ?_
                  refine xX11_feed_93_t (by decide) ?_
                  refine xX11_feed_100 ?_
                  refine xX11_feed_102 ?_
                  refine xX11_feed_103_t (by decide) ?_
                  refine xX11_feed_111 ?_
                  refine xX11_feed_113 ?_
                  refine xX11_feed_114_t (by decide) ?_
                  refine xX11_feed_122 ?_
                  refine xX11_feed_124 (hX.1 _ _ rfl) rfl rfl rfl (s_X6_take hX ht3 (by first | omega | (simp only [List.length_append, List.length_cons, List.length_nil]; omega)) (fun g4 ht4 hf4 => ?_))
                  refine xX11_feed_127 rfl rfl ?_
                  refine xX11_feed_130 ?_
                  refine xX11_feed_71 ?_
                  refine xX11_feed_73 ?_
                  refine xX11_feed_74_t (by decide) ?_
                  refine xX11_feed_133 ?_
                  refine xX11_feed_134 (hX.1 _ _ rfl) (hX.2 _ _ _ rfl) ?_
                  refine xX11_feed_137 (hX.1 _ _ rfl) ?_
                  refine xX11_feed_140 rfl rfl ?_
                  rw [ht4.1]
                  refine hQ _ _ _ (Or.inr (Or.inr ⟨hC, c62', ?_, ?_⟩)) ht4 ((((hf0.tr hf1).tr hf2).tr hf3).tr hf4)
                  · congr 1; simp only [List.length_append, List.length_cons, List.length_nil, nN_nI (show 5 < 2147483648 by omega)]
                  · show _ = tp ++ List.take 5 [a, b, c, d0, e]; simp
              · refine xX11_feed_65 ?_
                refine xX11_feed_67 rfl rfl ?_
                exact hQ g _ _ (Or.inr (Or.inl ⟨⟨hw0, hw1, hw2, hw3, hw4, hw5⟩, Int32.not_le.mp c62, rfl, rfl⟩)) ht TPF.rf
            · refine xX11_feed_44_f (by decide) ?_
              refine xX11_feed_47 ?_
              refine xX11_feed_49 rfl rfl ?_
              exact hQ g _ _ (Or.inl ⟨fun z => nw5 z.2.2.2.2.2, rfl, rfl⟩) ht TPF.rf
          · refine xX11_feed_36_t (by decide) ?_
            refine xX11_feed_47 ?_
            refine xX11_feed_49 rfl rfl ?_
            exact hQ g _ _ (Or.inl ⟨fun z => nw4 z.2.2.2.2.1, rfl, rfl⟩) ht TPF.rf
        · refine xX11_feed_28_t (by decide) ?_
          refine xX11_feed_47 ?_
          refine xX11_feed_49 rfl rfl ?_
          exact hQ g _ _ (Or.inl ⟨fun z => nw3 z.2.2.2.1, rfl, rfl⟩) ht TPF.rf
      · refine xX11_feed_20_t (by decide) ?_
        refine xX11_feed_47 ?_
        refine xX11_feed_49 rfl rfl ?_
        exact hQ g _ _ (Or.inl ⟨fun z => nw2 z.2.2.1, rfl, rfl⟩) ht TPF.rf
    · refine xX11_feed_13_t (by decide) ?_
      refine xX11_feed_47 ?_
      refine xX11_feed_49 rfl rfl ?_
      exact hQ g _ _ (Or.inl ⟨fun z => nw1 z.2.1, rfl, rfl⟩) ht TPF.rf
  · refine xX11_feed_6_t (by decide) ?_
    refine xX11_feed_47 ?_
    refine xX11_feed_49 rfl rfl ?_
    exact hQ g _ _ (Or.inl ⟨fun z => nw0 z.1, rfl, rfl⟩) ht TPF.rf
