theorem lp_X6_advance {d : Nat} {sc : Nat × (Nat → Int32)} {T : List (Nat × Nat)} {rf : Nat → Nat → Option Nat} {tp : List Int32} {g0 : Nat → Nat → Int32} {E : Nat} {F : AH → Prop} (hX : XS T rf) (hE9 : E ≤ tp.length) (hQ : ∀ g2, RAf g0 g2 → g2 35 1 = nI E → g2 35 8 = g0 35 8 → Wp (d + 6) 0 0 sc kX6_advance (Qv F) 58 [some (.ref 35), none] [] (T, rf, g2) 0 0) : ∀ (l : List Int32) (i : Nat) (g : Nat → Nat → Int32), (XP_ g tp) → (RAf g0 g) → (g 35 1 = nI i) → (g 35 8 = g0 35 8) → (tp.drop i = l) → (i ≤ tp.length) → (i + skpL l = E) → Wp (d + 6) 0 0 sc kX6_advance (Qv F) 8 [some (.ref 35), none] [] (T, rf, g) 0 0 := by
  intro l
  induction l with
  | nil =>
    intro i g ht hf hb h8 hl2 hi9 hE
    have hl := ht.2.1
    have e0 := ht.1
    have hn := drop_n hl2
    have e : i = E := hE
    subst e
    refine xX6_advance_8 ?_
    refine xX6_advance_9 (hX.1 _ _ rfl) ?_
    refine xX6_advance_12 ?_
    refine xX6_advance_13 (hX.1 _ _ rfl) ?_
    rw [hb, e0]
    refine xX6_advance_16_t (nI_le hn (by omega)) ?_
    exact hQ _ hf hb h8
  | cons c l ih =>
    intro i g ht hf hb h8 hl2 hi9 hE
    have hl := ht.2.1
    have e0 := ht.1
    obtain ⟨hi, hby, hl3⟩ := drop_c hl2
    refine xX6_advance_8 ?_
    refine xX6_advance_9 (hX.1 _ _ rfl) ?_
    refine xX6_advance_12 ?_
    refine xX6_advance_13 (hX.1 _ _ rfl) ?_
    rw [hb, e0]
    refine xX6_advance_16_f (Int32.not_le.mpr (nI_lt hi (by omega))) ?_
    refine xX6_advance_19 ?_
    refine xX6_advance_20 ?_
    refine xX6_advance_21 (hX.1 _ _ rfl) ?_
    rw [hb]
    refine xX6_advance_24 (hX.1 _ _ rfl) rfl rfl rfl (s_X6_byteAt hX ht rfl (by omega) ?_)
    refine xX6_advance_27 ?_
    rw [hby]
    refine xX6_advance_29 (fun c29 => ?_) (fun c29 => ?_)
    · refine xX6_advance_45 ?_
      refine xX6_advance_46 rfl ?_
      refine xX6_advance_47 (hX.1 _ _ rfl) ?_
      refine xX6_advance_50 ?_
      refine xX6_advance_51 ?_
      rw [hb, show nI i + 1 = nI (i + 1) from nI_1 i]
      refine xX6_advance_52 (hX.1 _ _ rfl) ?_
      refine xX6_advance_55 ?_
      have hs : skpL (c :: l) = skpL l + 1 := if_pos (by first | exact Or.inl c29 | exact Or.inr c42)
      exact ih (i + 1) _ (ht.ra (RAf.u (by omega))) (hf.tr (RAf.u (by omega))) (up_same _ _ _ _) ((up_ne (by omega)).trans h8) hl3 (by omega) (by rw [← hE, hs]; omega)
    · refine xX6_advance_32 ?_
      refine xX6_advance_33 ?_
      refine xX6_advance_34 (hX.1 _ _ rfl) ?_
      rw [hb]
      refine xX6_advance_37 (hX.1 _ _ rfl) rfl rfl rfl (s_X6_byteAt hX ht rfl (by omega) ?_)
      refine xX6_advance_40 ?_
      rw [hby]
      refine xX6_advance_42 (fun c42 => ?_) (fun c42 => ?_)
      · have hs : skpL (c :: l) = 0 := if_neg (fun z => z.elim c29 c42)
        have e : i = E := by rw [← hE, hs]; rfl
        subst e
        exact hQ _ hf hb h8
      · refine xX6_advance_45 ?_
        refine xX6_advance_46 rfl ?_
        refine xX6_advance_47 (hX.1 _ _ rfl) ?_
        refine xX6_advance_50 ?_
        refine xX6_advance_51 ?_
        rw [hb, show nI i + 1 = nI (i + 1) from nI_1 i]
        refine xX6_advance_52 (hX.1 _ _ rfl) ?_
        refine xX6_advance_55 ?_
        have hs : skpL (c :: l) = skpL l + 1 := if_pos (by first | exact Or.inl c29 | exact Or.inr c42)
        exact ih (i + 1) _ (ht.ra (RAf.u (by omega))) (hf.tr (RAf.u (by omega))) (up_same _ _ _ _) ((up_ne (by omega)).trans h8) hl3 (by omega) (by rw [← hE, hs]; omega)
theorem wdF_2 {w : List Int32} : ∀ (xs : List (List Int32)) (k : Nat) (a : Int32), k + xs.length ≤ 20 → a ≠ 2 → wdF xs k w a ≠ 2 := by
  intro xs
  induction xs with
  | nil => intro k a _ h; exact h
  | cons x xs ih =>
    intro k a hk h
    simp only [List.length_cons] at hk
    refine ih (k + 1) _ (by omega) ?_
    split
    · rw [show (100 : Int32) = nI 100 from rfl, nI_add]
      intro z
      have := nIinj (a := 100 + k) (b := 2) (by omega) (by omega) z
      omega
    · exact h
theorem wdX_2 (w : List Int32) : ¬ wdX w = 2 := wdF_2 WLs 0 1 (by decide) (by decide)
theorem sgX_2 (c : Int32) : ¬ sgX c = 2 := by
  unfold sgX
  repeat' split
  all_goals first | decide | (rename_i h; rw [h]; decide) | skip
  all_goals (simp_all)
theorem s_X6_advance {d : Nat} {sc : Nat × (Nat → Int32)} {T : List (Nat × Nat)} {rf : Nat → Nat → Option Nat} {g : Nat → Nat → Int32} {tp : List Int32} {p : Nat} {F : AH → Prop} (hX : XS T rf) (ht : XP_ g tp) (hB : TB tp) (hp : g 35 8 = nI p) (hp9 : p ≤ tp.length) (hQ : ∀ g2, RAf g g2 → RT g2 tp (TKS tp p) → F (T, rf, g2)) : Mok (d + 6) 0 0 sc kX6_advance [.ref 35] (T, rf, g) (Qv F) := by
  have hl := ht.2.1
  have hs := skpL_le (tp.drop p)
  rw [List.length_drop] at hs
  refine Mok.ofWp (L := [some (.ref 35), none]) rfl rfl rfl ?_
  refine xX6_advance_0 ?_
  refine xX6_advance_1 ?_
  refine xX6_advance_2 (hX.1 _ _ rfl) ?_
  rw [hp]
  refine xX6_advance_5 (hX.1 _ _ rfl) ?_
  obtain ⟨E, hE⟩ : ∃ E, E = p + skpL (tp.drop p) := ⟨_, rfl⟩
  have hEl : E ≤ tp.length := by omega
  refine lp_X6_advance (g0 := g) hX hEl (fun g9 hf9 hb9 h89 => ?_) (tp.drop p) p _ (ht.ra (RAf.u (by omega))) (RAf.u (by omega)) (up_same _ _ _ _) (up_ne (by omega)) rfl hp9 hE.symm
  have ht9 := ht.ra hf9
  cases hdr : tp.drop E with
  | nil =>
    have hn := drop_n hdr
    have hnil : tkX (tp.drop (p + skpL (tp.drop p))) = (0, 0, 0) := by rw [← hE, hdr]; rfl
    refine xX6_advance_58 ?_
    refine xX6_advance_59 ?_
    refine xX6_advance_60 (hX.1 _ _ rfl) ?_
    rw [hb9]
    refine xX6_advance_63 (hX.1 _ _ rfl) rfl rfl rfl (s_X6_byteAt hX ht9 rfl (by omega) ?_)
    refine xX6_advance_66 rfl ?_
    refine xX6_advance_67 ?_
    refine xX6_advance_68 ?_
    rw [byX_n hn]
    refine xX6_advance_69_f rfl ?_
    refine xX6_advance_72 ?_
    refine xX6_advance_73 ?_
    refine xX6_advance_74 (hX.1 _ _ rfl) ?_
    refine xX6_advance_77 ?_
    refine xX6_advance_123 rfl rfl ?_
    refine hQ _ (hf9.tr (RAf.u (by omega))) ?_
    rw [TKS_eq hp9, ← hE, hdr]
    exact ⟨(up_ne (by omega)).trans hb9, up_same _ _ _ _, fun z => absurd (show (0 : Int32) = 2 from z) (by decide), hEl, fun z => absurd rfl z, fun _ => if_pos rfl⟩
  | cons c l =>
    obtain ⟨hi, hby, hl3⟩ := drop_c hdr
    have hne : ¬ c = -1 := fun z => by
      have := (TB_c hB hdr).1
      rw [z] at this
      exact absurd this (by decide)
    refine xX6_advance_58 ?_
    refine xX6_advance_59 ?_
    refine xX6_advance_60 (hX.1 _ _ rfl) ?_
    rw [hb9]
    refine xX6_advance_63 (hX.1 _ _ rfl) rfl rfl rfl (s_X6_byteAt hX ht9 rfl (by omega) ?_)
    refine xX6_advance_66 rfl ?_
    refine xX6_advance_67 ?_
    refine xX6_advance_68 ?_
    rw [hby]
    refine xX6_advance_69_t hne ?_
    refine xX6_advance_80 ?_
    refine xX6_advance_81 ?_
    refine xX6_advance_83 (fun c83 => ?_) (fun c83 => ?_)
    · have hw : ¬ (97 ≤ c ∧ c ≤ 122) := fun z => absurd c83 (Int32.not_lt.mpr z.1)
      refine xX6_advance_99 ?_
      refine xX6_advance_100 ?_
      refine xX6_advance_102 (fun c102 => ?_) (fun c102 => ?_)
      · have hd : ¬ (48 ≤ c ∧ c ≤ 57) := fun z => absurd c102 (Int32.not_lt.mpr z.1)
        refine xX6_advance_118 ?_
        refine xX6_advance_119 ?_
        refine xX6_advance_120 (hX.1 _ _ rfl) rfl rfl rfl (s_X6_readSign hX hb9 (fun g1 ha1 hb1 hc1 hd1 => ?_))
        refine xX6_advance_123 rfl rfl ?_
        refine hQ _ (hf9.tr ha1) ?_
        rw [TKS_eq hp9, ← hE, hdr]
        have e : tkX (c :: l) = (sgX c, 0, 1) := ((tkX_c c l).trans (if_neg hw)).trans (if_neg hd)
        rw [e]
        have hdl : (tp.drop E).length = (c :: l).length := by rw [hdr]
        rw [List.length_drop, List.length_cons] at hdl
        refine ⟨hb1, hd1, fun z => absurd z (sgX_2 c), hEl, fun _ => ⟨E + 1, by omega, hc1, if_neg (sgX_ne c)⟩, fun z => absurd z (sgX_ne c)⟩
      · refine xX6_advance_105 ?_
        refine xX6_advance_106 ?_
        refine xX6_advance_108 (fun c108 => ?_) (fun c108 => ?_)
        · have hd : ¬ (48 ≤ c ∧ c ≤ 57) := fun z => absurd c108 (Int32.not_lt.mpr z.2)
          refine xX6_advance_118 ?_
          refine xX6_advance_119 ?_
          refine xX6_advance_120 (hX.1 _ _ rfl) rfl rfl rfl (s_X6_readSign hX hb9 (fun g2 ha2 hb2 hc2 hd2 => ?_))
          refine xX6_advance_123 rfl rfl ?_
          refine hQ _ (hf9.tr ha2) ?_
          rw [TKS_eq hp9, ← hE, hdr]
          have e : tkX (c :: l) = (sgX c, 0, 1) := ((tkX_c c l).trans (if_neg hw)).trans (if_neg hd)
          rw [e]
          have hdl : (tp.drop E).length = (c :: l).length := by rw [hdr]
          rw [List.length_drop, List.length_cons] at hdl
          refine ⟨hb2, hd2, fun z => absurd z (sgX_2 c), hEl, fun _ => ⟨E + 1, by omega, hc2, if_neg (sgX_ne c)⟩, fun z => absurd z (sgX_ne c)⟩
        · refine xX6_advance_111 ?_
          have hd : 48 ≤ c ∧ c ≤ 57 := ⟨Int32.not_lt.mp c102, Int32.not_lt.mp c108⟩
          have hr1 : runL 48 57 (c :: l) = runL 48 57 l + 1 := if_pos hd
          refine xX6_advance_112 (hX.1 _ _ rfl) rfl rfl rfl (s_X6_readNumber hX ht9 hb9 hEl rfl (by rw [hdr, hr1]; omega) (fun g3 ha3 hb3 hc3 hd3 he3 => ?_))
          refine xX6_advance_115 ?_
          refine xX6_advance_123 rfl rfl ?_
          refine hQ _ (hf9.tr ha3) ?_
          rw [TKS_eq hp9, ← hE, hdr]
          have e : tkX (c :: l) = tkN (c :: l) := ((tkX_c c l).trans (if_neg hw)).trans (if_pos hd)
          rw [e]
          have hrl := runL_le 48 57 (c :: l)
          have hdl : (tp.drop E).length = (c :: l).length := by rw [hdr]
          rw [List.length_drop] at hdl
          have hne2 : (tkN (c :: l)).1 ≠ 0 := by
            show ¬ (if 4 < runL 48 57 (c :: l) then (1 : Int32) else 2) = 0
            split <;> decide
          refine ⟨hb3, by rw [hd3, hdr]; rfl, fun z => ?_, hEl, fun _ => ⟨E + runL 48 57 (c :: l), by omega, by rw [hc3, hdr], if_neg hne2⟩, fun z => absurd z hne2⟩
          have z : (if 4 < runL 48 57 (c :: l) then (1 : Int32) else 2) = 2 := z
          by_cases h4 : 4 < runL 48 57 (c :: l)
          · rw [if_pos h4] at z; exact absurd z (by decide)
          · rw [he3 (by rw [hdr]; exact h4), hdr]
            show _ = (if 4 < runL 48 57 (c :: l) then (0 : Int32) else _)
            rw [if_neg h4]
    · refine xX6_advance_86 ?_
      refine xX6_advance_87 ?_
      refine xX6_advance_89 (fun c89 => ?_) (fun c89 => ?_)
      · have hw : ¬ (97 ≤ c ∧ c ≤ 122) := fun z => absurd c89 (Int32.not_lt.mpr z.2)
        refine xX6_advance_99 ?_
        refine xX6_advance_100 ?_
        refine xX6_advance_102 (fun c102 => ?_) (fun c102 => ?_)
        · have hd : ¬ (48 ≤ c ∧ c ≤ 57) := fun z => absurd c102 (Int32.not_lt.mpr z.1)
          refine xX6_advance_118 ?_
          refine xX6_advance_119 ?_
          refine xX6_advance_120 (hX.1 _ _ rfl) rfl rfl rfl (s_X6_readSign hX hb9 (fun g4 ha4 hb4 hc4 hd4 => ?_))
          refine xX6_advance_123 rfl rfl ?_
          refine hQ _ (hf9.tr ha4) ?_
          rw [TKS_eq hp9, ← hE, hdr]
          have e : tkX (c :: l) = (sgX c, 0, 1) := ((tkX_c c l).trans (if_neg hw)).trans (if_neg hd)
          rw [e]
          have hdl : (tp.drop E).length = (c :: l).length := by rw [hdr]
          rw [List.length_drop, List.length_cons] at hdl
          refine ⟨hb4, hd4, fun z => absurd z (sgX_2 c), hEl, fun _ => ⟨E + 1, by omega, hc4, if_neg (sgX_ne c)⟩, fun z => absurd z (sgX_ne c)⟩
        · refine xX6_advance_105 ?_
          refine xX6_advance_106 ?_
          refine xX6_advance_108 (fun c108 => ?_) (fun c108 => ?_)
          · have hd : ¬ (48 ≤ c ∧ c ≤ 57) := fun z => absurd c108 (Int32.not_lt.mpr z.2)
            refine xX6_advance_118 ?_
            refine xX6_advance_119 ?_
            refine xX6_advance_120 (hX.1 _ _ rfl) rfl rfl rfl (s_X6_readSign hX hb9 (fun g5 ha5 hb5 hc5 hd5 => ?_))
            refine xX6_advance_123 rfl rfl ?_
            refine hQ _ (hf9.tr ha5) ?_
            rw [TKS_eq hp9, ← hE, hdr]
            have e : tkX (c :: l) = (sgX c, 0, 1) := ((tkX_c c l).trans (if_neg hw)).trans (if_neg hd)
            rw [e]
            have hdl : (tp.drop E).length = (c :: l).length := by rw [hdr]
            rw [List.length_drop, List.length_cons] at hdl
            refine ⟨hb5, hd5, fun z => absurd z (sgX_2 c), hEl, fun _ => ⟨E + 1, by omega, hc5, if_neg (sgX_ne c)⟩, fun z => absurd z (sgX_ne c)⟩
          · refine xX6_advance_111 ?_
            have hd : 48 ≤ c ∧ c ≤ 57 := ⟨Int32.not_lt.mp c102, Int32.not_lt.mp c108⟩
            have hr1 : runL 48 57 (c :: l) = runL 48 57 l + 1 := if_pos hd
            refine xX6_advance_112 (hX.1 _ _ rfl) rfl rfl rfl (s_X6_readNumber hX ht9 hb9 hEl rfl (by rw [hdr, hr1]; omega) (fun g6 ha6 hb6 hc6 hd6 he6 => ?_))
            refine xX6_advance_115 ?_
            refine xX6_advance_123 rfl rfl ?_
            refine hQ _ (hf9.tr ha6) ?_
            rw [TKS_eq hp9, ← hE, hdr]
            have e : tkX (c :: l) = tkN (c :: l) := ((tkX_c c l).trans (if_neg hw)).trans (if_pos hd)
            rw [e]
            have hrl := runL_le 48 57 (c :: l)
            have hdl : (tp.drop E).length = (c :: l).length := by rw [hdr]
            rw [List.length_drop] at hdl
            have hne2 : (tkN (c :: l)).1 ≠ 0 := by
              show ¬ (if 4 < runL 48 57 (c :: l) then (1 : Int32) else 2) = 0
              split <;> decide
            refine ⟨hb6, by rw [hd6, hdr]; rfl, fun z => ?_, hEl, fun _ => ⟨E + runL 48 57 (c :: l), by omega, by rw [hc6, hdr], if_neg hne2⟩, fun z => absurd z hne2⟩
            have z : (if 4 < runL 48 57 (c :: l) then (1 : Int32) else 2) = 2 := z
            by_cases h4 : 4 < runL 48 57 (c :: l)
            · rw [if_pos h4] at z; exact absurd z (by decide)
            · rw [he6 (by rw [hdr]; exact h4), hdr]
              show _ = (if 4 < runL 48 57 (c :: l) then (0 : Int32) else _)
              rw [if_neg h4]
      · refine xX6_advance_92 ?_
        have hw : 97 ≤ c ∧ c ≤ 122 := ⟨Int32.not_lt.mp c83, Int32.not_lt.mp c89⟩
        have hr1 : runL 97 122 (c :: l) = runL 97 122 l + 1 := if_pos hw
        refine xX6_advance_93 (hX.1 _ _ rfl) rfl rfl rfl (s_X6_readWord hX ht9 hb9 hEl rfl (fun g7 ha7 hb7 hc7 hd7 => ?_))
        refine xX6_advance_96 ?_
        refine xX6_advance_123 rfl rfl ?_
        refine hQ _ (hf9.tr ha7) ?_
        rw [TKS_eq hp9, ← hE, hdr]
        have e : tkX (c :: l) = tkW (c :: l) := (tkX_c c l).trans (if_pos hw)
        rw [e]
        have hrl := runL_le 97 122 (c :: l)
        have hdl : (tp.drop E).length = (c :: l).length := by rw [hdr]
        rw [List.length_drop] at hdl
        refine ⟨hb7, by rw [hd7, hdr]; rfl, fun z => absurd z (by
          intro z2
          have := z2
          exact absurd z2 (wdX_2 _)), hEl, fun _ => ⟨E + runL 97 122 (c :: l), by omega, by rw [hc7, hdr], if_neg (wdX_ne _)⟩, fun z => absurd z (wdX_ne _)⟩
