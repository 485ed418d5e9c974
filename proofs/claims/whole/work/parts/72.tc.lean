theorem wdF_c {j : Nat} {w : List Int32} {a : Int32} (hj : j < 12) : wdF (WLs.drop j) j w a = wdF (WLs.drop (j + 1)) (j + 1) w (if w = strByt.getD (j + 1) [] then 100 + nI j else a) := by
  have h := WLs_at j hj
  obtain ⟨h1, h2⟩ := List.getElem?_eq_some_iff.mp h
  rw [List.drop_eq_getElem_cons h1, h2]
  rfl
theorem take_c {tp l : List Int32} {i : Nat} {c : Int32} (h : (tp.drop i).take (l.length + 1) = c :: l) : byX tp i = c ∧ (tp.drop (i + 1)).take l.length = l ∧ i < tp.length := by
  cases e : tp.drop i with
  | nil => rw [e] at h; cases h
  | cons x r =>
    obtain ⟨h1, h2, h3⟩ := drop_c e
    rw [e, List.take_succ_cons] at h
    injection h with h4 h5
    exact ⟨h2.trans h4, by rw [h3]; exact h5, h1⟩
/-- the reader has read up to this token -/
def RT (g : Nat → Nat → Int32) (tp : List Int32) : List Tok → Prop
  | [] => False
  | q :: r => g 35 1 = nI q.1 ∧ g 35 6 = q.2.1 ∧ (q.2.1 = 2 → g 35 7 = q.2.2) ∧ q.1 ≤ tp.length ∧ (q.2.1 ≠ 0 → ∃ p, p ≤ tp.length ∧ g 35 8 = nI p ∧ r = TKS tp p) ∧ (q.2.1 = 0 → r = [])
theorem lp_X6_readWord {d : Nat} {sc : Nat × (Nat → Int32)} {T : List (Nat × Nat)} {rf : Nat → Nat → Option Nat} {tp : List Int32} {g0 : Nat → Nat → Int32} {b n : Nat} {W : Int32} {F : AH → Prop} (hX : XS T rf) (hbn : b + n ≤ tp.length) (hQ : ∀ g2, RAf g0 g2 → g2 35 1 = nI b → g2 35 8 = nI (b + n) → g2 35 6 = W → F (T, rf, g2)) : ∀ (k j : Nat) (x1 : Int32) (g : Nat → Nat → Int32), (j + k = 12) → (x1 = nI j) → (XP_ g tp) → (RAf g0 g) → (g 35 1 = nI b) → (g 35 8 = nI (b + n)) → (wdF (WLs.drop j) j ((tp.drop b).take n) (g 35 6) = W) → Wp (d + 5) 0 0 sc kX6_readWord (Qv F) 19 [some (.ref 35), some (.int x1)] [] (T, rf, g) 0 0 := by
  intro k
  induction k with
  | zero =>
    intro j x1 g hj hx1 ht hf hb hn hW
    subst hx1
    refine xX6_readWord_19 ?_
    refine xX6_readWord_20 ?_
    refine xX6_readWord_22_t (nI_le (a := 12) (by omega) (by omega)) ?_
    refine xX6_readWord_50 rfl rfl ?_
    have e : j = 12 := by omega
    subst e
    exact hQ _ hf hb hn hW
  | succ k ih =>
    intro j x1 g hj hx1 ht hf hb hn hW
    subst hx1
    refine xX6_readWord_19 ?_
    refine xX6_readWord_20 ?_
    refine xX6_readWord_22_f (nI_ge (b := 12) (by omega) (by omega)) ?_
    refine xX6_readWord_25 ?_
    refine xX6_readWord_26 ?_
    refine xX6_readWord_27 rfl rfl rfl (s_X6_word (show j < 12 by omega) ?_)
    refine xX6_readWord_30 (hX.1 _ _ rfl) rfl rfl rfl (s_X6_isHere hX ht (i := j + 1) (by omega) (by omega) hb hn hbn (fun hw1 => ?_) (fun nw1 => ?_))
    · refine xX6_readWord_33_f (by decide) ?_
      refine xX6_readWord_36 ?_
      refine xX6_readWord_37 ?_
      refine xX6_readWord_39 ?_
      refine xX6_readWord_40 ?_
      refine xX6_readWord_41 (hX.1 _ _ rfl) ?_
      refine xX6_readWord_44 rfl rfl ?_
      refine xX6_readWord_47 ?_
      first
        | exact ih (j + 1) _ _ (by omega) (nI_1 j) (ht.ra (RAf.u (by omega))) (hf.tr (RAf.u (by omega))) ((up_ne (by omega)).trans hb) ((up_ne (by omega)).trans hn) (by rw [up_same, ← hW, wdF_c (j := j) (by omega), if_pos hw1])
        | exact ih (j + 1) _ _ (by omega) (nI_1 j) ht hf hb hn (by rw [← hW, wdF_c (j := j) (by omega), if_neg hw1])
    · refine xX6_readWord_33_t (by decide) ?_
      refine xX6_readWord_44 rfl rfl ?_
      refine xX6_readWord_47 ?_
      first
        | exact ih (j + 1) _ _ (by omega) (nI_1 j) (ht.ra (RAf.u (by omega))) (hf.tr (RAf.u (by omega))) ((up_ne (by omega)).trans hb) ((up_ne (by omega)).trans hn) (by rw [up_same, ← hW, wdF_c (j := j) (by omega), if_pos nw1])
        | exact ih (j + 1) _ _ (by omega) (nI_1 j) ht hf hb hn (by rw [← hW, wdF_c (j := j) (by omega), if_neg nw1])
theorem s_X6_readWord {d : Nat} {sc : Nat × (Nat → Int32)} {T : List (Nat × Nat)} {rf : Nat → Nat → Option Nat} {g : Nat → Nat → Int32} {tp : List Int32} {b n : Nat} {F : AH → Prop} (hX : XS T rf) (ht : XP_ g tp) (hb : g 35 1 = nI b) (hb9 : b ≤ tp.length) (hn : n = runL 97 122 (tp.drop b)) (hQ : ∀ g2, RAf g g2 → g2 35 1 = nI b → g2 35 8 = nI (b + n) → g2 35 6 = wdX ((tp.drop b).take n) → F (T, rf, g2)) : Mok (d + 5) 0 0 sc kX6_readWord [.ref 35] (T, rf, g) (Qv F) := by
  have hl := ht.2.1
  have hr := runL_le 97 122 (tp.drop b)
  rw [List.length_drop] at hr
  refine Mok.ofWp (L := [some (.ref 35), none]) rfl rfl rfl ?_
  refine xX6_readWord_0 ?_
  refine xX6_readWord_1 ?_
  refine xX6_readWord_2 ?_
  refine xX6_readWord_4 ?_
  refine xX6_readWord_6 (hX.1 _ _ rfl) rfl rfl rfl (s_X6_endOf hX ht hb (by omega) ?_)
  rw [← hn]
  refine xX6_readWord_9 (hX.1 _ _ rfl) ?_
  refine xX6_readWord_12 ?_
  refine xX6_readWord_13 ?_
  refine xX6_readWord_14 (hX.1 _ _ rfl) ?_
  refine xX6_readWord_17 ?_
  refine xX6_readWord_18 rfl ?_
  have hz : RAf g (up (up g 35 8 (nI (b + n))) 35 6 1) := (RAf.u (by omega)).tr (RAf.u (by omega))
  exact lp_X6_readWord hX (by omega) hQ 12 0 _ _ (by omega) rfl (ht.ra hz) hz ((up_ne (by omega)).trans ((up_ne (by omega)).trans hb)) ((up_ne (by omega)).trans (up_same _ _ _ _)) (by rw [up_same]; rfl)
theorem lp_X6_readNumber {d : Nat} {sc : Nat × (Nat → Int32)} {T : List (Nat × Nat)} {rf : Nat → Nat → Option Nat} {tp : List Int32} {g0 : Nat → Nat → Int32} {b e : Nat} {N : Int32} {F : AH → Prop} (hX : XS T rf) (he : e ≤ tp.length) (hQ : ∀ g2, RAf g0 g2 → g2 35 1 = nI b → g2 35 8 = nI e → g2 35 6 = 2 → g2 35 7 = N → F (T, rf, g2)) : ∀ (l : List Int32) (x1 : Int32) (i : Nat) (g : Nat → Nat → Int32), (x1 = nI i) → (XP_ g tp) → (RAf g0 g) → (g 35 1 = nI b) → (g 35 8 = nI e) → (g 35 6 = 2) → (i + l.length = e) → ((tp.drop i).take l.length = l) → (numX l (g 35 7) = N) → Wp (d + 1) 0 0 sc kX6_readNumber (Qv F) 44 [some (.ref 35), some (.int x1)] [] (T, rf, g) 0 0 := by
  intro l
  induction l with
  | nil =>
    intro x1 i g hx1 ht hf hb hn h6 hi hl2 hN
    subst hx1
    have hl := ht.2.1
    simp only [List.length_nil] at hi
    refine xX6_readNumber_44 ?_
    refine xX6_readNumber_45 ?_
    refine xX6_readNumber_46 (hX.1 _ _ rfl) ?_
    rw [hn]
    refine xX6_readNumber_49_t (nI_le (by omega) (by omega)) ?_
    refine xX6_readNumber_86 rfl rfl ?_
    exact hQ _ hf hb hn h6 hN
  | cons c l ih =>
    intro x1 i g hx1 ht hf hb hn h6 hi hl2 hN
    subst hx1
    have hl := ht.2.1
    simp only [List.length_cons] at hi hl2
    obtain ⟨hby, hl3, hil⟩ := take_c hl2
    refine xX6_readNumber_44 ?_
    refine xX6_readNumber_45 ?_
    refine xX6_readNumber_46 (hX.1 _ _ rfl) ?_
    rw [hn]
    refine xX6_readNumber_49_f (nI_ge (by omega) (by omega)) ?_
    refine xX6_readNumber_52 ?_
    refine xX6_readNumber_53 (hX.1 _ _ rfl) ?_
    refine xX6_readNumber_56 ?_
    rw [h6]
    refine xX6_readNumber_57_f rfl ?_
    refine xX6_readNumber_60 ?_
    refine xX6_readNumber_61 ?_
    refine xX6_readNumber_63 ?_
    refine xX6_readNumber_64 (hX.1 _ _ rfl) ?_
    refine xX6_readNumber_67 ?_
    refine xX6_readNumber_68 ?_
    refine xX6_readNumber_69 ?_
    refine xX6_readNumber_70 (hX.1 _ _ rfl) rfl rfl rfl (s_X6_byteAt hX ht rfl (by omega) ?_)
    rw [hby]
    refine xX6_readNumber_73 ?_
    refine xX6_readNumber_74 ?_
    refine xX6_readNumber_76 ?_
    refine xX6_readNumber_77 (hX.1 _ _ rfl) ?_
    refine xX6_readNumber_80 rfl rfl ?_
    refine xX6_readNumber_83 ?_
    exact ih _ (i + 1) _ (nI_1 i) (ht.ra (RAf.u (by omega))) (hf.tr (RAf.u (by omega))) ((up_ne (by omega)).trans hb) ((up_ne (by omega)).trans hn) ((up_ne (by omega)).trans h6) (by omega) hl3 (by rw [up_same]; exact hN)
theorem s_X6_readNumber {d : Nat} {sc : Nat × (Nat → Int32)} {T : List (Nat × Nat)} {rf : Nat → Nat → Option Nat} {g : Nat → Nat → Int32} {tp : List Int32} {b n : Nat} {F : AH → Prop} (hX : XS T rf) (ht : XP_ g tp) (hb : g 35 1 = nI b) (hb9 : b ≤ tp.length) (hn : n = runL 48 57 (tp.drop b)) (hn1 : 1 ≤ n) (hQ : ∀ g2, RAf g g2 → g2 35 1 = nI b → g2 35 8 = nI (b + n) → g2 35 6 = (if 4 < n then 1 else 2) → (¬ 4 < n → g2 35 7 = numX ((tp.drop b).take n) 0) → F (T, rf, g2)) : Mok (d + 2) 0 0 sc kX6_readNumber [.ref 35] (T, rf, g) (Qv F) := by
  have hl := ht.2.1
  have hr := runL_le 48 57 (tp.drop b)
  rw [List.length_drop] at hr
  have esub : nI (b + n) - nI b = nI n := by
    apply Int32.toInt_inj.mp
    rw [iSub (by rw [iT (by omega), iT (by omega)]; omega) (by rw [iT (by omega), iT (by omega)]; omega), iT (by omega), iT (by omega), iT (by omega)]
    omega
  refine Mok.ofWp (L := [some (.ref 35), none]) rfl rfl rfl ?_
  refine xX6_readNumber_0 ?_
  refine xX6_readNumber_1 ?_
  refine xX6_readNumber_2 ?_
  refine xX6_readNumber_4 ?_
  refine xX6_readNumber_6 (hX.1 _ _ rfl) rfl rfl rfl (s_X6_endOf hX ht hb (by omega) ?_)
  rw [← hn]
  refine xX6_readNumber_9 (hX.1 _ _ rfl) ?_
  refine xX6_readNumber_12 ?_
  refine xX6_readNumber_13 ?_
  refine xX6_readNumber_14 (hX.1 _ _ rfl) ?_
  refine xX6_readNumber_17 ?_
  refine xX6_readNumber_18 (hX.1 _ _ rfl) ?_
  rw [show up g 35 8 (nI (b + n)) 35 8 = nI (b + n) from up_same _ _ _ _, show up g 35 8 (nI (b + n)) 35 1 = nI b from (up_ne (by omega)).trans hb]
  refine xX6_readNumber_21 ?_
  rw [esub]
  refine xX6_readNumber_22 ?_
  refine xX6_readNumber_23 (fun c23 => ?_) (fun c23 => ?_)
  · have h4 : ¬ 4 < n := fun z => absurd c23 (Int32.not_le.mpr (nI_lt (a := 4) z (by omega)))
    refine xX6_readNumber_30 ?_
    refine xX6_readNumber_31 (hX.1 _ _ rfl) ?_
    refine xX6_readNumber_34 ?_
    refine xX6_readNumber_35 ?_
    refine xX6_readNumber_36 (hX.1 _ _ rfl) ?_
    refine xX6_readNumber_39 ?_
    refine xX6_readNumber_40 (hX.1 _ _ rfl) ?_
    refine xX6_readNumber_43 rfl ?_
    rw [show up (up (up g 35 8 (nI (b + n))) 35 6 2) 35 7 0 35 1 = nI b from by rw [up_ne (by omega), up_ne (by omega), up_ne (by omega)]; exact hb]
    obtain ⟨g9, hg9⟩ : ∃ g9, g9 = up (up (up g 35 8 (nI (b + n))) 35 6 2) 35 7 0 := ⟨_, rfl⟩
    rw [← hg9]
    have hz9 : RAf g g9 := by rw [hg9]; exact ((RAf.u (by omega)).tr (RAf.u (by omega))).tr (RAf.u (by omega))
    have hb9_ : g9 35 1 = nI b := by rw [hg9, up_ne (by omega), up_ne (by omega), up_ne (by omega)]; exact hb
    have hn9 : g9 35 8 = nI (b + n) := by rw [hg9, up_ne (by omega), up_ne (by omega), up_same]
    have h69 : g9 35 6 = 2 := by rw [hg9, up_ne (by omega), up_same]
    have h79 : g9 35 7 = 0 := by rw [hg9, up_same]
    refine lp_X6_readNumber (g0 := g) hX (e := b + n) (by omega) (fun g2 h1 h2 h3 h5 h6 => hQ g2 h1 h2 h3 (by rw [h5, if_neg h4]) (fun _ => h6)) ((tp.drop b).take n) _ b g9 rfl (ht.ra hz9) hz9 hb9_ hn9 h69 (by rw [List.length_take, List.length_drop]; omega) (by rw [List.length_take, List.length_drop, Nat.min_eq_left (by omega)]) (by rw [h79])
  · have h4 : 4 < n := Nat.lt_of_not_le (fun z => c23 (nI_le (b := 4) z (by omega)))
    refine xX6_readNumber_26 ?_
    refine xX6_readNumber_27 ?_
    refine xX6_readNumber_31 (hX.1 _ _ rfl) ?_
    refine xX6_readNumber_34 ?_
    refine xX6_readNumber_35 ?_
    refine xX6_readNumber_36 (hX.1 _ _ rfl) ?_
    refine xX6_readNumber_39 ?_
    refine xX6_readNumber_40 (hX.1 _ _ rfl) ?_
    refine xX6_readNumber_43 rfl ?_
    rw [show up (up (up g 35 8 (nI (b + n))) 35 6 1) 35 7 0 35 1 = nI b from by rw [up_ne (by omega), up_ne (by omega), up_ne (by omega)]; exact hb]
    obtain ⟨g9, hg9⟩ : ∃ g9, g9 = up (up (up g 35 8 (nI (b + n))) 35 6 1) 35 7 0 := ⟨_, rfl⟩
    rw [← hg9]
    have hz9 : RAf g g9 := by rw [hg9]; exact ((RAf.u (by omega)).tr (RAf.u (by omega))).tr (RAf.u (by omega))
    have hb9_ : g9 35 1 = nI b := by rw [hg9, up_ne (by omega), up_ne (by omega), up_ne (by omega)]; exact hb
    have hn9 : g9 35 8 = nI (b + n) := by rw [hg9, up_ne (by omega), up_ne (by omega), up_same]
    have h69 : g9 35 6 = 1 := by rw [hg9, up_ne (by omega), up_same]
    have h79 : g9 35 7 = 0 := by rw [hg9, up_same]
    refine xX6_readNumber_44 ?_
    refine xX6_readNumber_45 ?_
    refine xX6_readNumber_46 (hX.1 _ _ rfl) ?_
    rw [hn9]
    refine xX6_readNumber_49_f (nI_ge (by omega) (by omega)) ?_
    refine xX6_readNumber_52 ?_
    refine xX6_readNumber_53 (hX.1 _ _ rfl) ?_
    refine xX6_readNumber_56 ?_
    rw [h69]
    refine xX6_readNumber_57_t (by decide) ?_
    refine xX6_readNumber_86 rfl rfl ?_
    exact hQ _ hz9 hb9_ hn9 (by rw [h69, if_pos h4]) (fun q => absurd q (by omega))
theorem s_X6_readSign {d : Nat} {sc : Nat × (Nat → Int32)} {T : List (Nat × Nat)} {rf : Nat → Nat → Option Nat} {g : Nat → Nat → Int32} {b : Nat} {c : Int32} {F : AH → Prop} (hX : XS T rf) (hb : g 35 1 = nI b) (hQ : ∀ g2, RAf g g2 → g2 35 1 = nI b → g2 35 8 = nI (b + 1) → g2 35 6 = sgX c → F (T, rf, g2)) : Mok d 0 0 sc kX6_readSign [.ref 35, .int c] (T, rf, g) (Qv F) := by
  refine Mok.ofWp (L := [some (.ref 35), some (.int c)]) rfl rfl rfl ?_
  refine xX6_readSign_0 ?_
  refine xX6_readSign_1 ?_
  refine xX6_readSign_2 (hX.1 _ _ rfl) ?_
  refine xX6_readSign_5 ?_
  refine xX6_readSign_6 ?_
  rw [hb, show nI b + 1 = nI (b + 1) from nI_1 b]
  refine xX6_readSign_7 (hX.1 _ _ rfl) ?_
  refine xX6_readSign_10 ?_
  refine xX6_readSign_11 (fun c11 => ?_) (fun c11 => ?_) (fun c11 => ?_) (fun c11 => ?_) (fun c11 => ?_) (fun c11 => ?_) (fun c11 => ?_) (fun c11 => ?_) (fun c11 => ?_) (fun c11 => ?_) (fun c11 => ?_) (fun c11 => ?_) (fun c11 => ?_) (fun c11 => ?_) (fun c11 => ?_) (fun c11 => ?_) (fun c11 => ?_) (fun c11 => ?_) (fun c11 => ?_) (fun c11 => ?_) (fun c11 => ?_) (fun c11 => ?_) (fun c11 => ?_)
  · subst c11
    refine xX6_readSign_112 ?_
    refine xX6_readSign_113 ?_
    refine xX6_readSign_114 (hX.1 _ _ rfl) ?_
    refine xX6_readSign_117 ?_
    refine xX6_readSign_125 rfl rfl ?_
    refine hQ _ ((RAf.u (by omega)).tr (RAf.u (by omega))) ((up_ne (by omega)).trans ((up_ne (by omega)).trans hb)) ((up_ne (by omega)).trans (up_same _ _ _ _)) ?_
    rw [up_same]
    first
      | rfl
      | (unfold sgX; rw [if_neg (fun z => by subst z; revert c11; decide), if_neg (fun z => by subst z; revert c11; decide), if_neg (fun z => by subst z; revert c11; decide), if_neg (fun z => by subst z; revert c11; decide), if_neg (fun z => by subst z; revert c11; decide), if_neg (fun z => by subst z; revert c11; decide), if_neg (fun z => by subst z; revert c11; decide), if_neg (fun z => by subst z; revert c11; decide)])
  · subst c11
    refine xX6_readSign_112 ?_
    refine xX6_readSign_113 ?_
    refine xX6_readSign_114 (hX.1 _ _ rfl) ?_
    refine xX6_readSign_117 ?_
    refine xX6_readSign_125 rfl rfl ?_
    refine hQ _ ((RAf.u (by omega)).tr (RAf.u (by omega))) ((up_ne (by omega)).trans ((up_ne (by omega)).trans hb)) ((up_ne (by omega)).trans (up_same _ _ _ _)) ?_
    rw [up_same]
    first
      | rfl
      | (unfold sgX; rw [if_neg (fun z => by subst z; revert c11; decide), if_neg (fun z => by subst z; revert c11; decide), if_neg (fun z => by subst z; revert c11; decide), if_neg (fun z => by subst z; revert c11; decide), if_neg (fun z => by subst z; revert c11; decide), if_neg (fun z => by subst z; revert c11; decide), if_neg (fun z => by subst z; revert c11; decide), if_neg (fun z => by subst z; revert c11; decide)])
  · subst c11
    refine xX6_readSign_112 ?_
    refine xX6_readSign_113 ?_
    refine xX6_readSign_114 (hX.1 _ _ rfl) ?_
    refine xX6_readSign_117 ?_
    refine xX6_readSign_125 rfl rfl ?_
    refine hQ _ ((RAf.u (by omega)).tr (RAf.u (by omega))) ((up_ne (by omega)).trans ((up_ne (by omega)).trans hb)) ((up_ne (by omega)).trans (up_same _ _ _ _)) ?_
    rw [up_same]
    first
      | rfl
      | (unfold sgX; rw [if_neg (fun z => by subst z; revert c11; decide), if_neg (fun z => by subst z; revert c11; decide), if_neg (fun z => by subst z; revert c11; decide), if_neg (fun z => by subst z; revert c11; decide), if_neg (fun z => by subst z; revert c11; decide), if_neg (fun z => by subst z; revert c11; decide), if_neg (fun z => by subst z; revert c11; decide), if_neg (fun z => by subst z; revert c11; decide)])
  · subst c11
    refine xX6_readSign_112 ?_
    refine xX6_readSign_113 ?_
    refine xX6_readSign_114 (hX.1 _ _ rfl) ?_
    refine xX6_readSign_117 ?_
    refine xX6_readSign_125 rfl rfl ?_
    refine hQ _ ((RAf.u (by omega)).tr (RAf.u (by omega))) ((up_ne (by omega)).trans ((up_ne (by omega)).trans hb)) ((up_ne (by omega)).trans (up_same _ _ _ _)) ?_
    rw [up_same]
    first
      | rfl
      | (unfold sgX; rw [if_neg (fun z => by subst z; revert c11; decide), if_neg (fun z => by subst z; revert c11; decide), if_neg (fun z => by subst z; revert c11; decide), if_neg (fun z => by subst z; revert c11; decide), if_neg (fun z => by subst z; revert c11; decide), if_neg (fun z => by subst z; revert c11; decide), if_neg (fun z => by subst z; revert c11; decide), if_neg (fun z => by subst z; revert c11; decide)])
  · subst c11
    refine xX6_readSign_120 ?_
    refine xX6_readSign_121 ?_
    refine xX6_readSign_122 (hX.1 _ _ rfl) ?_
    refine xX6_readSign_125 rfl rfl ?_
    refine hQ _ ((RAf.u (by omega)).tr (RAf.u (by omega))) ((up_ne (by omega)).trans ((up_ne (by omega)).trans hb)) ((up_ne (by omega)).trans (up_same _ _ _ _)) ?_
    rw [up_same]
    first
      | rfl
      | (unfold sgX; rw [if_neg (fun z => by subst z; revert c11; decide), if_neg (fun z => by subst z; revert c11; decide), if_neg (fun z => by subst z; revert c11; decide), if_neg (fun z => by subst z; revert c11; decide), if_neg (fun z => by subst z; revert c11; decide), if_neg (fun z => by subst z; revert c11; decide), if_neg (fun z => by subst z; revert c11; decide), if_neg (fun z => by subst z; revert c11; decide)])
  · subst c11
    refine xX6_readSign_112 ?_
    refine xX6_readSign_113 ?_
    refine xX6_readSign_114 (hX.1 _ _ rfl) ?_
    refine xX6_readSign_117 ?_
    refine xX6_readSign_125 rfl rfl ?_
    refine hQ _ ((RAf.u (by omega)).tr (RAf.u (by omega))) ((up_ne (by omega)).trans ((up_ne (by omega)).trans hb)) ((up_ne (by omega)).trans (up_same _ _ _ _)) ?_
    rw [up_same]
    first
      | rfl
      | (unfold sgX; rw [if_neg (fun z => by subst z; revert c11; decide), if_neg (fun z => by subst z; revert c11; decide), if_neg (fun z => by subst z; revert c11; decide), if_neg (fun z => by subst z; revert c11; decide), if_neg (fun z => by subst z; revert c11; decide), if_neg (fun z => by subst z; revert c11; decide), if_neg (fun z => by subst z; revert c11; decide), if_neg (fun z => by subst z; revert c11; decide)])
  · subst c11
    refine xX6_readSign_120 ?_
    refine xX6_readSign_121 ?_
    refine xX6_readSign_122 (hX.1 _ _ rfl) ?_
    refine xX6_readSign_125 rfl rfl ?_
    refine hQ _ ((RAf.u (by omega)).tr (RAf.u (by omega))) ((up_ne (by omega)).trans ((up_ne (by omega)).trans hb)) ((up_ne (by omega)).trans (up_same _ _ _ _)) ?_
    rw [up_same]
    first
      | rfl
      | (unfold sgX; rw [if_neg (fun z => by subst z; revert c11; decide), if_neg (fun z => by subst z; revert c11; decide), if_neg (fun z => by subst z; revert c11; decide), if_neg (fun z => by subst z; revert c11; decide), if_neg (fun z => by subst z; revert c11; decide), if_neg (fun z => by subst z; revert c11; decide), if_neg (fun z => by subst z; revert c11; decide), if_neg (fun z => by subst z; revert c11; decide)])
  · subst c11
    refine xX6_readSign_120 ?_
    refine xX6_readSign_121 ?_
    refine xX6_readSign_122 (hX.1 _ _ rfl) ?_
    refine xX6_readSign_125 rfl rfl ?_
    refine hQ _ ((RAf.u (by omega)).tr (RAf.u (by omega))) ((up_ne (by omega)).trans ((up_ne (by omega)).trans hb)) ((up_ne (by omega)).trans (up_same _ _ _ _)) ?_
    rw [up_same]
    first
      | rfl
      | (unfold sgX; rw [if_neg (fun z => by subst z; revert c11; decide), if_neg (fun z => by subst z; revert c11; decide), if_neg (fun z => by subst z; revert c11; decide), if_neg (fun z => by subst z; revert c11; decide), if_neg (fun z => by subst z; revert c11; decide), if_neg (fun z => by subst z; revert c11; decide), if_neg (fun z => by subst z; revert c11; decide), if_neg (fun z => by subst z; revert c11; decide)])
  · subst c11
    refine xX6_readSign_120 ?_
    refine xX6_readSign_121 ?_
    refine xX6_readSign_122 (hX.1 _ _ rfl) ?_
    refine xX6_readSign_125 rfl rfl ?_
    refine hQ _ ((RAf.u (by omega)).tr (RAf.u (by omega))) ((up_ne (by omega)).trans ((up_ne (by omega)).trans hb)) ((up_ne (by omega)).trans (up_same _ _ _ _)) ?_
    rw [up_same]
    first
      | rfl
      | (unfold sgX; rw [if_neg (fun z => by subst z; revert c11; decide), if_neg (fun z => by subst z; revert c11; decide), if_neg (fun z => by subst z; revert c11; decide), if_neg (fun z => by subst z; revert c11; decide), if_neg (fun z => by subst z; revert c11; decide), if_neg (fun z => by subst z; revert c11; decide), if_neg (fun z => by subst z; revert c11; decide), if_neg (fun z => by subst z; revert c11; decide)])
  · subst c11
    refine xX6_readSign_120 ?_
    refine xX6_readSign_121 ?_
    refine xX6_readSign_122 (hX.1 _ _ rfl) ?_
    refine xX6_readSign_125 rfl rfl ?_
    refine hQ _ ((RAf.u (by omega)).tr (RAf.u (by omega))) ((up_ne (by omega)).trans ((up_ne (by omega)).trans hb)) ((up_ne (by omega)).trans (up_same _ _ _ _)) ?_
    rw [up_same]
    first
      | rfl
      | (unfold sgX; rw [if_neg (fun z => by subst z; revert c11; decide), if_neg (fun z => by subst z; revert c11; decide), if_neg (fun z => by subst z; revert c11; decide), if_neg (fun z => by subst z; revert c11; decide), if_neg (fun z => by subst z; revert c11; decide), if_neg (fun z => by subst z; revert c11; decide), if_neg (fun z => by subst z; revert c11; decide), if_neg (fun z => by subst z; revert c11; decide)])
  · subst c11
    refine xX6_readSign_120 ?_
    refine xX6_readSign_121 ?_
    refine xX6_readSign_122 (hX.1 _ _ rfl) ?_
    refine xX6_readSign_125 rfl rfl ?_
    refine hQ _ ((RAf.u (by omega)).tr (RAf.u (by omega))) ((up_ne (by omega)).trans ((up_ne (by omega)).trans hb)) ((up_ne (by omega)).trans (up_same _ _ _ _)) ?_
    rw [up_same]
    first
      | rfl
      | (unfold sgX; rw [if_neg (fun z => by subst z; revert c11; decide), if_neg (fun z => by subst z; revert c11; decide), if_neg (fun z => by subst z; revert c11; decide), if_neg (fun z => by subst z; revert c11; decide), if_neg (fun z => by subst z; revert c11; decide), if_neg (fun z => by subst z; revert c11; decide), if_neg (fun z => by subst z; revert c11; decide), if_neg (fun z => by subst z; revert c11; decide)])
  · subst c11
    refine xX6_readSign_120 ?_
    refine xX6_readSign_121 ?_
    refine xX6_readSign_122 (hX.1 _ _ rfl) ?_
    refine xX6_readSign_125 rfl rfl ?_
    refine hQ _ ((RAf.u (by omega)).tr (RAf.u (by omega))) ((up_ne (by omega)).trans ((up_ne (by omega)).trans hb)) ((up_ne (by omega)).trans (up_same _ _ _ _)) ?_
    rw [up_same]
    first
      | rfl
      | (unfold sgX; rw [if_neg (fun z => by subst z; revert c11; decide), if_neg (fun z => by subst z; revert c11; decide), if_neg (fun z => by subst z; revert c11; decide), if_neg (fun z => by subst z; revert c11; decide), if_neg (fun z => by subst z; revert c11; decide), if_neg (fun z => by subst z; revert c11; decide), if_neg (fun z => by subst z; revert c11; decide), if_neg (fun z => by subst z; revert c11; decide)])
  · subst c11
    refine xX6_readSign_120 ?_
    refine xX6_readSign_121 ?_
    refine xX6_readSign_122 (hX.1 _ _ rfl) ?_
    refine xX6_readSign_125 rfl rfl ?_
    refine hQ _ ((RAf.u (by omega)).tr (RAf.u (by omega))) ((up_ne (by omega)).trans ((up_ne (by omega)).trans hb)) ((up_ne (by omega)).trans (up_same _ _ _ _)) ?_
    rw [up_same]
    first
      | rfl
      | (unfold sgX; rw [if_neg (fun z => by subst z; revert c11; decide), if_neg (fun z => by subst z; revert c11; decide), if_neg (fun z => by subst z; revert c11; decide), if_neg (fun z => by subst z; revert c11; decide), if_neg (fun z => by subst z; revert c11; decide), if_neg (fun z => by subst z; revert c11; decide), if_neg (fun z => by subst z; revert c11; decide), if_neg (fun z => by subst z; revert c11; decide)])
  · subst c11
    refine xX6_readSign_120 ?_
    refine xX6_readSign_121 ?_
    refine xX6_readSign_122 (hX.1 _ _ rfl) ?_
    refine xX6_readSign_125 rfl rfl ?_
    refine hQ _ ((RAf.u (by omega)).tr (RAf.u (by omega))) ((up_ne (by omega)).trans ((up_ne (by omega)).trans hb)) ((up_ne (by omega)).trans (up_same _ _ _ _)) ?_
    rw [up_same]
    first
      | rfl
      | (unfold sgX; rw [if_neg (fun z => by subst z; revert c11; decide), if_neg (fun z => by subst z; revert c11; decide), if_neg (fun z => by subst z; revert c11; decide), if_neg (fun z => by subst z; revert c11; decide), if_neg (fun z => by subst z; revert c11; decide), if_neg (fun z => by subst z; revert c11; decide), if_neg (fun z => by subst z; revert c11; decide), if_neg (fun z => by subst z; revert c11; decide)])
  · subst c11
    refine xX6_readSign_120 ?_
    refine xX6_readSign_121 ?_
    refine xX6_readSign_122 (hX.1 _ _ rfl) ?_
    refine xX6_readSign_125 rfl rfl ?_
    refine hQ _ ((RAf.u (by omega)).tr (RAf.u (by omega))) ((up_ne (by omega)).trans ((up_ne (by omega)).trans hb)) ((up_ne (by omega)).trans (up_same _ _ _ _)) ?_
    rw [up_same]
    first
      | rfl
      | (unfold sgX; rw [if_neg (fun z => by subst z; revert c11; decide), if_neg (fun z => by subst z; revert c11; decide), if_neg (fun z => by subst z; revert c11; decide), if_neg (fun z => by subst z; revert c11; decide), if_neg (fun z => by subst z; revert c11; decide), if_neg (fun z => by subst z; revert c11; decide), if_neg (fun z => by subst z; revert c11; decide), if_neg (fun z => by subst z; revert c11; decide)])
  · subst c11
    refine xX6_readSign_120 ?_
    refine xX6_readSign_121 ?_
    refine xX6_readSign_122 (hX.1 _ _ rfl) ?_
    refine xX6_readSign_125 rfl rfl ?_
    refine hQ _ ((RAf.u (by omega)).tr (RAf.u (by omega))) ((up_ne (by omega)).trans ((up_ne (by omega)).trans hb)) ((up_ne (by omega)).trans (up_same _ _ _ _)) ?_
    rw [up_same]
    first
      | rfl
      | (unfold sgX; rw [if_neg (fun z => by subst z; revert c11; decide), if_neg (fun z => by subst z; revert c11; decide), if_neg (fun z => by subst z; revert c11; decide), if_neg (fun z => by subst z; revert c11; decide), if_neg (fun z => by subst z; revert c11; decide), if_neg (fun z => by subst z; revert c11; decide), if_neg (fun z => by subst z; revert c11; decide), if_neg (fun z => by subst z; revert c11; decide)])
  · subst c11
    refine xX6_readSign_120 ?_
    refine xX6_readSign_121 ?_
    refine xX6_readSign_122 (hX.1 _ _ rfl) ?_
    refine xX6_readSign_125 rfl rfl ?_
    refine hQ _ ((RAf.u (by omega)).tr (RAf.u (by omega))) ((up_ne (by omega)).trans ((up_ne (by omega)).trans hb)) ((up_ne (by omega)).trans (up_same _ _ _ _)) ?_
    rw [up_same]
    first
      | rfl
      | (unfold sgX; rw [if_neg (fun z => by subst z; revert c11; decide), if_neg (fun z => by subst z; revert c11; decide), if_neg (fun z => by subst z; revert c11; decide), if_neg (fun z => by subst z; revert c11; decide), if_neg (fun z => by subst z; revert c11; decide), if_neg (fun z => by subst z; revert c11; decide), if_neg (fun z => by subst z; revert c11; decide), if_neg (fun z => by subst z; revert c11; decide)])
  · subst c11
    refine xX6_readSign_120 ?_
    refine xX6_readSign_121 ?_
    refine xX6_readSign_122 (hX.1 _ _ rfl) ?_
    refine xX6_readSign_125 rfl rfl ?_
    refine hQ _ ((RAf.u (by omega)).tr (RAf.u (by omega))) ((up_ne (by omega)).trans ((up_ne (by omega)).trans hb)) ((up_ne (by omega)).trans (up_same _ _ _ _)) ?_
    rw [up_same]
    first
      | rfl
      | (unfold sgX; rw [if_neg (fun z => by subst z; revert c11; decide), if_neg (fun z => by subst z; revert c11; decide), if_neg (fun z => by subst z; revert c11; decide), if_neg (fun z => by subst z; revert c11; decide), if_neg (fun z => by subst z; revert c11; decide), if_neg (fun z => by subst z; revert c11; decide), if_neg (fun z => by subst z; revert c11; decide), if_neg (fun z => by subst z; revert c11; decide)])
  · subst c11
    refine xX6_readSign_120 ?_
    refine xX6_readSign_121 ?_
    refine xX6_readSign_122 (hX.1 _ _ rfl) ?_
    refine xX6_readSign_125 rfl rfl ?_
    refine hQ _ ((RAf.u (by omega)).tr (RAf.u (by omega))) ((up_ne (by omega)).trans ((up_ne (by omega)).trans hb)) ((up_ne (by omega)).trans (up_same _ _ _ _)) ?_
    rw [up_same]
    first
      | rfl
      | (unfold sgX; rw [if_neg (fun z => by subst z; revert c11; decide), if_neg (fun z => by subst z; revert c11; decide), if_neg (fun z => by subst z; revert c11; decide), if_neg (fun z => by subst z; revert c11; decide), if_neg (fun z => by subst z; revert c11; decide), if_neg (fun z => by subst z; revert c11; decide), if_neg (fun z => by subst z; revert c11; decide), if_neg (fun z => by subst z; revert c11; decide)])
  · subst c11
    refine xX6_readSign_112 ?_
    refine xX6_readSign_113 ?_
    refine xX6_readSign_114 (hX.1 _ _ rfl) ?_
    refine xX6_readSign_117 ?_
    refine xX6_readSign_125 rfl rfl ?_
    refine hQ _ ((RAf.u (by omega)).tr (RAf.u (by omega))) ((up_ne (by omega)).trans ((up_ne (by omega)).trans hb)) ((up_ne (by omega)).trans (up_same _ _ _ _)) ?_
    rw [up_same]
    first
      | rfl
      | (unfold sgX; rw [if_neg (fun z => by subst z; revert c11; decide), if_neg (fun z => by subst z; revert c11; decide), if_neg (fun z => by subst z; revert c11; decide), if_neg (fun z => by subst z; revert c11; decide), if_neg (fun z => by subst z; revert c11; decide), if_neg (fun z => by subst z; revert c11; decide), if_neg (fun z => by subst z; revert c11; decide), if_neg (fun z => by subst z; revert c11; decide)])
  · subst c11
    refine xX6_readSign_112 ?_
    refine xX6_readSign_113 ?_
    refine xX6_readSign_114 (hX.1 _ _ rfl) ?_
    refine xX6_readSign_117 ?_
    refine xX6_readSign_125 rfl rfl ?_
    refine hQ _ ((RAf.u (by omega)).tr (RAf.u (by omega))) ((up_ne (by omega)).trans ((up_ne (by omega)).trans hb)) ((up_ne (by omega)).trans (up_same _ _ _ _)) ?_
    rw [up_same]
    first
      | rfl
      | (unfold sgX; rw [if_neg (fun z => by subst z; revert c11; decide), if_neg (fun z => by subst z; revert c11; decide), if_neg (fun z => by subst z; revert c11; decide), if_neg (fun z => by subst z; revert c11; decide), if_neg (fun z => by subst z; revert c11; decide), if_neg (fun z => by subst z; revert c11; decide), if_neg (fun z => by subst z; revert c11; decide), if_neg (fun z => by subst z; revert c11; decide)])
  · subst c11
    refine xX6_readSign_112 ?_
    refine xX6_readSign_113 ?_
    refine xX6_readSign_114 (hX.1 _ _ rfl) ?_
    refine xX6_readSign_117 ?_
    refine xX6_readSign_125 rfl rfl ?_
    refine hQ _ ((RAf.u (by omega)).tr (RAf.u (by omega))) ((up_ne (by omega)).trans ((up_ne (by omega)).trans hb)) ((up_ne (by omega)).trans (up_same _ _ _ _)) ?_
    rw [up_same]
    first
      | rfl
      | (unfold sgX; rw [if_neg (fun z => by subst z; revert c11; decide), if_neg (fun z => by subst z; revert c11; decide), if_neg (fun z => by subst z; revert c11; decide), if_neg (fun z => by subst z; revert c11; decide), if_neg (fun z => by subst z; revert c11; decide), if_neg (fun z => by subst z; revert c11; decide), if_neg (fun z => by subst z; revert c11; decide), if_neg (fun z => by subst z; revert c11; decide)])
  · refine xX6_readSign_120 ?_
    refine xX6_readSign_121 ?_
    refine xX6_readSign_122 (hX.1 _ _ rfl) ?_
    refine xX6_readSign_125 rfl rfl ?_
    refine hQ _ ((RAf.u (by omega)).tr (RAf.u (by omega))) ((up_ne (by omega)).trans ((up_ne (by omega)).trans hb)) ((up_ne (by omega)).trans (up_same _ _ _ _)) ?_
    rw [up_same]
    first
      | rfl
      | (unfold sgX; rw [if_neg (fun z => by subst z; revert c11; decide), if_neg (fun z => by subst z; revert c11; decide), if_neg (fun z => by subst z; revert c11; decide), if_neg (fun z => by subst z; revert c11; decide), if_neg (fun z => by subst z; revert c11; decide), if_neg (fun z => by subst z; revert c11; decide), if_neg (fun z => by subst z; revert c11; decide), if_neg (fun z => by subst z; revert c11; decide)])
