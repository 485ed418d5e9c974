theorem opn_t {o : OV} {v : Int32} (m : Nat) : opn (up o 0 9 v) m = opn o m := by
  induction m with
  | zero => show (nN (up o 0 9 v 0 10), none, 0) = (nN (o 0 10), none, 0); rw [up_ne (by omega)]
  | succ m ih =>
    simp only [opn, ih, up_ne (g := o) (a := 0) (k := 9) (v := v) (a' := 0) (k' := 8) (by omega), up_row (g := o) (a := 0) (k := 9) (v := v) (a' := 6) (by omega), up_row (g := o) (a := 0) (k := 9) (v := v) (a' := 7) (by omega)]
theorem brS_t {o : OV} {ev : EV} {v : Int32} (c m : Nat) : brS (up o 0 9 v) ev c m = brS o ev c m := by
  have e1 : up o 0 9 v 1 = o 1 := up_row (by omega)
  have e2 : up o 0 9 v 2 = o 2 := up_row (by omega)
  have e3 : up o 0 9 v 3 = o 3 := up_row (by omega)
  have e5 : up o 0 9 v 5 = o 5 := up_row (by omega)
  have e8 : up o 0 9 v 0 8 = o 0 8 := up_ne (by omega)
  have hh : ∀ m l last b, heat1 (up o 0 9 v) ev c m l last b = heat1 o ev c m l last b := by
    intro m l last b
    cases last <;> simp only [heat1, e1, e3, e5, e8]
  induction m with
  | zero => rfl
  | succ m ih =>
    show bk1 _ ev c m _ _ _ = bk1 o ev c m _ _ _
    rw [ih, opn_t]
    unfold bk1
    rw [hh, e2, e3, e8]
theorem badAll_t {o : OV} {ev : EV} {v : Int32} {br br' : Nat → Int32} (h : ∀ c, br c = br' c) : ∀ n, badAll (up o 0 9 v) ev br n = badAll o ev br' n := by
  intro n
  induction n with
  | zero => rfl
  | succ n ih =>
    show badAll _ ev br n + badX _ ev n (br n) = badAll o ev br' n + badX o ev n (br' n)
    rw [ih, h n]
    unfold badX
    rw [up_row (g := o) (a := 0) (k := 9) (v := v) (a' := 2) (by omega), up_row (g := o) (a := 0) (k := 9) (v := v) (a' := 3) (by omega), up_row (g := o) (a := 0) (k := 9) (v := v) (a' := 4) (by omega), up_ne (g := o) (a := 0) (k := 9) (v := v) (a' := 0) (k' := 8) (by omega)]
theorem badP_t {o : OV} {ev : EV} {nc m : Nat} (hm : m < 100) : badP (up o 0 9 (nI m)) ev nc = badAll o ev (fun c => brS o ev c m) nc := by
  unfold badP
  refine badAll_t (fun c => ?_) nc
  unfold endB
  rw [up_same, nN_nI (by omega)]
  exact brS_t c m
theorem lp_X12_until {d : Nat} {sc : Nat × (Nat → Int32)} {T : List (Nat × Nat)} {rf : Nat → Nat → Option Nat} {o : OV} {nc t : Nat} {cs : Nat → List Int32} {g0 : Nat → Nat → Int32} {F : Int32 → AH → Prop} {w x2 : Int32} {S : Option (Int32 × Int32)} (hC0 : MC T rf g0 o nc t cs) (hx2 : x2 = o 0 9) (hS0 : S ≠ none) (hQ : ∀ g2, OEq (MOv g2) o nc → MV g0 g2 → F (lgt S w) (T, rf, g2)) : ∀ (k j : Nat) (x3 x4 x5 : Int32) (g : Nat → Nat → Int32) (s : Option (Int32 × Int32)), (j + k = 40) → (x5 = nI (j + 1)) → (UEq (MOv g) 0 9 o nc) → (MV g0 g) → (WM 0 s x3 x4) → (wff (fun m => (nI m, badAll o (evL (lwM cs)) (fun c => brS o (evL (lwM cs)) c m) nc)) k (j + 1) s = S) → Wp (d + 7) 0 0 sc kX12_until (Qi F) 25 [some (.ref 53), some (.int w), some (.int x2), some (.int x3), some (.int x4), some (.int x5), none, none] [] (T, rf, g) 0 0 := by
  intro k
  induction k with
  | zero =>
    intro j x3 x4 x5 g s hj hx5 hU hf hW hS
    obtain ⟨hB, hP⟩ := id hC0
    obtain ⟨hM, hE, hV, hlw, ht6, hL⟩ := id hB
    have hn8 := hV.2.1
    have ht40 := hV.tN.2.1
    subst hx5
    refine xX12_until_25 ?_
    refine xX12_until_27 ?_
    refine xX12_until_29_t (nI_lt (a := 40) (by omega) (by omega)) ?_
    refine xX12_until_95 ?_
    refine xX12_until_96 ?_
    refine xX12_until_97 (hM.1 _ _ rfl) ?_
    refine xX12_until_100 ?_
    refine xX12_until_101 (fun cw => ?_) (fun cw => ?_)
    · refine xX12_until_108 ?_
      refine xX12_until_110 rfl rfl ?_
      have q := hQ _ (MO_f9.tr (hx2 ▸ hU.back)) (hf.tr (MV.uf (by omega)))
      have hS9 : s = S := hS
      subst hS9
      first
        | (rw [cw, WM_0 hW] at q; exact q)
        | (rw [WM_1 hW (Or.inl hS0) cw] at q; exact q)
    · refine xX12_until_104 ?_
      refine xX12_until_105 ?_
      refine xX12_until_110 rfl rfl ?_
      have q := hQ _ (MO_f9.tr (hx2 ▸ hU.back)) (hf.tr (MV.uf (by omega)))
      have hS9 : s = S := hS
      subst hS9
      first
        | (rw [cw, WM_0 hW] at q; exact q)
        | (rw [WM_1 hW (Or.inl hS0) cw] at q; exact q)
  | succ k ih =>
    intro j x3 x4 x5 g s hj hx5 hU hf hW hS
    obtain ⟨hB, hP⟩ := id hC0
    obtain ⟨hM, hE, hV, hlw, ht6, hL⟩ := id hB
    have hn8 := hV.2.1
    have ht40 := hV.tN.2.1
    subst hx5
    refine xX12_until_25 ?_
    refine xX12_until_27 ?_
    refine xX12_until_29_f (Int32.not_lt.mpr (nI_le (b := 40) (by omega) (by omega))) ?_
    refine xX12_until_32 ?_
    refine xX12_until_33 ?_
    refine xX12_until_35 (hM.1 _ _ rfl) ?_
    refine xX12_until_38 ?_
    refine xX12_until_39 (hM.1 _ _ rfl) rfl rfl rfl (s_X12_badNow (mcE hM (MO_f9.tr (hU _)) (OVk_tm (q := j + 1) (by omega) hV) (PI_up hP (by omega) (by omega)) (by rw [up_ne (by omega)]; exact hlw) ht6 ((hL.mv hf).mv (MV.uf (by omega)))) (fun g0 hm0 hb0 => ?_))
    refine xX12_until_42 rfl ?_
    refine xX12_until_44 ?_
    refine xX12_until_45 ?_
    refine xX12_until_46 (fun c1 => ?_) (fun c1 => ?_)
    · refine xX12_until_56 ?_
      refine xX12_until_57 ?_
      refine xX12_until_61 rfl ?_
      refine xX12_until_63 ?_
      refine xX12_until_65_f (by decide) ?_
      refine xX12_until_68 ?_
      refine xX12_until_70 ?_
      refine xX12_until_74 rfl ?_
      refine xX12_until_75 ?_
      refine xX12_until_77_f (by decide) ?_
      refine xX12_until_80 ?_
      refine xX12_until_82 ?_
      refine xX12_until_87 rfl ?_
      refine xX12_until_89 rfl rfl ?_
      refine xX12_until_92 ?_
      refine wp_kill_6 ?_
      refine wp_kill_7 ?_
      refine ih (j + 1) _ _ _ _ (wgh s ((fun m => (nI m, badAll o (evL (lwM cs)) (fun c => brS o (evL (lwM cs)) c m) nc)) (j + 1)).1 ((fun m => (nI m, badAll o (evL (lwM cs)) (fun c => brS o (evL (lwM cs)) c m) nc)) (j + 1)).2) (by omega) (nI_1 _) (by rw [hm0.mo]; exact UEq_put hU MO_f9) (hf.tr ((MV.uf (by omega)).tr hm0.mv)) ?_ hS
      rw [show ((fun m => (nI m, badAll o (evL (lwM cs)) (fun c => brS o (evL (lwM cs)) c m) nc)) (j + 1)).2 = badP (up o 0 9 (nI (j + 1))) (evL (lwM cs)) nc from (badP_t (by omega)).symm]
      first
        | exact WM_n hW c1 (nIm1 (a := j + 1) (by omega))
        | exact WM_f hW c1 (Int32.not_le.mp c2) (nIm1 (a := j + 1) (by omega))
        | exact WM_t hW c1 (Int32.not_lt.mpr c2)
    · refine xX12_until_49 ?_
      refine xX12_until_51 ?_
      refine xX12_until_53 (fun c2 => ?_) (fun c2 => ?_)
      · refine xX12_until_60 ?_
        refine xX12_until_61 rfl ?_
        refine xX12_until_63 ?_
        refine xX12_until_65_t (by decide) ?_
        refine xX12_until_73 ?_
        refine xX12_until_74 rfl ?_
        refine xX12_until_75 ?_
        refine xX12_until_77_t (by decide) ?_
        refine xX12_until_85 ?_
        refine xX12_until_87 rfl ?_
        refine xX12_until_89 rfl rfl ?_
        refine xX12_until_92 ?_
        refine wp_kill_6 ?_
        refine wp_kill_7 ?_
        refine ih (j + 1) _ _ _ _ (wgh s ((fun m => (nI m, badAll o (evL (lwM cs)) (fun c => brS o (evL (lwM cs)) c m) nc)) (j + 1)).1 ((fun m => (nI m, badAll o (evL (lwM cs)) (fun c => brS o (evL (lwM cs)) c m) nc)) (j + 1)).2) (by omega) (nI_1 _) (by rw [hm0.mo]; exact UEq_put hU MO_f9) (hf.tr ((MV.uf (by omega)).tr hm0.mv)) ?_ hS
        rw [show ((fun m => (nI m, badAll o (evL (lwM cs)) (fun c => brS o (evL (lwM cs)) c m) nc)) (j + 1)).2 = badP (up o 0 9 (nI (j + 1))) (evL (lwM cs)) nc from (badP_t (by omega)).symm]
        first
          | exact WM_n hW c1 (nIm1 (a := j + 1) (by omega))
          | exact WM_f hW c1 (Int32.not_le.mp c2) (nIm1 (a := j + 1) (by omega))
          | exact WM_t hW c1 (Int32.not_lt.mpr c2)
      · refine xX12_until_56 ?_
        refine xX12_until_57 ?_
        refine xX12_until_61 rfl ?_
        refine xX12_until_63 ?_
        refine xX12_until_65_f (by decide) ?_
        refine xX12_until_68 ?_
        refine xX12_until_70 ?_
        refine xX12_until_74 rfl ?_
        refine xX12_until_75 ?_
        refine xX12_until_77_f (by decide) ?_
        refine xX12_until_80 ?_
        refine xX12_until_82 ?_
        refine xX12_until_87 rfl ?_
        refine xX12_until_89 rfl rfl ?_
        refine xX12_until_92 ?_
        refine wp_kill_6 ?_
        refine wp_kill_7 ?_
        refine ih (j + 1) _ _ _ _ (wgh s ((fun m => (nI m, badAll o (evL (lwM cs)) (fun c => brS o (evL (lwM cs)) c m) nc)) (j + 1)).1 ((fun m => (nI m, badAll o (evL (lwM cs)) (fun c => brS o (evL (lwM cs)) c m) nc)) (j + 1)).2) (by omega) (nI_1 _) (by rw [hm0.mo]; exact UEq_put hU MO_f9) (hf.tr ((MV.uf (by omega)).tr hm0.mv)) ?_ hS
        rw [show ((fun m => (nI m, badAll o (evL (lwM cs)) (fun c => brS o (evL (lwM cs)) c m) nc)) (j + 1)).2 = badP (up o 0 9 (nI (j + 1))) (evL (lwM cs)) nc from (badP_t (by omega)).symm]
        first
          | exact WM_n hW c1 (nIm1 (a := j + 1) (by omega))
          | exact WM_f hW c1 (Int32.not_le.mp c2) (nIm1 (a := j + 1) (by omega))
          | exact WM_t hW c1 (Int32.not_lt.mpr c2)
theorem s_X12_until {d : Nat} {sc : Nat × (Nat → Int32)} {T : List (Nat × Nat)} {rf : Nat → Nat → Option Nat} {o : OV} {nc t : Nat} {cs : Nat → List Int32} {g : Nat → Nat → Int32} {w : Int32} {F : Int32 → AH → Prop} (hC : MC T rf g o nc t cs) (hQ : ∀ g2, OEq (MOv g2) (o) nc → MV g g2 → F (untilP o nc (evL (lwM cs)) w) (T, rf, g2)) : Mok (d + 7) 0 0 sc kX12_until [.ref 53, .int w] (T, rf, g) (Qi F) := by
  obtain ⟨hB, hP⟩ := id hC
  obtain ⟨hM, hE, hV, hlw, ht6, hL⟩ := id hB
  have hn8 := hV.2.1
  have e9 : g 53 1 = nI (nN (o 0 9)) := hE.1.2.2.1.trans hV.tN.1
  have ht40 := hV.tN.2.1
  have hcn0 : g 53 3 = nI nc := hE.1.1.trans hV.1
  refine Mok.ofWp (L := [some (.ref 53), some (.int w), none, none, none, none, none, none]) rfl rfl rfl ?_
  refine xX12_until_0 ?_
  refine xX12_until_1 ?_
  refine xX12_until_2 ?_
  refine xX12_until_3 rfl rfl rfl (s_X12_in  (fun hw0 => ?_) (fun nw0 => ?_))
  · refine xX12_until_6_t (by decide) ?_
    refine xX12_until_12 ?_
    refine xX12_until_13 (hM.1 _ _ rfl) ?_
    refine xX12_until_16 rfl ?_
    refine xX12_until_17 ?_
    refine xX12_until_18 rfl ?_
    refine xX12_until_19 ?_
    refine xX12_until_20 rfl ?_
    refine xX12_until_22 ?_
    refine xX12_until_23 rfl ?_
    refine lp_X12_until hC hE.1.2.2.1 (wff_some (fun m => (nI m, badAll o (evL (lwM cs)) (fun c => brS o (evL (lwM cs)) c m) nc)) 40 1 none (Or.inr (by omega))) (fun g2 h1 h2 => ?_) 40 0 _ _ _ _ none (by omega) rfl (UEq.of hE) MV.rf ⟨rfl, rfl⟩ rfl
    have q := hQ _ h1 h2
    rw [untilP, if_pos hw0] at q
    exact q
  · refine xX12_until_6_f (by decide) ?_
    refine xX12_until_9 ?_
    refine xX12_until_11 rfl rfl ?_
    have q := hQ _ (hC.mz (MZ.rf)).1.2.1 (MZ.rf).mv
    rw [untilP, if_neg nw0] at q
    exact q
theorem lp_X12_which {d : Nat} {sc : Nat × (Nat → Int32)} {T : List (Nat × Nat)} {rf : Nat → Nat → Option Nat} {o : OV} {nc t : Nat} {cs : Nat → List Int32} {g0 : Nat → Nat → Int32} {F : Int32 → AH → Prop} {w x2 : Int32} {S : Option (Int32 × Int32)} (hC0 : MC T rf g0 o nc t cs) (hx2 : x2 = o 0 10) (hS0 : S ≠ none) (hQ : ∀ g2, OEq (MOv g2) o nc → MV g0 g2 → F (lgt S w) (T, rf, g2)) : ∀ (k j : Nat) (x3 x4 x5 : Int32) (g : Nat → Nat → Int32) (s : Option (Int32 × Int32)), (j + k = 4) → (x5 = nI j) → (UEq (MOv g) 0 10 o nc) → (MV g0 g) → (WM 0 s x3 x4) → (wff (fun q => (nI q, badP (up o 0 10 (nI q)) (evL (lwM cs)) nc)) k (j) s = S) → Wp (d + 7) 0 0 sc kX12_which (Qi F) 25 [some (.ref 53), some (.int w), some (.int x2), some (.int x3), some (.int x4), some (.int x5), none, none] [] (T, rf, g) 0 0 := by
  intro k
  induction k with
  | zero =>
    intro j x3 x4 x5 g s hj hx5 hU hf hW hS
    obtain ⟨hB, hP⟩ := id hC0
    obtain ⟨hM, hE, hV, hlw, ht6, hL⟩ := id hB
    have hn8 := hV.2.1
    have ht40 := hV.tN.2.1
    subst hx5
    refine xX12_which_25 ?_
    refine xX12_which_27 ?_
    refine xX12_which_28_t (nI_le (a := 4) (by omega) (by omega)) ?_
    refine xX12_which_94 ?_
    refine xX12_which_95 ?_
    refine xX12_which_96 (hM.1 _ _ rfl) ?_
    refine xX12_which_99 ?_
    refine xX12_which_100 (fun cw => ?_) (fun cw => ?_)
    · refine xX12_which_107 ?_
      refine xX12_which_109 rfl rfl ?_
      have q := hQ _ (MO_f10.tr (hx2 ▸ hU.back)) (hf.tr (MV.uf (by omega)))
      have hS9 : s = S := hS
      subst hS9
      first
        | (rw [cw, WM_0 hW] at q; exact q)
        | (rw [WM_1 hW (Or.inl hS0) cw] at q; exact q)
    · refine xX12_which_103 ?_
      refine xX12_which_104 ?_
      refine xX12_which_109 rfl rfl ?_
      have q := hQ _ (MO_f10.tr (hx2 ▸ hU.back)) (hf.tr (MV.uf (by omega)))
      have hS9 : s = S := hS
      subst hS9
      first
        | (rw [cw, WM_0 hW] at q; exact q)
        | (rw [WM_1 hW (Or.inl hS0) cw] at q; exact q)
  | succ k ih =>
    intro j x3 x4 x5 g s hj hx5 hU hf hW hS
    obtain ⟨hB, hP⟩ := id hC0
    obtain ⟨hM, hE, hV, hlw, ht6, hL⟩ := id hB
    have hn8 := hV.2.1
    have ht40 := hV.tN.2.1
    subst hx5
    refine xX12_which_25 ?_
    refine xX12_which_27 ?_
    refine xX12_which_28_f (nI_ge (b := 4) (by omega) (by omega)) ?_
    refine xX12_which_31 ?_
    refine xX12_which_32 ?_
    refine xX12_which_34 (hM.1 _ _ rfl) ?_
    refine xX12_which_37 ?_
    refine xX12_which_38 (hM.1 _ _ rfl) rfl rfl rfl (s_X12_badNow (mcE hM (MO_f10.tr (hU _)) (OVk_li (q := j) (by omega) hV) (PI_up hP (by omega) (by omega)) (by rw [up_ne (by omega)]; exact hlw) ht6 ((hL.mv hf).mv (MV.uf (by omega)))) (fun g0 hm0 hb0 => ?_))
    refine xX12_which_41 rfl ?_
    refine xX12_which_43 ?_
    refine xX12_which_44 ?_
    refine xX12_which_45 (fun c1 => ?_) (fun c1 => ?_)
    · refine xX12_which_55 ?_
      refine xX12_which_56 ?_
      refine xX12_which_60 rfl ?_
      refine xX12_which_62 ?_
      refine xX12_which_64_f (by decide) ?_
      refine xX12_which_67 ?_
      refine xX12_which_69 ?_
      refine xX12_which_73 rfl ?_
      refine xX12_which_74 ?_
      refine xX12_which_76_f (by decide) ?_
      refine xX12_which_79 ?_
      refine xX12_which_81 ?_
      refine xX12_which_86 rfl ?_
      refine xX12_which_88 rfl rfl ?_
      refine xX12_which_91 ?_
      refine wp_kill_6 ?_
      refine wp_kill_7 ?_
      refine ih (j + 1) _ _ _ _ (wgh s ((fun q => (nI q, badP (up o 0 10 (nI q)) (evL (lwM cs)) nc)) (j)).1 ((fun q => (nI q, badP (up o 0 10 (nI q)) (evL (lwM cs)) nc)) (j)).2) (by omega) (nI_1 _) (by rw [hm0.mo]; exact UEq_put hU MO_f10) (hf.tr ((MV.uf (by omega)).tr hm0.mv)) ?_ hS
      first
        | exact WM_n hW c1 (nIm1 (a := j) (by omega))
        | exact WM_f hW c1 (Int32.not_le.mp c2) (nIm1 (a := j) (by omega))
        | exact WM_t hW c1 (Int32.not_lt.mpr c2)
    · refine xX12_which_48 ?_
      refine xX12_which_50 ?_
      refine xX12_which_52 (fun c2 => ?_) (fun c2 => ?_)
      · refine xX12_which_59 ?_
        refine xX12_which_60 rfl ?_
        refine xX12_which_62 ?_
        refine xX12_which_64_t (by decide) ?_
        refine xX12_which_72 ?_
        refine xX12_which_73 rfl ?_
        refine xX12_which_74 ?_
        refine xX12_which_76_t (by decide) ?_
        refine xX12_which_84 ?_
        refine xX12_which_86 rfl ?_
        refine xX12_which_88 rfl rfl ?_
        refine xX12_which_91 ?_
        refine wp_kill_6 ?_
        refine wp_kill_7 ?_
        refine ih (j + 1) _ _ _ _ (wgh s ((fun q => (nI q, badP (up o 0 10 (nI q)) (evL (lwM cs)) nc)) (j)).1 ((fun q => (nI q, badP (up o 0 10 (nI q)) (evL (lwM cs)) nc)) (j)).2) (by omega) (nI_1 _) (by rw [hm0.mo]; exact UEq_put hU MO_f10) (hf.tr ((MV.uf (by omega)).tr hm0.mv)) ?_ hS
        first
          | exact WM_n hW c1 (nIm1 (a := j) (by omega))
          | exact WM_f hW c1 (Int32.not_le.mp c2) (nIm1 (a := j) (by omega))
          | exact WM_t hW c1 (Int32.not_lt.mpr c2)
      · refine xX12_which_55 ?_
        refine xX12_which_56 ?_
        refine xX12_which_60 rfl ?_
        refine xX12_which_62 ?_
        refine xX12_which_64_f (by decide) ?_
        refine xX12_which_67 ?_
        refine xX12_which_69 ?_
        refine xX12_which_73 rfl ?_
        refine xX12_which_74 ?_
        refine xX12_which_76_f (by decide) ?_
        refine xX12_which_79 ?_
        refine xX12_which_81 ?_
        refine xX12_which_86 rfl ?_
        refine xX12_which_88 rfl rfl ?_
        refine xX12_which_91 ?_
        refine wp_kill_6 ?_
        refine wp_kill_7 ?_
        refine ih (j + 1) _ _ _ _ (wgh s ((fun q => (nI q, badP (up o 0 10 (nI q)) (evL (lwM cs)) nc)) (j)).1 ((fun q => (nI q, badP (up o 0 10 (nI q)) (evL (lwM cs)) nc)) (j)).2) (by omega) (nI_1 _) (by rw [hm0.mo]; exact UEq_put hU MO_f10) (hf.tr ((MV.uf (by omega)).tr hm0.mv)) ?_ hS
        first
          | exact WM_n hW c1 (nIm1 (a := j) (by omega))
          | exact WM_f hW c1 (Int32.not_le.mp c2) (nIm1 (a := j) (by omega))
          | exact WM_t hW c1 (Int32.not_lt.mpr c2)
theorem s_X12_which {d : Nat} {sc : Nat × (Nat → Int32)} {T : List (Nat × Nat)} {rf : Nat → Nat → Option Nat} {o : OV} {nc t : Nat} {cs : Nat → List Int32} {g : Nat → Nat → Int32} {w : Int32} {F : Int32 → AH → Prop} (hC : MC T rf g o nc t cs) (hQ : ∀ g2, OEq (MOv g2) (o) nc → MV g g2 → F (whichP o nc (evL (lwM cs)) w) (T, rf, g2)) : Mok (d + 7) 0 0 sc kX12_which [.ref 53, .int w] (T, rf, g) (Qi F) := by
  obtain ⟨hB, hP⟩ := id hC
  obtain ⟨hM, hE, hV, hlw, ht6, hL⟩ := id hB
  have hn8 := hV.2.1
  have e9 : g 53 1 = nI (nN (o 0 9)) := hE.1.2.2.1.trans hV.tN.1
  have ht40 := hV.tN.2.1
  have hcn0 : g 53 3 = nI nc := hE.1.1.trans hV.1
  refine Mok.ofWp (L := [some (.ref 53), some (.int w), none, none, none, none, none, none]) rfl rfl rfl ?_
  refine xX12_which_0 ?_
  refine xX12_which_1 ?_
  refine xX12_which_2 ?_
  refine xX12_which_3 rfl rfl rfl (s_X12_in  (fun hw0 => ?_) (fun nw0 => ?_))
  · refine xX12_which_6_t (by decide) ?_
    refine xX12_which_12 ?_
    refine xX12_which_13 (hM.1 _ _ rfl) ?_
    refine xX12_which_16 rfl ?_
    refine xX12_which_17 ?_
    refine xX12_which_18 rfl ?_
    refine xX12_which_19 ?_
    refine xX12_which_20 rfl ?_
    refine xX12_which_22 ?_
    refine xX12_which_23 rfl ?_
    refine lp_X12_which hC hE.1.2.2.2.1 (wff_some (fun q => (nI q, badP (up o 0 10 (nI q)) (evL (lwM cs)) nc)) 4 0 none (Or.inr (by omega))) (fun g2 h1 h2 => ?_) 4 0 _ _ _ _ none (by omega) rfl (UEq.of hE) MV.rf ⟨rfl, rfl⟩ rfl
    have q := hQ _ h1 h2
    rw [whichP, if_pos hw0] at q
    exact q
  · refine xX12_which_6_f (by decide) ?_
    refine xX12_which_9 ?_
    refine xX12_which_11 rfl rfl ?_
    have q := hQ _ (hC.mz (MZ.rf)).1.2.1 (MZ.rf).mv
    rw [whichP, if_neg nw0] at q
    exact q
theorem lp_X12_few {d : Nat} {sc : Nat × (Nat → Int32)} {T : List (Nat × Nat)} {rf : Nat → Nat → Option Nat} {o : OV} {nc t : Nat} {cs : Nat → List Int32} {g0 : Nat → Nat → Int32} {F : Int32 → AH → Prop} {far x2 : Int32} (hC0 : MC T rf g0 o nc t cs) (hx2 : x2 = o 0 8) (hQ : ∀ g2, OEq (MOv g2) o nc → MV g0 g2 → F (scan (fun n => apP (up o 0 8 (nI n)) (evL (lwM cs)) nc ≤ far) (nN (o 0 8) + 1) 0) (T, rf, g2)) : ∀ (k j : Nat) (x3 x4 : Int32) (g : Nat → Nat → Int32), (j + k = nN (o 0 8) + 1) → (x4 = nI k - 1) → (UEq (MOv g) 0 8 o nc) → (MV g0 g) → (x3 = scan (fun n => apP (up o 0 8 (nI n)) (evL (lwM cs)) nc ≤ far) j k) → Wp (d + 7) 0 0 sc kX12_few (Qi F) 24 [some (.ref 53), some (.int far), some (.int x2), some (.int x3), some (.int x4)] [] (T, rf, g) 0 0 := by
  intro k
  induction k with
  | zero =>
    intro j x3 x4 g hj hx4 hU hf hS
    obtain ⟨hB, hP⟩ := id hC0
    obtain ⟨hM, hE, hV, hlw, ht6, hL⟩ := id hB
    have hn8 := hV.2.1
    have ht40 := hV.tN.2.1
    have h6 := hV.no
    subst hx4
    refine xX12_few_24 ?_
    refine xX12_few_26_t (by decide) ?_
    refine xX12_few_56 ?_
    refine xX12_few_57 ?_
    refine xX12_few_58 (hM.1 _ _ rfl) ?_
    refine xX12_few_61 ?_
    refine xX12_few_62 rfl rfl ?_
    have e : j = nN (o 0 8) + 1 := by omega
    subst e
    have q := hQ _ (MO_f8.tr (hx2 ▸ hU.back)) (hf.tr (MV.uf (by omega)))
    rw [← hS] at q
    exact q
  | succ k ih =>
    intro j x3 x4 g hj hx4 hU hf hS
    obtain ⟨hB, hP⟩ := id hC0
    obtain ⟨hM, hE, hV, hlw, ht6, hL⟩ := id hB
    have hn8 := hV.2.1
    have ht40 := hV.tN.2.1
    have h6 := hV.no
    subst hx4
    refine xX12_few_24 ?_
    rw [show nI (k + 1) - 1 = nI k from nI_pred k]
    refine xX12_few_26_f (Int32.not_lt.mpr (nI_le (a := 0) (by omega) (by omega))) ?_
    refine xX12_few_29 ?_
    refine xX12_few_30 ?_
    refine xX12_few_32 (hM.1 _ _ rfl) ?_
    refine xX12_few_35 ?_
    refine xX12_few_36 (hM.1 _ _ rfl) rfl rfl rfl (s_X12_apartNow (mcE hM (MO_f8.tr (hU _)) (OVk_op (n := k) (by omega) hV) (PI_op hP (by omega) hV.no) (by rw [up_ne (by omega)]; exact hlw) ht6 ((hL.mv hf).mv (MV.uf (by omega)))) (fun g0 hm0 hb0 => ?_))
    refine xX12_few_39 ?_
    refine xX12_few_40 (fun c40 => ?_) (fun c40 => ?_)
    · have e : scan (fun n => apP (up o 0 8 (nI n)) (evL (lwM cs)) nc ≤ far) (j + 1) k = scan (fun n => apP (up o 0 8 (nI n)) (evL (lwM cs)) nc ≤ far) j (k + 1) := scan_no (p := (fun n => apP (up o 0 8 (nI n)) (evL (lwM cs)) nc ≤ far)) (Int32.not_le.mpr c40)
      refine xX12_few_48 ?_
      refine xX12_few_49 rfl ?_
      refine xX12_few_50 rfl rfl ?_
      refine xX12_few_53 ?_
      exact ih (j + 1) _ _ _ (by omega) (Int32.sub_eq_add_neg ..).symm (by rw [hm0.mo]; exact UEq_put hU MO_f8) (hf.tr ((MV.uf (by omega)).tr hm0.mv)) (by first | exact hS.trans e.symm | exact e.symm)
    · have e : scan (fun n => apP (up o 0 8 (nI n)) (evL (lwM cs)) nc ≤ far) (j + 1) k = nI k := scan_yes (p := (fun n => apP (up o 0 8 (nI n)) (evL (lwM cs)) nc ≤ far)) (Int32.not_lt.mp c40)
      refine xX12_few_43 ?_
      refine xX12_few_45 ?_
      refine xX12_few_49 rfl ?_
      refine xX12_few_50 rfl rfl ?_
      refine xX12_few_53 ?_
      exact ih (j + 1) _ _ _ (by omega) (Int32.sub_eq_add_neg ..).symm (by rw [hm0.mo]; exact UEq_put hU MO_f8) (hf.tr ((MV.uf (by omega)).tr hm0.mv)) (by first | exact hS.trans e.symm | exact e.symm)
theorem s_X12_few {d : Nat} {sc : Nat × (Nat → Int32)} {T : List (Nat × Nat)} {rf : Nat → Nat → Option Nat} {o : OV} {nc t : Nat} {cs : Nat → List Int32} {g : Nat → Nat → Int32} {far : Int32} {F : Int32 → AH → Prop} (hC : MC T rf g o nc t cs) (hQ : ∀ g2, OEq (MOv g2) (o) nc → MV g g2 → F (fewP o nc (evL (lwM cs)) far) (T, rf, g2)) : Mok (d + 7) 0 0 sc kX12_few [.ref 53, .int far] (T, rf, g) (Qi F) := by
  obtain ⟨hB, hP⟩ := id hC
  obtain ⟨hM, hE, hV, hlw, ht6, hL⟩ := id hB
  have hn8 := hV.2.1
  have e9 : g 53 1 = nI (nN (o 0 9)) := hE.1.2.2.1.trans hV.tN.1
  have ht40 := hV.tN.2.1
  have hcn0 : g 53 3 = nI nc := hE.1.1.trans hV.1
  have n8 := hV.nI8
  refine Mok.ofWp (L := [some (.ref 53), some (.int far), none, none, none]) rfl rfl rfl ?_
  refine xX12_few_0 ?_
  refine xX12_few_1 ?_
  refine xX12_few_2 ?_
  refine xX12_few_5 rfl rfl rfl (s_X12_in  (fun hw0 => ?_) (fun nw0 => ?_))
  · refine xX12_few_8_t (by decide) ?_
    refine xX12_few_14 ?_
    refine xX12_few_15 (hM.1 _ _ rfl) ?_
    refine xX12_few_18 rfl ?_
    refine xX12_few_19 ?_
    refine xX12_few_20 rfl ?_
    refine xX12_few_21 ?_
    refine xX12_few_22 rfl ?_
    refine lp_X12_few hC hE.1.2.1 (fun g2 h1 h2 => ?_) (nN (o 0 8) + 1) 0 _ _ _ (by omega) (by rw [nI_pred]; exact hE.1.2.1.trans n8) (UEq.of hE) MV.rf rfl
    have q := hQ _ h1 h2
    rw [fewP, if_pos hw0] at q
    exact q
  · refine xX12_few_8_f (by decide) ?_
    refine xX12_few_11 ?_
    refine xX12_few_13 rfl rfl ?_
    have q := hQ _ (hC.mz (MZ.rf)).1.2.1 (MZ.rf).mv
    rw [fewP, if_neg nw0] at q
    exact q
theorem s_X12_cost {d : Nat} {sc : Nat × (Nat → Int32)} {T : List (Nat × Nat)} {rf : Nat → Nat → Option Nat} {o : OV} {nc t : Nat} {cs : Nat → List Int32} {g : Nat → Nat → Int32} {F : Int32 → AH → Prop} (hC : MC T rf g o nc t cs) (hQ : ∀ g2, OEq (MOv g2) (o) nc → MV g g2 → F (costP o nc (evL (lwM cs))) (T, rf, g2)) : Mok (d + 7) 0 0 sc kX12_cost [.ref 53] (T, rf, g) (Qi F) := by
  obtain ⟨hB, hP⟩ := id hC
  obtain ⟨hM, hE, hV, hlw, ht6, hL⟩ := id hB
  have hn8 := hV.2.1
  have e9 : g 53 1 = nI (nN (o 0 9)) := hE.1.2.2.1.trans hV.tN.1
  have ht40 := hV.tN.2.1
  have hcn0 : g 53 3 = nI nc := hE.1.1.trans hV.1
  refine Mok.ofWp (L := [some (.ref 53), none, none, none]) rfl rfl rfl ?_
  refine xX12_cost_0 ?_
  refine xX12_cost_1 (hM.1 _ _ rfl) rfl rfl rfl (s_X12_badNow hC (fun g0 hm0 hb0 => ?_))
  refine xX12_cost_4 rfl ?_
  refine xX12_cost_5 ?_
  refine xX12_cost_6 (hM.1 _ _ rfl) ?_
  refine xX12_cost_9 rfl ?_
  refine xX12_cost_10 ?_
  refine xX12_cost_11 ?_
  refine xX12_cost_12 (hM.1 _ _ rfl) ?_
  refine xX12_cost_15 ?_
  have h1 := hC.mz hm0
  have e10 : MOv _ = MOv g := hm0.mo
  refine xX12_cost_16 (hM.1 _ _ rfl) rfl rfl rfl (s_X12_badNow (mcE hM (MO_f8.tr h1.1.2.1.up) (OVk_op (n := 0) (Nat.zero_le _) hV) (PI_op hP (Nat.zero_le _) hV.no) (by rw [up_ne (by omega)]; exact hlw) ht6 (h1.1.2.2.2.2.2.mv (MV.uf (by omega)))) (fun g1 hm1 hb1 => ?_))
  refine xX12_cost_19 rfl ?_
  refine xX12_cost_20 ?_
  refine xX12_cost_21 ?_
  refine xX12_cost_22 (hM.1 _ _ rfl) ?_
  refine xX12_cost_25 ?_
  refine xX12_cost_26 ?_
  refine xX12_cost_27 ?_
  refine xX12_cost_28 rfl rfl ?_
  have q := hQ _ (MO_f8.tr (show OEq (up (MOv g1) 0 8 (g0 53 10)) o nc from by rw [hm1.mo, show g0 53 10 = o 0 8 from h1.1.2.1.1.2.1]; exact (UEq_put (UEq.of h1.1.2.1) MO_f8).back)) ((hm0.mv.tr ((MV.uf (by omega)).tr hm1.mv)).tr (MV.uf (by omega)))
  exact q
