theorem s_X11_count {d : Nat} {sc : Nat × (Nat → Int32)} {T : List (Nat × Nat)} {rf : Nat → Nat → Option Nat} {g : Nat → Nat → Int32} {nc tc t : Nat} {o : OV} {lws : Nat → Nat → List Int32} {w tl : Int32} {F : Int32 → AH → Prop} (hO : OB T rf g 1 o nc tc lws t) (htx : g 0 7 = nI tc) (htl : g 35 0 = tl) (hQ : F (countP o nc tc tl w) (T, rf, g)) : Mok d 0 0 sc kX11_count [.ref 0, .int w] (T, rf, g) (Qi F) := by
  obtain ⟨hX, -, hS, hE, hV, hlw, htc⟩ := id hO
  have hn8 : nc ≤ 8 := hV.2.1
  have hcn : g 1 5 = nI nc := hE.1.1.trans hV.1
  refine Mok.ofWp (L := [some (.ref 0), some (.int w)]) rfl rfl rfl ?_
  refine xX11_count_0 ?_
  refine xX11_count_1 (fun c1 => ?_) (fun c1 => ?_) (fun c1 => ?_) (fun c1 => ?_) (fun c1 => ?_) (fun c1 => ?_) (fun c1 => ?_) (fun c1 => ?_)
  · refine xX11_count_44 ?_
    refine xX11_count_45 (hX.1 _ _ rfl) (hX.2 _ _ _ rfl) ?_
    refine xX11_count_48 (hX.1 _ _ rfl) ?_
    refine xX11_count_51 rfl rfl ?_
    subst c1
    rw [show g 1 5 = nI nc from hcn]
    exact hQ
  · refine xX11_count_52 ?_
    refine xX11_count_53 (hX.1 _ _ rfl) (hX.2 _ _ _ rfl) ?_
    refine xX11_count_56 (hX.1 _ _ rfl) ?_
    refine xX11_count_59 rfl rfl ?_
    subst c1
    rw [show g 1 9 = o 0 9 from hE.1.2.2.1]
    exact hQ
  · refine xX11_count_60 ?_
    refine xX11_count_61 (hX.1 _ _ rfl) (hX.2 _ _ _ rfl) ?_
    refine xX11_count_64 (hX.1 _ _ rfl) ?_
    refine xX11_count_67 rfl rfl ?_
    subst c1
    rw [show g 1 10 = o 0 10 from hE.1.2.2.2.1]
    exact hQ
  · refine xX11_count_68 ?_
    refine xX11_count_69 (hX.1 _ _ rfl) (hX.2 _ _ _ rfl) ?_
    refine xX11_count_72 (hX.1 _ _ rfl) ?_
    refine xX11_count_75 rfl rfl ?_
    subst c1
    rw [show g 1 8 = o 0 8 from hE.1.2.1]
    exact hQ
  · refine xX11_count_76 ?_
    refine xX11_count_77 (hX.1 _ _ rfl) ?_
    refine xX11_count_80 rfl rfl ?_
    subst c1
    rw [show g 0 7 = nI tc from htx]
    exact hQ
  · refine xX11_count_81 ?_
    refine xX11_count_82 (hX.1 _ _ rfl) (hX.2 _ _ _ rfl) ?_
    refine xX11_count_85 (hX.1 _ _ rfl) ?_
    refine xX11_count_88 rfl rfl ?_
    subst c1
    rw [show g 1 11 = o 0 11 from hE.1.2.2.2.2]
    exact hQ
  · refine xX11_count_89 ?_
    refine xX11_count_90 (hX.1 _ _ rfl) (hX.2 _ _ _ rfl) ?_
    refine xX11_count_93 (hX.1 _ _ rfl) ?_
    refine xX11_count_96 rfl rfl ?_
    subst c1
    rw [show g 35 0 = tl from htl]
    exact hQ
  · refine xX11_count_97 ?_
    refine xX11_count_99 rfl rfl ?_
    rw [countP, if_neg (fun z => by subst z; revert c1; decide), if_neg (fun z => by subst z; revert c1; decide), if_neg (fun z => by subst z; revert c1; decide), if_neg (fun z => by subst z; revert c1; decide), if_neg (fun z => by subst z; revert c1; decide), if_neg (fun z => by subst z; revert c1; decide), if_neg (fun z => by subst z; revert c1; decide)] at hQ
    exact hQ
theorem s_X11_setHot {d : Nat} {sc : Nat × (Nat → Int32)} {T : List (Nat × Nat)} {rf : Nat → Nat → Option Nat} {g : Nat → Nat → Int32} {nc tc t : Nat} {o : OV} {lws : Nat → Nat → List Int32} {f v : Int32} {F : Int32 → AH → Prop} (hO : OB T rf g 1 o nc tc lws t) (hQ : ∀ g2, OEq (XO g2 1) (setO o 0 f v) nc → UF g g2 → F (setP o 0 f v) (T, rf, g2)) : Mok (d + 1) 0 0 sc kX11_setHot [.ref 0, .int f, .int v] (T, rf, g) (Qi F) := by
  obtain ⟨hX, -, hS, hE, hV, hlw, htc⟩ := id hO
  have hn8 : nc ≤ 8 := hV.2.1
  have hcn : g 1 5 = nI nc := hE.1.1.trans hV.1
  refine Mok.ofWp (L := [some (.ref 0), some (.int f), some (.int v), none]) rfl rfl rfl ?_
  refine xX11_setHot_0 ?_
  refine xX11_setHot_1 ?_
  refine xX11_setHot_2 ?_
  refine xX11_setHot_4 rfl rfl rfl (s_X11_within  (fun hw0 => ?_) (fun nw0 => ?_))
  · refine xX11_setHot_7_t (by decide) ?_
    refine xX11_setHot_13 ?_
    refine xX11_setHot_14 ?_
    refine xX11_setHot_15 ?_
    refine xX11_setHot_17 rfl rfl rfl (s_X11_within  (fun hw1 => ?_) (fun nw1 => ?_))
    · refine xX11_setHot_20_t (by decide) ?_
      refine xX11_setHot_26 ?_
      refine xX11_setHot_27 (hX.1 _ _ rfl) (hX.2 _ _ _ rfl) ?_
      refine xX11_setHot_30 (hX.1 _ _ rfl) (hX.2 _ _ _ rfl) ?_
      refine xX11_setHot_33 ?_
      refine xX11_setHot_34 (j := (nN f)) (hX.1 _ _ rfl) (inN hw0).1 (Nat.lt_succ_of_le (inN hw0).2) rfl ?_
      refine xX11_setHot_35 rfl ?_
      refine xX11_setHot_36 ?_
      refine xX11_setHot_37 (hX.1 _ _ rfl) (hX.2 _ _ _ rfl) ?_
      refine xX11_setHot_40 (hX.1 _ _ rfl) (hX.2 _ _ _ rfl) ?_
      refine xX11_setHot_43 ?_
      refine xX11_setHot_44 ?_
      refine xX11_setHot_45 (j := (nN f)) (hX.1 _ _ rfl) (inN hw0).1 (Nat.lt_succ_of_le (inN hw0).2) rfl ?_
      refine xX11_setHot_46 ?_
      refine xX11_setHot_47 rfl rfl ?_
      have q := hQ _ (by rw [setO, if_pos rfl, if_pos hw0, if_pos hw1]; exact (XO_up (b := 1) (r := 1)) ▸ hE.up) (UF.up (by omega))
      rw [setP, if_pos rfl, if_pos hw0, if_pos hw1, ← hE.2.1 (nN f) (Nat.lt_succ_of_le (inN hw0).2)] at q
      exact q
    · refine xX11_setHot_20_f (by decide) ?_
      refine xX11_setHot_23 ?_
      refine xX11_setHot_25 rfl rfl ?_
      have q := hQ g (by rw [setO, if_pos rfl, if_pos hw0, if_neg nw1]; exact hE) UF.rf
      rw [setP, if_pos rfl, if_pos hw0, if_neg nw1] at q
      exact q
  · refine xX11_setHot_7_f (by decide) ?_
    refine xX11_setHot_10 ?_
    refine xX11_setHot_12 rfl rfl ?_
    have q := hQ g (by rw [setO, if_pos rfl, if_neg nw0]; exact hE) UF.rf
    rw [setP, if_pos rfl, if_neg nw0] at q
    exact q
theorem s_X11_setTime {d : Nat} {sc : Nat × (Nat → Int32)} {T : List (Nat × Nat)} {rf : Nat → Nat → Option Nat} {g : Nat → Nat → Int32} {nc tc t : Nat} {o : OV} {lws : Nat → Nat → List Int32} {f v : Int32} {F : Int32 → AH → Prop} (hO : OB T rf g 1 o nc tc lws t) (hQ : ∀ g2, OEq (XO g2 1) (setO o 1 f v) nc → UF g g2 → F (setP o 1 f v) (T, rf, g2)) : Mok (d + 1) 0 0 sc kX11_setTime [.ref 0, .int v] (T, rf, g) (Qi F) := by
  obtain ⟨hX, -, hS, hE, hV, hlw, htc⟩ := id hO
  have hn8 : nc ≤ 8 := hV.2.1
  have hcn : g 1 5 = nI nc := hE.1.1.trans hV.1
  refine Mok.ofWp (L := [some (.ref 0), some (.int v), none]) rfl rfl rfl ?_
  refine xX11_setTime_0 ?_
  refine xX11_setTime_1 ?_
  refine xX11_setTime_2 ?_
  refine xX11_setTime_4 rfl rfl rfl (s_X11_within  (fun hw0 => ?_) (fun nw0 => ?_))
  · refine xX11_setTime_7_t (by decide) ?_
    refine xX11_setTime_13 ?_
    refine xX11_setTime_14 (hX.1 _ _ rfl) (hX.2 _ _ _ rfl) ?_
    refine xX11_setTime_17 (hX.1 _ _ rfl) ?_
    refine xX11_setTime_20 rfl ?_
    refine xX11_setTime_21 ?_
    refine xX11_setTime_22 (hX.1 _ _ rfl) (hX.2 _ _ _ rfl) ?_
    refine xX11_setTime_25 ?_
    refine xX11_setTime_26 (hX.1 _ _ rfl) ?_
    refine xX11_setTime_29 ?_
    refine xX11_setTime_30 rfl rfl ?_
    have q := hQ _ (by rw [setO, if_neg (by decide), if_pos rfl, if_pos hw0]; exact (XO_up (b := 1) (r := 0)) ▸ hE.up) (UF.up (by omega))
    rw [setP, if_neg (by decide), if_pos rfl, if_pos hw0, ← hE.1.2.2.1] at q
    exact q
  · refine xX11_setTime_7_f (by decide) ?_
    refine xX11_setTime_10 ?_
    refine xX11_setTime_12 rfl rfl ?_
    have q := hQ g (by rw [setO, if_neg (by decide), if_pos rfl, if_neg nw0]; exact hE) UF.rf
    rw [setP, if_neg (by decide), if_pos rfl, if_neg nw0] at q
    exact q
theorem s_X11_setLies {d : Nat} {sc : Nat × (Nat → Int32)} {T : List (Nat × Nat)} {rf : Nat → Nat → Option Nat} {g : Nat → Nat → Int32} {nc tc t : Nat} {o : OV} {lws : Nat → Nat → List Int32} {f v : Int32} {F : Int32 → AH → Prop} (hO : OB T rf g 1 o nc tc lws t) (hQ : ∀ g2, OEq (XO g2 1) (setO o 2 f v) nc → UF g g2 → F (setP o 2 f v) (T, rf, g2)) : Mok (d + 1) 0 0 sc kX11_setLies [.ref 0, .int v] (T, rf, g) (Qi F) := by
  obtain ⟨hX, -, hS, hE, hV, hlw, htc⟩ := id hO
  have hn8 : nc ≤ 8 := hV.2.1
  have hcn : g 1 5 = nI nc := hE.1.1.trans hV.1
  refine Mok.ofWp (L := [some (.ref 0), some (.int v), none]) rfl rfl rfl ?_
  refine xX11_setLies_0 ?_
  refine xX11_setLies_1 ?_
  refine xX11_setLies_2 ?_
  refine xX11_setLies_3 rfl rfl rfl (s_X11_within  (fun hw0 => ?_) (fun nw0 => ?_))
  · refine xX11_setLies_6_t (by decide) ?_
    refine xX11_setLies_12 ?_
    refine xX11_setLies_13 (hX.1 _ _ rfl) (hX.2 _ _ _ rfl) ?_
    refine xX11_setLies_16 (hX.1 _ _ rfl) ?_
    refine xX11_setLies_19 rfl ?_
    refine xX11_setLies_20 ?_
    refine xX11_setLies_21 (hX.1 _ _ rfl) (hX.2 _ _ _ rfl) ?_
    refine xX11_setLies_24 ?_
    refine xX11_setLies_25 (hX.1 _ _ rfl) ?_
    refine xX11_setLies_28 ?_
    refine xX11_setLies_29 rfl rfl ?_
    have q := hQ _ (by rw [setO, if_neg (by decide), if_neg (by decide), if_pos rfl, if_pos hw0]; exact (XO_up (b := 1) (r := 0)) ▸ hE.up) (UF.up (by omega))
    rw [setP, if_neg (by decide), if_neg (by decide), if_pos rfl, if_pos hw0, ← hE.1.2.2.2.1] at q
    exact q
  · refine xX11_setLies_6_f (by decide) ?_
    refine xX11_setLies_9 ?_
    refine xX11_setLies_11 rfl rfl ?_
    have q := hQ g (by rw [setO, if_neg (by decide), if_neg (by decide), if_pos rfl, if_neg nw0]; exact hE) UF.rf
    rw [setP, if_neg (by decide), if_neg (by decide), if_pos rfl, if_neg nw0] at q
    exact q
theorem s_X11_set {d : Nat} {sc : Nat × (Nat → Int32)} {T : List (Nat × Nat)} {rf : Nat → Nat → Option Nat} {g : Nat → Nat → Int32} {nc tc t : Nat} {o : OV} {lws : Nat → Nat → List Int32} {w f v : Int32} {F : Int32 → AH → Prop} (hO : OB T rf g 1 o nc tc lws t) (hQ : ∀ g2, OEq (XO g2 1) (setO o w f v) nc → UF g g2 → F (setP o w f v) (T, rf, g2)) : Mok (d + 2) 0 0 sc kX11_set [.ref 0, .int w, .int f, .int v] (T, rf, g) (Qi F) := by
  obtain ⟨hX, -, hS, hE, hV, hlw, htc⟩ := id hO
  have hn8 : nc ≤ 8 := hV.2.1
  have hcn : g 1 5 = nI nc := hE.1.1.trans hV.1
  refine Mok.ofWp (L := [some (.ref 0), some (.int w), some (.int f), some (.int v)]) rfl rfl rfl ?_
  refine xX11_set_0 ?_
  refine xX11_set_1 (fun c1 => ?_) (fun c1 => ?_) (fun c1 => ?_) (fun c1 => ?_)
  · subst c1
    refine xX11_set_28 ?_
    refine xX11_set_29 ?_
    refine xX11_set_30 ?_
    refine xX11_set_31 (hX.1 _ _ rfl) rfl rfl rfl (s_X11_setHot hO (fun g0 he0 hu0 => ?_))
    refine xX11_set_34 rfl rfl ?_
    exact hQ _ he0 hu0
  · subst c1
    refine xX11_set_35 ?_
    refine xX11_set_36 ?_
    refine xX11_set_37 (hX.1 _ _ rfl) rfl rfl rfl (s_X11_setTime (f := f) hO (fun g1 he1 hu1 => ?_))
    refine xX11_set_40 rfl rfl ?_
    exact hQ _ he1 hu1
  · subst c1
    refine xX11_set_41 ?_
    refine xX11_set_42 ?_
    refine xX11_set_43 (hX.1 _ _ rfl) rfl rfl rfl (s_X11_setLies (f := f) hO (fun g2 he2 hu2 => ?_))
    refine xX11_set_46 rfl rfl ?_
    exact hQ _ he2 hu2
  · refine xX11_set_47 ?_
    refine xX11_set_49 rfl rfl ?_
    have n0 : w ≠ 0 := fun z => by subst z; revert c1; decide
    have n1 : w ≠ 1 := fun z => by subst z; revert c1; decide
    have n2 : w ≠ 2 := fun z => by subst z; revert c1; decide
    have q := hQ g (by rw [setO, if_neg n0, if_neg n1, if_neg n2]; exact hE) UF.rf
    rw [setP, if_neg n0, if_neg n1, if_neg n2] at q
    exact q
theorem s_X11_hot {d : Nat} {sc : Nat × (Nat → Int32)} {T : List (Nat × Nat)} {rf : Nat → Nat → Option Nat} {g : Nat → Nat → Int32} {nc tc t : Nat} {o : OV} {lws : Nat → Nat → List Int32} {p : Int32} {F : Int32 → AH → Prop} (hO : OB T rf g 1 o nc tc lws t) (hQ : F (hotP o p) (T, rf, g)) : Mok (d + 1) 0 0 sc kX11_hot [.ref 0, .int p] (T, rf, g) (Qi F) := by
  obtain ⟨hX, -, hS, hE, hV, hlw, htc⟩ := id hO
  have hn8 : nc ≤ 8 := hV.2.1
  have hcn : g 1 5 = nI nc := hE.1.1.trans hV.1
  refine Mok.ofWp (L := [some (.ref 0), some (.int p)]) rfl rfl rfl ?_
  refine xX11_hot_0 ?_
  refine xX11_hot_1 ?_
  refine xX11_hot_2 ?_
  refine xX11_hot_4 rfl rfl rfl (s_X11_within  (fun hw0 => ?_) (fun nw0 => ?_))
  · refine xX11_hot_7_f (by decide) ?_
    refine xX11_hot_10 ?_
    refine xX11_hot_11 (hX.1 _ _ rfl) (hX.2 _ _ _ rfl) ?_
    refine xX11_hot_14 (hX.1 _ _ rfl) (hX.2 _ _ _ rfl) ?_
    refine xX11_hot_17 ?_
    refine xX11_hot_18 (j := (nN p)) (hX.1 _ _ rfl) (inN hw0).1 (Nat.lt_succ_of_le (inN hw0).2) rfl ?_
    refine xX11_hot_19 ?_
    refine xX11_hot_24 rfl rfl ?_
    rw [hotP, if_pos hw0, ← hE.2.1 (nN p) (Nat.lt_succ_of_le (inN hw0).2)] at hQ
    exact hQ
  · refine xX11_hot_7_t (by decide) ?_
    refine xX11_hot_22 ?_
    refine xX11_hot_24 rfl rfl ?_
    rw [hotP, if_neg nw0] at hQ
    exact hQ
theorem s_X11_spot {d : Nat} {sc : Nat × (Nat → Int32)} {T : List (Nat × Nat)} {rf : Nat → Nat → Option Nat} {g : Nat → Nat → Int32} {p q : Int32} {F : Int32 → AH → Prop} (hQ : F (spotP p q) (T, rf, g)) : Mok (d + 1) 0 0 sc kX11_spot [.ref 0, .int p, .int q] (T, rf, g) (Qi F) := by
  refine Mok.ofWp (L := [some (.ref 0), some (.int p), some (.int q)]) rfl rfl rfl ?_
  refine xX11_spot_0 ?_
  refine xX11_spot_1 ?_
  refine xX11_spot_2 ?_
  refine xX11_spot_4 rfl rfl rfl (s_X11_within  (fun hw0 => ?_) (fun nw0 => ?_))
  · refine xX11_spot_7_f (by decide) ?_
    refine xX11_spot_10 ?_
    refine xX11_spot_11 ?_
    refine xX11_spot_12 ?_
    refine xX11_spot_13 rfl rfl rfl (s_X11_within  (fun hw1 => ?_) (fun nw1 => ?_))
    · refine xX11_spot_16_t (by decide) ?_
      refine xX11_spot_22 ?_
      refine xX11_spot_23 ?_
      refine xX11_spot_24 rfl rfl rfl (s_X11_spotUnder (inN hw0).1 (Nat.lt_succ_of_le (inN hw0).2) (inN hw1).1 (Nat.lt_succ_of_le (inN hw1).2) ?_)
      refine xX11_spot_27 rfl rfl ?_
      rw [spotP, if_pos hw0, if_pos hw1] at hQ
      exact hQ
    · refine xX11_spot_16_f (by decide) ?_
      refine xX11_spot_19 ?_
      refine xX11_spot_21 rfl rfl ?_
      rw [spotP, if_pos hw0, if_neg nw1] at hQ
      exact hQ
  · refine xX11_spot_7_t (by decide) ?_
    refine xX11_spot_19 ?_
    refine xX11_spot_21 rfl rfl ?_
    rw [spotP, if_neg nw0] at hQ
    exact hQ
theorem s_X11_force {d : Nat} {sc : Nat × (Nat → Int32)} {T : List (Nat × Nat)} {rf : Nat → Nat → Option Nat} {g : Nat → Nat → Int32} {nc tc t : Nat} {o : OV} {lws : Nat → Nat → List Int32} {v : Int32} {F : Int32 → AH → Prop} (hO : OB T rf g 1 o nc tc lws t) (htx : g 0 7 = nI tc) (hQ : ∀ g2, OEq (XO g2 1) (forceO o tc v) nc → UF g g2 → F (forceP o tc v) (T, rf, g2)) : Mok (d + 1) 0 0 sc kX11_force [.ref 0, .int v] (T, rf, g) (Qi F) := by
  obtain ⟨hX, -, hS, hE, hV, hlw, htc⟩ := id hO
  have hn8 : nc ≤ 8 := hV.2.1
  have hcn : g 1 5 = nI nc := hE.1.1.trans hV.1
  refine Mok.ofWp (L := [some (.ref 0), some (.int v), none]) rfl rfl rfl ?_
  refine xX11_force_0 ?_
  refine xX11_force_1 ?_
  refine xX11_force_2 ?_
  refine xX11_force_3 (hX.1 _ _ rfl) ?_
  rw [htx]
  refine xX11_force_6 ?_
  refine xX11_force_7 ?_
  refine xX11_force_8 rfl rfl rfl (s_X11_within  (fun hw0 => ?_) (fun nw0 => ?_))
  · refine xX11_force_11_t (by decide) ?_
    refine xX11_force_17 ?_
    refine xX11_force_18 (hX.1 _ _ rfl) (hX.2 _ _ _ rfl) ?_
    refine xX11_force_21 (hX.1 _ _ rfl) ?_
    refine xX11_force_24 rfl ?_
    refine xX11_force_25 ?_
    refine xX11_force_26 (hX.1 _ _ rfl) (hX.2 _ _ _ rfl) ?_
    refine xX11_force_29 ?_
    refine xX11_force_30 (hX.1 _ _ rfl) ?_
    refine xX11_force_33 ?_
    refine xX11_force_34 rfl rfl ?_
    have q := hQ _ (by rw [forceO, if_pos hw0]; exact (XO_up (b := 1) (r := 0)) ▸ hE.up) (UF.up (by omega))
    rw [forceP, if_pos hw0, ← hE.1.2.2.2.2] at q
    exact q
  · refine xX11_force_11_f (by decide) ?_
    refine xX11_force_14 ?_
    refine xX11_force_16 rfl rfl ?_
    have q := hQ g (by rw [forceO, if_neg nw0]; exact hE) UF.rf
    rw [forceP, if_neg nw0] at q
    exact q
