theorem s_X11_told {d : Nat} {sc : Nat × (Nat → Int32)} {T : List (Nat × Nat)} {rf : Nat → Nat → Option Nat} {g : Nat → Nat → Int32} {nc tc t : Nat} {o : OV} {lws : Nat → Nat → List Int32} {c w : Int32} {F : Int32 → AH → Prop} (hO : OB T rf g 1 o nc tc lws t) (hQ : F (toldP o nc c w) (T, rf, g)) : Mok (d + 3) 0 0 sc kX11_told [.ref 0, .int c, .int w] (T, rf, g) (Qi F) := by
  obtain ⟨hX, -, hS, hE, hV, hlw, htc⟩ := id hO
  have hn8 : nc ≤ 8 := hV.2.1
  have hcn : g 1 5 = nI nc := hE.1.1.trans hV.1
  refine Mok.ofWp (L := [some (.ref 0), some (.int c), some (.int w)]) rfl rfl rfl ?_
  refine xX11_told_0 ?_
  refine xX11_told_1 ?_
  refine xX11_told_2 (hX.1 _ _ rfl) rfl rfl rfl (t_X11_isCake hX hcn (fun hw0 => ?_) (fun nw0 => ?_))
  · obtain ⟨ecN, hcN⟩ := isC_N hw0 hn8
    refine xX11_told_5_t (by decide) ?_
    refine xX11_told_11 ?_
    refine xX11_told_12 (fun c12 => ?_) (fun c12 => ?_) (fun c12 => ?_) (fun c12 => ?_) (fun c12 => ?_) (fun c12 => ?_)
    · subst c12
      refine xX11_told_48 ?_
      refine xX11_told_49 (hX.1 _ _ rfl) (hX.2 _ _ _ rfl) ?_
      refine xX11_told_52 (hX.1 _ _ rfl) (hX.2 _ _ _ rfl) ?_
      refine xX11_told_55 ?_
      refine xX11_told_56 (j := (nN c)) (hX.1 _ _ rfl) ecN (by omega) rfl ?_
      refine xX11_told_57 rfl rfl ?_
      rw [toldP, if_pos hw0, if_pos rfl, ← (hE.2.2.1 _ hcN).1] at hQ
      exact hQ
    · subst c12
      refine xX11_told_58 ?_
      refine xX11_told_59 (hX.1 _ _ rfl) (hX.2 _ _ _ rfl) ?_
      refine xX11_told_62 (hX.1 _ _ rfl) (hX.2 _ _ _ rfl) ?_
      refine xX11_told_65 ?_
      refine xX11_told_66 (j := (nN c)) (hX.1 _ _ rfl) ecN (by omega) rfl ?_
      refine xX11_told_67 rfl rfl ?_
      rw [toldP, if_pos hw0, if_neg (by decide), if_pos rfl, ← (hE.2.2.1 _ hcN).2.1] at hQ
      exact hQ
    · subst c12
      refine xX11_told_68 ?_
      refine xX11_told_69 (hX.1 _ _ rfl) (hX.2 _ _ _ rfl) ?_
      refine xX11_told_72 (hX.1 _ _ rfl) (hX.2 _ _ _ rfl) ?_
      refine xX11_told_75 ?_
      refine xX11_told_76 (j := (nN c)) (hX.1 _ _ rfl) ecN (by omega) rfl ?_
      refine xX11_told_77 rfl rfl ?_
      rw [toldP, if_pos hw0, if_neg (by decide), if_neg (by decide), if_pos rfl, ← (hE.2.2.1 _ hcN).2.2.1] at hQ
      exact hQ
    · subst c12
      refine xX11_told_78 ?_
      refine xX11_told_79 (hX.1 _ _ rfl) (hX.2 _ _ _ rfl) ?_
      refine xX11_told_82 (hX.1 _ _ rfl) (hX.2 _ _ _ rfl) ?_
      refine xX11_told_85 ?_
      refine xX11_told_86 (j := (nN c)) (hX.1 _ _ rfl) ecN (by omega) rfl ?_
      refine xX11_told_87 rfl rfl ?_
      rw [toldP, if_pos hw0, if_neg (by decide), if_neg (by decide), if_neg (by decide), if_pos rfl, ← (hE.2.2.1 _ hcN).2.2.2] at hQ
      exact hQ
    · subst c12
      obtain ⟨kk, hkk, ek⟩ := hV.k hcN
      refine xX11_told_88 ?_
      refine xX11_told_89 (hX.1 _ _ rfl) (hX.2 _ _ _ rfl) ?_
      refine xX11_told_92 ?_
      refine xX11_told_93 (hX.1 _ _ rfl) (hX.2 _ _ _ rfl) ?_
      refine xX11_told_96 (hX.1 _ _ rfl) (hX.2 _ _ _ rfl) ?_
      refine xX11_told_99 ?_
      refine xX11_told_100 (j := (nN c)) (hX.1 _ _ rfl) ecN (by omega) rfl ?_
      rw [show g 3 (nN c) = nI kk from ((hE.2.2.1 _ hcN).1).trans ek]
      refine xX11_told_101 (hX.1 _ _ rfl) rfl rfl rfl (s_X0_kindOf hX rfl hkk (fun hk1 => ?_) (fun hk1 => ?_) (fun hk1 => ?_) (fun hk1 => ?_) (fun hk1 => ?_) (fun hk1 => ?_))
      · subst hk1
        refine xX11_told_104 ?_
        refine xX11_told_105 (hX.1 _ _ rfl) (hX.2 _ _ _ rfl) ?_
        refine xX11_told_108 (hX.1 _ _ rfl) (hX.2 _ _ _ rfl) ?_
        refine xX11_told_111 ?_
        refine xX11_told_112 (j := (nN c)) (hX.1 _ _ rfl) ecN (by omega) rfl ?_
        refine xX11_told_113_c3 (hX.1 _ _ rfl) rfl rfl rfl (s_X3_begins  ?_)
        refine xX11_told_116 rfl rfl ?_
        rw [toldP, if_pos hw0, if_neg (by decide), if_neg (by decide), if_neg (by decide), if_neg (by decide), if_pos rfl, ek, ← (hE.2.2.1 _ hcN).2.1] at hQ
        first | (rw [kB0] at hQ; exact hQ) | (rw [kB1] at hQ; exact hQ) | (rw [kB2] at hQ; exact hQ) | (rw [kB3] at hQ; exact hQ) | (rw [kB4] at hQ; exact hQ) | (rw [kB5] at hQ; exact hQ)
      · subst hk1
        refine xX11_told_104 ?_
        refine xX11_told_105 (hX.1 _ _ rfl) (hX.2 _ _ _ rfl) ?_
        refine xX11_told_108 (hX.1 _ _ rfl) (hX.2 _ _ _ rfl) ?_
        refine xX11_told_111 ?_
        refine xX11_told_112 (j := (nN c)) (hX.1 _ _ rfl) ecN (by omega) rfl ?_
        refine xX11_told_113_c9 (hX.1 _ _ rfl) rfl rfl rfl (s_X9_begins_c9 (hX.1 _ _ rfl) ?_)
        refine xX11_told_116 rfl rfl ?_
        rw [toldP, if_pos hw0, if_neg (by decide), if_neg (by decide), if_neg (by decide), if_neg (by decide), if_pos rfl, ek, ← (hE.2.2.1 _ hcN).2.1] at hQ
        first | (rw [kB0] at hQ; exact hQ) | (rw [kB1] at hQ; exact hQ) | (rw [kB2] at hQ; exact hQ) | (rw [kB3] at hQ; exact hQ) | (rw [kB4] at hQ; exact hQ) | (rw [kB5] at hQ; exact hQ)
      · subst hk1
        refine xX11_told_104 ?_
        refine xX11_told_105 (hX.1 _ _ rfl) (hX.2 _ _ _ rfl) ?_
        refine xX11_told_108 (hX.1 _ _ rfl) (hX.2 _ _ _ rfl) ?_
        refine xX11_told_111 ?_
        refine xX11_told_112 (j := (nN c)) (hX.1 _ _ rfl) ecN (by omega) rfl ?_
        refine xX11_told_113_c10 (hX.1 _ _ rfl) rfl rfl rfl (s_X3_begins  ?_)
        refine xX11_told_116 rfl rfl ?_
        rw [toldP, if_pos hw0, if_neg (by decide), if_neg (by decide), if_neg (by decide), if_neg (by decide), if_pos rfl, ek, ← (hE.2.2.1 _ hcN).2.1] at hQ
        first | (rw [kB0] at hQ; exact hQ) | (rw [kB1] at hQ; exact hQ) | (rw [kB2] at hQ; exact hQ) | (rw [kB3] at hQ; exact hQ) | (rw [kB4] at hQ; exact hQ) | (rw [kB5] at hQ; exact hQ)
      · subst hk1
        refine xX11_told_104 ?_
        refine xX11_told_105 (hX.1 _ _ rfl) (hX.2 _ _ _ rfl) ?_
        refine xX11_told_108 (hX.1 _ _ rfl) (hX.2 _ _ _ rfl) ?_
        refine xX11_told_111 ?_
        refine xX11_told_112 (j := (nN c)) (hX.1 _ _ rfl) ecN (by omega) rfl ?_
        refine xX11_told_113_c1 (hX.1 _ _ rfl) rfl rfl rfl (s_X1_begins (hX.1 _ _ rfl) ?_)
        refine xX11_told_116 rfl rfl ?_
        rw [toldP, if_pos hw0, if_neg (by decide), if_neg (by decide), if_neg (by decide), if_neg (by decide), if_pos rfl, ek, ← (hE.2.2.1 _ hcN).2.1] at hQ
        first | (rw [kB0] at hQ; exact hQ) | (rw [kB1] at hQ; exact hQ) | (rw [kB2] at hQ; exact hQ) | (rw [kB3] at hQ; exact hQ) | (rw [kB4] at hQ; exact hQ) | (rw [kB5] at hQ; exact hQ)
      · subst hk1
        refine xX11_told_104 ?_
        refine xX11_told_105 (hX.1 _ _ rfl) (hX.2 _ _ _ rfl) ?_
        refine xX11_told_108 (hX.1 _ _ rfl) (hX.2 _ _ _ rfl) ?_
        refine xX11_told_111 ?_
        refine xX11_told_112 (j := (nN c)) (hX.1 _ _ rfl) ecN (by omega) rfl ?_
        refine xX11_told_113_c8 (hX.1 _ _ rfl) rfl rfl rfl (s_X3_begins  ?_)
        refine xX11_told_116 rfl rfl ?_
        rw [toldP, if_pos hw0, if_neg (by decide), if_neg (by decide), if_neg (by decide), if_neg (by decide), if_pos rfl, ek, ← (hE.2.2.1 _ hcN).2.1] at hQ
        first | (rw [kB0] at hQ; exact hQ) | (rw [kB1] at hQ; exact hQ) | (rw [kB2] at hQ; exact hQ) | (rw [kB3] at hQ; exact hQ) | (rw [kB4] at hQ; exact hQ) | (rw [kB5] at hQ; exact hQ)
      · subst hk1
        refine xX11_told_104 ?_
        refine xX11_told_105 (hX.1 _ _ rfl) (hX.2 _ _ _ rfl) ?_
        refine xX11_told_108 (hX.1 _ _ rfl) (hX.2 _ _ _ rfl) ?_
        refine xX11_told_111 ?_
        refine xX11_told_112 (j := (nN c)) (hX.1 _ _ rfl) ecN (by omega) rfl ?_
        refine xX11_told_113_c2 (hX.1 _ _ rfl) rfl rfl rfl (s_X3_begins  ?_)
        refine xX11_told_116 rfl rfl ?_
        rw [toldP, if_pos hw0, if_neg (by decide), if_neg (by decide), if_neg (by decide), if_neg (by decide), if_pos rfl, ek, ← (hE.2.2.1 _ hcN).2.1] at hQ
        first | (rw [kB0] at hQ; exact hQ) | (rw [kB1] at hQ; exact hQ) | (rw [kB2] at hQ; exact hQ) | (rw [kB3] at hQ; exact hQ) | (rw [kB4] at hQ; exact hQ) | (rw [kB5] at hQ; exact hQ)
    · refine xX11_told_117 ?_
      refine xX11_told_119 rfl rfl ?_
      rw [toldP, if_pos hw0, if_neg (fun z => by subst z; revert c12; decide), if_neg (fun z => by subst z; revert c12; decide), if_neg (fun z => by subst z; revert c12; decide), if_neg (fun z => by subst z; revert c12; decide), if_neg (fun z => by subst z; revert c12; decide)] at hQ
      exact hQ
  · refine xX11_told_5_f (by decide) ?_
    refine xX11_told_8 ?_
    refine xX11_told_10 rfl rfl ?_
    rw [toldP, if_neg nw0] at hQ
    exact hQ
theorem s_X5_plan {d : Nat} {sc : Nat × (Nat → Int32)} {T : List (Nat × Nat)} {rf : Nat → Nat → Option Nat} {g : Nat → Nat → Int32} {b : Nat} {F : AH → Prop} {k x y : Int32} {kN : Nat} (hOv : OvT T rf b) (hk : k = nI kN) (hk6 : kN < 6) (hQ : ∀ g2, XO g2 b = pl (XO g b) kN x y → (∀ a, (a < b ∨ b + 7 < a) → g2 a = g a) → F (T, rf, g2)) : Mok d 0 0 sc kX5_plan [.ref b, .int k, .int x, .int y] (T, rf, g) (Qv F) := by
  refine Mok.ofWp (L := [some (.ref b), some (.int k), some (.int x), some (.int y)]) rfl rfl rfl ?_
  refine xX5_plan_0 ?_
  refine xX5_plan_1 hOv.1 hOv.2.2.2.2.2.2.2.2.2.2.2.2.2.1 ?_
  refine xX5_plan_4 ?_
  refine xX5_plan_5 ?_
  refine xX5_plan_6 (j := kN) hOv.2.2.2.2.2.2.1 hk hk6 rfl ?_
  refine xX5_plan_7 ?_
  refine xX5_plan_8 hOv.1 hOv.2.2.2.2.2.2.2.2.2.2.2.2.2.2 ?_
  refine xX5_plan_11 ?_
  refine xX5_plan_12 ?_
  refine xX5_plan_13 (j := kN) hOv.2.2.2.2.2.2.2.1 hk hk6 rfl ?_
  refine xX5_plan_14 ?_
  refine xX5_plan_15 ?_
  refine xX5_plan_16 ?_
  refine xX5_plan_17 ?_
  refine xX5_plan_18 hOv.1 ?_
  refine xX5_plan_21 rfl rfl ?_
  rw [hk]
  exact hQ _ XO_pl (fun a ha => by rw [up_row (by omega), up_row (by omega), up_row (by omega)])
theorem s_X11_open {d : Nat} {sc : Nat × (Nat → Int32)} {T : List (Nat × Nat)} {rf : Nat → Nat → Option Nat} {g : Nat → Nat → Int32} {nc tc t : Nat} {o : OV} {lws : Nat → Nat → List Int32} {m q0 : Int32} {F : Int32 → AH → Prop} (hO : OB T rf g 1 o nc tc lws t) (hQ : ∀ g2, OEq (XO g2 1) (openO o m q0) nc → UF g g2 → F (openP o m q0) (T, rf, g2)) : Mok (d + 1) 0 0 sc kX11_open [.ref 0, .int m, .int q0] (T, rf, g) (Qi F) := by
  obtain ⟨hX, -, hS, hE, hV, hlw, htc⟩ := id hO
  have hn8 : nc ≤ 8 := hV.2.1
  have hcn : g 1 5 = nI nc := hE.1.1.trans hV.1
  have e8 : g 1 8 = o 0 8 := hE.1.2.1
  have n8 := hV.nI8
  have n6 := hV.no
  refine Mok.ofWp (L := [some (.ref 0), some (.int m), some (.int q0), none]) rfl rfl rfl ?_
  refine xX11_open_0 ?_
  refine xX11_open_1 ?_
  refine xX11_open_2 ?_
  refine xX11_open_4 rfl rfl rfl (s_X11_within  (fun hw0 => ?_) (fun nw0 => ?_))
  · refine xX11_open_7_f (by decide) ?_
    refine xX11_open_10 ?_
    refine xX11_open_11 ?_
    refine xX11_open_12 ?_
    refine xX11_open_13 rfl rfl rfl (s_X11_within  (fun hw1 => ?_) (fun nw1 => ?_))
    · refine xX11_open_16_t (by decide) ?_
      refine xX11_open_22 ?_
      refine xX11_open_23 (hX.1 _ _ rfl) (hX.2 _ _ _ rfl) ?_
      refine xX11_open_26 (hX.1 _ _ rfl) ?_
      rw [e8]
      refine xX11_open_29 rfl ?_
      refine xX11_open_30 ?_
      refine xX11_open_31 (fun c31 => ?_) (fun c31 => ?_)
      · have h0 : ¬ 0 < o 0 8 := Int32.not_lt.mpr c31
        refine xX11_open_52 ?_
        refine xX11_open_53 ?_
        refine xX11_open_55 (fun c55 => ?_) (fun c55 => ?_)
        · have h6 : nN (o 0 8) < 6 := by
            rcases Nat.lt_or_ge (nN (o 0 8)) 6 with q | q
            · exact q
            · rw [n8] at c55; exact absurd c55 (Int32.not_lt.mpr (nI_le (a := 6) q (by omega)))
          refine xX11_open_61 ?_
          refine xX11_open_62 (hX.1 _ _ rfl) (hX.2 _ _ _ rfl) ?_
          refine xX11_open_65 ?_
          refine xX11_open_66 ?_
          refine xX11_open_67 ?_
          refine xX11_open_68 (hX.1 _ _ rfl) rfl rfl rfl (s_X5_plan (OvT.of hX (Or.inl rfl)) n8 h6 (fun g2 hp2 hf2 => ?_))
          refine xX11_open_71 ?_
          refine xX11_open_72 (hX.1 _ _ rfl) (hX.2 _ _ _ rfl) ?_
          refine xX11_open_75 (hX.1 _ _ rfl) ?_
          refine xX11_open_78 rfl rfl ?_
          have h2 : ¬ (0 < o 0 8 ∧ m ≤ o 6 (nN (o 0 8) - 1)) := by first | exact h1 | exact fun z => h0 z.1
          have q := hQ _ (by rw [openO, if_pos hw0, if_pos hw1, if_neg h2, if_pos h6, hp2]; exact hE.pl) (fun a ha => hf2 a (by omega))
          rw [openP, if_pos hw0, if_pos hw1, if_neg h2, if_pos h6] at q
          have e9 : g2 1 8 = o 0 8 + 1 := by
            have := congrFun (congrFun hp2 0) 8
            rw [show XO g2 1 0 8 = g2 1 8 from rfl] at this
            rw [this, pl, up_same, ← n8]
          rw [e9]
          exact q
        · have h6 : ¬ nN (o 0 8) < 6 := fun q => c55 (by rw [n8]; exact nI_lt (b := 6) q (by omega))
          refine xX11_open_58 ?_
          refine xX11_open_60 rfl rfl ?_
          have h2 : ¬ (0 < o 0 8 ∧ m ≤ o 6 (nN (o 0 8) - 1)) := by first | exact h1 | exact fun z => h0 z.1
          have q := hQ g (by rw [openO, if_pos hw0, if_pos hw1, if_neg h2, if_neg h6]; exact hE) UF.rf
          rw [openP, if_pos hw0, if_pos hw1, if_neg h2, if_neg h6] at q
          exact q
      · have h0 : 0 < o 0 8 := Int32.not_le.mp c31
        obtain ⟨n, hn⟩ : ∃ n, nN (o 0 8) = n + 1 := by
          rcases Nat.eq_zero_or_pos (nN (o 0 8)) with q | q
          · rw [n8, q] at h0; exact absurd h0 (by decide)
          · exact ⟨nN (o 0 8) - 1, by omega⟩
        have e1 : o 0 8 - 1 = nI n := by rw [n8, hn]; exact nI_pred n
        refine xX11_open_34 ?_
        refine xX11_open_35 ?_
        refine xX11_open_36 (hX.1 _ _ rfl) (hX.2 _ _ _ rfl) ?_
        refine xX11_open_39 (hX.1 _ _ rfl) (hX.2 _ _ _ rfl) ?_
        refine xX11_open_42 ?_
        refine xX11_open_43 ?_
        refine xX11_open_44 ?_
        refine xX11_open_45 (j := n) (hX.1 _ _ rfl) e1 (by omega) rfl ?_
        rw [show g 7 n = o 6 n from (hE.2.2.2 n (by omega)).1]
        refine xX11_open_46 (fun c46 => ?_) (fun c46 => ?_)
        · have h1 : ¬ (0 < o 0 8 ∧ m ≤ o 6 (nN (o 0 8) - 1)) := fun z => by
            have z2 := z.2
            rw [hn, Nat.add_sub_cancel] at z2
            exact absurd c46 (Int32.not_lt.mpr z2)
          refine xX11_open_52 ?_
          refine xX11_open_53 ?_
          refine xX11_open_55 (fun c55 => ?_) (fun c55 => ?_)
          · have h6 : nN (o 0 8) < 6 := by
              rcases Nat.lt_or_ge (nN (o 0 8)) 6 with q | q
              · exact q
              · rw [n8] at c55; exact absurd c55 (Int32.not_lt.mpr (nI_le (a := 6) q (by omega)))
            refine xX11_open_61 ?_
            refine xX11_open_62 (hX.1 _ _ rfl) (hX.2 _ _ _ rfl) ?_
            refine xX11_open_65 ?_
            refine xX11_open_66 ?_
            refine xX11_open_67 ?_
            refine xX11_open_68 (hX.1 _ _ rfl) rfl rfl rfl (s_X5_plan (OvT.of hX (Or.inl rfl)) n8 h6 (fun g3 hp3 hf3 => ?_))
            refine xX11_open_71 ?_
            refine xX11_open_72 (hX.1 _ _ rfl) (hX.2 _ _ _ rfl) ?_
            refine xX11_open_75 (hX.1 _ _ rfl) ?_
            refine xX11_open_78 rfl rfl ?_
            have h2 : ¬ (0 < o 0 8 ∧ m ≤ o 6 (nN (o 0 8) - 1)) := by first | exact h1 | exact fun z => h0 z.1
            have q := hQ _ (by rw [openO, if_pos hw0, if_pos hw1, if_neg h2, if_pos h6, hp3]; exact hE.pl) (fun a ha => hf3 a (by omega))
            rw [openP, if_pos hw0, if_pos hw1, if_neg h2, if_pos h6] at q
            have e9 : g3 1 8 = o 0 8 + 1 := by
              have := congrFun (congrFun hp3 0) 8
              rw [show XO g3 1 0 8 = g3 1 8 from rfl] at this
              rw [this, pl, up_same, ← n8]
            rw [e9]
            exact q
          · have h6 : ¬ nN (o 0 8) < 6 := fun q => c55 (by rw [n8]; exact nI_lt (b := 6) q (by omega))
            refine xX11_open_58 ?_
            refine xX11_open_60 rfl rfl ?_
            have h2 : ¬ (0 < o 0 8 ∧ m ≤ o 6 (nN (o 0 8) - 1)) := by first | exact h1 | exact fun z => h0 z.1
            have q := hQ g (by rw [openO, if_pos hw0, if_pos hw1, if_neg h2, if_neg h6]; exact hE) UF.rf
            rw [openP, if_pos hw0, if_pos hw1, if_neg h2, if_neg h6] at q
            exact q
        · have h1 : 0 < o 0 8 ∧ m ≤ o 6 (nN (o 0 8) - 1) := ⟨h0, by rw [hn, Nat.add_sub_cancel]; exact Int32.not_lt.mp c46⟩
          refine xX11_open_49 ?_
          refine xX11_open_51 rfl rfl ?_
          have q := hQ g (by rw [openO, if_pos hw0, if_pos hw1, if_pos h1]; exact hE) UF.rf
          rw [openP, if_pos hw0, if_pos hw1, if_pos h1] at q
          exact q
    · refine xX11_open_16_f (by decide) ?_
      refine xX11_open_19 ?_
      refine xX11_open_21 rfl rfl ?_
      have q := hQ g (by rw [openO, if_pos hw0, if_neg nw1]; exact hE) UF.rf
      rw [openP, if_pos hw0, if_neg nw1] at q
      exact q
  · refine xX11_open_7_t (by decide) ?_
    refine xX11_open_19 ?_
    refine xX11_open_21 rfl rfl ?_
    have q := hQ g (by rw [openO, if_neg nw0]; exact hE) UF.rf
    rw [openP, if_neg nw0] at q
    exact q
theorem inK {c : Int32} {x : Int32} {n : Nat} (h : 0 ≤ c ∧ c ≤ x - 1) (hx : x = nI n) (hn : n ≤ 2000) : c = nI (nN c) ∧ nN c < n := by
  have h1 := i0.mp h.1
  have h2 := iLe.mp h.2
  subst hx
  have e : (nI n).toInt = n := iT (by omega)
  have e1 : (1 : Int32).toInt = 1 := rfl
  rw [iSub (by rw [e, e1]; omega) (by rw [e, e1]; omega), e, e1] at h2
  exact ⟨iN h1, by unfold nN; omega⟩
theorem s_X11_opening {d : Nat} {sc : Nat × (Nat → Int32)} {T : List (Nat × Nat)} {rf : Nat → Nat → Option Nat} {g : Nat → Nat → Int32} {nc tc t : Nat} {o : OV} {lws : Nat → Nat → List Int32} {k w : Int32} {F : Int32 → AH → Prop} (hO : OB T rf g 1 o nc tc lws t) (hQ : F (openingP o k w) (T, rf, g)) : Mok (d + 1) 0 0 sc kX11_opening [.ref 0, .int k, .int w] (T, rf, g) (Qi F) := by
  obtain ⟨hX, -, hS, hE, hV, hlw, htc⟩ := id hO
  have hn8 : nc ≤ 8 := hV.2.1
  have hcn : g 1 5 = nI nc := hE.1.1.trans hV.1
  have e8 : g 1 8 = o 0 8 := hE.1.2.1
  have n8 := hV.nI8
  have n6 := hV.no
  refine Mok.ofWp (L := [some (.ref 0), some (.int k), some (.int w)]) rfl rfl rfl ?_
  refine xX11_opening_0 ?_
  refine xX11_opening_1 ?_
  refine xX11_opening_2 ?_
  refine xX11_opening_3 (hX.1 _ _ rfl) (hX.2 _ _ _ rfl) ?_
  refine xX11_opening_6 (hX.1 _ _ rfl) ?_
  refine xX11_opening_9 ?_
  rw [e8]
  refine xX11_opening_10 ?_
  refine xX11_opening_11 rfl rfl rfl (s_X11_within  (fun hw0 => ?_) (fun nw0 => ?_))
  · refine xX11_opening_14_t (by decide) ?_
    refine xX11_opening_20 ?_
    refine xX11_opening_21 ?_
    refine xX11_opening_22 ?_
    refine xX11_opening_23 rfl rfl rfl (s_X11_within  (fun hw1 => ?_) (fun nw1 => ?_))
    · refine xX11_opening_26_t (by decide) ?_
      refine xX11_opening_32 ?_
      refine xX11_opening_33 (fun c33 => ?_) (fun c33 => ?_)
      · refine xX11_opening_48 ?_
        refine xX11_opening_49 (hX.1 _ _ rfl) (hX.2 _ _ _ rfl) ?_
        refine xX11_opening_52 (hX.1 _ _ rfl) (hX.2 _ _ _ rfl) ?_
        refine xX11_opening_55 ?_
        refine xX11_opening_56 (j := (nN k)) (hX.1 _ _ rfl) (inK hw0 n8 (by omega)).1 (by have := (inK hw0 n8 (by omega)).2; omega) rfl ?_
        refine xX11_opening_57 rfl rfl ?_
        have hk6 : nN k < 6 := by have := (inK hw0 n8 (by omega)).2; omega
        first | (rw [openingP, if_pos hw0, if_pos hw1, if_pos c33, ← (hE.2.2.2 _ hk6).1] at hQ; exact hQ) | (rw [openingP, if_pos hw0, if_pos hw1, if_neg c33, ← (hE.2.2.2 _ hk6).2] at hQ; exact hQ)
      · refine xX11_opening_36 ?_
        refine xX11_opening_37 (hX.1 _ _ rfl) (hX.2 _ _ _ rfl) ?_
        refine xX11_opening_40 (hX.1 _ _ rfl) (hX.2 _ _ _ rfl) ?_
        refine xX11_opening_43 ?_
        refine xX11_opening_44 (j := (nN k)) (hX.1 _ _ rfl) (inK hw0 n8 (by omega)).1 (by have := (inK hw0 n8 (by omega)).2; omega) rfl ?_
        refine xX11_opening_45 ?_
        refine xX11_opening_57 rfl rfl ?_
        have hk6 : nN k < 6 := by have := (inK hw0 n8 (by omega)).2; omega
        first | (rw [openingP, if_pos hw0, if_pos hw1, if_pos c33, ← (hE.2.2.2 _ hk6).1] at hQ; exact hQ) | (rw [openingP, if_pos hw0, if_pos hw1, if_neg c33, ← (hE.2.2.2 _ hk6).2] at hQ; exact hQ)
    · refine xX11_opening_26_f (by decide) ?_
      refine xX11_opening_29 ?_
      refine xX11_opening_31 rfl rfl ?_
      rw [openingP, if_pos hw0, if_neg nw1] at hQ
      exact hQ
  · refine xX11_opening_14_f (by decide) ?_
    refine xX11_opening_17 ?_
    refine xX11_opening_19 rfl rfl ?_
    rw [openingP, if_neg nw0] at hQ
    exact hQ
theorem s_X11_shut {d : Nat} {sc : Nat × (Nat → Int32)} {T : List (Nat × Nat)} {rf : Nat → Nat → Option Nat} {g : Nat → Nat → Int32} {nc tc t : Nat} {o : OV} {lws : Nat → Nat → List Int32} {F : Int32 → AH → Prop} (hO : OB T rf g 1 o nc tc lws t) (hQ : ∀ g2, OEq (XO g2 1) (up o 0 8 0) nc → UF g g2 → F (o 0 8) (T, rf, g2)) : Mok d 0 0 sc kX11_shut [.ref 0] (T, rf, g) (Qi F) := by
  obtain ⟨hX, -, hS, hE, hV, hlw, htc⟩ := id hO
  have hn8 : nc ≤ 8 := hV.2.1
  have hcn : g 1 5 = nI nc := hE.1.1.trans hV.1
  refine Mok.ofWp (L := [some (.ref 0), none]) rfl rfl rfl ?_
  refine xX11_shut_0 ?_
  refine xX11_shut_1 (hX.1 _ _ rfl) (hX.2 _ _ _ rfl) ?_
  refine xX11_shut_4 (hX.1 _ _ rfl) ?_
  refine xX11_shut_7 rfl ?_
  refine xX11_shut_8 ?_
  refine xX11_shut_9 (hX.1 _ _ rfl) (hX.2 _ _ _ rfl) ?_
  refine xX11_shut_12 ?_
  refine xX11_shut_13 (hX.1 _ _ rfl) ?_
  refine xX11_shut_16 ?_
  refine xX11_shut_17 rfl rfl ?_
  have q := hQ _ ((XO_up (b := 1) (r := 0)) ▸ hE.up) (UF.up (by omega))
  rw [← hE.1.2.1] at q
  exact q
theorem s_X11_at {d : Nat} {sc : Nat × (Nat → Int32)} {T : List (Nat × Nat)} {rf : Nat → Nat → Option Nat} {g : Nat → Nat → Int32} {nc tc t : Nat} {o : OV} {lws : Nat → Nat → List Int32} {c m : Int32} {F : Int32 → AH → Prop} (hO : OB T rf g 1 o nc tc lws t) (hQ : ∀ rf2 g2, ZR T rf rf2 → VF g g2 → F (atP o nc (evL (lws t)) c m) (T, rf2, g2)) : Mok (d + 6) 0 0 sc kX11_at [.ref 0, .int c, .int m] (T, rf, g) (Qi F) := by
  obtain ⟨hX, -, hS, hE, hV, hlw, htc⟩ := id hO
  have hn8 : nc ≤ 8 := hV.2.1
  have hcn : g 1 5 = nI nc := hE.1.1.trans hV.1
  refine Mok.ofWp (L := [some (.ref 0), some (.int c), some (.int m)]) rfl rfl rfl ?_
  refine xX11_at_0 ?_
  refine xX11_at_1 ?_
  refine xX11_at_2 (hX.1 _ _ rfl) rfl rfl rfl (t_X11_isCake hX hcn (fun hw0 => ?_) (fun nw0 => ?_))
  · obtain ⟨ecN, hcN⟩ := isC_N hw0 hn8
    refine xX11_at_5_t (by decide) ?_
    refine xX11_at_11 ?_
    refine xX11_at_12 ?_
    refine xX11_at_13 ?_
    refine xX11_at_14 (hX.1 _ _ rfl) (hX.2 _ _ _ rfl) ?_
    refine xX11_at_17 (hX.1 _ _ rfl) ?_
    rw [show g 1 9 = o 0 9 from hE.1.2.2.1]
    refine xX11_at_20 rfl rfl rfl (s_X11_within  (fun hw1 => ?_) (fun nw1 => ?_))
    · refine xX11_at_23_t (by decide) ?_
      refine xX11_at_29 ?_
      refine xX11_at_30 ?_
      refine xX11_at_31 (hX.1 _ _ rfl) (hX.2 _ _ _ rfl) ?_
      refine xX11_at_34 ?_
      refine xX11_at_35 (hX.1 _ _ rfl) rfl rfl rfl (s_X11_bake hO (inN hw1).1 (Nat.le_trans (inN hw1).2 hV.tN.2.1) (fun rf2 g2 hr2 hz2 hk2 => ?_))
      refine xX11_at_38 ?_
      refine xX11_at_39 (hX.1 _ _ rfl) (hr2.1.2 _ _ _ rfl) ?_
      refine xX11_at_42 (hX.1 _ _ rfl) (hr2.1.2 _ _ _ rfl) ?_
      refine xX11_at_45 ?_
      refine xX11_at_46 (j := (nN c)) (hX.1 _ _ rfl) ecN (by omega) rfl ?_
      refine xX11_at_47 rfl rfl ?_
      rw [hk2.br hcN]
      have q := hQ _ _ hr2 hz2.vf
      rw [atP, if_pos hw0, if_pos hw1] at q
      exact q
    · refine xX11_at_23_f (by decide) ?_
      refine xX11_at_26 ?_
      refine xX11_at_28 rfl rfl ?_
      have q := hQ _ _ ⟨hX, fun _ _ => rfl⟩ VF.rf
      rw [atP, if_pos hw0, if_neg nw1] at q
      exact q
  · refine xX11_at_5_f (by decide) ?_
    refine xX11_at_8 ?_
    refine xX11_at_10 rfl rfl ?_
    have q := hQ _ _ ⟨hX, fun _ _ => rfl⟩ VF.rf
    rw [atP, if_neg nw0] at q
    exact q
theorem s_X11_end {d : Nat} {sc : Nat × (Nat → Int32)} {T : List (Nat × Nat)} {rf : Nat → Nat → Option Nat} {g : Nat → Nat → Int32} {nc tc t : Nat} {o : OV} {lws : Nat → Nat → List Int32} {w : Int32} {F : Int32 → AH → Prop} (hO : OB T rf g 1 o nc tc lws t) (hQ : ∀ rf2 g2, ZR T rf rf2 → VF g g2 → F (endP o nc (evL (lws t)) w) (T, rf2, g2)) : Mok (d + 6) 0 0 sc kX11_end [.ref 0, .int w] (T, rf, g) (Qi F) := by
  obtain ⟨hX, -, hS, hE, hV, hlw, htc⟩ := id hO
  have hn8 : nc ≤ 8 := hV.2.1
  have hcn : g 1 5 = nI nc := hE.1.1.trans hV.1
  refine Mok.ofWp (L := [some (.ref 0), some (.int w)]) rfl rfl rfl ?_
  refine xX11_end_0 ?_
  refine xX11_end_1 ?_
  refine xX11_end_2 ?_
  refine xX11_end_3 rfl rfl rfl (s_X11_within  (fun hw0 => ?_) (fun nw0 => ?_))
  · refine xX11_end_6_t (by decide) ?_
    refine xX11_end_12 ?_
    refine xX11_end_13 ?_
    refine xX11_end_14 (hX.1 _ _ rfl) (hX.2 _ _ _ rfl) ?_
    refine xX11_end_17 ?_
    refine xX11_end_18 (hX.1 _ _ rfl) (hX.2 _ _ _ rfl) ?_
    refine xX11_end_21 (hX.1 _ _ rfl) ?_
    rw [show g 1 9 = o 0 9 from hE.1.2.2.1]
    refine xX11_end_24 (hX.1 _ _ rfl) rfl rfl rfl (s_X11_bake hO hV.tN.1 hV.tN.2.1 (fun rf1 g1 hr1 hz1 hk1 => ?_))
    refine xX11_end_27 ?_
    refine xX11_end_28 (fun c28 => ?_) (fun c28 => ?_) (fun c28 => ?_) (fun c28 => ?_) (fun c28 => ?_)
    · subst c28
      refine xX11_end_60 ?_
      refine xX11_end_61 (hX.1 _ _ rfl) (hr1.1.2 _ _ _ rfl) ?_
      refine xX11_end_64 (hX.1 _ _ rfl) rfl rfl rfl (t_X0_badness hk1 (fun g2 hk2 hz2 => ?_))
      refine xX11_end_67 rfl rfl ?_
      have q := hQ _ _ hr1 (hz1.vf.tr hz2.vf)
      rw [endP, if_pos hw0, if_pos rfl] at q
      exact q
    · subst c28
      refine xX11_end_68 ?_
      refine xX11_end_69 (hX.1 _ _ rfl) (hr1.1.2 _ _ _ rfl) ?_
      refine xX11_end_72 (hX.1 _ _ rfl) rfl rfl rfl (t_X0_apart hk1 ?_)
      refine xX11_end_75 rfl rfl ?_
      have q := hQ _ _ hr1 hz1.vf
      rw [endP, if_pos hw0, if_neg (by decide), if_pos rfl] at q
      exact q
    · subst c28
      refine xX11_end_76 ?_
      refine xX11_end_77 (hX.1 _ _ rfl) (hr1.1.2 _ _ _ rfl) ?_
      refine xX11_end_80 (hX.1 _ _ rfl) rfl rfl rfl (t_X0_brownest hk1 ?_)
      refine xX11_end_83 rfl rfl ?_
      have q := hQ _ _ hr1 hz1.vf
      rw [endP, if_pos hw0, if_neg (by decide), if_neg (by decide), if_pos rfl] at q
      exact q
    · subst c28
      refine xX11_end_84 ?_
      refine xX11_end_85 (hX.1 _ _ rfl) (hr1.1.2 _ _ _ rfl) ?_
      refine xX11_end_88 (hX.1 _ _ rfl) rfl rfl rfl (t_X0_palest hk1 ?_)
      refine xX11_end_91 rfl rfl ?_
      have q := hQ _ _ hr1 hz1.vf
      rw [endP, if_pos hw0, if_neg (by decide), if_neg (by decide), if_neg (by decide), if_pos rfl] at q
      exact q
    · refine xX11_end_92 ?_
      refine xX11_end_93 (hX.1 _ _ rfl) (hr1.1.2 _ _ _ rfl) ?_
      refine xX11_end_96 (hX.1 _ _ rfl) rfl rfl rfl (t_X0_right hk1 ?_)
      refine xX11_end_99 rfl rfl ?_
      have q := hQ _ _ hr1 hz1.vf
      rw [endP, if_pos hw0, if_neg (fun z => by subst z; revert c28; decide), if_neg (fun z => by subst z; revert c28; decide), if_neg (fun z => by subst z; revert c28; decide), if_neg (fun z => by subst z; revert c28; decide)] at q
      exact q
  · refine xX11_end_6_f (by decide) ?_
    refine xX11_end_9 ?_
    refine xX11_end_11 rfl rfl ?_
    have q := hQ _ _ ⟨hX, fun _ _ => rfl⟩ VF.rf
    rw [endP, if_neg nw0] at q
    exact q
theorem s_X11_off {d : Nat} {sc : Nat × (Nat → Int32)} {T : List (Nat × Nat)} {rf : Nat → Nat → Option Nat} {g : Nat → Nat → Int32} {nc tc t : Nat} {o : OV} {lws : Nat → Nat → List Int32} {c w : Int32} {F : Int32 → AH → Prop} (hO : OB T rf g 1 o nc tc lws t) (hQ : ∀ rf2 g2, ZR T rf rf2 → VF g g2 → F (offP o nc (evL (lws t)) c w) (T, rf2, g2)) : Mok (d + 6) 0 0 sc kX11_off [.ref 0, .int c, .int w] (T, rf, g) (Qi F) := by
  obtain ⟨hX, -, hS, hE, hV, hlw, htc⟩ := id hO
  have hn8 : nc ≤ 8 := hV.2.1
  have hcn : g 1 5 = nI nc := hE.1.1.trans hV.1
  refine Mok.ofWp (L := [some (.ref 0), some (.int c), some (.int w)]) rfl rfl rfl ?_
  refine xX11_off_0 ?_
  refine xX11_off_1 ?_
  refine xX11_off_2 (hX.1 _ _ rfl) rfl rfl rfl (t_X11_isCake hX hcn (fun hw0 => ?_) (fun nw0 => ?_))
  · obtain ⟨ecN, hcN⟩ := isC_N hw0 hn8
    refine xX11_off_5_t (by decide) ?_
    refine xX11_off_11 ?_
    refine xX11_off_12 ?_
    refine xX11_off_13 ?_
    refine xX11_off_14 rfl rfl rfl (s_X11_within  (fun hw1 => ?_) (fun nw1 => ?_))
    · refine xX11_off_17_t (by decide) ?_
      refine xX11_off_23 ?_
      refine xX11_off_24 ?_
      refine xX11_off_25 (hX.1 _ _ rfl) (hX.2 _ _ _ rfl) ?_
      refine xX11_off_28 ?_
      refine xX11_off_29 (hX.1 _ _ rfl) (hX.2 _ _ _ rfl) ?_
      refine xX11_off_32 (hX.1 _ _ rfl) ?_
      rw [show g 1 9 = o 0 9 from hE.1.2.2.1]
      refine xX11_off_35 (hX.1 _ _ rfl) rfl rfl rfl (s_X11_bake hO hV.tN.1 hV.tN.2.1 (fun rf2 g2 hr2 hz2 hk2 => ?_))
      refine xX11_off_38 ?_
      refine xX11_off_39 (fun c39 => ?_) (fun c39 => ?_)
      · refine xX11_off_53 ?_
        refine xX11_off_54 (hX.1 _ _ rfl) (hr2.1.2 _ _ _ rfl) ?_
        refine xX11_off_57 ?_
        refine xX11_off_58 (hX.1 _ _ rfl) rfl rfl rfl (t_X0_badnessOf hk2 ecN hcN (fun g3 hk3 hz3 => ?_))
        refine xX11_off_61 rfl rfl ?_
        first
          | (have q := hQ _ _ hr2 (hz2.vf.tr hz3.vf); rw [offP, if_pos hw0, if_pos hw1, if_pos c39] at q; exact q)
          | (have q := hQ _ _ hr2 (hz2.vf.tr hz3.vf); rw [offP, if_pos hw0, if_pos hw1, if_neg c39] at q; exact q)
      · refine xX11_off_42 ?_
        refine xX11_off_43 (hX.1 _ _ rfl) (hr2.1.2 _ _ _ rfl) ?_
        refine xX11_off_46 ?_
        refine xX11_off_47 (hX.1 _ _ rfl) rfl rfl rfl (t_X0_away hk2 ecN hcN ?_)
        refine xX11_off_50 ?_
        refine xX11_off_61 rfl rfl ?_
        first
          | (have q := hQ _ _ hr2 hz2.vf; rw [offP, if_pos hw0, if_pos hw1, if_pos c39] at q; exact q)
          | (have q := hQ _ _ hr2 hz2.vf; rw [offP, if_pos hw0, if_pos hw1, if_neg c39] at q; exact q)
    · refine xX11_off_17_f (by decide) ?_
      refine xX11_off_20 ?_
      refine xX11_off_22 rfl rfl ?_
      have q := hQ _ _ ⟨hX, fun _ _ => rfl⟩ VF.rf
      rw [offP, if_pos hw0, if_neg nw1] at q
      exact q
  · refine xX11_off_5_f (by decide) ?_
    refine xX11_off_8 ?_
    refine xX11_off_10 rfl rfl ?_
    have q := hQ _ _ ⟨hX, fun _ _ => rfl⟩ VF.rf
    rw [offP, if_neg nw0] at q
    exact q
