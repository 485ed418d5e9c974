def ck (o : OV) (nc : Nat) (a b w p : Int32) : OV := up (up (up (up (up o 2 nc a) 3 nc b) 4 nc w) 5 nc p) 0 5 (nI (nc + 1))
theorem OEq_ck {x y : OV} {nc : Nat} {a b w p : Int32} (h : OEq x y nc) : OEq (ck x nc a b w p) (ck y nc a b w p) (nc + 1) := by
  obtain ⟨⟨a1, a2, a3, a4, a5⟩, hb, c, d⟩ := h
  refine ⟨⟨up_in (up_in (up_in (up_in (up_in a1)))), up_in (up_in (up_in (up_in (up_in a2)))), up_in (up_in (up_in (up_in (up_in a3)))), up_in (up_in (up_in (up_in (up_in a4)))), up_in (up_in (up_in (up_in (up_in a5))))⟩, fun i hi => up_in (up_in (up_in (up_in (up_in (hb i hi))))), fun i hi => ?_, fun k hk => ⟨up_in (up_in (up_in (up_in (up_in (d k hk).1)))), up_in (up_in (up_in (up_in (up_in (d k hk).2))))⟩⟩
  by_cases q : i = nc
  · subst q
    exact ⟨by simp [ck, up], by simp [ck, up], by simp [ck, up], by simp [ck, up]⟩
  · obtain ⟨c2, c3, c4, c5⟩ := c i (by omega)
    exact ⟨up_in (up_in (up_in (up_in (up_in c2)))), up_in (up_in (up_in (up_in (up_in c3)))), up_in (up_in (up_in (up_in (up_in c4)))), up_in (up_in (up_in (up_in (up_in c5))))⟩
def cakeC (o : OV) (nc : Nat) (km w p : Int32) : Prop := (0 ≤ km ∧ km ≤ 59) ∧ (0 ≤ w ∧ w ≤ 999) ∧ (0 ≤ p ∧ p ≤ 15) ∧ onP o nc p = -1 ∧ nc < 8
def remI (x y : Int32) : Int32 := x - x / y * y
/-- a cake is laid, or not; the oven then, and its cakes -/
def cakeX (o : OV) (nc : Nat) (km w p : Int32) (o2 : OV) (n2 : Nat) : Prop := (cakeC o nc km w p ∧ o2 = ck o nc (km / 10) (remI km 10) w p ∧ n2 = nc + 1) ∨ (¬ cakeC o nc km w p ∧ o2 = o ∧ n2 = nc)
def pl (o : OV) (k : Nat) (a b : Int32) : OV := up (up (up o 6 k a) 7 k b) 0 8 (nI k + 1)
def openP (o : OV) (m q : Int32) : Int32 := if 0 ≤ m ∧ m ≤ 39 then (if 0 ≤ q ∧ q ≤ 3 then (if 0 < o 0 8 ∧ m ≤ o 6 (nN (o 0 8) - 1) then -3 else if nN (o 0 8) < 6 then o 0 8 + 1 else -4) else -2) else -2
def openO (o : OV) (m q : Int32) : OV := if 0 ≤ m ∧ m ≤ 39 then (if 0 ≤ q ∧ q ≤ 3 then (if 0 < o 0 8 ∧ m ≤ o 6 (nN (o 0 8) - 1) then o else if nN (o 0 8) < 6 then pl o (nN (o 0 8)) m q else o) else o) else o
theorem XO_pl {g : Nat → Nat → Int32} {b k : Nat} {x y : Int32} : XO (up (up (up g (b + 6) k x) (b + 7) k y) b 8 (nI k + 1)) b = pl (XO g b) k x y := by
  unfold pl
  rw [← XO_up, ← XO_up, ← XO_up]
  rfl
theorem OEq.pl {x y : OV} {nc k : Nat} {a b : Int32} (h : OEq x y nc) : OEq (pl x k a b) (pl y k a b) nc := h.up.up.up
theorem OVk.k {o : OV} {nc c : Nat} (h : OVk o nc) (hc : c < nc) : ∃ k, k < 6 ∧ o 2 c = nI k := by
  obtain ⟨-, -, -, -, -, h6, -⟩ := h
  exact h6 c hc
theorem OVk.nI8 {o : OV} {nc : Nat} (h : OVk o nc) : o 0 8 = nI (nN (o 0 8)) := by
  obtain ⟨-, -, ⟨no, h3, h31, -⟩, -⟩ := h
  rw [h31, nN_nI (by omega)]
theorem s_X11_move {d : Nat} {sc : Nat × (Nat → Int32)} {T : List (Nat × Nat)} {rf : Nat → Nat → Option Nat} {g : Nat → Nat → Int32} {nc tc t : Nat} {o : OV} {lws : Nat → Nat → List Int32} {c p : Int32} {F : Int32 → AH → Prop} (hO : OB T rf g 1 o nc tc lws t) (hQ : ∀ g2, OEq (XO g2 1) (moveO o nc c p) nc → UF g g2 → F (moveP o nc c p) (T, rf, g2)) : Mok (d + 2) 0 0 sc kX11_move [.ref 0, .int c, .int p] (T, rf, g) (Qi F) := by
  obtain ⟨hX, -, hS, hE, hV, hlw, htc⟩ := id hO
  have hn8 : nc ≤ 8 := hV.2.1
  have hcn : g 1 5 = nI nc := hE.1.1.trans hV.1
  refine Mok.ofWp (L := [some (.ref 0), some (.int c), some (.int p), none, none]) rfl rfl rfl ?_
  refine xX11_move_0 ?_
  refine xX11_move_1 ?_
  refine xX11_move_2 (hX.1 _ _ rfl) rfl rfl rfl (t_X11_isCake hX hcn (fun hw0 => ?_) (fun nw0 => ?_))
  · obtain ⟨ecN, hcN⟩ := isC_N hw0 hn8
    refine xX11_move_5_t (by decide) ?_
    refine xX11_move_11 ?_
    refine xX11_move_12 ?_
    refine xX11_move_13 ?_
    refine xX11_move_15 rfl rfl rfl (s_X11_within  (fun hw1 => ?_) (fun nw1 => ?_))
    · refine xX11_move_18_t (by decide) ?_
      refine xX11_move_24 ?_
      refine xX11_move_25 (hX.1 _ _ rfl) (hX.2 _ _ _ rfl) ?_
      refine xX11_move_28 ?_
      refine xX11_move_29 (hX.1 _ _ rfl) rfl rfl rfl (s_X5_cakeOn (OvT.of hX (Or.inl rfl)) hE hV ?_)
      refine xX11_move_32 rfl ?_
      refine xX11_move_33 ?_
      refine xX11_move_34 ?_
      refine xX11_move_35 (fun c35 => ?_) (fun c35 => ?_)
      · refine xX11_move_46 ?_
        refine xX11_move_47 (hX.1 _ _ rfl) (hX.2 _ _ _ rfl) ?_
        refine xX11_move_50 (hX.1 _ _ rfl) (hX.2 _ _ _ rfl) ?_
        refine xX11_move_53 ?_
        refine xX11_move_54 (j := (nN c)) (hX.1 _ _ rfl) ecN (by omega) rfl ?_
        refine xX11_move_55 rfl ?_
        refine xX11_move_57 ?_
        refine xX11_move_58 (hX.1 _ _ rfl) (hX.2 _ _ _ rfl) ?_
        refine xX11_move_61 (hX.1 _ _ rfl) (hX.2 _ _ _ rfl) ?_
        refine xX11_move_64 ?_
        refine xX11_move_65 ?_
        refine xX11_move_66 (j := (nN c)) (hX.1 _ _ rfl) ecN (by omega) rfl ?_
        refine xX11_move_67 ?_
        refine xX11_move_69 rfl rfl ?_
        first
          | (have q := hQ _ (by rw [moveO, if_pos hw0, if_pos hw1, if_pos (Or.inl c35)]; exact (XO_up (b := 1) (r := 5)) ▸ hE.up) (UF.up (by omega)); rw [moveP, if_pos hw0, if_pos hw1, if_pos (Or.inl c35), ← (hE.2.2.1 _ hcN).2.2.2] at q; exact q)
          | (have q := hQ _ (by rw [moveO, if_pos hw0, if_pos hw1, if_pos (Or.inr c40)]; exact (XO_up (b := 1) (r := 5)) ▸ hE.up) (UF.up (by omega)); rw [moveP, if_pos hw0, if_pos hw1, if_pos (Or.inr c40), ← (hE.2.2.1 _ hcN).2.2.2] at q; exact q)
      · refine xX11_move_38 ?_
        refine xX11_move_39 ?_
        refine xX11_move_40 (fun c40 => ?_) (fun c40 => ?_)
        · refine xX11_move_46 ?_
          refine xX11_move_47 (hX.1 _ _ rfl) (hX.2 _ _ _ rfl) ?_
          refine xX11_move_50 (hX.1 _ _ rfl) (hX.2 _ _ _ rfl) ?_
          refine xX11_move_53 ?_
          refine xX11_move_54 (j := (nN c)) (hX.1 _ _ rfl) ecN (by omega) rfl ?_
          refine xX11_move_55 rfl ?_
          refine xX11_move_57 ?_
          refine xX11_move_58 (hX.1 _ _ rfl) (hX.2 _ _ _ rfl) ?_
          refine xX11_move_61 (hX.1 _ _ rfl) (hX.2 _ _ _ rfl) ?_
          refine xX11_move_64 ?_
          refine xX11_move_65 ?_
          refine xX11_move_66 (j := (nN c)) (hX.1 _ _ rfl) ecN (by omega) rfl ?_
          refine xX11_move_67 ?_
          refine xX11_move_69 rfl rfl ?_
          first
            | (have q := hQ _ (by rw [moveO, if_pos hw0, if_pos hw1, if_pos (Or.inl c35)]; exact (XO_up (b := 1) (r := 5)) ▸ hE.up) (UF.up (by omega)); rw [moveP, if_pos hw0, if_pos hw1, if_pos (Or.inl c35), ← (hE.2.2.1 _ hcN).2.2.2] at q; exact q)
            | (have q := hQ _ (by rw [moveO, if_pos hw0, if_pos hw1, if_pos (Or.inr c40)]; exact (XO_up (b := 1) (r := 5)) ▸ hE.up) (UF.up (by omega)); rw [moveP, if_pos hw0, if_pos hw1, if_pos (Or.inr c40), ← (hE.2.2.1 _ hcN).2.2.2] at q; exact q)
        · refine xX11_move_43 ?_
          refine xX11_move_45 rfl rfl ?_
          have q := hQ g (by rw [moveO, if_pos hw0, if_pos hw1, if_neg (fun z => z.elim c35 c40)]; exact hE) UF.rf
          rw [moveP, if_pos hw0, if_pos hw1, if_neg (fun z => z.elim c35 c40)] at q
          exact q
    · refine xX11_move_18_f (by decide) ?_
      refine xX11_move_21 ?_
      refine xX11_move_23 rfl rfl ?_
      have q := hQ g (by rw [moveO, if_pos hw0, if_neg nw1]; exact hE) UF.rf
      rw [moveP, if_pos hw0, if_neg nw1] at q
      exact q
  · refine xX11_move_5_f (by decide) ?_
    refine xX11_move_8 ?_
    refine xX11_move_10 rfl rfl ?_
    have q := hQ g (by rw [moveO, if_neg nw0]; exact hE) UF.rf
    rw [moveP, if_neg nw0] at q
    exact q
theorem s_X11_cake {d : Nat} {sc : Nat × (Nat → Int32)} {T : List (Nat × Nat)} {rf : Nat → Nat → Option Nat} {g : Nat → Nat → Int32} {nc tc t : Nat} {o : OV} {lws : Nat → Nat → List Int32} {km w p : Int32} {F : Int32 → AH → Prop} (hO : OB T rf g 1 o nc tc lws t) (hQ : ∀ g2 o2 n2, cakeX o nc km w p o2 n2 → OEq (XO g2 1) o2 n2 → UF g g2 → F (cakeP o nc km w p) (T, rf, g2)) : Mok (d + 2) 0 0 sc kX11_cake [.ref 0, .int km, .int w, .int p] (T, rf, g) (Qi F) := by
  obtain ⟨hX, -, hS, hE, hV, hlw, htc⟩ := id hO
  have hn8 : nc ≤ 8 := hV.2.1
  have hcn : g 1 5 = nI nc := hE.1.1.trans hV.1
  refine Mok.ofWp (L := [some (.ref 0), some (.int km), some (.int w), some (.int p), none]) rfl rfl rfl ?_
  refine xX11_cake_0 ?_
  refine xX11_cake_1 ?_
  refine xX11_cake_2 ?_
  refine xX11_cake_4 rfl rfl rfl (s_X11_within  (fun hw0 => ?_) (fun nw0 => ?_))
  · refine xX11_cake_7_f (by decide) ?_
    refine xX11_cake_10 ?_
    refine xX11_cake_11 ?_
    refine xX11_cake_12 ?_
    refine xX11_cake_15 rfl rfl rfl (s_X11_within  (fun hw1 => ?_) (fun nw1 => ?_))
    · refine xX11_cake_18_f (by decide) ?_
      refine xX11_cake_21 ?_
      refine xX11_cake_22 ?_
      refine xX11_cake_23 ?_
      refine xX11_cake_25 rfl rfl rfl (s_X11_within  (fun hw2 => ?_) (fun nw2 => ?_))
      · refine xX11_cake_28_t (by decide) ?_
        refine xX11_cake_34 ?_
        refine xX11_cake_35 (hX.1 _ _ rfl) (hX.2 _ _ _ rfl) ?_
        refine xX11_cake_38 ?_
        refine xX11_cake_39 (hX.1 _ _ rfl) rfl rfl rfl (s_X5_cakeOn (OvT.of hX (Or.inl rfl)) hE hV ?_)
        refine xX11_cake_42 ?_
        refine xX11_cake_43 (fun c43 => ?_) (fun c43 => ?_)
        · refine xX11_cake_49 ?_
          refine xX11_cake_50 (hX.1 _ _ rfl) (hX.2 _ _ _ rfl) ?_
          refine xX11_cake_53 (hX.1 _ _ rfl) ?_
          refine xX11_cake_56 ?_
          rw [hcn]
          refine xX11_cake_58 (fun c58 => ?_) (fun c58 => ?_)
          · have h8 : nc < 8 := by
              rcases Nat.lt_or_ge nc 8 with q | q
              · exact q
              · exact absurd c58 (Int32.not_lt.mpr (nI_le (a := 8) (b := nc) q (by omega)))
            refine xX11_cake_64 ?_
            refine xX11_cake_65 (hX.1 _ _ rfl) (hX.2 _ _ _ rfl) ?_
            refine xX11_cake_68 (hX.1 _ _ rfl) ?_
            rw [hcn]
            refine xX11_cake_71 rfl ?_
            refine xX11_cake_73 ?_
            refine xX11_cake_74 (hX.1 _ _ rfl) (hX.2 _ _ _ rfl) ?_
            refine xX11_cake_77 (hX.1 _ _ rfl) (hX.2 _ _ _ rfl) ?_
            refine xX11_cake_80 ?_
            refine xX11_cake_82 ?_
            refine xX11_cake_83 ?_
            refine xX11_cake_85 (by decide) ?_
            refine xX11_cake_86 (j := nc) (hX.1 _ _ rfl) rfl (by omega) rfl ?_
            refine xX11_cake_87 ?_
            refine xX11_cake_88 (hX.1 _ _ rfl) (hX.2 _ _ _ rfl) ?_
            refine xX11_cake_91 (hX.1 _ _ rfl) (hX.2 _ _ _ rfl) ?_
            refine xX11_cake_94 ?_
            refine xX11_cake_96 ?_
            refine xX11_cake_97 ?_
            refine xX11_cake_99 (by decide) ?_
            refine xX11_cake_100 (j := nc) (hX.1 _ _ rfl) rfl (by omega) rfl ?_
            refine xX11_cake_101 ?_
            refine xX11_cake_102 (hX.1 _ _ rfl) (hX.2 _ _ _ rfl) ?_
            refine xX11_cake_105 (hX.1 _ _ rfl) (hX.2 _ _ _ rfl) ?_
            refine xX11_cake_108 ?_
            refine xX11_cake_110 ?_
            refine xX11_cake_111 (j := nc) (hX.1 _ _ rfl) rfl (by omega) rfl ?_
            refine xX11_cake_112 ?_
            refine xX11_cake_113 (hX.1 _ _ rfl) (hX.2 _ _ _ rfl) ?_
            refine xX11_cake_116 (hX.1 _ _ rfl) (hX.2 _ _ _ rfl) ?_
            refine xX11_cake_119 ?_
            refine xX11_cake_121 ?_
            refine xX11_cake_122 (j := nc) (hX.1 _ _ rfl) rfl (by omega) rfl ?_
            refine xX11_cake_123 ?_
            refine xX11_cake_124 (hX.1 _ _ rfl) (hX.2 _ _ _ rfl) ?_
            refine xX11_cake_127 rfl ?_
            refine xX11_cake_128 (hX.1 _ _ rfl) ?_
            refine xX11_cake_131 ?_
            refine xX11_cake_132 ?_
            refine xX11_cake_133 (hX.1 _ _ rfl) ?_
            refine xX11_cake_136 ?_
            refine xX11_cake_138 rfl rfl ?_
            have e5 : up (up (up (up g (1 + 2) nc (km / 10)) (1 + 3) nc (remI km 10)) (1 + 4) nc w) (1 + 5) nc p 1 5 + 1 = nI (nc + 1) := by
              rw [up_ne (by omega), up_ne (by omega), up_ne (by omega), up_ne (by omega), hcn]; exact nI_1 nc
            have q := hQ (up (up (up (up (up g (1 + 2) nc (km / 10)) (1 + 3) nc (remI km 10)) (1 + 4) nc w) (1 + 5) nc p) 1 5 (up (up (up (up g (1 + 2) nc (km / 10)) (1 + 3) nc (remI km 10)) (1 + 4) nc w) (1 + 5) nc p 1 5 + 1)) _ _ (Or.inl ⟨⟨hw0, hw1, hw2, c43, h8⟩, rfl, rfl⟩) (by
              rw [e5]
              have e : XO (up (up (up (up (up g (1 + 2) nc (km / 10)) (1 + 3) nc (remI km 10)) (1 + 4) nc w) (1 + 5) nc p) (1 + 0) 5 (nI (nc + 1))) 1 = ck (XO g 1) nc (km / 10) (remI km 10) w p := by
                unfold ck
                rw [XO_up, XO_up, XO_up, XO_up, XO_up]
              exact e ▸ OEq_ck hE) (((((UF.up (by omega)).tr (UF.up (by omega))).tr (UF.up (by omega))).tr (UF.up (by omega))).tr (UF.up (by omega)))
            rw [cakeP, if_pos hw0, if_pos hw1, if_pos hw2, if_pos c43, if_pos h8] at q
            exact q
          · have h8 : ¬ nc < 8 := fun q => c58 (nI_lt (a := nc) (b := 8) q (by omega))
            refine xX11_cake_61 ?_
            refine xX11_cake_63 rfl rfl ?_
            have q := hQ g o nc (Or.inr ⟨fun z => h8 z.2.2.2.2, rfl, rfl⟩) hE UF.rf
            rw [cakeP, if_pos hw0, if_pos hw1, if_pos hw2, if_pos c43, if_neg h8] at q
            exact q
        · refine xX11_cake_46 ?_
          refine xX11_cake_48 rfl rfl ?_
          have q := hQ g o nc (Or.inr ⟨fun z => c43 z.2.2.2.1, rfl, rfl⟩) hE UF.rf
          rw [cakeP, if_pos hw0, if_pos hw1, if_pos hw2, if_neg c43] at q
          exact q
      · refine xX11_cake_28_f (by decide) ?_
        refine xX11_cake_31 ?_
        refine xX11_cake_33 rfl rfl ?_
        have q := hQ g o nc (Or.inr ⟨fun z => nw2 z.2.2.1, rfl, rfl⟩) hE UF.rf
        rw [cakeP, if_pos hw0, if_pos hw1, if_neg nw2] at q
        exact q
    · refine xX11_cake_18_t (by decide) ?_
      refine xX11_cake_31 ?_
      refine xX11_cake_33 rfl rfl ?_
      have q := hQ g o nc (Or.inr ⟨fun z => nw1 z.2.1, rfl, rfl⟩) hE UF.rf
      rw [cakeP, if_pos hw0, if_neg nw1] at q
      exact q
  · refine xX11_cake_7_t (by decide) ?_
    refine xX11_cake_31 ?_
    refine xX11_cake_33 rfl rfl ?_
    have q := hQ g o nc (Or.inr ⟨fun z => nw0 z.1, rfl, rfl⟩) hE UF.rf
    rw [cakeP, if_neg nw0] at q
    exact q
