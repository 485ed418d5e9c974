def clr (sh : Nat → Nat → Int32) (s : Nat) (sort n : Int32) : Nat → Nat → Int32 := fun i k => if i = s then (if k = 0 then sort else if k = 1 then n else 0) else sh i k
theorem XH_clr {g g2 : Nat → Nat → Int32} {sh : Nat → Nat → Int32} {s : Nat} {x y : Int32} (h : XH g sh) (ha : g2 (41 + 2 * s) 1 = x) (hb : g2 (41 + 2 * s) 2 = y) (hz : ∀ c, c < 40 → g2 (41 + 2 * s + 1) c = 0) (hc : ∀ q, q ≠ 41 + 2 * s → q ≠ 41 + 2 * s + 1 → g2 q = g q) : XH g2 (clr sh s x y) := by
  intro i hi
  by_cases q : i = s
  · subst q
    refine ⟨?_, ?_, fun k hk => ?_⟩
    · rw [ha]; simp [clr]
    · rw [hb]; simp [clr]
    · rw [hz k hk]; simp [clr]; intro z; omega
  · obtain ⟨h1, h2, h3⟩ := h i hi
    rw [hc _ (by omega) (by omega), hc _ (by omega) (by omega)]
    exact ⟨h1.trans (if_neg q).symm, h2.trans (if_neg q).symm, fun k hk => (h3 k hk).trans (if_neg q).symm⟩
def stC (sh : Nat → Nat → Int32) (s i : Nat) (v : Int32) : Nat → Nat → Int32 := fun a k => if a = s ∧ k = 2 + i then v else sh a k
theorem XH_st {g : Nat → Nat → Int32} {sh : Nat → Nat → Int32} {s i : Nat} {v : Int32} (h : XH g sh) : XH (up g (41 + 2 * s + 1) i v) (stC sh s i v) := by
  intro a ha
  obtain ⟨h1, h2, h3⟩ := h a ha
  refine ⟨?_, ?_, fun k hk => ?_⟩
  · rw [up_ne (by omega), h1]; exact (if_neg (by omega)).symm
  · rw [up_ne (by omega), h2]; exact (if_neg (by omega)).symm
  · by_cases q : a = s ∧ k = i
    · obtain ⟨rfl, rfl⟩ := q
      rw [up_same]; exact (if_pos ⟨rfl, rfl⟩).symm
    · rw [up_ne (by omega), h3 k hk]; exact (if_neg (by omega)).symm
def HF (g g' : Nat → Nat → Int32) : Prop := ∀ a, (a < 41 ∨ 48 < a) → g' a = g a
def sheetP (s sort n : Int32) : Int32 := if 0 ≤ s ∧ s ≤ 3 then (if -1 ≤ sort ∧ sort ≤ 2 then (if sort = -1 then 1 else if 40 < n then -2 else if n < 0 then -14 else 1) else -2) else -2
def sheetS (sh : Nat → Nat → Int32) (s sort n : Int32) : Nat → Nat → Int32 := if 0 ≤ s ∧ s ≤ 3 then (if -1 ≤ sort ∧ sort ≤ 2 then (if sort = -1 then clr sh (nN s) (-1) 0 else if 40 < n then sh else if n < 0 then sh else clr sh (nN s) sort n) else sh) else sh
def cellP (sh : Nat → Nat → Int32) (s i : Int32) : Int32 := if 0 ≤ s ∧ s ≤ 3 then (if sh (nN s) 0 = -1 then -11 else (if 0 ≤ i ∧ i ≤ sh (nN s) 1 - 1 then 1 else -12)) else -2
def cellS (sh : Nat → Nat → Int32) (s i v : Int32) : Nat → Nat → Int32 := if 0 ≤ s ∧ s ≤ 3 then (if sh (nN s) 0 = -1 then sh else (if 0 ≤ i ∧ i ≤ sh (nN s) 1 - 1 then stC sh (nN s) (nN i) (putV (sh (nN s) 0) v) else sh)) else sh
theorem s_X11_image {d : Nat} {sc : Nat × (Nat → Int32)} {T : List (Nat × Nat)} {rf : Nat → Nat → Option Nat} {g : Nat → Nat → Int32} {nc tc t : Nat} {o : OV} {lws : Nat → Nat → List Int32} {F : Int32 → AH → Prop} (hO : OB T rf g 1 o nc tc lws t) (hQ : ∀ g2, OEq (XO g2 17) o nc → g2 0 3 = 1 → (∀ a, a ≠ 0 → (a < 17 ∨ 24 < a) → g2 a = g a) → (∀ k, k ≠ 3 → g2 0 k = g 0 k) → F (nI nc) (T, rf, g2)) : Mok (d + 2) 0 0 sc kX11_image [.ref 0] (T, rf, g) (Qi F) := by
  obtain ⟨hX, -, hS, hE, hV, hlw, htc⟩ := id hO
  have hn8 : nc ≤ 8 := hV.2.1
  have hcn : g 1 5 = nI nc := hE.1.1.trans hV.1
  refine Mok.ofWp (L := [some (.ref 0)]) rfl rfl rfl ?_
  refine xX11_image_0 ?_
  refine xX11_image_1 (hX.1 _ _ rfl) (hX.2 _ _ _ rfl) ?_
  refine xX11_image_4 ?_
  refine xX11_image_5 (hX.1 _ _ rfl) (hX.2 _ _ _ rfl) ?_
  refine xX11_image_8 (hX.1 _ _ rfl) rfl rfl rfl (s_X5_become17 hX (fun g0 he0 hf0 => ?_))
  refine xX11_image_11 ?_
  refine xX11_image_12 ?_
  refine xX11_image_13 (hX.1 _ _ rfl) (Or.inr rfl) ?_
  refine xX11_image_16 ?_
  refine xX11_image_17 (hX.1 _ _ rfl) (hX.2 _ _ _ rfl) ?_
  refine xX11_image_20 (hX.1 _ _ rfl) ?_
  refine xX11_image_23 rfl rfl ?_
  have e5 : up g0 0 3 1 1 5 = nI nc := by rw [up_row (by omega), hf0 1 (by omega)]; exact hcn
  rw [e5]
  exact hQ _ (((he0.le hn8).tr hE).rows (fun r _ => up_row (by omega))) (up_same _ _ _ _) (fun a p q => by rw [up_row p]; exact hf0 a (by omega)) (fun k hk => by rw [up_ne (fun z => hk z.2), hf0 0 (by omega)])
theorem s_X11_back {d : Nat} {sc : Nat × (Nat → Int32)} {T : List (Nat × Nat)} {rf : Nat → Nat → Option Nat} {g : Nat → Nat → Int32} {ko : OV} {kn : Nat} {F : Int32 → AH → Prop} (hX : XS T rf) (hK : g 0 3 ≠ 0 → OEq (XO g 17) ko kn ∧ kn ≤ 8 ∧ ko 0 5 = nI kn) (h0 : g 0 3 = 0 → F (-3) (T, rf, g)) (h1 : g 0 3 ≠ 0 → ∀ g2, OEq (XO g2 1) ko kn → UF g g2 → F (nI kn) (T, rf, g2)) : Mok (d + 2) 0 0 sc kX11_back [.ref 0] (T, rf, g) (Qi F) := by
  refine Mok.ofWp (L := [some (.ref 0)]) rfl rfl rfl ?_
  refine xX11_back_0 ?_
  refine xX11_back_1 (hX.1 _ _ rfl) ?_
  refine xX11_back_4 (fun c4 => ?_) (fun c4 => ?_)
  · refine xX11_back_10 ?_
    refine xX11_back_11 (hX.1 _ _ rfl) (hX.2 _ _ _ rfl) ?_
    refine xX11_back_14 ?_
    refine xX11_back_15 (hX.1 _ _ rfl) (hX.2 _ _ _ rfl) ?_
    refine xX11_back_18 (hX.1 _ _ rfl) rfl rfl rfl (s_X5_become1 hX (fun g0 he0 hf0 => ?_))
    refine xX11_back_21 ?_
    refine xX11_back_22 (hX.1 _ _ rfl) (hX.2 _ _ _ rfl) ?_
    refine xX11_back_25 (hX.1 _ _ rfl) ?_
    refine xX11_back_28 rfl rfl ?_
    obtain ⟨k1, k2, k3⟩ := hK c4
    have e9 := (he0.le k2).tr k1
    rw [show g0 1 5 = nI kn from e9.1.1.trans k3]
    exact h1 c4 _ e9 (fun a ha => hf0 a (by omega))
  · refine xX11_back_7 ?_
    refine xX11_back_9 rfl rfl ?_
    exact h0 c4
theorem s_X11_sheet {d : Nat} {sc : Nat × (Nat → Int32)} {T : List (Nat × Nat)} {rf : Nat → Nat → Option Nat} {g : Nat → Nat → Int32} {s sort n : Int32} {sh : Nat → Nat → Int32} {F : Int32 → AH → Prop} (hX : XS T rf) (hH : XH g sh) (hQ : ∀ g2, XH g2 (sheetS sh s sort n) → HF g g2 → F (sheetP s sort n) (T, rf, g2)) : Mok (d + 1) 0 0 sc kX11_sheet [.ref 0, .int s, .int sort, .int n] (T, rf, g) (Qi F) := by
  refine Mok.ofWp (L := [some (.ref 0), some (.int s), some (.int sort), some (.int n)]) rfl rfl rfl ?_
  refine xX11_sheet_0 ?_
  refine xX11_sheet_1 ?_
  refine xX11_sheet_2 ?_
  refine xX11_sheet_3 rfl rfl rfl (s_X11_within  (fun hw0 => ?_) (fun nw0 => ?_))
  · have hs4 : nN s < 4 := Nat.lt_succ_of_le (inN hw0).2
    refine xX11_sheet_6_f (by decide) ?_
    refine xX11_sheet_9 ?_
    refine xX11_sheet_10 ?_
    refine xX11_sheet_11 ?_
    refine xX11_sheet_12 rfl rfl rfl (s_X11_within  (fun hw1 => ?_) (fun nw1 => ?_))
    · refine xX11_sheet_15_t (by decide) ?_
      refine xX11_sheet_21 ?_
      refine xX11_sheet_22 ?_
      refine xX11_sheet_23 (fun c23 => ?_) (fun c23 => ?_)
      · refine xX11_sheet_39 ?_
        refine xX11_sheet_40 ?_
        refine xX11_sheet_42 (fun c42 => ?_) (fun c42 => ?_)
        · refine xX11_sheet_48 ?_
          refine xX11_sheet_49 (fun c49 => ?_) (fun c49 => ?_)
          · refine xX11_sheet_55 ?_
            refine xX11_sheet_56 (hX.1 _ _ rfl) (hX.2 _ _ _ rfl) ?_
            refine xX11_sheet_59 ?_
            refine xX11_sheet_60 (j := nN s) (hX.1 _ _ rfl) rfl rfl (inN hw0).1 (Nat.lt_succ_of_le (inN hw0).2) rfl (ShT hX (Nat.lt_succ_of_le (inN hw0).2)).2.2.2 ?_
            refine xX11_sheet_61 ?_
            refine xX11_sheet_62 ?_
            refine xX11_sheet_63 (ShT hX hs4).1 rfl rfl rfl (s_X7_become ⟨(ShT hX hs4).1, (ShT hX hs4).2.1, (ShT hX hs4).2.2.1⟩ (fun g2 ha2 hb2 hz2 hc2 => ?_))
            refine xX11_sheet_66 ?_
            refine xX11_sheet_67 rfl rfl ?_
            have q := hQ _ (by rw [sheetS, if_pos hw0, if_pos hw1, if_neg c23, if_neg (Int32.not_lt.mpr c42), if_neg (Int32.not_lt.mpr c49)]; exact XH_clr hH ha2 hb2 hz2 hc2) (fun a ha => hc2 a (by omega) (by omega))
            rw [sheetP, if_pos hw0, if_pos hw1, if_neg c23, if_neg (Int32.not_lt.mpr c42), if_neg (Int32.not_lt.mpr c49)] at q
            exact q
          · refine xX11_sheet_52 ?_
            refine xX11_sheet_54 rfl rfl ?_
            have q := hQ g (by rw [sheetS, if_pos hw0, if_pos hw1, if_neg c23, if_neg (Int32.not_lt.mpr c42), if_pos (Int32.not_le.mp c49)]; exact hH) (fun _ _ => rfl)
            rw [sheetP, if_pos hw0, if_pos hw1, if_neg c23, if_neg (Int32.not_lt.mpr c42), if_pos (Int32.not_le.mp c49)] at q
            exact q
        · refine xX11_sheet_45 ?_
          refine xX11_sheet_47 rfl rfl ?_
          have q := hQ g (by rw [sheetS, if_pos hw0, if_pos hw1, if_neg c23, if_pos (Int32.not_le.mp c42)]; exact hH) (fun _ _ => rfl)
          rw [sheetP, if_pos hw0, if_pos hw1, if_neg c23, if_pos (Int32.not_le.mp c42)] at q
          exact q
      · refine xX11_sheet_26 ?_
        refine xX11_sheet_27 (hX.1 _ _ rfl) (hX.2 _ _ _ rfl) ?_
        refine xX11_sheet_30 ?_
        refine xX11_sheet_31 (j := nN s) (hX.1 _ _ rfl) rfl rfl (inN hw0).1 (Nat.lt_succ_of_le (inN hw0).2) rfl (ShT hX (Nat.lt_succ_of_le (inN hw0).2)).2.2.2 ?_
        refine xX11_sheet_32 ?_
        refine xX11_sheet_33 ?_
        refine xX11_sheet_34 (ShT hX hs4).1 rfl rfl rfl (s_X7_become ⟨(ShT hX hs4).1, (ShT hX hs4).2.1, (ShT hX hs4).2.2.1⟩ (fun g3 ha3 hb3 hz3 hc3 => ?_))
        refine xX11_sheet_37 ?_
        refine xX11_sheet_38 rfl rfl ?_
        have q := hQ _ (by rw [sheetS, if_pos hw0, if_pos hw1, if_pos c23]; exact XH_clr hH ha3 hb3 hz3 hc3) (fun a ha => hc3 a (by omega) (by omega))
        rw [sheetP, if_pos hw0, if_pos hw1, if_pos c23] at q
        exact q
    · refine xX11_sheet_15_f (by decide) ?_
      refine xX11_sheet_18 ?_
      refine xX11_sheet_20 rfl rfl ?_
      have q := hQ g (by rw [sheetS, if_pos hw0, if_neg nw1]; exact hH) (fun _ _ => rfl)
      rw [sheetP, if_pos hw0, if_neg nw1] at q
      exact q
  · refine xX11_sheet_6_t (by decide) ?_
    refine xX11_sheet_18 ?_
    refine xX11_sheet_20 rfl rfl ?_
    have q := hQ g (by rw [sheetS, if_neg nw0]; exact hH) (fun _ _ => rfl)
    rw [sheetP, if_neg nw0] at q
    exact q
theorem s_X11_cell {d : Nat} {sc : Nat × (Nat → Int32)} {T : List (Nat × Nat)} {rf : Nat → Nat → Option Nat} {g : Nat → Nat → Int32} {s i v : Int32} {sh : Nat → Nat → Int32} {F : Int32 → AH → Prop} (hX : XS T rf) (hH : XH g sh) (hz4 : ∀ a, a < 4 → ∃ n, n ≤ 40 ∧ sh a 1 = nI n) (hQ : ∀ g2, XH g2 (cellS sh s i v) → HF g g2 → F (cellP sh s i) (T, rf, g2)) : Mok (d + 1) 0 0 sc kX11_cell [.ref 0, .int s, .int i, .int v] (T, rf, g) (Qi F) := by
  refine Mok.ofWp (L := [some (.ref 0), some (.int s), some (.int i), some (.int v)]) rfl rfl rfl ?_
  refine xX11_cell_0 ?_
  refine xX11_cell_1 ?_
  refine xX11_cell_2 ?_
  refine xX11_cell_3 rfl rfl rfl (s_X11_within  (fun hw0 => ?_) (fun nw0 => ?_))
  · have hs4 : nN s < 4 := Nat.lt_succ_of_le (inN hw0).2
    refine xX11_cell_6_t (by decide) ?_
    refine xX11_cell_12 ?_
    refine xX11_cell_13 (hX.1 _ _ rfl) (hX.2 _ _ _ rfl) ?_
    refine xX11_cell_16 ?_
    refine xX11_cell_17 (j := nN s) (hX.1 _ _ rfl) rfl rfl (inN hw0).1 (Nat.lt_succ_of_le (inN hw0).2) rfl (ShT hX (Nat.lt_succ_of_le (inN hw0).2)).2.2.2 ?_
    refine xX11_cell_18 (ShT hX hs4).1 ?_
    refine xX11_cell_21 ?_
    rw [(hH (nN s) hs4).1]
    refine xX11_cell_22 (fun c22 => ?_) (fun c22 => ?_)
    · refine xX11_cell_28 ?_
      refine xX11_cell_29 ?_
      refine xX11_cell_30 ?_
      refine xX11_cell_31 (hX.1 _ _ rfl) (hX.2 _ _ _ rfl) ?_
      refine xX11_cell_34 ?_
      refine xX11_cell_35 (j := nN s) (hX.1 _ _ rfl) rfl rfl (inN hw0).1 (Nat.lt_succ_of_le (inN hw0).2) rfl (ShT hX (Nat.lt_succ_of_le (inN hw0).2)).2.2.2 ?_
      refine xX11_cell_36 (ShT hX hs4).1 ?_
      rw [(hH (nN s) hs4).2.1]
      refine xX11_cell_39 ?_
      refine xX11_cell_40 ?_
      refine xX11_cell_41 rfl rfl rfl (s_X11_within  (fun hw1 => ?_) (fun nw1 => ?_))
      · refine xX11_cell_44_t (by decide) ?_
        refine xX11_cell_50 ?_
        refine xX11_cell_51 (hX.1 _ _ rfl) (hX.2 _ _ _ rfl) ?_
        refine xX11_cell_54 ?_
        refine xX11_cell_55 (j := nN s) (hX.1 _ _ rfl) rfl rfl (inN hw0).1 (Nat.lt_succ_of_le (inN hw0).2) rfl (ShT hX (Nat.lt_succ_of_le (inN hw0).2)).2.2.2 ?_
        refine xX11_cell_56 ?_
        refine xX11_cell_57 ?_
        obtain ⟨n4, hn4, en4⟩ := hz4 (nN s) hs4
        have hi := inK hw1 en4 (by omega)
        refine xX11_cell_58 (ShT hX hs4).1 rfl rfl rfl (s_X7_put ⟨(ShT hX hs4).1, (ShT hX hs4).2.1, (ShT hX hs4).2.2.1⟩ hi.1 (by omega) ?_)
        refine xX11_cell_61 ?_
        refine xX11_cell_62 rfl rfl ?_
        have q := hQ (up g (41 + 2 * nN s + 1) (nN i) (putV (g (41 + 2 * nN s) 1) v)) (by rw [cellS, if_pos hw0, if_neg c22, if_pos hw1, (hH (nN s) hs4).1]; exact XH_st hH) (fun a ha => up_row (by omega))
        rw [cellP, if_pos hw0, if_neg c22, if_pos hw1] at q
        exact q
      · refine xX11_cell_44_f (by decide) ?_
        refine xX11_cell_47 ?_
        refine xX11_cell_49 rfl rfl ?_
        have q := hQ g (by rw [cellS, if_pos hw0, if_neg c22, if_neg nw1]; exact hH) (fun _ _ => rfl)
        rw [cellP, if_pos hw0, if_neg c22, if_neg nw1] at q
        exact q
    · refine xX11_cell_25 ?_
      refine xX11_cell_27 rfl rfl ?_
      have q := hQ g (by rw [cellS, if_pos hw0, if_pos c22]; exact hH) (fun _ _ => rfl)
      rw [cellP, if_pos hw0, if_pos c22] at q
      exact q
  · refine xX11_cell_6_f (by decide) ?_
    refine xX11_cell_9 ?_
    refine xX11_cell_11 rfl rfl ?_
    have q := hQ g (by rw [cellS, if_neg nw0]; exact hH) (fun _ _ => rfl)
    rw [cellP, if_neg nw0] at q
    exact q
