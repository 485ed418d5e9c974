/-- the reference's sheets -/
def MH (g : Nat → Nat → Int32) (sh : Nat → Nat → Int32) : Prop := ∀ s, s < 4 → g 65 s = sh s 0 ∧ g 66 s = sh s 1 ∧ ∀ k, k < 40 → g 67 (40 * s + k) = sh s (2 + k)
theorem MH.rows {g g' : Nat → Nat → Int32} {sh : Nat → Nat → Int32} (h : MH g sh) (h1 : g' 65 = g 65) (h2 : g' 66 = g 66) (h3 : g' 67 = g 67) : MH g' sh := by
  intro s hs
  rw [h1, h2, h3]
  exact h s hs
theorem MH.mv {g g' : Nat → Nat → Int32} {sh : Nat → Nat → Int32} (h : MH g sh) (hf : MV g g') : MH g' sh := h.rows (hf.1 _ (by omega)) (hf.1 _ (by omega)) (hf.1 _ (by omega))
theorem i40 {c m : Nat} (hc : c < 8) (hm : m ≤ 41) : 40 * nI c + nI m = nI (40 * c + m) := by
  rw [show (40 : Int32) = nI 40 from rfl, nI_mulN (by omega) (by omega) (by omega), nI_add]
theorem UEq_put2 {x y o : OV} {r k r2 k2 nc : Nat} {v w : Int32} (h : UEq x r k o nc) (hw : w = o r2 k2) (hne : ¬ (r2 = r ∧ k2 = k)) (e : OEq y (up (up x r k v) r2 k2 w) nc) : OEq y (up o r k v) nc := by
  have h2 : OEq (up (up x r k v) r2 k2 w) (up (up o r k v) r2 k2 w) nc := (h v).up
  rw [hw, show o r2 k2 = up o r k v r2 k2 from (up_ne hne).symm, up_self] at h2
  rw [hw, show o r2 k2 = up o r k v r2 k2 from (up_ne hne).symm] at e
  exact e.tr h2
theorem UEq_keep {y o : OV} {r k nc : Nat} {v : Int32} (e : OEq y (up o r k v) nc) : UEq y r k o nc := fun w => by
  have := OEq.up (r := r) (k := k) (v := w) e
  rw [up_up] at this
  exact this
theorem upC {x : OV} {r k r2 k2 : Nat} {v w : Int32} (h : r ≠ r2) : up (up x r k v) r2 k2 w = up (up x r2 k2 w) r k v := by
  funext a b
  unfold up
  by_cases q1 : a = r ∧ b = k
  · have q2 : ¬ (a = r2 ∧ b = k2) := fun z => h (q1.1.symm.trans z.1)
    simp only [if_pos q1, if_neg q2]
  · by_cases q2 : a = r2 ∧ b = k2
    · simp only [if_neg q1, if_pos q2]
    · simp only [if_neg q1, if_neg q2]
theorem s_X12_sheetWrong {d : Nat} {sc : Nat × (Nat → Int32)} {T : List (Nat × Nat)} {rf : Nat → Nat → Option Nat} {o : OV} {nc t : Nat} {cs : Nat → List Int32} {g : Nat → Nat → Int32} {s : Int32} {sh : Nat → Nat → Int32} {F : Int32 → AH → Prop} (hC : MC T rf g o nc t cs) (hH : MH g sh) (hQ : F (refS sh nc s) (T, rf, g)) : Mok (d + 1) 0 0 sc kX12_sheetWrong [.ref 53, .int s] (T, rf, g) (Qi F) := by
  obtain ⟨hB, hP⟩ := id hC
  obtain ⟨hM, hE, hV, hlw, ht6, hL⟩ := id hB
  have hn8 := hV.2.1
  have e9 : g 53 1 = nI (nN (o 0 9)) := hE.1.2.2.1.trans hV.tN.1
  have ht40 := hV.tN.2.1
  have hcn0 : g 53 3 = nI nc := hE.1.1.trans hV.1
  refine Mok.ofWp (L := [some (.ref 53), some (.int s)]) rfl rfl rfl ?_
  refine xX12_sheetWrong_0 ?_
  refine xX12_sheetWrong_1 ?_
  refine xX12_sheetWrong_2 ?_
  refine xX12_sheetWrong_3 rfl rfl rfl (s_X12_in  (fun hw0 => ?_) (fun nw0 => ?_))
  · refine xX12_sheetWrong_6_t (by decide) ?_
    refine xX12_sheetWrong_12 ?_
    refine xX12_sheetWrong_13 (hM.1 _ _ rfl) (hM.2 _ _ _ rfl) ?_
    refine xX12_sheetWrong_16 ?_
    refine xX12_sheetWrong_17 (j := (nN s)) (hM.1 _ _ rfl) (inN hw0).1 (Nat.lt_succ_of_le (inN hw0).2) rfl ?_
    have hsh := hH (nN s) (Nat.lt_succ_of_le (inN hw0).2)
    rw [hsh.1]
    refine xX12_sheetWrong_18 ?_
    refine xX12_sheetWrong_19 (fun c19 => ?_) (fun c19 => ?_)
    · refine xX12_sheetWrong_25 ?_
      refine xX12_sheetWrong_26 (hM.1 _ _ rfl) (hM.2 _ _ _ rfl) ?_
      refine xX12_sheetWrong_29 ?_
      refine xX12_sheetWrong_30 (j := (nN s)) (hM.1 _ _ rfl) (inN hw0).1 (Nat.lt_succ_of_le (inN hw0).2) rfl ?_
      rw [hsh.2.1]
      refine xX12_sheetWrong_31 ?_
      refine xX12_sheetWrong_32 (hM.1 _ _ rfl) ?_
      rw [hcn0]
      refine xX12_sheetWrong_35 (fun c35 => ?_) (fun c35 => ?_)
      · refine xX12_sheetWrong_42 ?_
        refine xX12_sheetWrong_44 rfl rfl ?_
        first | (rw [refS, if_neg (fun z => z hw0), if_neg c19, if_pos c35] at hQ; exact hQ) | (rw [refS, if_neg (fun z => z hw0), if_neg c19, if_neg c35] at hQ; exact hQ)
      · refine xX12_sheetWrong_38 ?_
        refine xX12_sheetWrong_39 ?_
        refine xX12_sheetWrong_44 rfl rfl ?_
        first | (rw [refS, if_neg (fun z => z hw0), if_neg c19, if_pos c35] at hQ; exact hQ) | (rw [refS, if_neg (fun z => z hw0), if_neg c19, if_neg c35] at hQ; exact hQ)
    · refine xX12_sheetWrong_22 ?_
      refine xX12_sheetWrong_24 rfl rfl ?_
      rw [refS, if_neg (fun z => z hw0), if_pos c19] at hQ
      exact hQ
  · refine xX12_sheetWrong_6_f (by decide) ?_
    refine xX12_sheetWrong_9 ?_
    refine xX12_sheetWrong_11 rfl rfl ?_
    rw [refS, if_pos nw0] at hQ
    exact hQ
theorem lp_X12_unlike {d : Nat} {sc : Nat × (Nat → Int32)} {T : List (Nat × Nat)} {rf : Nat → Nat → Option Nat} {o : OV} {nc t : Nat} {cs : Nat → List Int32} {g : Nat → Nat → Int32} {s : Int32} {sh : Nat → Nat → Int32} {F : Int32 → AH → Prop} (hC : MC T rf g o nc t cs) (hH : MH g sh) (hR : BRm g o (evL (lwM cs)) nc) (es : s = nI (nN s)) (hs4 : nN s < 4) (hQ : F (fstO (rowS sh s) o (evL (lwM cs)) nc) (T, rf, g)) : ∀ (k j : Nat) (x2 : Int32), (j + k = nc) → (x2 = nI j) → (fstO (rowS sh s) o (evL (lwM cs)) nc = scan (fun c => rowS sh s c ≠ endB o (evL (lwM cs)) c) k j) → Wp (d + 6) 0 0 sc kX12_unlike (Qi F) 6 [some (.ref 53), some (.int s), some (.int x2)] [] (T, rf, g) 0 0 := by
  intro k
  induction k with
  | zero =>
    intro j x2 hj hx2 hsc
    obtain ⟨hB, hP⟩ := id hC
    obtain ⟨hM, hE, hV, hlw, ht6, hL⟩ := id hB
    have hn8 := hV.2.1
    have e9 : g 53 1 = nI (nN (o 0 9)) := hE.1.2.2.1.trans hV.tN.1
    have ht40 := hV.tN.2.1
    have hcn0 : g 53 3 = nI nc := hE.1.1.trans hV.1
    subst hx2
    refine xX12_unlike_6 ?_
    refine xX12_unlike_7 ?_
    refine xX12_unlike_8 (hM.1 _ _ rfl) ?_
    rw [hcn0]
    refine xX12_unlike_11_t (nI_le (by omega) (by omega)) ?_
    refine xX12_unlike_41 ?_
    refine xX12_unlike_42 rfl rfl ?_
    rw [hsc] at hQ
    exact hQ
  | succ k ih =>
    intro j x2 hj hx2 hsc
    obtain ⟨hB, hP⟩ := id hC
    obtain ⟨hM, hE, hV, hlw, ht6, hL⟩ := id hB
    have hn8 := hV.2.1
    have e9 : g 53 1 = nI (nN (o 0 9)) := hE.1.2.2.1.trans hV.tN.1
    have ht40 := hV.tN.2.1
    have hcn0 : g 53 3 = nI nc := hE.1.1.trans hV.1
    subst hx2
    refine xX12_unlike_6 ?_
    refine xX12_unlike_7 ?_
    refine xX12_unlike_8 (hM.1 _ _ rfl) ?_
    rw [hcn0]
    refine xX12_unlike_11_f (nI_ge (by omega) (by omega)) ?_
    refine xX12_unlike_14 ?_
    refine xX12_unlike_15 (hM.1 _ _ rfl) (hM.2 _ _ _ rfl) ?_
    refine xX12_unlike_18 ?_
    refine xX12_unlike_20 ?_
    refine xX12_unlike_21 ?_
    refine xX12_unlike_22 ?_
    refine xX12_unlike_23 ?_
    refine xX12_unlike_24 (j := (40 * nN s + j)) (hM.1 _ _ rfl) ((congrArg (fun z => 40 * z + nI j) es).trans (i40 (by omega) (by omega))) (by omega) rfl ?_
    rw [(hH (nN s) hs4).2.2 j (by omega)]
    refine xX12_unlike_25 ?_
    refine xX12_unlike_26 ?_
    refine xX12_unlike_27 (hM.1 _ _ rfl) rfl rfl rfl (s_X12_endOf hC (cN := j) rfl (by omega) (hR.e (by omega)) ?_)
    refine xX12_unlike_30 (fun c30 => ?_) (fun c30 => ?_)
    · have e : scan (fun c => rowS sh s c ≠ endB o (evL (lwM cs)) c) (k + 1) j = scan (fun c => rowS sh s c ≠ endB o (evL (lwM cs)) c) k (j + 1) := scan_no (p := (fun c => rowS sh s c ≠ endB o (evL (lwM cs)) c)) (fun z => z c30)
      refine xX12_unlike_35 rfl rfl ?_
      refine xX12_unlike_38 ?_
      exact ih (j + 1) _ (by omega) (nI_1 j) (hsc.trans e)
    · have e : scan (fun c => rowS sh s c ≠ endB o (evL (lwM cs)) c) (k + 1) j = nI j := scan_yes (p := (fun c => rowS sh s c ≠ endB o (evL (lwM cs)) c)) c30
      refine xX12_unlike_33 ?_
      refine xX12_unlike_34 rfl rfl ?_
      rw [← e, ← hsc]
      exact hQ
theorem s_X12_unlike {d : Nat} {sc : Nat × (Nat → Int32)} {T : List (Nat × Nat)} {rf : Nat → Nat → Option Nat} {o : OV} {nc t : Nat} {cs : Nat → List Int32} {g : Nat → Nat → Int32} {s : Int32} {sh : Nat → Nat → Int32} {F : Int32 → AH → Prop} (hC : MC T rf g o nc t cs) (hH : MH g sh) (es : s = nI (nN s)) (hs4 : nN s < 4) (hQ : ∀ g2, MZ g g2 → F (fstO (rowS sh s) o (evL (lwM cs)) nc) (T, rf, g2)) : Mok (d + 6) 0 0 sc kX12_unlike [.ref 53, .int s] (T, rf, g) (Qi F) := by
  have hM := hC.1.1
  refine Mok.ofWp (L := [some (.ref 53), some (.int s), none]) rfl rfl rfl ?_
  refine xX12_unlike_0 ?_
  refine xX12_unlike_1 (hM.1 _ _ rfl) rfl rfl rfl (s_X12_bakes hC (fun g0 hm0 hb0 => ?_))
  refine xX12_unlike_4 ?_
  refine xX12_unlike_5 rfl ?_
  exact lp_X12_unlike (hC.mz hm0) (hH.mv hm0.mv) hb0 es hs4 (hQ _ hm0) nc 0 _ (by omega) rfl rfl
theorem s_X12_judge {d : Nat} {sc : Nat × (Nat → Int32)} {T : List (Nat × Nat)} {rf : Nat → Nat → Option Nat} {o : OV} {nc t : Nat} {cs : Nat → List Int32} {g : Nat → Nat → Int32} {s : Int32} {sh : Nat → Nat → Int32} {F : Int32 → AH → Prop} (hC : MC T rf g o nc t cs) (hH : MH g sh) (hQ : ∀ g2, OEq (MOv g2) (o) nc → MV g g2 → F (judgeP sh o nc (evL (lwM cs)) s) (T, rf, g2)) : Mok (d + 7) 0 0 sc kX12_judge [.ref 53, .int s] (T, rf, g) (Qi F) := by
  obtain ⟨hB, hP⟩ := id hC
  obtain ⟨hM, hE, hV, hlw, ht6, hL⟩ := id hB
  have hn8 := hV.2.1
  have e9 : g 53 1 = nI (nN (o 0 9)) := hE.1.2.2.1.trans hV.tN.1
  have ht40 := hV.tN.2.1
  have hcn0 : g 53 3 = nI nc := hE.1.1.trans hV.1
  refine Mok.ofWp (L := [some (.ref 53), some (.int s), none]) rfl rfl rfl ?_
  refine xX12_judge_0 ?_
  refine xX12_judge_1 ?_
  refine xX12_judge_2 (hM.1 _ _ rfl) rfl rfl rfl (s_X12_sheetWrong hC hH ?_)
  refine xX12_judge_5 rfl ?_
  refine xX12_judge_6 ?_
  refine xX12_judge_7 (fun c7 => ?_) (fun c7 => ?_)
  · refine xX12_judge_18 ?_
    refine xX12_judge_19 rfl rfl ?_
    have q := hQ _ (hC.mz (MZ.rf)).1.2.1 (MZ.rf).mv
    rw [judgeP, if_neg c7] at q
    exact q
  · refine xX12_judge_10 ?_
    refine xX12_judge_11 ?_
    refine xX12_judge_12 (hM.1 _ _ rfl) rfl rfl rfl (s_X12_unlike hC hH (refS_0 c7).1 (refS_0 c7).2.1 (fun g1 hm1 => ?_))
    refine xX12_judge_15 ?_
    refine xX12_judge_19 rfl rfl ?_
    have q := hQ _ (hC.mz (hm1)).1.2.1 (hm1).mv
    rw [judgeP, if_pos c7] at q
    exact q
theorem lp_X12_how {d : Nat} {sc : Nat × (Nat → Int32)} {T : List (Nat × Nat)} {rf : Nat → Nat → Option Nat} {o : OV} {nc t : Nat} {cs : Nat → List Int32} {g0 : Nat → Nat → Int32} {s : Int32} {sh : Nat → Nat → Int32} {F : Int32 → AH → Prop} {x2 x3 S : Int32} (hC0 : MC T rf g0 o nc t cs) (hH0 : MH g0 sh) (es : s = nI (nN s)) (hs4 : nN s < 4) (hx3 : x3 = o 0 10) (hQ : ∀ g2, OEq (MOv g2) o nc → MV g0 g2 → F S (T, rf, g2)) : ∀ (k j : Nat) (b x5 : Int32) (g : Nat → Nat → Int32), (j + k = 4) → (x5 = nI j) → (UEq (MOv g) 0 10 o nc) → (MV g0 g) → (bff (fun q => fstO (rowS sh s) (up o 0 10 (nI q)) (evL (lwM cs)) nc) k j b = S) → Wp (d + 7) 0 0 sc kX12_how (Qi F) 23 [some (.ref 53), some (.int s), some (.int x2), some (.int x3), some (.int b), some (.int x5)] [] (T, rf, g) 0 0 := by
  intro k
  induction k with
  | zero =>
    intro j b x5 g hj hx5 hU hf hS
    obtain ⟨hB, hP⟩ := id hC0
    obtain ⟨hM, hE, hV, hlw, ht6, hL⟩ := id hB
    have hn8 := hV.2.1
    have ht40 := hV.tN.2.1
    subst hx5
    refine xX12_how_23 ?_
    refine xX12_how_25 ?_
    refine xX12_how_26_t (nI_le (a := 4) (by omega) (by omega)) ?_
    refine xX12_how_63 ?_
    refine xX12_how_64 ?_
    refine xX12_how_65 (hM.1 _ _ rfl) ?_
    refine xX12_how_68 ?_
    refine xX12_how_70 rfl rfl ?_
    have q := hQ _ (MO_f10.tr (hx3 ▸ hU.back)) (hf.tr (MV.uf (by omega)))
    rw [← hS] at q
    exact q
  | succ k ih =>
    intro j b x5 g hj hx5 hU hf hS
    obtain ⟨hB, hP⟩ := id hC0
    obtain ⟨hM, hE, hV, hlw, ht6, hL⟩ := id hB
    have hn8 := hV.2.1
    have ht40 := hV.tN.2.1
    subst hx5
    refine xX12_how_23 ?_
    refine xX12_how_25 ?_
    refine xX12_how_26_f (nI_ge (b := 4) (by omega) (by omega)) ?_
    refine xX12_how_29 ?_
    refine xX12_how_30 ?_
    refine xX12_how_32 (hM.1 _ _ rfl) ?_
    refine xX12_how_35 ?_
    refine xX12_how_37 ?_
    refine xX12_how_38 ?_
    refine xX12_how_39 (hM.1 _ _ rfl) rfl rfl rfl (s_X12_unlike (mcE hM (MO_f10.tr (hU _)) (OVk_li (q := j) (by omega) hV) (PI_up hP (by omega) (by omega)) (by rw [up_ne (by omega)]; exact hlw) ht6 ((hL.mv hf).mv (MV.uf (by omega)))) ((hH0.mv hf).mv (MV.uf (by omega))) es hs4 (fun g0 hm0 => ?_))
    refine xX12_how_42 ?_
    refine xX12_how_43 (fun cc => ?_) (fun cc => ?_)
    · have e : bff (fun q => fstO (rowS sh s) (up o 0 10 (nI q)) (evL (lwM cs)) nc) (k + 1) j b = bff (fun q => fstO (rowS sh s) (up o 0 10 (nI q)) (evL (lwM cs)) nc) k (j + 1) (b ||| 0) := bff_no (f := (fun q => fstO (rowS sh s) (up o 0 10 (nI q)) (evL (lwM cs)) nc)) cc
      refine xX12_how_53 ?_
      refine xX12_how_54 ?_
      refine xX12_how_55 rfl ?_
      refine xX12_how_57 rfl rfl ?_
      refine xX12_how_60 ?_
      exact ih (j + 1) _ _ _ (by omega) (nI_1 _) (by rw [hm0.mo]; exact UEq_put hU MO_f10) (hf.tr ((MV.uf (by omega)).tr hm0.mv)) (e.symm.trans hS)
    · have e : bff (fun q => fstO (rowS sh s) (up o 0 10 (nI q)) (evL (lwM cs)) nc) (k + 1) j b = bff (fun q => fstO (rowS sh s) (up o 0 10 (nI q)) (evL (lwM cs)) nc) k (j + 1) (b ||| ((1 : Int32) <<< (nI j &&& 31))) := bff_yes (f := (fun q => fstO (rowS sh s) (up o 0 10 (nI q)) (evL (lwM cs)) nc)) cc
      refine xX12_how_46 ?_
      refine xX12_how_47 ?_
      refine xX12_how_49 ?_
      refine xX12_how_50 ?_
      refine xX12_how_54 ?_
      refine xX12_how_55 rfl ?_
      refine xX12_how_57 rfl rfl ?_
      refine xX12_how_60 ?_
      exact ih (j + 1) _ _ _ (by omega) (nI_1 _) (by rw [hm0.mo]; exact UEq_put hU MO_f10) (hf.tr ((MV.uf (by omega)).tr hm0.mv)) (e.symm.trans hS)
theorem s_X12_how {d : Nat} {sc : Nat × (Nat → Int32)} {T : List (Nat × Nat)} {rf : Nat → Nat → Option Nat} {o : OV} {nc t : Nat} {cs : Nat → List Int32} {g : Nat → Nat → Int32} {s : Int32} {sh : Nat → Nat → Int32} {F : Int32 → AH → Prop} (hC : MC T rf g o nc t cs) (hH : MH g sh) (hQ : ∀ g2, OEq (MOv g2) (o) nc → MV g g2 → F (howP sh o nc (evL (lwM cs)) s) (T, rf, g2)) : Mok (d + 7) 0 0 sc kX12_how [.ref 53, .int s] (T, rf, g) (Qi F) := by
  obtain ⟨hB, hP⟩ := id hC
  obtain ⟨hM, hE, hV, hlw, ht6, hL⟩ := id hB
  have hn8 := hV.2.1
  have e9 : g 53 1 = nI (nN (o 0 9)) := hE.1.2.2.1.trans hV.tN.1
  have ht40 := hV.tN.2.1
  have hcn0 : g 53 3 = nI nc := hE.1.1.trans hV.1
  refine Mok.ofWp (L := [some (.ref 53), some (.int s), none, none, none, none]) rfl rfl rfl ?_
  refine xX12_how_0 ?_
  refine xX12_how_1 ?_
  refine xX12_how_2 (hM.1 _ _ rfl) rfl rfl rfl (s_X12_sheetWrong hC hH ?_)
  refine xX12_how_5 rfl ?_
  refine xX12_how_6 ?_
  refine xX12_how_7 (fun c7 => ?_) (fun c7 => ?_)
  · refine xX12_how_12 ?_
    refine xX12_how_13 (hM.1 _ _ rfl) ?_
    refine xX12_how_16 rfl ?_
    refine xX12_how_17 ?_
    refine xX12_how_18 rfl ?_
    refine xX12_how_20 ?_
    refine xX12_how_21 rfl ?_
    refine lp_X12_how hC hH (refS_0 c7).1 (refS_0 c7).2.1 hE.1.2.2.2.1 (fun g2 h1 h2 => ?_) 4 0 _ _ _ (by omega) rfl (UEq.of hE) MV.rf rfl
    have q := hQ _ h1 h2
    rw [howP, if_pos c7] at q
    exact q
  · refine xX12_how_10 ?_
    refine xX12_how_11 rfl rfl ?_
    have q := hQ _ (hC.mz (MZ.rf)).1.2.1 (MZ.rf).mv
    rw [howP, if_neg c7] at q
    exact q
theorem lp_X12_laws {d : Nat} {sc : Nat × (Nat → Int32)} {T : List (Nat × Nat)} {rf : Nat → Nat → Option Nat} {o : OV} {nc t : Nat} {cs : Nat → List Int32} {g0 : Nat → Nat → Int32} {s : Int32} {sh : Nat → Nat → Int32} {F : Int32 → AH → Prop} {x2 x3 S : Int32} {tc : Nat} {css : Nat → Nat → List Int32} (hC0 : MC T rf g0 o nc t cs) (hH0 : MH g0 sh) (es : s = nI (nN s)) (hs4 : nN s < 4) (htc0 : g0 53 15 = nI tc) (htc6 : tc ≤ 6) (hTX : ∀ q, q < tc → ML g0 q (css q)) (hx3 : x3 = o 0 11) (hQ : ∀ g2, OEq (MOv g2) o nc → MV g0 g2 → F S (T, rf, g2)) : ∀ (k j : Nat) (b x5 : Int32) (g : Nat → Nat → Int32), (j + k = tc) → (x5 = nI j) → (UEq (MOv g) 0 11 o nc) → (MV g0 g) → (bff (fun q => fstO (rowS sh s) (up o 0 11 (nI q)) (evL (lwM (css q))) nc) k j b = S) → Wp (d + 7) 0 0 sc kX12_laws (Qi F) 23 [some (.ref 53), some (.int s), some (.int x2), some (.int x3), some (.int b), some (.int x5)] [] (T, rf, g) 0 0 := by
  intro k
  induction k with
  | zero =>
    intro j b x5 g hj hx5 hU hf hS
    obtain ⟨hB, hP⟩ := id hC0
    obtain ⟨hM, hE, hV, hlw, ht6, hL⟩ := id hB
    have hn8 := hV.2.1
    have ht40 := hV.tN.2.1
    subst hx5
    have htc : g 53 15 = nI tc := (hf.2 15 (by omega) (by omega) (by omega) (by omega) (by omega) (by omega) (by omega)).trans htc0
    refine xX12_laws_23 ?_
    refine xX12_laws_25 ?_
    refine xX12_laws_26 (hM.1 _ _ rfl) ?_
    rw [htc]
    refine xX12_laws_29_t (nI_le (by omega) (by omega)) ?_
    refine xX12_laws_66 ?_
    refine xX12_laws_67 ?_
    refine xX12_laws_68 (hM.1 _ _ rfl) ?_
    refine xX12_laws_71 ?_
    refine xX12_laws_73 rfl rfl ?_
    have q := hQ _ (MO_f11.tr (hx3 ▸ hU.back)) (hf.tr (MV.uf (by omega)))
    rw [← hS] at q
    exact q
  | succ k ih =>
    intro j b x5 g hj hx5 hU hf hS
    obtain ⟨hB, hP⟩ := id hC0
    obtain ⟨hM, hE, hV, hlw, ht6, hL⟩ := id hB
    have hn8 := hV.2.1
    have ht40 := hV.tN.2.1
    subst hx5
    have htc : g 53 15 = nI tc := (hf.2 15 (by omega) (by omega) (by omega) (by omega) (by omega) (by omega) (by omega)).trans htc0
    refine xX12_laws_23 ?_
    refine xX12_laws_25 ?_
    refine xX12_laws_26 (hM.1 _ _ rfl) ?_
    rw [htc]
    refine xX12_laws_29_f (nI_ge (by omega) (by omega)) ?_
    refine xX12_laws_32 ?_
    refine xX12_laws_33 ?_
    refine xX12_laws_35 (hM.1 _ _ rfl) ?_
    refine xX12_laws_38 ?_
    refine xX12_laws_40 ?_
    refine xX12_laws_41 ?_
    refine xX12_laws_42 (hM.1 _ _ rfl) rfl rfl rfl (s_X12_unlike (mcE hM (MO_f11.tr (hU _)) (OVk_lw hV) (PI_up hP (by omega) (by omega)) (up_same _ _ _ _) (by omega) (((hTX j (by omega)).mv hf).mv (MV.uf (by omega)))) ((hH0.mv hf).mv (MV.uf (by omega))) es hs4 (fun g0 hm0 => ?_))
    refine xX12_laws_45 ?_
    refine xX12_laws_46 (fun cc => ?_) (fun cc => ?_)
    · have e : bff (fun q => fstO (rowS sh s) (up o 0 11 (nI q)) (evL (lwM (css q))) nc) (k + 1) j b = bff (fun q => fstO (rowS sh s) (up o 0 11 (nI q)) (evL (lwM (css q))) nc) k (j + 1) (b ||| 0) := bff_no (f := (fun q => fstO (rowS sh s) (up o 0 11 (nI q)) (evL (lwM (css q))) nc)) cc
      refine xX12_laws_56 ?_
      refine xX12_laws_57 ?_
      refine xX12_laws_58 rfl ?_
      refine xX12_laws_60 rfl rfl ?_
      refine xX12_laws_63 ?_
      exact ih (j + 1) _ _ _ (by omega) (nI_1 _) (by rw [hm0.mo]; exact UEq_put hU MO_f11) (hf.tr ((MV.uf (by omega)).tr hm0.mv)) (e.symm.trans hS)
    · have e : bff (fun q => fstO (rowS sh s) (up o 0 11 (nI q)) (evL (lwM (css q))) nc) (k + 1) j b = bff (fun q => fstO (rowS sh s) (up o 0 11 (nI q)) (evL (lwM (css q))) nc) k (j + 1) (b ||| ((1 : Int32) <<< (nI j &&& 31))) := bff_yes (f := (fun q => fstO (rowS sh s) (up o 0 11 (nI q)) (evL (lwM (css q))) nc)) cc
      refine xX12_laws_49 ?_
      refine xX12_laws_50 ?_
      refine xX12_laws_52 ?_
      refine xX12_laws_53 ?_
      refine xX12_laws_57 ?_
      refine xX12_laws_58 rfl ?_
      refine xX12_laws_60 rfl rfl ?_
      refine xX12_laws_63 ?_
      exact ih (j + 1) _ _ _ (by omega) (nI_1 _) (by rw [hm0.mo]; exact UEq_put hU MO_f11) (hf.tr ((MV.uf (by omega)).tr hm0.mv)) (e.symm.trans hS)
theorem s_X12_laws {d : Nat} {sc : Nat × (Nat → Int32)} {T : List (Nat × Nat)} {rf : Nat → Nat → Option Nat} {o : OV} {nc t : Nat} {cs : Nat → List Int32} {g : Nat → Nat → Int32} {s : Int32} {sh : Nat → Nat → Int32} {tc : Nat} {css : Nat → Nat → List Int32} {F : Int32 → AH → Prop} (hC : MC T rf g o nc t cs) (hH : MH g sh) (htc : g 53 15 = nI tc) (htc6 : tc ≤ 6) (hTX : ∀ q, q < tc → ML g q (css q)) (hQ : ∀ g2, OEq (MOv g2) (o) nc → MV g g2 → F (lawsP sh o nc tc (fun q => lwM (css q)) s) (T, rf, g2)) : Mok (d + 7) 0 0 sc kX12_laws [.ref 53, .int s] (T, rf, g) (Qi F) := by
  obtain ⟨hB, hP⟩ := id hC
  obtain ⟨hM, hE, hV, hlw, ht6, hL⟩ := id hB
  have hn8 := hV.2.1
  have e9 : g 53 1 = nI (nN (o 0 9)) := hE.1.2.2.1.trans hV.tN.1
  have ht40 := hV.tN.2.1
  have hcn0 : g 53 3 = nI nc := hE.1.1.trans hV.1
  refine Mok.ofWp (L := [some (.ref 53), some (.int s), none, none, none, none]) rfl rfl rfl ?_
  refine xX12_laws_0 ?_
  refine xX12_laws_1 ?_
  refine xX12_laws_2 (hM.1 _ _ rfl) rfl rfl rfl (s_X12_sheetWrong hC hH ?_)
  refine xX12_laws_5 rfl ?_
  refine xX12_laws_6 ?_
  refine xX12_laws_7 (fun c7 => ?_) (fun c7 => ?_)
  · refine xX12_laws_12 ?_
    refine xX12_laws_13 (hM.1 _ _ rfl) ?_
    refine xX12_laws_16 rfl ?_
    refine xX12_laws_17 ?_
    refine xX12_laws_18 rfl ?_
    refine xX12_laws_20 ?_
    refine xX12_laws_21 rfl ?_
    refine lp_X12_laws hC hH (refS_0 c7).1 (refS_0 c7).2.1 htc htc6 hTX hE.1.2.2.2.2 (fun g2 h1 h2 => ?_) tc 0 _ _ _ (by omega) rfl (UEq.of hE) MV.rf rfl
    have q := hQ _ h1 h2
    rw [lawsP, if_pos c7] at q
    exact q
  · refine xX12_laws_10 ?_
    refine xX12_laws_11 rfl rfl ?_
    have q := hQ _ (hC.mz (MZ.rf)).1.2.1 (MZ.rf).mv
    rw [lawsP, if_neg c7] at q
    exact q
theorem lp_X12_kinds0 {d : Nat} {sc : Nat × (Nat → Int32)} {T : List (Nat × Nat)} {rf : Nat → Nat → Option Nat} {o : OV} {nc t : Nat} {cs : Nat → List Int32} {g0 : Nat → Nat → Int32} {s : Int32} {sh : Nat → Nat → Int32} {F : Int32 → AH → Prop} {c x4 x5 x6 S : Int32} (hC0 : MC T rf g0 o nc t cs) (hH0 : MH g0 sh) (es : s = nI (nN s)) (hs4 : nN s < 4) (ecN : c = nI (nN c)) (hcN : nN c < nc) (hx5 : x5 = o 2 (nN c)) (hx6 : x6 = o 3 (nN c)) (hQ : ∀ g2, OEq (MOv g2) o nc → MV g0 g2 → F S (T, rf, g2)) : ∀ (k j : Nat) (b x8 : Int32) (g : Nat → Nat → Int32), (j + k = 6) → (x8 = nI j) → (UEq (MOv g) 2 (nN c) o nc) → (MV g0 g) → (bff (fun q => fstO (rowS sh s) (up o 2 (nN c) (nI q)) (evL (lwM cs)) nc) k j b = S) → Wp (d + 7) 0 0 sc kX12_kinds (Qi F) 60 [some (.ref 53), some (.int s), some (.int c), some (.int 0), some (.int x4), some (.int x5), some (.int x6), some (.int b), some (.int x8)] [] (T, rf, g) 0 0 := by
  intro k
  induction k with
  | zero =>
    intro j b x8 g hj hx8 hU hf hS
    obtain ⟨hB, hP⟩ := id hC0
    obtain ⟨hM, hE, hV, hlw, ht6, hL⟩ := id hB
    have hn8 := hV.2.1
    have ht40 := hV.tN.2.1
    subst hx8
    refine xX12_kinds_60 ?_
    refine xX12_kinds_62 ?_
    refine xX12_kinds_63_f (by decide) ?_
    refine xX12_kinds_66 ?_
    refine xX12_kinds_68 ?_
    refine xX12_kinds_73_t (nI_le (a := 6) (by omega) (by omega)) ?_
    refine xX12_kinds_139 ?_
    refine xX12_kinds_140 (hM.1 _ _ rfl) (hM.2 _ _ _ rfl) ?_
    refine xX12_kinds_143 ?_
    refine xX12_kinds_144 ?_
    refine xX12_kinds_146 (j := (nN c)) (hM.1 _ _ rfl) ecN (by omega) rfl ?_
    refine xX12_kinds_147 ?_
    refine xX12_kinds_148 (hM.1 _ _ rfl) (hM.2 _ _ _ rfl) ?_
    refine xX12_kinds_151 ?_
    refine xX12_kinds_152 ?_
    refine xX12_kinds_154 (j := (nN c)) (hM.1 _ _ rfl) ecN (by omega) rfl ?_
    refine xX12_kinds_155 ?_
    refine xX12_kinds_157 rfl rfl ?_
    have hE9 : OEq (MOv (up (up g 55 (nN c) x5) 56 (nN c) x6)) o nc := by
      have := UEq_put2 (v := o 2 (nN c)) (r2 := 3) (k2 := nN c) hU hx6 (by omega) (y := MOv (up (up g 55 (nN c) x5) 56 (nN c) x6)) (hx5 ▸ (MO_3.tr (OEq.up (r := 3) (k := nN c) MO_2)))
      rw [up_self] at this
      exact this
    have q := hQ _ hE9 (hf.tr ((MV.pu (by omega)).tr (MV.pu (by omega))))
    rw [← hS] at q
    exact q
  | succ k ih =>
    intro j b x8 g hj hx8 hU hf hS
    obtain ⟨hB, hP⟩ := id hC0
    obtain ⟨hM, hE, hV, hlw, ht6, hL⟩ := id hB
    have hn8 := hV.2.1
    have ht40 := hV.tN.2.1
    subst hx8
    refine xX12_kinds_60 ?_
    refine xX12_kinds_62 ?_
    refine xX12_kinds_63_f (by decide) ?_
    refine xX12_kinds_66 ?_
    refine xX12_kinds_68 ?_
    refine xX12_kinds_73_f (nI_ge (b := 6) (by omega) (by omega)) ?_
    refine xX12_kinds_76 ?_
    refine xX12_kinds_77 (hM.1 _ _ rfl) (hM.2 _ _ _ rfl) ?_
    refine xX12_kinds_80 ?_
    refine xX12_kinds_81 ?_
    refine xX12_kinds_82_f (by decide) ?_
    refine xX12_kinds_85 ?_
    refine xX12_kinds_87 ?_
    refine xX12_kinds_92 (j := (nN c)) (hM.1 _ _ rfl) ecN (by omega) rfl ?_
    refine xX12_kinds_93 ?_
    refine xX12_kinds_94 (hM.1 _ _ rfl) (hM.2 _ _ _ rfl) ?_
    refine xX12_kinds_97 ?_
    refine xX12_kinds_98 ?_
    refine xX12_kinds_99 ?_
    refine xX12_kinds_100_t (by decide) ?_
    refine xX12_kinds_108 ?_
    refine xX12_kinds_110 (j := (nN c)) (hM.1 _ _ rfl) ecN (by omega) rfl ?_
    refine xX12_kinds_111 ?_
    refine xX12_kinds_113 ?_
    refine xX12_kinds_114 ?_
    have hE9 : OEq (MOv (up (up g 55 (nN c) (nI j)) 56 (nN c) x6)) (up o 2 (nN c) (nI j)) nc := (UEq_put2 (r2 := 3) (k2 := nN c) hU hx6 (by omega) (MO_3.tr (OEq.up (r := 3) (k := nN c) MO_2)))
    have hf9 : MV g (up (up g 55 (nN c) (nI j)) 56 (nN c) x6) := (MV.pu (by omega)).tr (MV.pu (by omega))
    refine xX12_kinds_115 (hM.1 _ _ rfl) rfl rfl rfl (s_X12_unlike (mcE hM hE9 (OVk_ki (v := j) (by omega) hV) (PI_up hP (by omega) (by omega)) (by rw [up_ne (by omega)]; exact hlw) ht6 ((hL.mv hf).mv hf9)) ((hH0.mv hf).mv hf9) es hs4 (fun g0 hm0 => ?_))
    refine xX12_kinds_118 ?_
    refine xX12_kinds_119 (fun cc => ?_) (fun cc => ?_)
    · have e : bff (fun q => fstO (rowS sh s) (up o 2 (nN c) (nI q)) (evL (lwM cs)) nc) (k + 1) j b = bff (fun q => fstO (rowS sh s) (up o 2 (nN c) (nI q)) (evL (lwM cs)) nc) k (j + 1) (b ||| 0) := bff_no (f := (fun q => fstO (rowS sh s) (up o 2 (nN c) (nI q)) (evL (lwM cs)) nc)) cc
      refine xX12_kinds_129 ?_
      refine xX12_kinds_130 ?_
      refine xX12_kinds_131 rfl ?_
      refine xX12_kinds_133 rfl rfl ?_
      refine xX12_kinds_136 ?_
      exact ih (j + 1) _ _ _ (by omega) (nI_1 _) (by rw [hm0.mo]; exact UEq_keep hE9) (hf.tr (hf9.tr hm0.mv)) (e.symm.trans hS)
    · have e : bff (fun q => fstO (rowS sh s) (up o 2 (nN c) (nI q)) (evL (lwM cs)) nc) (k + 1) j b = bff (fun q => fstO (rowS sh s) (up o 2 (nN c) (nI q)) (evL (lwM cs)) nc) k (j + 1) (b ||| ((1 : Int32) <<< (nI j &&& 31))) := bff_yes (f := (fun q => fstO (rowS sh s) (up o 2 (nN c) (nI q)) (evL (lwM cs)) nc)) cc
      refine xX12_kinds_122 ?_
      refine xX12_kinds_123 ?_
      refine xX12_kinds_125 ?_
      refine xX12_kinds_126 ?_
      refine xX12_kinds_130 ?_
      refine xX12_kinds_131 rfl ?_
      refine xX12_kinds_133 rfl rfl ?_
      refine xX12_kinds_136 ?_
      exact ih (j + 1) _ _ _ (by omega) (nI_1 _) (by rw [hm0.mo]; exact UEq_keep hE9) (hf.tr (hf9.tr hm0.mv)) (e.symm.trans hS)
theorem lp_X12_kinds1 {d : Nat} {sc : Nat × (Nat → Int32)} {T : List (Nat × Nat)} {rf : Nat → Nat → Option Nat} {o : OV} {nc t : Nat} {cs : Nat → List Int32} {g0 : Nat → Nat → Int32} {s : Int32} {sh : Nat → Nat → Int32} {F : Int32 → AH → Prop} {c x4 x5 x6 S : Int32} (hC0 : MC T rf g0 o nc t cs) (hH0 : MH g0 sh) (es : s = nI (nN s)) (hs4 : nN s < 4) (ecN : c = nI (nN c)) (hcN : nN c < nc) (hx5 : x5 = o 2 (nN c)) (hx6 : x6 = o 3 (nN c)) (hQ : ∀ g2, OEq (MOv g2) o nc → MV g0 g2 → F S (T, rf, g2)) : ∀ (k j : Nat) (b x8 : Int32) (g : Nat → Nat → Int32), (j + k = 10) → (x8 = nI j) → (UEq (MOv g) 3 (nN c) o nc) → (MV g0 g) → (bff (fun q => fstO (rowS sh s) (up o 3 (nN c) (nI q)) (evL (lwM cs)) nc) k j b = S) → Wp (d + 7) 0 0 sc kX12_kinds (Qi F) 60 [some (.ref 53), some (.int s), some (.int c), some (.int 1), some (.int x4), some (.int x5), some (.int x6), some (.int b), some (.int x8)] [] (T, rf, g) 0 0 := by
  intro k
  induction k with
  | zero =>
    intro j b x8 g hj hx8 hU hf hS
    obtain ⟨hB, hP⟩ := id hC0
    obtain ⟨hM, hE, hV, hlw, ht6, hL⟩ := id hB
    have hn8 := hV.2.1
    have ht40 := hV.tN.2.1
    subst hx8
    refine xX12_kinds_60 ?_
    refine xX12_kinds_62 ?_
    refine xX12_kinds_63_t (by decide) ?_
    refine xX12_kinds_71 ?_
    refine xX12_kinds_73_t (nI_le (a := 10) (by omega) (by omega)) ?_
    refine xX12_kinds_139 ?_
    refine xX12_kinds_140 (hM.1 _ _ rfl) (hM.2 _ _ _ rfl) ?_
    refine xX12_kinds_143 ?_
    refine xX12_kinds_144 ?_
    refine xX12_kinds_146 (j := (nN c)) (hM.1 _ _ rfl) ecN (by omega) rfl ?_
    refine xX12_kinds_147 ?_
    refine xX12_kinds_148 (hM.1 _ _ rfl) (hM.2 _ _ _ rfl) ?_
    refine xX12_kinds_151 ?_
    refine xX12_kinds_152 ?_
    refine xX12_kinds_154 (j := (nN c)) (hM.1 _ _ rfl) ecN (by omega) rfl ?_
    refine xX12_kinds_155 ?_
    refine xX12_kinds_157 rfl rfl ?_
    have hE9 : OEq (MOv (up (up g 55 (nN c) x5) 56 (nN c) x6)) o nc := by
      have := UEq_put2 (v := o 3 (nN c)) (r2 := 2) (k2 := nN c) hU hx5 (by omega) (y := MOv (up (up g 55 (nN c) x5) 56 (nN c) x6)) (by rw [← upC (r := 2) (r2 := 3) (by omega)]; exact hx6 ▸ (MO_3.tr (OEq.up (r := 3) (k := nN c) MO_2)))
      rw [up_self] at this
      exact this
    have q := hQ _ hE9 (hf.tr ((MV.pu (by omega)).tr (MV.pu (by omega))))
    rw [← hS] at q
    exact q
  | succ k ih =>
    intro j b x8 g hj hx8 hU hf hS
    obtain ⟨hB, hP⟩ := id hC0
    obtain ⟨hM, hE, hV, hlw, ht6, hL⟩ := id hB
    have hn8 := hV.2.1
    have ht40 := hV.tN.2.1
    subst hx8
    refine xX12_kinds_60 ?_
    refine xX12_kinds_62 ?_
    refine xX12_kinds_63_t (by decide) ?_
    refine xX12_kinds_71 ?_
    refine xX12_kinds_73_f (nI_ge (b := 10) (by omega) (by omega)) ?_
    refine xX12_kinds_76 ?_
    refine xX12_kinds_77 (hM.1 _ _ rfl) (hM.2 _ _ _ rfl) ?_
    refine xX12_kinds_80 ?_
    refine xX12_kinds_81 ?_
    refine xX12_kinds_82_t (by decide) ?_
    refine xX12_kinds_90 ?_
    refine xX12_kinds_92 (j := (nN c)) (hM.1 _ _ rfl) ecN (by omega) rfl ?_
    refine xX12_kinds_93 ?_
    refine xX12_kinds_94 (hM.1 _ _ rfl) (hM.2 _ _ _ rfl) ?_
    refine xX12_kinds_97 ?_
    refine xX12_kinds_98 ?_
    refine xX12_kinds_99 ?_
    refine xX12_kinds_100_f (by decide) ?_
    refine xX12_kinds_103 ?_
    refine xX12_kinds_105 ?_
    refine xX12_kinds_110 (j := (nN c)) (hM.1 _ _ rfl) ecN (by omega) rfl ?_
    refine xX12_kinds_111 ?_
    refine xX12_kinds_113 ?_
    refine xX12_kinds_114 ?_
    have hE9 : OEq (MOv (up (up g 55 (nN c) x5) 56 (nN c) (nI j))) (up o 3 (nN c) (nI j)) nc := (UEq_put2 (r2 := 2) (k2 := nN c) hU hx5 (by omega) (by rw [← upC (r := 2) (r2 := 3) (by omega)]; exact (MO_3.tr (OEq.up (r := 3) (k := nN c) MO_2))))
    have hf9 : MV g (up (up g 55 (nN c) x5) 56 (nN c) (nI j)) := (MV.pu (by omega)).tr (MV.pu (by omega))
    refine xX12_kinds_115 (hM.1 _ _ rfl) rfl rfl rfl (s_X12_unlike (mcE hM hE9 (OVk_mo (v := j) (by omega) hV) (PI_up hP (by omega) (by omega)) (by rw [up_ne (by omega)]; exact hlw) ht6 ((hL.mv hf).mv hf9)) ((hH0.mv hf).mv hf9) es hs4 (fun g0 hm0 => ?_))
    refine xX12_kinds_118 ?_
    refine xX12_kinds_119 (fun cc => ?_) (fun cc => ?_)
    · have e : bff (fun q => fstO (rowS sh s) (up o 3 (nN c) (nI q)) (evL (lwM cs)) nc) (k + 1) j b = bff (fun q => fstO (rowS sh s) (up o 3 (nN c) (nI q)) (evL (lwM cs)) nc) k (j + 1) (b ||| 0) := bff_no (f := (fun q => fstO (rowS sh s) (up o 3 (nN c) (nI q)) (evL (lwM cs)) nc)) cc
      refine xX12_kinds_129 ?_
      refine xX12_kinds_130 ?_
      refine xX12_kinds_131 rfl ?_
      refine xX12_kinds_133 rfl rfl ?_
      refine xX12_kinds_136 ?_
      exact ih (j + 1) _ _ _ (by omega) (nI_1 _) (by rw [hm0.mo]; exact UEq_keep hE9) (hf.tr (hf9.tr hm0.mv)) (e.symm.trans hS)
    · have e : bff (fun q => fstO (rowS sh s) (up o 3 (nN c) (nI q)) (evL (lwM cs)) nc) (k + 1) j b = bff (fun q => fstO (rowS sh s) (up o 3 (nN c) (nI q)) (evL (lwM cs)) nc) k (j + 1) (b ||| ((1 : Int32) <<< (nI j &&& 31))) := bff_yes (f := (fun q => fstO (rowS sh s) (up o 3 (nN c) (nI q)) (evL (lwM cs)) nc)) cc
      refine xX12_kinds_122 ?_
      refine xX12_kinds_123 ?_
      refine xX12_kinds_125 ?_
      refine xX12_kinds_126 ?_
      refine xX12_kinds_130 ?_
      refine xX12_kinds_131 rfl ?_
      refine xX12_kinds_133 rfl rfl ?_
      refine xX12_kinds_136 ?_
      exact ih (j + 1) _ _ _ (by omega) (nI_1 _) (by rw [hm0.mo]; exact UEq_keep hE9) (hf.tr (hf9.tr hm0.mv)) (e.symm.trans hS)
theorem s_X12_kinds {d : Nat} {sc : Nat × (Nat → Int32)} {T : List (Nat × Nat)} {rf : Nat → Nat → Option Nat} {o : OV} {nc t : Nat} {cs : Nat → List Int32} {g : Nat → Nat → Int32} {c ss : Int32} {s : Int32} {sh : Nat → Nat → Int32} {F : Int32 → AH → Prop} (hC : MC T rf g o nc t cs) (hH : MH g sh) (hQ : ∀ g2, OEq (MOv g2) (o) nc → MV g g2 → F (kindsP sh o nc (evL (lwM cs)) s c ss) (T, rf, g2)) : Mok (d + 7) 0 0 sc kX12_kinds [.ref 53, .int s, .int c, .int ss] (T, rf, g) (Qi F) := by
  obtain ⟨hB, hP⟩ := id hC
  obtain ⟨hM, hE, hV, hlw, ht6, hL⟩ := id hB
  have hn8 := hV.2.1
  have e9 : g 53 1 = nI (nN (o 0 9)) := hE.1.2.2.1.trans hV.tN.1
  have ht40 := hV.tN.2.1
  have hcn0 : g 53 3 = nI nc := hE.1.1.trans hV.1
  refine Mok.ofWp (L := [some (.ref 53), some (.int s), some (.int c), some (.int ss), none, none, none, none, none]) rfl rfl rfl ?_
  refine xX12_kinds_0 ?_
  refine xX12_kinds_1 ?_
  refine xX12_kinds_2 (hM.1 _ _ rfl) rfl rfl rfl (s_X12_sheetWrong hC hH ?_)
  refine xX12_kinds_5 rfl ?_
  refine xX12_kinds_7 ?_
  refine xX12_kinds_9 (fun c9 => ?_) (fun c9 => ?_)
  · refine xX12_kinds_15 ?_
    refine xX12_kinds_16 ?_
    refine xX12_kinds_17 (hM.1 _ _ rfl) rfl rfl rfl (s_X12_isCake hM hcn0 (fun hw1 => ?_) (fun nw1 => ?_))
    · obtain ⟨ecN, hcN⟩ := isC_N hw1 hn8
      refine xX12_kinds_20_t (by decide) ?_
      refine xX12_kinds_26 ?_
      refine xX12_kinds_27 ?_
      refine xX12_kinds_28 ?_
      refine xX12_kinds_29 rfl rfl rfl (s_X12_in  (fun hw2 => ?_) (fun nw2 => ?_))
      · refine xX12_kinds_32_t (by decide) ?_
        refine xX12_kinds_38 ?_
        refine xX12_kinds_39 (hM.1 _ _ rfl) (hM.2 _ _ _ rfl) ?_
        refine xX12_kinds_42 ?_
        refine xX12_kinds_43 (j := (nN c)) (hM.1 _ _ rfl) ecN (by omega) rfl ?_
        refine xX12_kinds_44 rfl ?_
        refine xX12_kinds_46 ?_
        refine xX12_kinds_47 (hM.1 _ _ rfl) (hM.2 _ _ _ rfl) ?_
        refine xX12_kinds_50 ?_
        refine xX12_kinds_51 (j := (nN c)) (hM.1 _ _ rfl) ecN (by omega) rfl ?_
        refine xX12_kinds_52 rfl ?_
        refine xX12_kinds_54 ?_
        refine xX12_kinds_55 rfl ?_
        refine xX12_kinds_57 ?_
        refine xX12_kinds_58 rfl ?_
        have ew : ss = 0 ∨ ss = 1 := by
          obtain ⟨j, hj, e⟩ := iIn (N := 1) (M := 1) rfl hw2.1 hw2.2
          rcases (by omega : j = 0 ∨ j = 1) with rfl | rfl
          · exact Or.inl e
          · exact Or.inr e
        rcases ew with rfl | rfl
        · (refine lp_X12_kinds0 hC hH (refS_0 c9).1 (refS_0 c9).2.1 ecN hcN (hE.2.2.1 _ hcN).1 (hE.2.2.1 _ hcN).2.1 (fun g2 h1 h2 => ?_) 6 0 _ _ _ (by omega) rfl (UEq.of hE) MV.rf rfl; have q := hQ _ h1 h2; rw [kindsP, if_pos c9, if_pos hw1, if_pos hw2, if_pos rfl] at q; exact q)
        · (refine lp_X12_kinds1 hC hH (refS_0 c9).1 (refS_0 c9).2.1 ecN hcN (hE.2.2.1 _ hcN).1 (hE.2.2.1 _ hcN).2.1 (fun g2 h1 h2 => ?_) 10 0 _ _ _ (by omega) rfl (UEq.of hE) MV.rf rfl; have q := hQ _ h1 h2; rw [kindsP, if_pos c9, if_pos hw1, if_pos hw2, if_neg (by decide)] at q; exact q)
      · refine xX12_kinds_32_f (by decide) ?_
        refine xX12_kinds_35 ?_
        refine xX12_kinds_37 rfl rfl ?_
        have q := hQ _ hE MV.rf
        rw [kindsP, if_pos c9, if_pos hw1, if_neg nw2] at q
        exact q
    · refine xX12_kinds_20_f (by decide) ?_
      refine xX12_kinds_23 ?_
      refine xX12_kinds_25 rfl rfl ?_
      have q := hQ _ hE MV.rf
      rw [kindsP, if_pos c9, if_neg nw1] at q
      exact q
  · refine xX12_kinds_12 ?_
    refine xX12_kinds_14 rfl rfl ?_
    have q := hQ _ (hC.mz (MZ.rf)).1.2.1 (MZ.rf).mv
    rw [kindsP, if_neg c9] at q
    exact q
theorem lp_X12_heats {d : Nat} {sc : Nat × (Nat → Int32)} {T : List (Nat × Nat)} {rf : Nat → Nat → Option Nat} {o : OV} {nc t : Nat} {cs : Nat → List Int32} {g0 : Nat → Nat → Int32} {s : Int32} {sh : Nat → Nat → Int32} {F : Int32 → AH → Prop} {p w x4 x5 : Int32} {S : Int32 × Int32 × Int32} (hC0 : MC T rf g0 o nc t cs) (hH0 : MH g0 sh) (es : s = nI (nN s)) (hs4 : nN s < 4) (ep : p = nI (nN p)) (hp16 : nN p < 16) (hx5 : x5 = o 1 (nN p)) (hQ : ∀ g2, OEq (MOv g2) o nc → MV g0 g2 → F (if w = 0 then S.1 else if w = 1 then S.2.1 else S.2.2) (T, rf, g2)) : ∀ (k j : Nat) (a l h x9 : Int32) (g : Nat → Nat → Int32), (j + k = 100) → (x9 = nI j) → (UEq (MOv g) 1 (nN p) o nc) → (MV g0 g) → (hff (fun q => fstO (rowS sh s) (up o 1 (nN p) (nI q)) (evL (lwM cs)) nc) k j a l h = S) → Wp (d + 7) 0 0 sc kX12_heats (Qi F) 57 [some (.ref 53), some (.int s), some (.int p), some (.int w), some (.int x4), some (.int x5), some (.int a), some (.int l), some (.int h), some (.int x9), none] [] (T, rf, g) 0 0 := by
  intro k
  induction k with
  | zero =>
    intro j a l h x9 g hj hx9 hU hf hS
    obtain ⟨hB, hP⟩ := id hC0
    obtain ⟨hM, hE, hV, hlw, ht6, hL⟩ := id hB
    have hn8 := hV.2.1
    have ht40 := hV.tN.2.1
    subst hx9
    refine xX12_heats_57 ?_
    refine xX12_heats_59 ?_
    refine xX12_heats_61_t (nI_le (a := 100) (by omega) (by omega)) ?_
    refine xX12_heats_143 ?_
    refine xX12_heats_144 (hM.1 _ _ rfl) (hM.2 _ _ _ rfl) ?_
    refine xX12_heats_147 ?_
    refine xX12_heats_148 ?_
    refine xX12_heats_150 (j := (nN p)) (hM.1 _ _ rfl) ep hp16 rfl ?_
    refine xX12_heats_151 ?_
    refine xX12_heats_152 (fun c0 => ?_) (fun c0 => ?_)
    · refine xX12_heats_160 ?_
      refine xX12_heats_161 ?_
      refine xX12_heats_162 (fun cx => ?_) (fun cx => ?_)
      · refine xX12_heats_170 ?_
        refine xX12_heats_172 rfl rfl ?_
        have q := hQ _ (MO_1.tr (hx5 ▸ hU.back)) (hf.tr (MV.pu (by omega)))
        rw [← hS] at q
        first
          | (rw [if_pos c0] at q; exact q)
          | (rw [if_neg c0, if_pos cx] at q; exact q)
          | (rw [if_neg c0, if_neg cx] at q; exact q)
      · refine xX12_heats_165 ?_
        refine xX12_heats_167 ?_
        refine xX12_heats_172 rfl rfl ?_
        have q := hQ _ (MO_1.tr (hx5 ▸ hU.back)) (hf.tr (MV.pu (by omega)))
        rw [← hS] at q
        first
          | (rw [if_pos c0] at q; exact q)
          | (rw [if_neg c0, if_pos cx] at q; exact q)
          | (rw [if_neg c0, if_neg cx] at q; exact q)
    · refine xX12_heats_155 ?_
      refine xX12_heats_157 ?_
      refine xX12_heats_172 rfl rfl ?_
      have q := hQ _ (MO_1.tr (hx5 ▸ hU.back)) (hf.tr (MV.pu (by omega)))
      rw [← hS] at q
      first
        | (rw [if_pos c0] at q; exact q)
        | (rw [if_neg c0, if_pos cx] at q; exact q)
        | (rw [if_neg c0, if_neg cx] at q; exact q)
  | succ k ih =>
    intro j a l h x9 g hj hx9 hU hf hS
    obtain ⟨hB, hP⟩ := id hC0
    obtain ⟨hM, hE, hV, hlw, ht6, hL⟩ := id hB
    have hn8 := hV.2.1
    have ht40 := hV.tN.2.1
    subst hx9
    refine xX12_heats_57 ?_
    refine xX12_heats_59 ?_
    refine xX12_heats_61_f (nI_ge (b := 100) (by omega) (by omega)) ?_
    refine xX12_heats_64 ?_
    refine xX12_heats_65 (hM.1 _ _ rfl) (hM.2 _ _ _ rfl) ?_
    refine xX12_heats_68 ?_
    refine xX12_heats_69 ?_
    refine xX12_heats_71 (j := (nN p)) (hM.1 _ _ rfl) ep hp16 rfl ?_
    refine xX12_heats_72 ?_
    refine xX12_heats_73 ?_
    refine xX12_heats_74 (hM.1 _ _ rfl) rfl rfl rfl (s_X12_unlike (mcE hM (MO_1.tr (hU _)) (OVk_ho (v := j) (by omega) hV) (PI_up hP (by omega) (by omega)) (by rw [up_ne (by omega)]; exact hlw) ht6 ((hL.mv hf).mv (MV.pu (by omega)))) ((hH0.mv hf).mv (MV.pu (by omega))) es hs4 (fun g0 hm0 => ?_))
    refine xX12_heats_77 ?_
    refine xX12_heats_78 (fun cc => ?_) (fun cc => ?_)
    · have e : hff (fun q => fstO (rowS sh s) (up o 1 (nN p) (nI q)) (evL (lwM cs)) nc) (k + 1) j a l h = hff (fun q => fstO (rowS sh s) (up o 1 (nN p) (nI q)) (evL (lwM cs)) nc) k (j + 1) a l h := hff_no (f := (fun q => fstO (rowS sh s) (up o 1 (nN p) (nI q)) (evL (lwM cs)) nc)) cc
      refine xX12_heats_85 ?_
      refine xX12_heats_86 rfl ?_
      refine xX12_heats_88 ?_
      refine xX12_heats_90 ?_
      refine xX12_heats_92_t (by decide) ?_
      refine xX12_heats_99 ?_
      refine xX12_heats_100 ?_
      refine xX12_heats_101 rfl ?_
      refine xX12_heats_103 ?_
      refine xX12_heats_105_t (by decide) ?_
      refine xX12_heats_119 ?_
      refine xX12_heats_121 rfl ?_
      refine xX12_heats_123 ?_
      refine xX12_heats_125_t (by decide) ?_
      refine xX12_heats_133 ?_
      refine xX12_heats_135 rfl ?_
      refine xX12_heats_137 rfl rfl ?_
      refine xX12_heats_140 ?_
      refine wp_kill_10 ?_
      exact ih (j + 1) _ _ _ _ _ (by omega) (nI_1 _) (by rw [hm0.mo]; exact UEq_put hU MO_1) (hf.tr ((MV.pu (by omega)).tr hm0.mv)) (by first | exact e.symm.trans hS | (rw [Int32.add_zero]; exact e.symm.trans hS))
    · have e : hff (fun q => fstO (rowS sh s) (up o 1 (nN p) (nI q)) (evL (lwM cs)) nc) (k + 1) j a l h = hff (fun q => fstO (rowS sh s) (up o 1 (nN p) (nI q)) (evL (lwM cs)) nc) k (j + 1) (a + 1) (if l = -1 then nI j else l) (nI j) := hff_yes (f := (fun q => fstO (rowS sh s) (up o 1 (nN p) (nI q)) (evL (lwM cs)) nc)) cc
      refine xX12_heats_81 ?_
      refine xX12_heats_82 ?_
      refine xX12_heats_86 rfl ?_
      refine xX12_heats_88 ?_
      refine xX12_heats_90 ?_
      refine xX12_heats_92_f (by decide) ?_
      refine xX12_heats_95 ?_
      refine xX12_heats_96 ?_
      refine xX12_heats_100 ?_
      refine xX12_heats_101 rfl ?_
      refine xX12_heats_103 ?_
      refine xX12_heats_105_f (by decide) ?_
      refine xX12_heats_108 ?_
      refine xX12_heats_110 ?_
      refine xX12_heats_111 (fun cl => ?_) (fun cl => ?_)
      · rw [if_neg cl] at e
        refine xX12_heats_119 ?_
        refine xX12_heats_121 rfl ?_
        refine xX12_heats_123 ?_
        refine xX12_heats_125_f (by decide) ?_
        refine xX12_heats_128 ?_
        refine xX12_heats_130 ?_
        refine xX12_heats_135 rfl ?_
        refine xX12_heats_137 rfl rfl ?_
        refine xX12_heats_140 ?_
        refine wp_kill_10 ?_
        exact ih (j + 1) _ _ _ _ _ (by omega) (nI_1 _) (by rw [hm0.mo]; exact UEq_put hU MO_1) (hf.tr ((MV.pu (by omega)).tr hm0.mv)) (by first | exact e.symm.trans hS | (rw [Int32.add_zero]; exact e.symm.trans hS))
      · rw [if_pos cl] at e
        refine xX12_heats_114 ?_
        refine xX12_heats_116 ?_
        refine xX12_heats_121 rfl ?_
        refine xX12_heats_123 ?_
        refine xX12_heats_125_f (by decide) ?_
        refine xX12_heats_128 ?_
        refine xX12_heats_130 ?_
        refine xX12_heats_135 rfl ?_
        refine xX12_heats_137 rfl rfl ?_
        refine xX12_heats_140 ?_
        refine wp_kill_10 ?_
        exact ih (j + 1) _ _ _ _ _ (by omega) (nI_1 _) (by rw [hm0.mo]; exact UEq_put hU MO_1) (hf.tr ((MV.pu (by omega)).tr hm0.mv)) (by first | exact e.symm.trans hS | (rw [Int32.add_zero]; exact e.symm.trans hS))
theorem s_X12_heats {d : Nat} {sc : Nat × (Nat → Int32)} {T : List (Nat × Nat)} {rf : Nat → Nat → Option Nat} {o : OV} {nc t : Nat} {cs : Nat → List Int32} {g : Nat → Nat → Int32} {p w : Int32} {s : Int32} {sh : Nat → Nat → Int32} {F : Int32 → AH → Prop} (hC : MC T rf g o nc t cs) (hH : MH g sh) (hQ : ∀ g2, OEq (MOv g2) (o) nc → MV g g2 → F (heatsP sh o nc (evL (lwM cs)) s p w) (T, rf, g2)) : Mok (d + 7) 0 0 sc kX12_heats [.ref 53, .int s, .int p, .int w] (T, rf, g) (Qi F) := by
  obtain ⟨hB, hP⟩ := id hC
  obtain ⟨hM, hE, hV, hlw, ht6, hL⟩ := id hB
  have hn8 := hV.2.1
  have e9 : g 53 1 = nI (nN (o 0 9)) := hE.1.2.2.1.trans hV.tN.1
  have ht40 := hV.tN.2.1
  have hcn0 : g 53 3 = nI nc := hE.1.1.trans hV.1
  refine Mok.ofWp (L := [some (.ref 53), some (.int s), some (.int p), some (.int w), none, none, none, none, none, none, none]) rfl rfl rfl ?_
  refine xX12_heats_0 ?_
  refine xX12_heats_1 ?_
  refine xX12_heats_2 (hM.1 _ _ rfl) rfl rfl rfl (s_X12_sheetWrong hC hH ?_)
  refine xX12_heats_5 rfl ?_
  refine xX12_heats_7 ?_
  refine xX12_heats_9 (fun c9 => ?_) (fun c9 => ?_)
  · refine xX12_heats_15 ?_
    refine xX12_heats_16 rfl rfl rfl (s_X12_isSpot  (fun hw1 => ?_) (fun nw1 => ?_))
    · refine xX12_heats_19_t (by decide) ?_
      refine xX12_heats_25 ?_
      refine xX12_heats_26 ?_
      refine xX12_heats_27 ?_
      refine xX12_heats_28 rfl rfl rfl (s_X12_in  (fun hw2 => ?_) (fun nw2 => ?_))
      · refine xX12_heats_31_t (by decide) ?_
        refine xX12_heats_37 ?_
        refine xX12_heats_38 (hM.1 _ _ rfl) (hM.2 _ _ _ rfl) ?_
        refine xX12_heats_41 ?_
        refine xX12_heats_42 (j := (nN p)) (hM.1 _ _ rfl) (inN hw1).1 (Nat.lt_succ_of_le (inN hw1).2) rfl ?_
        refine xX12_heats_43 rfl ?_
        refine xX12_heats_45 ?_
        refine xX12_heats_46 rfl ?_
        refine xX12_heats_48 ?_
        refine xX12_heats_49 rfl ?_
        refine xX12_heats_51 ?_
        refine xX12_heats_52 rfl ?_
        refine xX12_heats_54 ?_
        refine xX12_heats_55 rfl ?_
        refine lp_X12_heats hC hH (refS_0 c9).1 (refS_0 c9).2.1 (inN hw1).1 (Nat.lt_succ_of_le (inN hw1).2) (hE.2.1 _ (Nat.lt_succ_of_le (inN hw1).2)) (fun g2 h1 h2 => ?_) 100 0 _ _ _ _ _ (by omega) rfl (UEq.of hE) MV.rf rfl
        have q := hQ _ h1 h2
        rw [heatsP, if_pos c9, if_pos hw1, if_pos hw2] at q
        exact q
      · refine xX12_heats_31_f (by decide) ?_
        refine xX12_heats_34 ?_
        refine xX12_heats_36 rfl rfl ?_
        have q := hQ _ hE MV.rf
        rw [heatsP, if_pos c9, if_pos hw1, if_neg nw2] at q
        exact q
    · refine xX12_heats_19_f (by decide) ?_
      refine xX12_heats_22 ?_
      refine xX12_heats_24 rfl rfl ?_
      have q := hQ _ hE MV.rf
      rw [heatsP, if_pos c9, if_neg nw1] at q
      exact q
  · refine xX12_heats_12 ?_
    refine xX12_heats_14 rfl rfl ?_
    have q := hQ _ (hC.mz (MZ.rf)).1.2.1 (MZ.rf).mv
    rw [heatsP, if_neg c9] at q
    exact q
theorem lp_X12_turned {d : Nat} {sc : Nat × (Nat → Int32)} {T : List (Nat × Nat)} {rf : Nat → Nat → Option Nat} {o : OV} {nc t : Nat} {cs : Nat → List Int32} {g0 : Nat → Nat → Int32} {s : Int32} {sh : Nat → Nat → Int32} {F : Int64 → AH → Prop} {S : Int64} (hC0 : MC T rf g0 o nc t cs) (hH0 : MH g0 sh) (es : s = nI (nN s)) (hs4 : nN s < 4) (hQ : ∀ g2, OEq (MOv g2) o nc → MV g0 g2 → F S (T, rf, g2)) : ∀ (k j : Nat) (b : Int64) (x4 : Int32) (g : Nat → Nat → Int32), (j + k = nN (o 0 9)) → (x4 = nI j) → (PEq (MOv g) o nc) → (KPl g o) → (MV g0 g) → (bfl (fun m => fstO (rowS sh s) (pl o 0 (nI m) 2) (evL (lwM cs)) nc) k j b = S) → Wp (d + 7) 0 0 sc kX12_turned (Ql F) 21 [some (.ref 53), some (.int s), some (.long b), none, some (.int x4)] [] (T, rf, g) 0 0 := by
  intro k
  induction k with
  | zero =>
    intro j b x4 g hj hx4 hU hK hf hS
    obtain ⟨hB, hP⟩ := id hC0
    obtain ⟨hM, hE, hV, hlw, ht6, hL⟩ := id hB
    have hn8 := hV.2.1
    have ht40 := hV.tN.2.1
    subst hx4
    have e9 : g 53 1 = nI (nN (o 0 9)) := (hU.r.1.2.1).trans hV.tN.1
    refine xX12_turned_21 ?_
    refine xX12_turned_23 ?_
    refine xX12_turned_24 (hM.1 _ _ rfl) ?_
    rw [e9]
    refine xX12_turned_27_t (nI_le (by omega) (by omega)) ?_
    refine xX12_turned_64 ?_
    refine xX12_turned_65 (hM.1 _ _ rfl) rfl rfl rfl (s_X12_laysPlan hM hU.r hK (fun g0 he0 hv0 => ?_))
    refine xX12_turned_68 ?_
    refine xX12_turned_69 rfl rfl ?_
    have q := hQ _ he0 (hf.tr hv0)
    rw [← hS] at q
    exact q
  | succ k ih =>
    intro j b x4 g hj hx4 hU hK hf hS
    obtain ⟨hB, hP⟩ := id hC0
    obtain ⟨hM, hE, hV, hlw, ht6, hL⟩ := id hB
    have hn8 := hV.2.1
    have ht40 := hV.tN.2.1
    subst hx4
    have e9 : g 53 1 = nI (nN (o 0 9)) := (hU.r.1.2.1).trans hV.tN.1
    refine xX12_turned_21 ?_
    refine xX12_turned_23 ?_
    refine xX12_turned_24 (hM.1 _ _ rfl) ?_
    rw [e9]
    refine xX12_turned_27_f (nI_ge (by omega) (by omega)) ?_
    refine xX12_turned_30 ?_
    refine xX12_turned_31 ?_
    refine xX12_turned_32 ?_
    refine xX12_turned_34 ?_
    refine xX12_turned_35 (hM.1 _ _ rfl) rfl rfl rfl (s_X12_plans hM (k := 0) rfl (by omega) (fun g0 hp0 hv0 hk0 => ?_))
    refine xX12_turned_38 ?_
    refine xX12_turned_39 ?_
    refine xX12_turned_40 ?_
    have hMC := mcE hM ((hp0 _ _ OEq.rf).tr (hU _ _)) (OVk_pl (m := j) (q := 2) hV (by omega) (by omega)) (PI_pl (nc := nc)) (by rw [pl_lw]; exact hlw) ht6 ((hL.mv hf).mv hv0)
    refine xX12_turned_41 (hM.1 _ _ rfl) rfl rfl rfl (s_X12_unlike hMC ((hH0.mv hf).mv hv0) es hs4 (fun g1 hm1 => ?_))
    refine xX12_turned_44 ?_
    refine xX12_turned_45 (fun cc => ?_) (fun cc => ?_)
    · have e : bfl (fun m => fstO (rowS sh s) (pl o 0 (nI m) 2) (evL (lwM cs)) nc) (k + 1) j b = bfl (fun m => fstO (rowS sh s) (pl o 0 (nI m) 2) (evL (lwM cs)) nc) k (j + 1) (b ||| 0) := bfl_no (f := (fun m => fstO (rowS sh s) (pl o 0 (nI m) 2) (evL (lwM cs)) nc)) cc
      refine xX12_turned_55 ?_
      refine xX12_turned_56 ?_
      refine xX12_turned_57 rfl ?_
      refine xX12_turned_58 rfl rfl ?_
      refine xX12_turned_61 ?_
      exact ih (j + 1) _ _ _ (by omega) (nI_1 _) (by rw [hm1.mo]; exact PEq_pl hU (hp0 _ _ OEq.rf)) ((hk0 _ hK).mz hm1) (hf.tr (hv0.tr hm1.mv)) (e.symm.trans hS)
    · have e : bfl (fun m => fstO (rowS sh s) (pl o 0 (nI m) 2) (evL (lwM cs)) nc) (k + 1) j b = bfl (fun m => fstO (rowS sh s) (pl o 0 (nI m) 2) (evL (lwM cs)) nc) k (j + 1) (b ||| ((1 : Int64) <<< ((nI j).toInt64 &&& 63))) := bfl_yes (f := (fun m => fstO (rowS sh s) (pl o 0 (nI m) 2) (evL (lwM cs)) nc)) cc
      refine xX12_turned_48 ?_
      refine xX12_turned_49 ?_
      refine xX12_turned_51 ?_
      refine xX12_turned_52 ?_
      refine xX12_turned_56 ?_
      refine xX12_turned_57 rfl ?_
      refine xX12_turned_58 rfl rfl ?_
      refine xX12_turned_61 ?_
      exact ih (j + 1) _ _ _ (by omega) (nI_1 _) (by rw [hm1.mo]; exact PEq_pl hU (hp0 _ _ OEq.rf)) ((hk0 _ hK).mz hm1) (hf.tr (hv0.tr hm1.mv)) (e.symm.trans hS)
theorem s_X12_turned {d : Nat} {sc : Nat × (Nat → Int32)} {T : List (Nat × Nat)} {rf : Nat → Nat → Option Nat} {o : OV} {nc t : Nat} {cs : Nat → List Int32} {g : Nat → Nat → Int32} {s : Int32} {sh : Nat → Nat → Int32} {F : Int64 → AH → Prop} (hC : MC T rf g o nc t cs) (hH : MH g sh) (hQ : ∀ g2, OEq (MOv g2) (o) nc → MV g g2 → F (turnedP sh o nc (evL (lwM cs)) s) (T, rf, g2)) : Mok (d + 7) 0 0 sc kX12_turned [.ref 53, .int s] (T, rf, g) (Ql F) := by
  obtain ⟨hB, hP⟩ := id hC
  obtain ⟨hM, hE, hV, hlw, ht6, hL⟩ := id hB
  have hn8 := hV.2.1
  have e9 : g 53 1 = nI (nN (o 0 9)) := hE.1.2.2.1.trans hV.tN.1
  have ht40 := hV.tN.2.1
  have hcn0 : g 53 3 = nI nc := hE.1.1.trans hV.1
  refine Mok.ofWp (L := [some (.ref 53), some (.int s), none, none, none]) rfl rfl rfl ?_
  refine xX12_turned_0 ?_
  refine xX12_turned_1 ?_
  refine xX12_turned_2 (hM.1 _ _ rfl) rfl rfl rfl (s_X12_sheetWrong hC hH ?_)
  refine xX12_turned_5 (fun c5 => ?_) (fun c5 => ?_)
  · refine xX12_turned_12 ?_
    refine xX12_turned_13 rfl ?_
    refine xX12_turned_14 ?_
    refine xX12_turned_15 (hM.1 _ _ rfl) rfl rfl rfl (s_X12_keepsPlan hM hE (fun g1 hk1 he1 hv1 => ?_))
    refine xX12_turned_18 ?_
    refine xX12_turned_19 rfl ?_
    have hC9 := hC.mv he1 hV hP hlw ht6 (hL.mv hv1)
    refine lp_X12_turned hC9 (hH.mv hv1) (refS_0 c5).1 (refS_0 c5).2.1 (fun g2 h1 h2 => ?_) (nN (o 0 9)) 0 _ _ _ (by omega) rfl (PEq.of he1) hk1 MV.rf rfl
    have q := hQ _ h1 (hv1.tr h2)
    rw [turnedP, if_pos c5] at q
    exact q
  · refine xX12_turned_8 ?_
    refine xX12_turned_11 rfl rfl ?_
    have q := hQ _ hE MV.rf
    rw [turnedP, if_neg c5] at q
    exact q
