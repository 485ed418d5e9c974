/-- what the reference's calls leave as it was, but for its oven -/
def MV (g g' : Nat → Nat → Int32) : Prop := (∀ a, (a < 53 ∨ (61 ≤ a ∧ a ≤ 70) ∨ 76 < a) → g' a = g a) ∧ ∀ k, k ≠ 1 → k ≠ 2 → k ≠ 3 → k ≠ 10 → k ≠ 16 → k ≠ 42 → k ≠ 43 → g' 53 k = g 53 k
theorem MV.rf {g : Nat → Nat → Int32} : MV g g := ⟨fun _ _ => rfl, fun _ _ _ _ _ _ _ _ => rfl⟩
theorem MV.tr {g1 g2 g3 : Nat → Nat → Int32} (h1 : MV g1 g2) (h2 : MV g2 g3) : MV g1 g3 := ⟨fun a p => (h2.1 a p).trans (h1.1 a p), fun k a b c d e f i => (h2.2 k a b c d e f i).trans (h1.2 k a b c d e f i)⟩
theorem MZ.mv {g g' : Nat → Nat → Int32} (h : MZ g g') : MV g g' := ⟨fun a p => h a (by omega) (by omega) (by omega), fun k _ _ _ _ _ _ _ => congrFun (h 53 (by omega) (by omega) (by omega)) k⟩
theorem MY.mv {g g' : Nat → Nat → Int32} (h : MY g g') : MV g g' := h.mz.mv
theorem MV.pu {g : Nat → Nat → Int32} {a k : Nat} {v : Int32} (h : (54 ≤ a ∧ a ≤ 60) ∨ (71 ≤ a ∧ a ≤ 76)) : MV g (up g a k v) := ⟨fun _ p => up_row (by omega), fun _ _ _ _ _ _ _ _ => up_ne (by omega)⟩
theorem MV.uf {g : Nat → Nat → Int32} {k : Nat} {v : Int32} (h : k = 1 ∨ k = 2 ∨ k = 3 ∨ k = 10 ∨ k = 16 ∨ k = 42 ∨ k = 43) : MV g (up g 53 k v) := ⟨fun _ p => up_row (by omega), fun _ _ _ _ _ _ _ _ => up_ne (by omega)⟩
theorem ML.mv {g g' : Nat → Nat → Int32} {t : Nat} {cs : Nat → List Int32} (h : ML g t cs) (hf : MV g g') : ML g' t cs := h.keep (hf.1 _ (by omega)) (hf.1 _ (by omega))
/-- another oven, from a thinking call's -/
theorem MC.mv {T : List (Nat × Nat)} {rf : Nat → Nat → Option Nat} {g g' : Nat → Nat → Int32} {o o' : OV} {nc nc' t t' : Nat} {cs cs' : Nat → List Int32} (h : MC T rf g o nc t cs) (hE : OEq (MOv g') o' nc') (hV : OVk o' nc') (hP : PI o') (hl : o' 0 11 = nI t') (ht : t' < 6) (hL : ML g' t' cs') : MC T rf g' o' nc' t' cs' := ⟨⟨h.1.1, hE, hV, hl, ht, hL⟩, hP⟩
theorem MO_1 {g : Nat → Nat → Int32} {k nc : Nat} {v : Int32} : OEq (MOv (up g 54 k v)) (up (MOv g) 1 k v) nc := by
  refine ⟨⟨?_, ?_, ?_, ?_, ?_⟩, fun i _ => ?_, fun c _ => ⟨?_, ?_, ?_, ?_⟩, fun k _ => ⟨?_, ?_⟩⟩ <;> simp [MOv, up]
theorem MO_2 {g : Nat → Nat → Int32} {k nc : Nat} {v : Int32} : OEq (MOv (up g 55 k v)) (up (MOv g) 2 k v) nc := by
  refine ⟨⟨?_, ?_, ?_, ?_, ?_⟩, fun i _ => ?_, fun c _ => ⟨?_, ?_, ?_, ?_⟩, fun k _ => ⟨?_, ?_⟩⟩ <;> simp [MOv, up]
theorem MO_3 {g : Nat → Nat → Int32} {k nc : Nat} {v : Int32} : OEq (MOv (up g 56 k v)) (up (MOv g) 3 k v) nc := by
  refine ⟨⟨?_, ?_, ?_, ?_, ?_⟩, fun i _ => ?_, fun c _ => ⟨?_, ?_, ?_, ?_⟩, fun k _ => ⟨?_, ?_⟩⟩ <;> simp [MOv, up]
theorem MO_4 {g : Nat → Nat → Int32} {k nc : Nat} {v : Int32} : OEq (MOv (up g 57 k v)) (up (MOv g) 4 k v) nc := by
  refine ⟨⟨?_, ?_, ?_, ?_, ?_⟩, fun i _ => ?_, fun c _ => ⟨?_, ?_, ?_, ?_⟩, fun k _ => ⟨?_, ?_⟩⟩ <;> simp [MOv, up]
theorem MO_5 {g : Nat → Nat → Int32} {k nc : Nat} {v : Int32} : OEq (MOv (up g 58 k v)) (up (MOv g) 5 k v) nc := by
  refine ⟨⟨?_, ?_, ?_, ?_, ?_⟩, fun i _ => ?_, fun c _ => ⟨?_, ?_, ?_, ?_⟩, fun k _ => ⟨?_, ?_⟩⟩ <;> simp [MOv, up]
theorem MO_6 {g : Nat → Nat → Int32} {k nc : Nat} {v : Int32} : OEq (MOv (up g 59 k v)) (up (MOv g) 6 k v) nc := by
  refine ⟨⟨?_, ?_, ?_, ?_, ?_⟩, fun i _ => ?_, fun c _ => ⟨?_, ?_, ?_, ?_⟩, fun k _ => ⟨?_, ?_⟩⟩ <;> simp [MOv, up]
theorem MO_7 {g : Nat → Nat → Int32} {k nc : Nat} {v : Int32} : OEq (MOv (up g 60 k v)) (up (MOv g) 7 k v) nc := by
  refine ⟨⟨?_, ?_, ?_, ?_, ?_⟩, fun i _ => ?_, fun c _ => ⟨?_, ?_, ?_, ?_⟩, fun k _ => ⟨?_, ?_⟩⟩ <;> simp [MOv, up]
theorem MO_f9 {g : Nat → Nat → Int32} {nc : Nat} {v : Int32} : OEq (MOv (up g 53 1 v)) (up (MOv g) 0 9 v) nc := by
  refine ⟨⟨?_, ?_, ?_, ?_, ?_⟩, fun i _ => ?_, fun c _ => ⟨?_, ?_, ?_, ?_⟩, fun k _ => ⟨?_, ?_⟩⟩ <;> simp [MOv, up]
theorem MO_f10 {g : Nat → Nat → Int32} {nc : Nat} {v : Int32} : OEq (MOv (up g 53 2 v)) (up (MOv g) 0 10 v) nc := by
  refine ⟨⟨?_, ?_, ?_, ?_, ?_⟩, fun i _ => ?_, fun c _ => ⟨?_, ?_, ?_, ?_⟩, fun k _ => ⟨?_, ?_⟩⟩ <;> simp [MOv, up]
theorem MO_f5 {g : Nat → Nat → Int32} {nc : Nat} {v : Int32} : OEq (MOv (up g 53 3 v)) (up (MOv g) 0 5 v) nc := by
  refine ⟨⟨?_, ?_, ?_, ?_, ?_⟩, fun i _ => ?_, fun c _ => ⟨?_, ?_, ?_, ?_⟩, fun k _ => ⟨?_, ?_⟩⟩ <;> simp [MOv, up]
theorem MO_f8 {g : Nat → Nat → Int32} {nc : Nat} {v : Int32} : OEq (MOv (up g 53 10 v)) (up (MOv g) 0 8 v) nc := by
  refine ⟨⟨?_, ?_, ?_, ?_, ?_⟩, fun i _ => ?_, fun c _ => ⟨?_, ?_, ?_, ?_⟩, fun k _ => ⟨?_, ?_⟩⟩ <;> simp [MOv, up]
theorem MO_f11 {g : Nat → Nat → Int32} {nc : Nat} {v : Int32} : OEq (MOv (up g 53 16 v)) (up (MOv g) 0 11 v) nc := by
  refine ⟨⟨?_, ?_, ?_, ?_, ?_⟩, fun i _ => ?_, fun c _ => ⟨?_, ?_, ?_, ?_⟩, fun k _ => ⟨?_, ?_⟩⟩ <;> simp [MOv, up]
theorem MO_g42 {g : Nat → Nat → Int32} {nc : Nat} {v : Int32} : OEq (MOv (up g 53 42 v)) (MOv g) nc := by
  refine ⟨⟨?_, ?_, ?_, ?_, ?_⟩, fun i _ => ?_, fun c _ => ⟨?_, ?_, ?_, ?_⟩, fun k _ => ⟨?_, ?_⟩⟩ <;> simp [MOv, up]
theorem MO_g43 {g : Nat → Nat → Int32} {nc : Nat} {v : Int32} : OEq (MOv (up g 53 43 v)) (MOv g) nc := by
  refine ⟨⟨?_, ?_, ?_, ?_, ?_⟩, fun i _ => ?_, fun c _ => ⟨?_, ?_, ?_, ?_⟩, fun k _ => ⟨?_, ?_⟩⟩ <;> simp [MOv, up]
theorem s_X12_count {d : Nat} {sc : Nat × (Nat → Int32)} {T : List (Nat × Nat)} {rf : Nat → Nat → Option Nat} {o : OV} {nc t : Nat} {cs : Nat → List Int32} {g : Nat → Nat → Int32} {w tl : Int32} {tc : Nat} {F : Int32 → AH → Prop} (hC : MC T rf g o nc t cs) (htx : g 53 15 = nI tc) (htl : g 53 12 = tl) (hQ : F (countP o nc tc tl w) (T, rf, g)) : Mok d 0 0 sc kX12_count [.ref 53, .int w] (T, rf, g) (Qi F) := by
  obtain ⟨hB, hP⟩ := id hC
  obtain ⟨hM, hE, hV, hlw, ht6, hL⟩ := id hB
  have hn8 := hV.2.1
  have e9 : g 53 1 = nI (nN (o 0 9)) := hE.1.2.2.1.trans hV.tN.1
  have ht40 := hV.tN.2.1
  have hcn0 : g 53 3 = nI nc := hE.1.1.trans hV.1
  refine Mok.ofWp (L := [some (.ref 53), some (.int w)]) rfl rfl rfl ?_
  refine xX12_count_0 ?_
  refine xX12_count_1 (fun c1 => ?_) (fun c1 => ?_) (fun c1 => ?_) (fun c1 => ?_) (fun c1 => ?_) (fun c1 => ?_) (fun c1 => ?_) (fun c1 => ?_)
  · refine xX12_count_44 ?_
    refine xX12_count_45 (hM.1 _ _ rfl) ?_
    refine xX12_count_48 rfl rfl ?_
    subst c1
    rw [show g 53 3 = nI nc from hcn0]
    exact hQ
  · refine xX12_count_49 ?_
    refine xX12_count_50 (hM.1 _ _ rfl) ?_
    refine xX12_count_53 rfl rfl ?_
    subst c1
    rw [show g 53 1 = o 0 9 from hE.1.2.2.1]
    exact hQ
  · refine xX12_count_54 ?_
    refine xX12_count_55 (hM.1 _ _ rfl) ?_
    refine xX12_count_58 rfl rfl ?_
    subst c1
    rw [show g 53 2 = o 0 10 from hE.1.2.2.2.1]
    exact hQ
  · refine xX12_count_59 ?_
    refine xX12_count_60 (hM.1 _ _ rfl) ?_
    refine xX12_count_63 rfl rfl ?_
    subst c1
    rw [show g 53 10 = o 0 8 from hE.1.2.1]
    exact hQ
  · refine xX12_count_64 ?_
    refine xX12_count_65 (hM.1 _ _ rfl) ?_
    refine xX12_count_68 rfl rfl ?_
    subst c1
    rw [show g 53 15 = nI tc from htx]
    exact hQ
  · refine xX12_count_69 ?_
    refine xX12_count_70 (hM.1 _ _ rfl) ?_
    refine xX12_count_73 rfl rfl ?_
    subst c1
    rw [show g 53 16 = o 0 11 from hE.1.2.2.2.2]
    exact hQ
  · refine xX12_count_74 ?_
    refine xX12_count_75 (hM.1 _ _ rfl) ?_
    refine xX12_count_78 rfl rfl ?_
    subst c1
    rw [show g 53 12 = tl from htl]
    exact hQ
  · refine xX12_count_79 ?_
    refine xX12_count_81 rfl rfl ?_
    rw [countP, if_neg (fun z => by subst z; revert c1; decide), if_neg (fun z => by subst z; revert c1; decide), if_neg (fun z => by subst z; revert c1; decide), if_neg (fun z => by subst z; revert c1; decide), if_neg (fun z => by subst z; revert c1; decide), if_neg (fun z => by subst z; revert c1; decide), if_neg (fun z => by subst z; revert c1; decide)] at hQ
    exact hQ
theorem s_X12_set0 {d : Nat} {sc : Nat × (Nat → Int32)} {T : List (Nat × Nat)} {rf : Nat → Nat → Option Nat} {o : OV} {nc t : Nat} {cs : Nat → List Int32} {g : Nat → Nat → Int32} {f v : Int32} {F : Int32 → AH → Prop} (hC : MC T rf g o nc t cs) (hQ : ∀ g2, OEq (MOv g2) (setO o 0 f v) nc → MV g g2 → F (setP o 0 f v) (T, rf, g2)) : Mok (d + 2) 0 0 sc kX12_set [.ref 53, .int 0, .int f, .int v] (T, rf, g) (Qi F) := by
  obtain ⟨hB, hP⟩ := id hC
  obtain ⟨hM, hE, hV, hlw, ht6, hL⟩ := id hB
  have hn8 := hV.2.1
  have e9 : g 53 1 = nI (nN (o 0 9)) := hE.1.2.2.1.trans hV.tN.1
  have ht40 := hV.tN.2.1
  have hcn0 : g 53 3 = nI nc := hE.1.1.trans hV.1
  refine Mok.ofWp (L := [some (.ref 53), some (.int 0), some (.int f), some (.int v), none]) rfl rfl rfl ?_
  refine xX12_set_0 ?_
  refine xX12_set_1 ?_
  refine xX12_set_2 ?_
  refine xX12_set_3 rfl rfl rfl (s_X12_in  (fun hin0 => ?_) (fun hin0 => ?_))
  · refine xX12_set_6_t (by decide) ?_
    refine xX12_set_12 ?_
    refine xX12_set_13_f (by decide) ?_
    refine xX12_set_16 ?_
    refine xX12_set_17 rfl rfl rfl (s_X12_isSpot  (fun hw1 => ?_) (fun nw1 => ?_))
    · refine xX12_set_20_t (by decide) ?_
      refine xX12_set_26 ?_
      refine xX12_set_27 ?_
      refine xX12_set_28 ?_
      refine xX12_set_29_t (by decide) ?_
      refine xX12_set_36 ?_
      refine xX12_set_37 ?_
      refine xX12_set_38_f (by decide) ?_
      refine xX12_set_41 ?_
      refine xX12_set_43 ?_
      refine xX12_set_57 rfl rfl rfl (s_X12_in  (fun hw2 => ?_) (fun nw2 => ?_))
      · refine xX12_set_60_t (by decide) ?_
        refine xX12_set_66 ?_
        refine xX12_set_67_f (by decide) ?_
        refine xX12_set_70 ?_
        refine xX12_set_71 (hM.1 _ _ rfl) (hM.2 _ _ _ rfl) ?_
        refine xX12_set_74 ?_
        refine xX12_set_75 (j := (nN f)) (hM.1 _ _ rfl) (inN hw1).1 (Nat.lt_succ_of_le (inN hw1).2) rfl ?_
        refine xX12_set_76 ?_
        refine xX12_set_95 rfl ?_
        refine xX12_set_97 ?_
        refine xX12_set_98 (fun c98 => ?_) (fun c98 => ?_) (fun c98_0 c98_1 => ?_)
        · refine xX12_set_124 ?_
          refine xX12_set_125 (hM.1 _ _ rfl) (hM.2 _ _ _ rfl) ?_
          refine xX12_set_128 ?_
          refine xX12_set_129 ?_
          refine xX12_set_130 (j := (nN f)) (hM.1 _ _ rfl) (inN hw1).1 (Nat.lt_succ_of_le (inN hw1).2) rfl ?_
          refine xX12_set_131 ?_
          refine xX12_set_147 ?_
          refine xX12_set_149 rfl rfl ?_
          have q := hQ _ (by rw [setO, if_pos rfl, if_pos hw1, if_pos hw2]; exact MO_1.tr hE.up) (MV.pu (by omega))
          rw [setP, if_pos rfl, if_pos hw1, if_pos hw2, ← hE.2.1 (nN f) (Nat.lt_succ_of_le (inN hw1).2)] at q
          exact q
        · exact absurd c98 (by decide)
        · exact absurd rfl c98_0
      · refine xX12_set_60_f (by decide) ?_
        refine xX12_set_63 ?_
        refine xX12_set_65 rfl rfl ?_
        have q := hQ g (by rw [setO, if_pos rfl, if_pos hw1, if_neg nw2]; exact hE) MV.rf
        rw [setP, if_pos rfl, if_pos hw1, if_neg nw2] at q
        exact q
    · refine xX12_set_20_f (by decide) ?_
      refine xX12_set_23 ?_
      refine xX12_set_25 rfl rfl ?_
      have q := hQ g (by rw [setO, if_pos rfl, if_neg nw1]; exact hE) MV.rf
      rw [setP, if_pos rfl, if_neg nw1] at q
      exact q
  · exact absurd (by decide) hin0
theorem s_X12_set1 {d : Nat} {sc : Nat × (Nat → Int32)} {T : List (Nat × Nat)} {rf : Nat → Nat → Option Nat} {o : OV} {nc t : Nat} {cs : Nat → List Int32} {g : Nat → Nat → Int32} {f v : Int32} {F : Int32 → AH → Prop} (hC : MC T rf g o nc t cs) (hQ : ∀ g2, OEq (MOv g2) (setO o 1 f v) nc → MV g g2 → F (setP o 1 f v) (T, rf, g2)) : Mok (d + 2) 0 0 sc kX12_set [.ref 53, .int 1, .int f, .int v] (T, rf, g) (Qi F) := by
  obtain ⟨hB, hP⟩ := id hC
  obtain ⟨hM, hE, hV, hlw, ht6, hL⟩ := id hB
  have hn8 := hV.2.1
  have e9 : g 53 1 = nI (nN (o 0 9)) := hE.1.2.2.1.trans hV.tN.1
  have ht40 := hV.tN.2.1
  have hcn0 : g 53 3 = nI nc := hE.1.1.trans hV.1
  refine Mok.ofWp (L := [some (.ref 53), some (.int 1), some (.int f), some (.int v), none]) rfl rfl rfl ?_
  refine xX12_set_0 ?_
  refine xX12_set_1 ?_
  refine xX12_set_2 ?_
  refine xX12_set_3 rfl rfl rfl (s_X12_in  (fun hin0 => ?_) (fun hin0 => ?_))
  · refine xX12_set_6_t (by decide) ?_
    refine xX12_set_12 ?_
    refine xX12_set_13_t (by decide) ?_
    refine xX12_set_26 ?_
    refine xX12_set_27 ?_
    refine xX12_set_28 ?_
    refine xX12_set_29_f (by decide) ?_
    refine xX12_set_32 ?_
    refine xX12_set_33 ?_
    refine xX12_set_37 ?_
    refine xX12_set_38_t (by decide) ?_
    refine xX12_set_46 ?_
    refine xX12_set_47 ?_
    refine xX12_set_48_f (by decide) ?_
    refine xX12_set_51 ?_
    refine xX12_set_53 ?_
    refine xX12_set_57 rfl rfl rfl (s_X12_in  (fun hw1 => ?_) (fun nw1 => ?_))
    · refine xX12_set_60_t (by decide) ?_
      refine xX12_set_66 ?_
      refine xX12_set_67_t (by decide) ?_
      refine xX12_set_79 ?_
      refine xX12_set_80 ?_
      refine xX12_set_81_f (by decide) ?_
      refine xX12_set_84 ?_
      refine xX12_set_85 (hM.1 _ _ rfl) ?_
      refine xX12_set_88 ?_
      refine xX12_set_95 rfl ?_
      refine xX12_set_97 ?_
      refine xX12_set_98 (fun c98 => ?_) (fun c98 => ?_) (fun c98_0 c98_1 => ?_)
      · exact absurd c98 (by decide)
      · refine xX12_set_134 ?_
        refine xX12_set_135 ?_
        refine xX12_set_136 (hM.1 _ _ rfl) ?_
        refine xX12_set_139 ?_
        refine xX12_set_147 ?_
        refine xX12_set_149 rfl rfl ?_
        have q := hQ _ (by rw [setO, if_neg (by decide), if_pos rfl, if_pos hw1]; exact MO_f9.tr hE.up) (MV.uf (by omega))
        rw [setP, if_neg (by decide), if_pos rfl, if_pos hw1, ← hE.1.2.2.1] at q
        exact q
      · exact absurd rfl c98_1
    · refine xX12_set_60_f (by decide) ?_
      refine xX12_set_63 ?_
      refine xX12_set_65 rfl rfl ?_
      have q := hQ g (by rw [setO, if_neg (by decide), if_pos rfl, if_neg nw1]; exact hE) MV.rf
      rw [setP, if_neg (by decide), if_pos rfl, if_neg nw1] at q
      exact q
  · exact absurd (by decide) hin0
theorem s_X12_set2 {d : Nat} {sc : Nat × (Nat → Int32)} {T : List (Nat × Nat)} {rf : Nat → Nat → Option Nat} {o : OV} {nc t : Nat} {cs : Nat → List Int32} {g : Nat → Nat → Int32} {f v : Int32} {F : Int32 → AH → Prop} (hC : MC T rf g o nc t cs) (hQ : ∀ g2, OEq (MOv g2) (setO o 2 f v) nc → MV g g2 → F (setP o 2 f v) (T, rf, g2)) : Mok (d + 2) 0 0 sc kX12_set [.ref 53, .int 2, .int f, .int v] (T, rf, g) (Qi F) := by
  obtain ⟨hB, hP⟩ := id hC
  obtain ⟨hM, hE, hV, hlw, ht6, hL⟩ := id hB
  have hn8 := hV.2.1
  have e9 : g 53 1 = nI (nN (o 0 9)) := hE.1.2.2.1.trans hV.tN.1
  have ht40 := hV.tN.2.1
  have hcn0 : g 53 3 = nI nc := hE.1.1.trans hV.1
  refine Mok.ofWp (L := [some (.ref 53), some (.int 2), some (.int f), some (.int v), none]) rfl rfl rfl ?_
  refine xX12_set_0 ?_
  refine xX12_set_1 ?_
  refine xX12_set_2 ?_
  refine xX12_set_3 rfl rfl rfl (s_X12_in  (fun hin0 => ?_) (fun hin0 => ?_))
  · refine xX12_set_6_t (by decide) ?_
    refine xX12_set_12 ?_
    refine xX12_set_13_t (by decide) ?_
    refine xX12_set_26 ?_
    refine xX12_set_27 ?_
    refine xX12_set_28 ?_
    refine xX12_set_29_t (by decide) ?_
    refine xX12_set_36 ?_
    refine xX12_set_37 ?_
    refine xX12_set_38_t (by decide) ?_
    refine xX12_set_46 ?_
    refine xX12_set_47 ?_
    refine xX12_set_48_t (by decide) ?_
    refine xX12_set_56 ?_
    refine xX12_set_57 rfl rfl rfl (s_X12_in  (fun hw1 => ?_) (fun nw1 => ?_))
    · refine xX12_set_60_t (by decide) ?_
      refine xX12_set_66 ?_
      refine xX12_set_67_t (by decide) ?_
      refine xX12_set_79 ?_
      refine xX12_set_80 ?_
      refine xX12_set_81_t (by decide) ?_
      refine xX12_set_91 ?_
      refine xX12_set_92 (hM.1 _ _ rfl) ?_
      refine xX12_set_95 rfl ?_
      refine xX12_set_97 ?_
      refine xX12_set_98 (fun c98 => ?_) (fun c98 => ?_) (fun c98_0 c98_1 => ?_)
      · exact absurd c98 (by decide)
      · exact absurd c98 (by decide)
      · refine xX12_set_142 ?_
        refine xX12_set_143 ?_
        refine xX12_set_144 (hM.1 _ _ rfl) ?_
        refine xX12_set_147 ?_
        refine xX12_set_149 rfl rfl ?_
        have q := hQ _ (by rw [setO, if_neg (by decide), if_neg (by decide), if_pos rfl, if_pos hw1]; exact MO_f10.tr hE.up) (MV.uf (by omega))
        rw [setP, if_neg (by decide), if_neg (by decide), if_pos rfl, if_pos hw1, ← hE.1.2.2.2.1] at q
        exact q
    · refine xX12_set_60_f (by decide) ?_
      refine xX12_set_63 ?_
      refine xX12_set_65 rfl rfl ?_
      have q := hQ g (by rw [setO, if_neg (by decide), if_neg (by decide), if_pos rfl, if_neg nw1]; exact hE) MV.rf
      rw [setP, if_neg (by decide), if_neg (by decide), if_pos rfl, if_neg nw1] at q
      exact q
  · exact absurd (by decide) hin0
theorem s_X12_set3 {d : Nat} {sc : Nat × (Nat → Int32)} {T : List (Nat × Nat)} {rf : Nat → Nat → Option Nat} {o : OV} {nc t : Nat} {cs : Nat → List Int32} {g : Nat → Nat → Int32} {w f v : Int32} {F : Int32 → AH → Prop} (hC : MC T rf g o nc t cs) (nw : ¬ (0 ≤ w ∧ w ≤ 2)) (hQ : ∀ g2, OEq (MOv g2) (setO o w f v) nc → MV g g2 → F (setP o w f v) (T, rf, g2)) : Mok (d + 2) 0 0 sc kX12_set [.ref 53, .int w, .int f, .int v] (T, rf, g) (Qi F) := by
  obtain ⟨hB, hP⟩ := id hC
  obtain ⟨hM, hE, hV, hlw, ht6, hL⟩ := id hB
  have hn8 := hV.2.1
  have e9 : g 53 1 = nI (nN (o 0 9)) := hE.1.2.2.1.trans hV.tN.1
  have ht40 := hV.tN.2.1
  have hcn0 : g 53 3 = nI nc := hE.1.1.trans hV.1
  have n0 : ¬ w = 0 := fun z => nw (by rw [z]; decide)
  have n1 : ¬ w = 1 := fun z => nw (by rw [z]; decide)
  have n2 : ¬ w = 2 := fun z => nw (by rw [z]; decide)
  refine Mok.ofWp (L := [some (.ref 53), some (.int w), some (.int f), some (.int v), none]) rfl rfl rfl ?_
  refine xX12_set_0 ?_
  refine xX12_set_1 ?_
  refine xX12_set_2 ?_
  refine xX12_set_3 rfl rfl rfl (s_X12_in  (fun hw0 => ?_) (fun nx0 => ?_))
  · exact absurd hw0 nw
  · refine xX12_set_6_f (by decide) ?_
    refine xX12_set_9 ?_
    refine xX12_set_11 rfl rfl ?_
    have q := hQ g (by rw [setO, if_neg n0, if_neg n1, if_neg n2]; exact hE) MV.rf
    rw [setP, if_neg n0, if_neg n1, if_neg n2] at q
    exact q
theorem s_X12_set {d : Nat} {sc : Nat × (Nat → Int32)} {T : List (Nat × Nat)} {rf : Nat → Nat → Option Nat} {o : OV} {nc t : Nat} {cs : Nat → List Int32} {g : Nat → Nat → Int32} {w f v : Int32} {F : Int32 → AH → Prop} (hC : MC T rf g o nc t cs) (hQ : ∀ g2, OEq (MOv g2) (setO o w f v) nc → MV g g2 → F (setP o w f v) (T, rf, g2)) : Mok (d + 2) 0 0 sc kX12_set [.ref 53, .int w, .int f, .int v] (T, rf, g) (Qi F) := by
  by_cases hw : 0 ≤ w ∧ w ≤ 2
  · obtain ⟨j, hj, rfl⟩ := iIn (N := 2) (M := 2) rfl hw.1 hw.2
    rcases (by omega : j = 0 ∨ j = 1 ∨ j = 2) with rfl | rfl | rfl
    · exact s_X12_set0 hC hQ
    · exact s_X12_set1 hC hQ
    · exact s_X12_set2 hC hQ
  · exact s_X12_set3 hC hw hQ
theorem s_X12_hot {d : Nat} {sc : Nat × (Nat → Int32)} {T : List (Nat × Nat)} {rf : Nat → Nat → Option Nat} {o : OV} {nc t : Nat} {cs : Nat → List Int32} {g : Nat → Nat → Int32} {p : Int32} {F : Int32 → AH → Prop} (hC : MC T rf g o nc t cs) (hQ : F (hotP o p) (T, rf, g)) : Mok (d + 2) 0 0 sc kX12_hot [.ref 53, .int p] (T, rf, g) (Qi F) := by
  obtain ⟨hB, hP⟩ := id hC
  obtain ⟨hM, hE, hV, hlw, ht6, hL⟩ := id hB
  have hn8 := hV.2.1
  have e9 : g 53 1 = nI (nN (o 0 9)) := hE.1.2.2.1.trans hV.tN.1
  have ht40 := hV.tN.2.1
  have hcn0 : g 53 3 = nI nc := hE.1.1.trans hV.1
  refine Mok.ofWp (L := [some (.ref 53), some (.int p)]) rfl rfl rfl ?_
  refine xX12_hot_0 ?_
  refine xX12_hot_1 rfl rfl rfl (s_X12_isSpot  (fun hw0 => ?_) (fun nw0 => ?_))
  · refine xX12_hot_4_f (by decide) ?_
    refine xX12_hot_7 ?_
    refine xX12_hot_8 (hM.1 _ _ rfl) (hM.2 _ _ _ rfl) ?_
    refine xX12_hot_11 ?_
    refine xX12_hot_12 (j := (nN p)) (hM.1 _ _ rfl) (inN hw0).1 (Nat.lt_succ_of_le (inN hw0).2) rfl ?_
    refine xX12_hot_13 ?_
    refine xX12_hot_18 rfl rfl ?_
    rw [hotP, if_pos hw0, ← hE.2.1 (nN p) (Nat.lt_succ_of_le (inN hw0).2)] at hQ
    exact hQ
  · refine xX12_hot_4_t (by decide) ?_
    refine xX12_hot_16 ?_
    refine xX12_hot_18 rfl rfl ?_
    rw [hotP, if_neg nw0] at hQ
    exact hQ
theorem s_X12_spot {d : Nat} {sc : Nat × (Nat → Int32)} {T : List (Nat × Nat)} {rf : Nat → Nat → Option Nat} {g : Nat → Nat → Int32} {p q : Int32} {F : Int32 → AH → Prop} (hQ : F (spotP p q) (T, rf, g)) : Mok (d + 2) 0 0 sc kX12_spot [.ref 53, .int p, .int q] (T, rf, g) (Qi F) := by
  refine Mok.ofWp (L := [some (.ref 53), some (.int p), some (.int q)]) rfl rfl rfl ?_
  refine xX12_spot_0 ?_
  refine xX12_spot_1 rfl rfl rfl (s_X12_isSpot  (fun hw0 => ?_) (fun nw0 => ?_))
  · refine xX12_spot_4_f (by decide) ?_
    refine xX12_spot_7 ?_
    refine xX12_spot_8 ?_
    refine xX12_spot_9 ?_
    refine xX12_spot_10 rfl rfl rfl (s_X12_in  (fun hw1 => ?_) (fun nw1 => ?_))
    · refine xX12_spot_13_f (by decide) ?_
      refine xX12_spot_16 ?_
      refine xX12_spot_17 ?_
      refine xX12_spot_18 rfl rfl rfl (s_X12_over (inN hw0).1 (Nat.lt_succ_of_le (inN hw0).2) (inN hw1).1 (Nat.lt_succ_of_le (inN hw1).2) ?_)
      refine xX12_spot_21 ?_
      refine xX12_spot_26 rfl rfl ?_
      rw [spotP, if_pos hw0, if_pos hw1] at hQ
      exact hQ
    · refine xX12_spot_13_t (by decide) ?_
      refine xX12_spot_24 ?_
      refine xX12_spot_26 rfl rfl ?_
      rw [spotP, if_pos hw0, if_neg nw1] at hQ
      exact hQ
  · refine xX12_spot_4_t (by decide) ?_
    refine xX12_spot_24 ?_
    refine xX12_spot_26 rfl rfl ?_
    rw [spotP, if_neg nw0] at hQ
    exact hQ
theorem s_X12_force {d : Nat} {sc : Nat × (Nat → Int32)} {T : List (Nat × Nat)} {rf : Nat → Nat → Option Nat} {o : OV} {nc t : Nat} {cs : Nat → List Int32} {g : Nat → Nat → Int32} {v : Int32} {tc : Nat} {F : Int32 → AH → Prop} (hC : MC T rf g o nc t cs) (htx : g 53 15 = nI tc) (hQ : ∀ g2, OEq (MOv g2) (forceO o tc v) nc → MV g g2 → F (forceP o tc v) (T, rf, g2)) : Mok (d + 1) 0 0 sc kX12_force [.ref 53, .int v] (T, rf, g) (Qi F) := by
  obtain ⟨hB, hP⟩ := id hC
  obtain ⟨hM, hE, hV, hlw, ht6, hL⟩ := id hB
  have hn8 := hV.2.1
  have e9 : g 53 1 = nI (nN (o 0 9)) := hE.1.2.2.1.trans hV.tN.1
  have ht40 := hV.tN.2.1
  have hcn0 : g 53 3 = nI nc := hE.1.1.trans hV.1
  refine Mok.ofWp (L := [some (.ref 53), some (.int v), none]) rfl rfl rfl ?_
  refine xX12_force_0 ?_
  refine xX12_force_1 ?_
  refine xX12_force_2 ?_
  refine xX12_force_3 (hM.1 _ _ rfl) ?_
  rw [htx]
  refine xX12_force_6 ?_
  refine xX12_force_7 ?_
  refine xX12_force_8 rfl rfl rfl (s_X12_in  (fun hw0 => ?_) (fun nw0 => ?_))
  · refine xX12_force_11_t (by decide) ?_
    refine xX12_force_17 ?_
    refine xX12_force_18 (hM.1 _ _ rfl) ?_
    refine xX12_force_21 rfl ?_
    refine xX12_force_22 ?_
    refine xX12_force_23 ?_
    refine xX12_force_24 (hM.1 _ _ rfl) ?_
    refine xX12_force_27 ?_
    refine xX12_force_28 rfl rfl ?_
    have q := hQ _ (by rw [forceO, if_pos hw0]; exact MO_f11.tr hE.up) (MV.uf (by omega))
    rw [forceP, if_pos hw0, ← hE.1.2.2.2.2] at q
    exact q
  · refine xX12_force_11_f (by decide) ?_
    refine xX12_force_14 ?_
    refine xX12_force_16 rfl rfl ?_
    have q := hQ g (by rw [forceO, if_neg nw0]; exact hE) MV.rf
    rw [forceP, if_neg nw0] at q
    exact q
theorem s_X12_move {d : Nat} {sc : Nat × (Nat → Int32)} {T : List (Nat × Nat)} {rf : Nat → Nat → Option Nat} {o : OV} {nc t : Nat} {cs : Nat → List Int32} {g : Nat → Nat → Int32} {c p : Int32} {F : Int32 → AH → Prop} (hC : MC T rf g o nc t cs) (hQ : ∀ g2, OEq (MOv g2) (moveO o nc c p) nc → MV g g2 → F (moveP o nc c p) (T, rf, g2)) : Mok (d + 2) 0 0 sc kX12_move [.ref 53, .int c, .int p] (T, rf, g) (Qi F) := by
  obtain ⟨hB, hP⟩ := id hC
  obtain ⟨hM, hE, hV, hlw, ht6, hL⟩ := id hB
  have hn8 := hV.2.1
  have e9 : g 53 1 = nI (nN (o 0 9)) := hE.1.2.2.1.trans hV.tN.1
  have ht40 := hV.tN.2.1
  have hcn0 : g 53 3 = nI nc := hE.1.1.trans hV.1
  refine Mok.ofWp (L := [some (.ref 53), some (.int c), some (.int p), none, none]) rfl rfl rfl ?_
  refine xX12_move_0 ?_
  refine xX12_move_1 ?_
  refine xX12_move_2 (hM.1 _ _ rfl) rfl rfl rfl (s_X12_isCake hM hcn0 (fun hw0 => ?_) (fun nw0 => ?_))
  · obtain ⟨ecN, hcN⟩ := isC_N hw0 hn8
    refine xX12_move_5_t (by decide) ?_
    refine xX12_move_11 ?_
    refine xX12_move_12 rfl rfl rfl (s_X12_isSpot  (fun hw1 => ?_) (fun nw1 => ?_))
    · refine xX12_move_15_t (by decide) ?_
      refine xX12_move_21 ?_
      refine xX12_move_22 ?_
      refine xX12_move_23 (hM.1 _ _ rfl) rfl rfl rfl (s_X12_whoOn hB ?_)
      refine xX12_move_26 rfl ?_
      refine xX12_move_27 ?_
      refine xX12_move_28 ?_
      refine xX12_move_29 (fun c29 => ?_) (fun c29 => ?_)
      · refine xX12_move_40 ?_
        refine xX12_move_41 (hM.1 _ _ rfl) (hM.2 _ _ _ rfl) ?_
        refine xX12_move_44 ?_
        refine xX12_move_45 (j := (nN c)) (hM.1 _ _ rfl) ecN (by omega) rfl ?_
        refine xX12_move_46 rfl ?_
        refine xX12_move_48 ?_
        refine xX12_move_49 (hM.1 _ _ rfl) (hM.2 _ _ _ rfl) ?_
        refine xX12_move_52 ?_
        refine xX12_move_53 ?_
        refine xX12_move_54 (j := (nN c)) (hM.1 _ _ rfl) ecN (by omega) rfl ?_
        refine xX12_move_55 ?_
        refine xX12_move_57 rfl rfl ?_
        first
          | (have q := hQ _ (by rw [moveO, if_pos hw0, if_pos hw1, if_pos (Or.inl c29)]; exact MO_5.tr hE.up) (MV.pu (by omega)); rw [moveP, if_pos hw0, if_pos hw1, if_pos (Or.inl c29), ← (hE.2.2.1 _ hcN).2.2.2] at q; exact q)
          | (have q := hQ _ (by rw [moveO, if_pos hw0, if_pos hw1, if_pos (Or.inr c34)]; exact MO_5.tr hE.up) (MV.pu (by omega)); rw [moveP, if_pos hw0, if_pos hw1, if_pos (Or.inr c34), ← (hE.2.2.1 _ hcN).2.2.2] at q; exact q)
      · refine xX12_move_32 ?_
        refine xX12_move_33 ?_
        refine xX12_move_34 (fun c34 => ?_) (fun c34 => ?_)
        · refine xX12_move_40 ?_
          refine xX12_move_41 (hM.1 _ _ rfl) (hM.2 _ _ _ rfl) ?_
          refine xX12_move_44 ?_
          refine xX12_move_45 (j := (nN c)) (hM.1 _ _ rfl) ecN (by omega) rfl ?_
          refine xX12_move_46 rfl ?_
          refine xX12_move_48 ?_
          refine xX12_move_49 (hM.1 _ _ rfl) (hM.2 _ _ _ rfl) ?_
          refine xX12_move_52 ?_
          refine xX12_move_53 ?_
          refine xX12_move_54 (j := (nN c)) (hM.1 _ _ rfl) ecN (by omega) rfl ?_
          refine xX12_move_55 ?_
          refine xX12_move_57 rfl rfl ?_
          first
            | (have q := hQ _ (by rw [moveO, if_pos hw0, if_pos hw1, if_pos (Or.inl c29)]; exact MO_5.tr hE.up) (MV.pu (by omega)); rw [moveP, if_pos hw0, if_pos hw1, if_pos (Or.inl c29), ← (hE.2.2.1 _ hcN).2.2.2] at q; exact q)
            | (have q := hQ _ (by rw [moveO, if_pos hw0, if_pos hw1, if_pos (Or.inr c34)]; exact MO_5.tr hE.up) (MV.pu (by omega)); rw [moveP, if_pos hw0, if_pos hw1, if_pos (Or.inr c34), ← (hE.2.2.1 _ hcN).2.2.2] at q; exact q)
        · refine xX12_move_37 ?_
          refine xX12_move_39 rfl rfl ?_
          have q := hQ g (by rw [moveO, if_pos hw0, if_pos hw1, if_neg (fun z => z.elim c29 c34)]; exact hE) MV.rf
          rw [moveP, if_pos hw0, if_pos hw1, if_neg (fun z => z.elim c29 c34)] at q
          exact q
    · refine xX12_move_15_f (by decide) ?_
      refine xX12_move_18 ?_
      refine xX12_move_20 rfl rfl ?_
      have q := hQ g (by rw [moveO, if_pos hw0, if_neg nw1]; exact hE) MV.rf
      rw [moveP, if_pos hw0, if_neg nw1] at q
      exact q
  · refine xX12_move_5_f (by decide) ?_
    refine xX12_move_8 ?_
    refine xX12_move_10 rfl rfl ?_
    have q := hQ g (by rw [moveO, if_neg nw0]; exact hE) MV.rf
    rw [moveP, if_neg nw0] at q
    exact q
theorem s_X12_told {d : Nat} {sc : Nat × (Nat → Int32)} {T : List (Nat × Nat)} {rf : Nat → Nat → Option Nat} {o : OV} {nc t : Nat} {cs : Nat → List Int32} {g : Nat → Nat → Int32} {c w : Int32} {F : Int32 → AH → Prop} (hC : MC T rf g o nc t cs) (hQ : F (toldP o nc c w) (T, rf, g)) : Mok (d + 2) 0 0 sc kX12_told [.ref 53, .int c, .int w] (T, rf, g) (Qi F) := by
  obtain ⟨hB, hP⟩ := id hC
  obtain ⟨hM, hE, hV, hlw, ht6, hL⟩ := id hB
  have hn8 := hV.2.1
  have e9 : g 53 1 = nI (nN (o 0 9)) := hE.1.2.2.1.trans hV.tN.1
  have ht40 := hV.tN.2.1
  have hcn0 : g 53 3 = nI nc := hE.1.1.trans hV.1
  refine Mok.ofWp (L := [some (.ref 53), some (.int c), some (.int w)]) rfl rfl rfl ?_
  refine xX12_told_0 ?_
  refine xX12_told_1 ?_
  refine xX12_told_2 (hM.1 _ _ rfl) rfl rfl rfl (s_X12_isCake hM hcn0 (fun hw0 => ?_) (fun nw0 => ?_))
  · obtain ⟨ecN, hcN⟩ := isC_N hw0 hn8
    refine xX12_told_5_t (by decide) ?_
    refine xX12_told_11 ?_
    refine xX12_told_12 (fun c12 => ?_) (fun c12 => ?_) (fun c12 => ?_) (fun c12 => ?_) (fun c12 => ?_) (fun c12 => ?_)
    · refine xX12_told_48 ?_
      refine xX12_told_49 (hM.1 _ _ rfl) (hM.2 _ _ _ rfl) ?_
      refine xX12_told_52 ?_
      refine xX12_told_53 (j := (nN c)) (hM.1 _ _ rfl) ecN (by omega) rfl ?_
      refine xX12_told_54 rfl rfl ?_
      subst c12
      rw [toldP, if_pos hw0, if_pos rfl, ← (hE.2.2.1 _ hcN).1] at hQ
      exact hQ
    · refine xX12_told_55 ?_
      refine xX12_told_56 (hM.1 _ _ rfl) (hM.2 _ _ _ rfl) ?_
      refine xX12_told_59 ?_
      refine xX12_told_60 (j := (nN c)) (hM.1 _ _ rfl) ecN (by omega) rfl ?_
      refine xX12_told_61 rfl rfl ?_
      subst c12
      rw [toldP, if_pos hw0, if_neg (by decide), if_pos rfl, ← (hE.2.2.1 _ hcN).2.1] at hQ
      exact hQ
    · refine xX12_told_62 ?_
      refine xX12_told_63 (hM.1 _ _ rfl) (hM.2 _ _ _ rfl) ?_
      refine xX12_told_66 ?_
      refine xX12_told_67 (j := (nN c)) (hM.1 _ _ rfl) ecN (by omega) rfl ?_
      refine xX12_told_68 rfl rfl ?_
      subst c12
      rw [toldP, if_pos hw0, if_neg (by decide), if_neg (by decide), if_pos rfl, ← (hE.2.2.1 _ hcN).2.2.1] at hQ
      exact hQ
    · refine xX12_told_69 ?_
      refine xX12_told_70 (hM.1 _ _ rfl) (hM.2 _ _ _ rfl) ?_
      refine xX12_told_73 ?_
      refine xX12_told_74 (j := (nN c)) (hM.1 _ _ rfl) ecN (by omega) rfl ?_
      refine xX12_told_75 rfl rfl ?_
      subst c12
      rw [toldP, if_pos hw0, if_neg (by decide), if_neg (by decide), if_neg (by decide), if_pos rfl, ← (hE.2.2.1 _ hcN).2.2.2] at hQ
      exact hQ
    · refine xX12_told_76 ?_
      refine xX12_told_77 ?_
      refine xX12_told_78 (hM.1 _ _ rfl) rfl rfl rfl (s_X12_beginsAt hB ecN hcN ?_)
      refine xX12_told_81 rfl rfl ?_
      subst c12
      rw [toldP, if_pos hw0, if_neg (by decide), if_neg (by decide), if_neg (by decide), if_neg (by decide), if_pos rfl] at hQ
      exact hQ
    · refine xX12_told_82 ?_
      refine xX12_told_84 rfl rfl ?_
      rw [toldP, if_pos hw0, if_neg (fun z => by subst z; revert c12; decide), if_neg (fun z => by subst z; revert c12; decide), if_neg (fun z => by subst z; revert c12; decide), if_neg (fun z => by subst z; revert c12; decide), if_neg (fun z => by subst z; revert c12; decide)] at hQ
      exact hQ
  · refine xX12_told_5_f (by decide) ?_
    refine xX12_told_8 ?_
    refine xX12_told_10 rfl rfl ?_
    rw [toldP, if_neg nw0] at hQ
    exact hQ
