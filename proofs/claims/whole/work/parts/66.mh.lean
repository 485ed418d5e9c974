/-- the reference's image -/
def IMg (g : Nat → Nat → Int32) (ko : OV) (kn : Nat) : Prop := (g 53 18 = nI kn ∧ g 53 19 = ko 0 8 ∧ g 53 20 = ko 0 9 ∧ g 53 21 = ko 0 10 ∧ g 53 22 = ko 0 11) ∧ (∀ i, i < 16 → g 64 i = ko 1 i) ∧ (∀ c, c < kn → g 64 (16 + c) = ko 5 c) ∧ ∀ k, k < 6 → g 64 (24 + k) = ko 6 k ∧ g 64 (30 + k) = ko 7 k
/-- beside the image nothing -/
def MIm (g g' : Nat → Nat → Int32) : Prop := (∀ a, a ≠ 53 → a ≠ 64 → g' a = g a) ∧ ∀ k, k < 17 ∨ 22 < k → g' 53 k = g 53 k
theorem MIm.mo {g g' : Nat → Nat → Int32} {nc : Nat} (h : MIm g g') : OEq (MOv g') (MOv g) nc := by
  refine ⟨⟨h.2 _ (by omega), h.2 _ (by omega), h.2 _ (by omega), h.2 _ (by omega), h.2 _ (by omega)⟩, fun i _ => ?_, fun c _ => ⟨?_, ?_, ?_, ?_⟩, fun k _ => ⟨?_, ?_⟩⟩
  · exact congrFun (h.1 54 (by omega) (by omega)) i
  · exact congrFun (h.1 55 (by omega) (by omega)) c
  · exact congrFun (h.1 56 (by omega) (by omega)) c
  · exact congrFun (h.1 57 (by omega) (by omega)) c
  · exact congrFun (h.1 58 (by omega) (by omega)) c
  · exact congrFun (h.1 59 (by omega) (by omega)) k
  · exact congrFun (h.1 60 (by omega) (by omega)) k
theorem q16 {j : Nat} (h : j < 100) : 16 + nI j = nI (16 + j) := by rw [show (16 : Int32) = nI 16 from rfl, nI_add]
theorem q24 {j : Nat} (h : j < 100) : 24 + nI j = nI (24 + j) := by rw [show (24 : Int32) = nI 24 from rfl, nI_add]
theorem q30 {j : Nat} (h : j < 100) : 30 + nI j = nI (30 + j) := by rw [show (30 : Int32) = nI 30 from rfl, nI_add]
theorem lp_X12_image3 {d : Nat} {sc : Nat × (Nat → Int32)} {T : List (Nat × Nat)} {rf : Nat → Nat → Option Nat} {g0 : Nat → Nat → Int32} {F : Int32 → AH → Prop} (hM : MS T rf) (hQ : ∀ g2, (∀ a, a ≠ 64 → g2 a = g0 a) → ((∀ i, i < 16 → g2 64 i = g0 54 i) ∧ (∀ i, i < 8 → g2 64 (16 + i) = g0 58 i) ∧ ∀ i, i < 6 → g2 64 (24 + i) = g0 59 i ∧ g2 64 (30 + i) = g0 60 i) → F (g0 53 3) (T, rf, g2)) : ∀ (k j : Nat) (x1 : Int32) (g : Nat → Nat → Int32), (j + k = 6) → (x1 = nI j) → (∀ a, a ≠ 64 → g a = g0 a) → ((∀ i, i < 16 → g 64 i = g0 54 i) ∧ (∀ i, i < 8 → g 64 (16 + i) = g0 58 i) ∧ ∀ i, i < j → g 64 (24 + i) = g0 59 i ∧ g 64 (30 + i) = g0 60 i) → Wp d 0 0 sc kX12_image (Qi F) 102 [some (.ref 53), some (.int x1)] [] (T, rf, g) 0 0 := by
  intro k
  induction k with
  | zero =>
    intro j x1 g hj hx1 hf hr
    subst hx1
    refine xX12_image_102 ?_
    refine xX12_image_103 ?_
    refine xX12_image_105_t (nI_le (a := 6) (by omega) (by omega)) ?_
    refine xX12_image_144 ?_
    refine xX12_image_145 (hM.1 _ _ rfl) ?_
    refine xX12_image_148 rfl rfl ?_
    have e : j = 6 := by omega
    subst e
    rw [hf 53 (by omega)]
    exact hQ _ hf hr
  | succ k ih =>
    intro j x1 g hj hx1 hf hr
    subst hx1
    refine xX12_image_102 ?_
    refine xX12_image_103 ?_
    refine xX12_image_105_f (nI_ge (b := 6) (by omega) (by omega)) ?_
    refine xX12_image_108 ?_
    refine xX12_image_109 (hM.1 _ _ rfl) (hM.2 _ _ _ rfl) ?_
    refine xX12_image_112 ?_
    refine xX12_image_114 ?_
    refine xX12_image_115 ?_
    refine xX12_image_116 ?_
    refine xX12_image_117 (hM.1 _ _ rfl) (hM.2 _ _ _ rfl) ?_
    refine xX12_image_120 ?_
    refine xX12_image_121 (j := j) (hM.1 _ _ rfl) rfl (by omega) rfl ?_
    refine xX12_image_122 (j := (24 + j)) (hM.1 _ _ rfl) (q24 (by omega)) (by omega) rfl ?_
    refine xX12_image_123 ?_
    refine xX12_image_124 (hM.1 _ _ rfl) (hM.2 _ _ _ rfl) ?_
    refine xX12_image_127 ?_
    refine xX12_image_129 ?_
    refine xX12_image_130 ?_
    refine xX12_image_131 ?_
    refine xX12_image_132 (hM.1 _ _ rfl) (hM.2 _ _ _ rfl) ?_
    refine xX12_image_135 ?_
    refine xX12_image_136 (j := j) (hM.1 _ _ rfl) rfl (by omega) rfl ?_
    refine xX12_image_137 (j := (30 + j)) (hM.1 _ _ rfl) (q30 (by omega)) (by omega) rfl ?_
    refine xX12_image_138 rfl rfl ?_
    refine xX12_image_141 ?_
    refine ih (j + 1) _ _ (by omega) (nI_1 _) (fun a p => by rw [up_row p, up_row p]; exact hf a p) ⟨fun i hi => ?_, fun i hi => ?_, fun i hi => ?_⟩
    · rw [up_ne (by omega), up_ne (by omega)]; exact hr.1 i hi
    · rw [up_ne (by omega), up_ne (by omega)]; exact hr.2.1 i hi
    · by_cases z : i = j
      · subst z
        refine ⟨?_, ?_⟩
        · rw [up_ne (by omega), up_same, hf 59 (by omega)]
        · rw [up_same, up_row (by omega), hf 60 (by omega)]
      · rw [up_ne (by omega), up_ne (by omega), up_ne (by omega), up_ne (by omega)]; exact hr.2.2 i (by omega)
theorem lp_X12_image2 {d : Nat} {sc : Nat × (Nat → Int32)} {T : List (Nat × Nat)} {rf : Nat → Nat → Option Nat} {g0 : Nat → Nat → Int32} {F : Int32 → AH → Prop} (hM : MS T rf) (hQ : ∀ g2, (∀ a, a ≠ 64 → g2 a = g0 a) → ((∀ i, i < 16 → g2 64 i = g0 54 i) ∧ (∀ i, i < 8 → g2 64 (16 + i) = g0 58 i) ∧ ∀ i, i < 0 → g2 64 (24 + i) = g0 59 i ∧ g2 64 (30 + i) = g0 60 i) → Wp d 0 0 sc kX12_image (Qi F) 102 [some (.ref 53), some (.int 0)] [] (T, rf, g2) 0 0) : ∀ (k j : Nat) (x1 : Int32) (g : Nat → Nat → Int32), (j + k = 8) → (x1 = nI j) → (∀ a, a ≠ 64 → g a = g0 a) → ((∀ i, i < 16 → g 64 i = g0 54 i) ∧ (∀ i, i < j → g 64 (16 + i) = g0 58 i) ∧ ∀ i, i < 0 → g 64 (24 + i) = g0 59 i ∧ g 64 (30 + i) = g0 60 i) → Wp d 0 0 sc kX12_image (Qi F) 73 [some (.ref 53), some (.int x1)] [] (T, rf, g) 0 0 := by
  intro k
  induction k with
  | zero =>
    intro j x1 g hj hx1 hf hr
    subst hx1
    refine xX12_image_73 ?_
    refine xX12_image_74 ?_
    refine xX12_image_76_t (nI_le (a := 8) (by omega) (by omega)) ?_
    refine xX12_image_100 ?_
    refine xX12_image_101 rfl ?_
    have e : j = 8 := by omega
    subst e
    exact hQ _ hf hr
  | succ k ih =>
    intro j x1 g hj hx1 hf hr
    subst hx1
    refine xX12_image_73 ?_
    refine xX12_image_74 ?_
    refine xX12_image_76_f (nI_ge (b := 8) (by omega) (by omega)) ?_
    refine xX12_image_79 ?_
    refine xX12_image_80 (hM.1 _ _ rfl) (hM.2 _ _ _ rfl) ?_
    refine xX12_image_83 ?_
    refine xX12_image_85 ?_
    refine xX12_image_86 ?_
    refine xX12_image_87 ?_
    refine xX12_image_88 (hM.1 _ _ rfl) (hM.2 _ _ _ rfl) ?_
    refine xX12_image_91 ?_
    refine xX12_image_92 (j := j) (hM.1 _ _ rfl) rfl (by omega) rfl ?_
    refine xX12_image_93 (j := (16 + j)) (hM.1 _ _ rfl) (q16 (by omega)) (by omega) rfl ?_
    refine xX12_image_94 rfl rfl ?_
    refine xX12_image_97 ?_
    refine ih (j + 1) _ _ (by omega) (nI_1 _) (fun a p => by rw [up_row p]; exact hf a p) ⟨fun i hi => ?_, fun i hi => ?_, fun i hi => absurd hi (Nat.not_lt_zero i)⟩
    · rw [up_ne (by omega)]; exact hr.1 i hi
    · by_cases z : i = j
      · subst z; rw [up_same, hf 58 (by omega)]
      · rw [up_ne (by omega)]; exact hr.2.1 i (by omega)
theorem lp_X12_image1 {d : Nat} {sc : Nat × (Nat → Int32)} {T : List (Nat × Nat)} {rf : Nat → Nat → Option Nat} {g0 : Nat → Nat → Int32} {F : Int32 → AH → Prop} (hM : MS T rf) (hQ : ∀ g2, (∀ a, a ≠ 64 → g2 a = g0 a) → ((∀ i, i < 16 → g2 64 i = g0 54 i) ∧ (∀ i, i < 0 → g2 64 (16 + i) = g0 58 i) ∧ ∀ i, i < 0 → g2 64 (24 + i) = g0 59 i ∧ g2 64 (30 + i) = g0 60 i) → Wp d 0 0 sc kX12_image (Qi F) 73 [some (.ref 53), some (.int 0)] [] (T, rf, g2) 0 0) : ∀ (k j : Nat) (x1 : Int32) (g : Nat → Nat → Int32), (j + k = 16) → (x1 = nI j) → (∀ a, a ≠ 64 → g a = g0 a) → ((∀ i, i < j → g 64 i = g0 54 i) ∧ (∀ i, i < 0 → g 64 (16 + i) = g0 58 i) ∧ ∀ i, i < 0 → g 64 (24 + i) = g0 59 i ∧ g 64 (30 + i) = g0 60 i) → Wp d 0 0 sc kX12_image (Qi F) 47 [some (.ref 53), some (.int x1)] [] (T, rf, g) 0 0 := by
  intro k
  induction k with
  | zero =>
    intro j x1 g hj hx1 hf hr
    subst hx1
    refine xX12_image_47 ?_
    refine xX12_image_48 ?_
    refine xX12_image_50_t (nI_le (a := 16) (by omega) (by omega)) ?_
    refine xX12_image_71 ?_
    refine xX12_image_72 rfl ?_
    have e : j = 16 := by omega
    subst e
    exact hQ _ hf hr
  | succ k ih =>
    intro j x1 g hj hx1 hf hr
    subst hx1
    refine xX12_image_47 ?_
    refine xX12_image_48 ?_
    refine xX12_image_50_f (nI_ge (b := 16) (by omega) (by omega)) ?_
    refine xX12_image_53 ?_
    refine xX12_image_54 (hM.1 _ _ rfl) (hM.2 _ _ _ rfl) ?_
    refine xX12_image_57 ?_
    refine xX12_image_58 ?_
    refine xX12_image_59 (hM.1 _ _ rfl) (hM.2 _ _ _ rfl) ?_
    refine xX12_image_62 ?_
    refine xX12_image_63 (j := j) (hM.1 _ _ rfl) rfl (by omega) rfl ?_
    refine xX12_image_64 (j := j) (hM.1 _ _ rfl) rfl (by omega) rfl ?_
    refine xX12_image_65 rfl rfl ?_
    refine xX12_image_68 ?_
    refine ih (j + 1) _ _ (by omega) (nI_1 _) (fun a p => by rw [up_row p]; exact hf a p) ⟨fun i hi => ?_, fun i hi => absurd hi (Nat.not_lt_zero i), fun i hi => absurd hi (Nat.not_lt_zero i)⟩
    by_cases z : i = j
    · subst z; rw [up_same, hf 54 (by omega)]
    · rw [up_ne (by omega)]; exact hr.1 i (by omega)
theorem s_X12_image {d : Nat} {sc : Nat × (Nat → Int32)} {T : List (Nat × Nat)} {rf : Nat → Nat → Option Nat} {o : OV} {nc t : Nat} {cs : Nat → List Int32} {g : Nat → Nat → Int32} {F : Int32 → AH → Prop} (hC : MC T rf g o nc t cs) (hQ : ∀ g2, OEq (MOv g2) o nc → IMg g2 o nc → g2 53 17 = 1 → MIm g g2 → F (nI nc) (T, rf, g2)) : Mok d 0 0 sc kX12_image [.ref 53] (T, rf, g) (Qi F) := by
  obtain ⟨hB, hP⟩ := id hC
  obtain ⟨hM, hE, hV, hlw, ht6, hL⟩ := id hB
  have hn8 := hV.2.1
  have e9 : g 53 1 = nI (nN (o 0 9)) := hE.1.2.2.1.trans hV.tN.1
  have ht40 := hV.tN.2.1
  have hcn0 : g 53 3 = nI nc := hE.1.1.trans hV.1
  refine Mok.ofWp (L := [some (.ref 53), none]) rfl rfl rfl ?_
  refine xX12_image_0 ?_
  refine xX12_image_1 ?_
  refine xX12_image_2 (hM.1 _ _ rfl) (Or.inr rfl) ?_
  refine xX12_image_5 ?_
  refine xX12_image_6 ?_
  refine xX12_image_7 (hM.1 _ _ rfl) ?_
  rw [show (up g 53 17 1) 53 3 = g 53 3 from by rw [up_ne (by omega)]]
  refine xX12_image_10 (hM.1 _ _ rfl) ?_
  refine xX12_image_13 ?_
  refine xX12_image_14 ?_
  refine xX12_image_15 (hM.1 _ _ rfl) ?_
  rw [show (up (up g 53 17 1) 53 18 (g 53 3)) 53 10 = g 53 10 from by rw [up_ne (by omega), up_ne (by omega)]]
  refine xX12_image_18 (hM.1 _ _ rfl) ?_
  refine xX12_image_21 ?_
  refine xX12_image_22 ?_
  refine xX12_image_23 (hM.1 _ _ rfl) ?_
  rw [show (up (up (up g 53 17 1) 53 18 (g 53 3)) 53 19 (g 53 10)) 53 1 = g 53 1 from by rw [up_ne (by omega), up_ne (by omega), up_ne (by omega)]]
  refine xX12_image_26 (hM.1 _ _ rfl) ?_
  refine xX12_image_29 ?_
  refine xX12_image_30 ?_
  refine xX12_image_31 (hM.1 _ _ rfl) ?_
  rw [show (up (up (up (up g 53 17 1) 53 18 (g 53 3)) 53 19 (g 53 10)) 53 20 (g 53 1)) 53 2 = g 53 2 from by rw [up_ne (by omega), up_ne (by omega), up_ne (by omega), up_ne (by omega)]]
  refine xX12_image_34 (hM.1 _ _ rfl) ?_
  refine xX12_image_37 ?_
  refine xX12_image_38 ?_
  refine xX12_image_39 (hM.1 _ _ rfl) ?_
  rw [show (up (up (up (up (up g 53 17 1) 53 18 (g 53 3)) 53 19 (g 53 10)) 53 20 (g 53 1)) 53 21 (g 53 2)) 53 16 = g 53 16 from by rw [up_ne (by omega), up_ne (by omega), up_ne (by omega), up_ne (by omega), up_ne (by omega)]]
  refine xX12_image_42 (hM.1 _ _ rfl) ?_
  refine xX12_image_45 ?_
  refine xX12_image_46 rfl ?_
  obtain ⟨g9, hg9⟩ : ∃ g9, g9 = (up (up (up (up (up (up g 53 17 1) 53 18 (g 53 3)) 53 19 (g 53 10)) 53 20 (g 53 1)) 53 21 (g 53 2)) 53 22 (g 53 16)) := ⟨_, rfl⟩
  rw [← hg9]
  have hs : (∀ a, a ≠ 53 → g9 a = g a) ∧ g9 53 17 = 1 ∧ g9 53 18 = g 53 3 ∧ g9 53 19 = g 53 10 ∧ g9 53 20 = g 53 1 ∧ g9 53 21 = g 53 2 ∧ g9 53 22 = g 53 16 ∧ ∀ k, k < 17 ∨ 22 < k → g9 53 k = g 53 k := by
    subst hg9
    refine ⟨fun a p => by rw [up_row p, up_row p, up_row p, up_row p, up_row p, up_row p], ?_, ?_, ?_, ?_, ?_, ?_, fun k hk => by rw [up_ne (by omega), up_ne (by omega), up_ne (by omega), up_ne (by omega), up_ne (by omega), up_ne (by omega)]⟩
    · simp [up]
    · simp [up]
    · simp [up]
    · simp [up]
    · simp [up]
    · simp [up]
  obtain ⟨k0, k1, k2, k3, k4, k5, k6, k7⟩ := hs
  refine lp_X12_image1 (g0 := g9) hM (fun g2 h1 r1 => ?_) 16 0 _ _ (by omega) rfl (fun _ _ => rfl) ⟨fun i hi => absurd hi (Nat.not_lt_zero i), fun i hi => absurd hi (Nat.not_lt_zero i), fun i hi => absurd hi (Nat.not_lt_zero i)⟩
  refine lp_X12_image2 (g0 := g9) hM (fun g3 h2 r2 => ?_) 8 0 _ _ (by omega) rfl h1 r1
  refine lp_X12_image3 (g0 := g9) hM (fun g4 h3 r3 => ?_) 6 0 _ _ (by omega) rfl h2 r2
  rw [k7 3 (by omega), hcn0]
  have hI : MIm g g4 := ⟨fun a p q => (h3 a q).trans (k0 a p), fun k hk => (congrFun (h3 53 (by omega)) k).trans (k7 k hk)⟩
  have e5 : ∀ k, g4 53 k = g9 53 k := fun k => congrFun (h3 53 (by omega)) k
  refine hQ g4 (hI.mo.tr hE) ⟨⟨(e5 18).trans (k2.trans hcn0), (e5 19).trans (k3.trans hE.1.2.1), (e5 20).trans (k4.trans hE.1.2.2.1), (e5 21).trans (k5.trans hE.1.2.2.2.1), (e5 22).trans (k6.trans hE.1.2.2.2.2)⟩, fun i hi => ?_, fun c hc => ?_, fun k hk => ⟨?_, ?_⟩⟩ ((e5 17).trans k1) hI
  · exact (r3.1 i hi).trans ((congrFun (k0 54 (by omega)) i).trans (hE.2.1 i hi))
  · exact (r3.2.1 c (by omega)).trans ((congrFun (k0 58 (by omega)) c).trans (hE.2.2.1 c hc).2.2.2)
  · exact (r3.2.2 k hk).1.trans ((congrFun (k0 59 (by omega)) k).trans (hE.2.2.2 k hk).1)
  · exact (r3.2.2 k hk).2.trans ((congrFun (k0 60 (by omega)) k).trans (hE.2.2.2 k hk).2)
theorem lp_X12_back3 {d : Nat} {sc : Nat × (Nat → Int32)} {T : List (Nat × Nat)} {rf : Nat → Nat → Option Nat} {g0 : Nat → Nat → Int32} {F : Int32 → AH → Prop} (hM : MS T rf) (hQ : ∀ g2, (∀ a, a ≠ 54 → a ≠ 58 → a ≠ 59 → a ≠ 60 → g2 a = g0 a) → ((∀ i, i < 16 → g2 54 i = g0 64 i) ∧ (∀ i, i < 8 → g2 58 i = g0 64 (16 + i)) ∧ ∀ i, i < 6 → g2 59 i = g0 64 (24 + i) ∧ g2 60 i = g0 64 (30 + i)) → F (g0 53 3) (T, rf, g2)) : ∀ (k j : Nat) (x1 : Int32) (g : Nat → Nat → Int32), (j + k = 6) → (x1 = nI j) → (∀ a, a ≠ 54 → a ≠ 58 → a ≠ 59 → a ≠ 60 → g a = g0 a) → ((∀ i, i < 16 → g 54 i = g0 64 i) ∧ (∀ i, i < 8 → g 58 i = g0 64 (16 + i)) ∧ ∀ i, i < j → g 59 i = g0 64 (24 + i) ∧ g 60 i = g0 64 (30 + i)) → Wp d 0 0 sc kX12_back (Qi F) 107 [some (.ref 53), some (.int x1)] [] (T, rf, g) 0 0 := by
  intro k
  induction k with
  | zero =>
    intro j x1 g hj hx1 hf hr
    subst hx1
    refine xX12_back_107 ?_
    refine xX12_back_108 ?_
    refine xX12_back_110_t (nI_le (a := 6) (by omega) (by omega)) ?_
    refine xX12_back_149 ?_
    refine xX12_back_150 (hM.1 _ _ rfl) ?_
    refine xX12_back_153 rfl rfl ?_
    have e : j = 6 := by omega
    subst e
    rw [hf 53 (by omega) (by omega) (by omega) (by omega)]
    exact hQ _ hf hr
  | succ k ih =>
    intro j x1 g hj hx1 hf hr
    subst hx1
    refine xX12_back_107 ?_
    refine xX12_back_108 ?_
    refine xX12_back_110_f (nI_ge (b := 6) (by omega) (by omega)) ?_
    refine xX12_back_113 ?_
    refine xX12_back_114 (hM.1 _ _ rfl) (hM.2 _ _ _ rfl) ?_
    refine xX12_back_117 ?_
    refine xX12_back_118 ?_
    refine xX12_back_119 (hM.1 _ _ rfl) (hM.2 _ _ _ rfl) ?_
    refine xX12_back_122 ?_
    refine xX12_back_124 ?_
    refine xX12_back_125 ?_
    refine xX12_back_126 (j := (24 + j)) (hM.1 _ _ rfl) (q24 (by omega)) (by omega) rfl ?_
    refine xX12_back_127 (j := j) (hM.1 _ _ rfl) rfl (by omega) rfl ?_
    refine xX12_back_128 ?_
    refine xX12_back_129 (hM.1 _ _ rfl) (hM.2 _ _ _ rfl) ?_
    refine xX12_back_132 ?_
    refine xX12_back_133 ?_
    refine xX12_back_134 (hM.1 _ _ rfl) (hM.2 _ _ _ rfl) ?_
    refine xX12_back_137 ?_
    refine xX12_back_139 ?_
    refine xX12_back_140 ?_
    refine xX12_back_141 (j := (30 + j)) (hM.1 _ _ rfl) (q30 (by omega)) (by omega) rfl ?_
    refine xX12_back_142 (j := j) (hM.1 _ _ rfl) rfl (by omega) rfl ?_
    refine xX12_back_143 rfl rfl ?_
    refine xX12_back_146 ?_
    refine ih (j + 1) _ _ (by omega) (nI_1 _) (fun a p q r s => by rw [up_row s, up_row r]; exact hf a p q r s) ⟨fun i hi => ?_, fun i hi => ?_, fun i hi => ?_⟩
    · rw [up_row (by omega), up_row (by omega)]; exact hr.1 i hi
    · rw [up_row (by omega), up_row (by omega)]; exact hr.2.1 i hi
    · by_cases z : i = j
      · subst z
        refine ⟨?_, ?_⟩
        · rw [up_row (by omega), up_same, hf 64 (by omega) (by omega) (by omega) (by omega)]
        · rw [up_same, up_row (by omega), hf 64 (by omega) (by omega) (by omega) (by omega)]
      · rw [up_row (by omega), up_ne (by omega), up_ne (by omega), up_row (by omega)]; exact hr.2.2 i (by omega)
theorem lp_X12_back2 {d : Nat} {sc : Nat × (Nat → Int32)} {T : List (Nat × Nat)} {rf : Nat → Nat → Option Nat} {g0 : Nat → Nat → Int32} {F : Int32 → AH → Prop} (hM : MS T rf) (hQ : ∀ g2, (∀ a, a ≠ 54 → a ≠ 58 → a ≠ 59 → a ≠ 60 → g2 a = g0 a) → ((∀ i, i < 16 → g2 54 i = g0 64 i) ∧ (∀ i, i < 8 → g2 58 i = g0 64 (16 + i)) ∧ ∀ i, i < 0 → g2 59 i = g0 64 (24 + i) ∧ g2 60 i = g0 64 (30 + i)) → Wp d 0 0 sc kX12_back (Qi F) 107 [some (.ref 53), some (.int 0)] [] (T, rf, g2) 0 0) : ∀ (k j : Nat) (x1 : Int32) (g : Nat → Nat → Int32), (j + k = 8) → (x1 = nI j) → (∀ a, a ≠ 54 → a ≠ 58 → a ≠ 59 → a ≠ 60 → g a = g0 a) → ((∀ i, i < 16 → g 54 i = g0 64 i) ∧ (∀ i, i < j → g 58 i = g0 64 (16 + i)) ∧ ∀ i, i < 0 → g 59 i = g0 64 (24 + i) ∧ g 60 i = g0 64 (30 + i)) → Wp d 0 0 sc kX12_back (Qi F) 78 [some (.ref 53), some (.int x1)] [] (T, rf, g) 0 0 := by
  intro k
  induction k with
  | zero =>
    intro j x1 g hj hx1 hf hr
    subst hx1
    refine xX12_back_78 ?_
    refine xX12_back_79 ?_
    refine xX12_back_81_t (nI_le (a := 8) (by omega) (by omega)) ?_
    refine xX12_back_105 ?_
    refine xX12_back_106 rfl ?_
    have e : j = 8 := by omega
    subst e
    exact hQ _ hf hr
  | succ k ih =>
    intro j x1 g hj hx1 hf hr
    subst hx1
    refine xX12_back_78 ?_
    refine xX12_back_79 ?_
    refine xX12_back_81_f (nI_ge (b := 8) (by omega) (by omega)) ?_
    refine xX12_back_84 ?_
    refine xX12_back_85 (hM.1 _ _ rfl) (hM.2 _ _ _ rfl) ?_
    refine xX12_back_88 ?_
    refine xX12_back_89 ?_
    refine xX12_back_90 (hM.1 _ _ rfl) (hM.2 _ _ _ rfl) ?_
    refine xX12_back_93 ?_
    refine xX12_back_95 ?_
    refine xX12_back_96 ?_
    refine xX12_back_97 (j := (16 + j)) (hM.1 _ _ rfl) (q16 (by omega)) (by omega) rfl ?_
    refine xX12_back_98 (j := j) (hM.1 _ _ rfl) rfl (by omega) rfl ?_
    refine xX12_back_99 rfl rfl ?_
    refine xX12_back_102 ?_
    refine ih (j + 1) _ _ (by omega) (nI_1 _) (fun a p q r s => by rw [up_row q]; exact hf a p q r s) ⟨fun i hi => ?_, fun i hi => ?_, fun i hi => absurd hi (Nat.not_lt_zero i)⟩
    · rw [up_row (by omega)]; exact hr.1 i hi
    · by_cases z : i = j
      · subst z; rw [up_same, hf 64 (by omega) (by omega) (by omega) (by omega)]
      · rw [up_ne (by omega)]; exact hr.2.1 i (by omega)
theorem lp_X12_back1 {d : Nat} {sc : Nat × (Nat → Int32)} {T : List (Nat × Nat)} {rf : Nat → Nat → Option Nat} {g0 : Nat → Nat → Int32} {F : Int32 → AH → Prop} (hM : MS T rf) (hQ : ∀ g2, (∀ a, a ≠ 54 → a ≠ 58 → a ≠ 59 → a ≠ 60 → g2 a = g0 a) → ((∀ i, i < 16 → g2 54 i = g0 64 i) ∧ (∀ i, i < 0 → g2 58 i = g0 64 (16 + i)) ∧ ∀ i, i < 0 → g2 59 i = g0 64 (24 + i) ∧ g2 60 i = g0 64 (30 + i)) → Wp d 0 0 sc kX12_back (Qi F) 78 [some (.ref 53), some (.int 0)] [] (T, rf, g2) 0 0) : ∀ (k j : Nat) (x1 : Int32) (g : Nat → Nat → Int32), (j + k = 16) → (x1 = nI j) → (∀ a, a ≠ 54 → a ≠ 58 → a ≠ 59 → a ≠ 60 → g a = g0 a) → ((∀ i, i < j → g 54 i = g0 64 i) ∧ (∀ i, i < 0 → g 58 i = g0 64 (16 + i)) ∧ ∀ i, i < 0 → g 59 i = g0 64 (24 + i) ∧ g 60 i = g0 64 (30 + i)) → Wp d 0 0 sc kX12_back (Qi F) 52 [some (.ref 53), some (.int x1)] [] (T, rf, g) 0 0 := by
  intro k
  induction k with
  | zero =>
    intro j x1 g hj hx1 hf hr
    subst hx1
    refine xX12_back_52 ?_
    refine xX12_back_53 ?_
    refine xX12_back_55_t (nI_le (a := 16) (by omega) (by omega)) ?_
    refine xX12_back_76 ?_
    refine xX12_back_77 rfl ?_
    have e : j = 16 := by omega
    subst e
    exact hQ _ hf hr
  | succ k ih =>
    intro j x1 g hj hx1 hf hr
    subst hx1
    refine xX12_back_52 ?_
    refine xX12_back_53 ?_
    refine xX12_back_55_f (nI_ge (b := 16) (by omega) (by omega)) ?_
    refine xX12_back_58 ?_
    refine xX12_back_59 (hM.1 _ _ rfl) (hM.2 _ _ _ rfl) ?_
    refine xX12_back_62 ?_
    refine xX12_back_63 ?_
    refine xX12_back_64 (hM.1 _ _ rfl) (hM.2 _ _ _ rfl) ?_
    refine xX12_back_67 ?_
    refine xX12_back_68 (j := j) (hM.1 _ _ rfl) rfl (by omega) rfl ?_
    refine xX12_back_69 (j := j) (hM.1 _ _ rfl) rfl (by omega) rfl ?_
    refine xX12_back_70 rfl rfl ?_
    refine xX12_back_73 ?_
    refine ih (j + 1) _ _ (by omega) (nI_1 _) (fun a p q r s => by rw [up_row p]; exact hf a p q r s) ⟨fun i hi => ?_, fun i hi => absurd hi (Nat.not_lt_zero i), fun i hi => absurd hi (Nat.not_lt_zero i)⟩
    by_cases z : i = j
    · subst z; rw [up_same, hf 64 (by omega) (by omega) (by omega) (by omega)]
    · rw [up_ne (by omega)]; exact hr.1 i (by omega)
theorem s_X12_back {d : Nat} {sc : Nat × (Nat → Int32)} {T : List (Nat × Nat)} {rf : Nat → Nat → Option Nat} {g : Nat → Nat → Int32} {ko : OV} {kn : Nat} {F : Int32 → AH → Prop} (hM : MS T rf) (hK : g 53 17 ≠ 0 → IMg g ko kn ∧ kn ≤ 8 ∧ ko 0 5 = nI kn ∧ ∀ c, c < kn → g 55 c = ko 2 c ∧ g 56 c = ko 3 c ∧ g 57 c = ko 4 c) (h0 : g 53 17 = 0 → F (-3) (T, rf, g)) (h1 : g 53 17 ≠ 0 → ∀ g2, OEq (MOv g2) ko kn → MV g g2 → F (nI kn) (T, rf, g2)) : Mok d 0 0 sc kX12_back [.ref 53] (T, rf, g) (Qi F) := by
  refine Mok.ofWp (L := [some (.ref 53), none]) rfl rfl rfl ?_
  refine xX12_back_0 ?_
  refine xX12_back_1 (hM.1 _ _ rfl) ?_
  refine xX12_back_4 (fun c4 => ?_) (fun c4 => ?_)
  · refine xX12_back_10 ?_
    refine xX12_back_11 ?_
    refine xX12_back_12 (hM.1 _ _ rfl) ?_
    refine xX12_back_15 (hM.1 _ _ rfl) ?_
    refine xX12_back_18 ?_
    refine xX12_back_19 ?_
    refine xX12_back_20 (hM.1 _ _ rfl) ?_
    rw [show (up g 53 3 (g 53 18)) 53 19 = g 53 19 from by rw [up_ne (by omega)]]
    refine xX12_back_23 (hM.1 _ _ rfl) ?_
    refine xX12_back_26 ?_
    refine xX12_back_27 ?_
    refine xX12_back_28 (hM.1 _ _ rfl) ?_
    rw [show (up (up g 53 3 (g 53 18)) 53 10 (g 53 19)) 53 20 = g 53 20 from by rw [up_ne (by omega), up_ne (by omega)]]
    refine xX12_back_31 (hM.1 _ _ rfl) ?_
    refine xX12_back_34 ?_
    refine xX12_back_35 ?_
    refine xX12_back_36 (hM.1 _ _ rfl) ?_
    rw [show (up (up (up g 53 3 (g 53 18)) 53 10 (g 53 19)) 53 1 (g 53 20)) 53 21 = g 53 21 from by rw [up_ne (by omega), up_ne (by omega), up_ne (by omega)]]
    refine xX12_back_39 (hM.1 _ _ rfl) ?_
    refine xX12_back_42 ?_
    refine xX12_back_43 ?_
    refine xX12_back_44 (hM.1 _ _ rfl) ?_
    rw [show (up (up (up (up g 53 3 (g 53 18)) 53 10 (g 53 19)) 53 1 (g 53 20)) 53 2 (g 53 21)) 53 22 = g 53 22 from by rw [up_ne (by omega), up_ne (by omega), up_ne (by omega), up_ne (by omega)]]
    refine xX12_back_47 (hM.1 _ _ rfl) ?_
    refine xX12_back_50 ?_
    refine xX12_back_51 rfl ?_
    obtain ⟨⟨⟨a1, a2, a3, a4, a5⟩, b1, b2, b3⟩, k8, ko5, kc⟩ := hK c4
    obtain ⟨g9, hg9⟩ : ∃ g9, g9 = (up (up (up (up (up g 53 3 (g 53 18)) 53 10 (g 53 19)) 53 1 (g 53 20)) 53 2 (g 53 21)) 53 16 (g 53 22)) := ⟨_, rfl⟩
    rw [← hg9]
    have hs : (∀ a, a ≠ 53 → g9 a = g a) ∧ g9 53 3 = g 53 18 ∧ g9 53 10 = g 53 19 ∧ g9 53 1 = g 53 20 ∧ g9 53 2 = g 53 21 ∧ g9 53 16 = g 53 22 ∧ ∀ k, k ≠ 1 → k ≠ 2 → k ≠ 3 → k ≠ 10 → k ≠ 16 → g9 53 k = g 53 k := by
      subst hg9
      refine ⟨fun a p => by rw [up_row p, up_row p, up_row p, up_row p, up_row p], ?_, ?_, ?_, ?_, ?_, fun k p1 p2 p3 p4 p5 => by rw [up_ne (by omega), up_ne (by omega), up_ne (by omega), up_ne (by omega), up_ne (by omega)]⟩
      · simp [up]
      · simp [up]
      · simp [up]
      · simp [up]
      · simp [up]
    obtain ⟨k0, k1, k2, k3, k4, k5, k6⟩ := hs
    refine lp_X12_back1 (g0 := g9) hM (fun g2 h1_ r1 => ?_) 16 0 _ _ (by omega) rfl (fun _ _ _ _ _ => rfl) ⟨fun i hi => absurd hi (Nat.not_lt_zero i), fun i hi => absurd hi (Nat.not_lt_zero i), fun i hi => absurd hi (Nat.not_lt_zero i)⟩
    refine lp_X12_back2 (g0 := g9) hM (fun g3 h2_ r2 => ?_) 8 0 _ _ (by omega) rfl h1_ r1
    refine lp_X12_back3 (g0 := g9) hM (fun g4 h3_ r3 => ?_) 6 0 _ _ (by omega) rfl h2_ r2
    have e5 : ∀ k, g4 53 k = g9 53 k := fun k => congrFun (h3_ 53 (by omega) (by omega) (by omega) (by omega)) k
    have e6 : ∀ r, r = 55 ∨ r = 56 ∨ r = 57 → g4 r = g r := fun r hr => (h3_ r (by omega) (by omega) (by omega) (by omega)).trans (k0 r (by omega))
    have e64 := k0 64 (by omega)
    rw [k1, a1]
    refine h1 c4 g4 ⟨⟨?_, ?_, ?_, ?_, ?_⟩, fun i hi => ?_, fun c hc => ⟨?_, ?_, ?_, ?_⟩, fun k hk => ⟨?_, ?_⟩⟩ ⟨fun a p => (h3_ a (by omega) (by omega) (by omega) (by omega)).trans (k0 a (by omega)), fun k p1 p2 p3 p4 p5 _ _ => (e5 k).trans (k6 k p1 p2 p3 p4 p5)⟩
    · exact (e5 3).trans (k1.trans (a1.trans ko5.symm))
    · exact (e5 10).trans (k2.trans a2)
    · exact (e5 1).trans (k3.trans a3)
    · exact (e5 2).trans (k4.trans a4)
    · exact (e5 16).trans (k5.trans a5)
    · exact (r3.1 i hi).trans ((congrFun e64 i).trans (b1 i hi))
    · exact (congrFun (e6 55 (by omega)) c).trans (kc c hc).1
    · exact (congrFun (e6 56 (by omega)) c).trans (kc c hc).2.1
    · exact (congrFun (e6 57 (by omega)) c).trans (kc c hc).2.2
    · exact (r3.2.1 c (by omega)).trans ((congrFun e64 (16 + c)).trans (b2 c hc))
    · exact (r3.2.2 k hk).1.trans ((congrFun e64 (24 + k)).trans (b3 k hk).1)
    · exact (r3.2.2 k hk).2.trans ((congrFun e64 (30 + k)).trans (b3 k hk).2)
  · refine xX12_back_7 ?_
    refine xX12_back_9 rfl rfl ?_
    exact h0 c4
