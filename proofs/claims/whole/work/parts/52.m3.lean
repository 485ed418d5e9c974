def lwM (cs : Nat → List Int32) : Nat → List Int32 := fun p => (cs p).map tr
theorem wiM_cl (p : Int32) : wiM p 0 99 = clX p := by
  unfold wiM clX mx0
  by_cases h : p < 0
  · have h2 : p < 99 := Int32.lt_of_lt_of_le h (by decide)
    rw [if_pos h, if_pos h2, if_neg (fun z => Int32.lt_irrefl (Int32.lt_trans h z))]
  · rw [if_neg h]
    by_cases h2 : p < 99
    · rw [if_neg (fun z => Int32.lt_irrefl (Int32.lt_trans h2 z)), if_pos h2]
      by_cases h3 : 0 < p
      · rw [if_pos h3]
      · rw [if_neg h3]
        exact Int32.le_antisymm (Int32.not_lt.mp h3) (Int32.not_lt.mp h)
    · rw [if_neg h2]
      by_cases h3 : 99 < p
      · rw [if_pos h3]; rfl
      · rw [if_neg h3]
        have : p = 99 := Int32.le_antisymm (Int32.not_lt.mp h3) (Int32.not_lt.mp h2)
        rw [this]; rfl
/-- what the reference's baking leaves as it was -/
def MZ (g g' : Nat → Nat → Int32) : Prop := ∀ a, a ≠ 71 → a ≠ 72 → a ≠ 73 → g' a = g a
theorem MZ.rf {g : Nat → Nat → Int32} : MZ g g := fun _ _ _ _ => rfl
theorem MZ.tr {g1 g2 g3 : Nat → Nat → Int32} (h1 : MZ g1 g2) (h2 : MZ g2 g3) : MZ g1 g3 := fun a p q r => (h2 a p q r).trans (h1 a p q r)
/-- beside the stack and the names nothing -/
def MY (g g' : Nat → Nat → Int32) : Prop := ∀ a, a ≠ 71 → a ≠ 72 → g' a = g a
theorem MY.rf {g : Nat → Nat → Int32} : MY g g := fun _ _ _ => rfl
theorem MY.tr {g1 g2 g3 : Nat → Nat → Int32} (h1 : MY g1 g2) (h2 : MY g2 g3) : MY g1 g3 := fun a p q => (h2 a p q).trans (h1 a p q)
theorem MY.mz {g g' : Nat → Nat → Int32} (h : MY g g') : MZ g g' := fun a p q _ => h a p q
theorem ML.keep {g g' : Nat → Nat → Int32} {t : Nat} {cs : Nat → List Int32} (h : ML g t cs) (h1 : g' 62 = g 62) (h2 : g' 63 = g 63) : ML g' t cs := by
  intro p hp
  obtain ⟨w, s, a1, a2, a3, a4⟩ := h p hp
  exact ⟨w, s, by rw [h2]; exact a1, by rw [h2]; exact a2, a3, fun i v hv => by rw [h1]; exact a4 i v hv⟩
/-- the reference, ready to bake the oven o by the text t -/
def MB (T : List (Nat × Nat)) (rf : Nat → Nat → Option Nat) (g : Nat → Nat → Int32) (o : OV) (nc t : Nat) (cs : Nat → List Int32) : Prop := MS T rf ∧ OEq (MOv g) o nc ∧ OVk o nc ∧ o 0 11 = nI t ∧ t < 6 ∧ ML g t cs
theorem MOv.keep {g g' : Nat → Nat → Int32} (h : ∀ a, 53 ≤ a → a < 61 → g' a = g a) : MOv g' = MOv g := by
  funext r k
  unfold MOv
  rw [h 53 (by omega) (by omega), h 54 (by omega) (by omega), h 55 (by omega) (by omega), h 56 (by omega) (by omega), h 57 (by omega) (by omega), h 58 (by omega) (by omega), h 59 (by omega) (by omega), h 60 (by omega) (by omega)]
theorem MB.mz {T : List (Nat × Nat)} {rf : Nat → Nat → Option Nat} {g g' : Nat → Nat → Int32} {o : OV} {nc t : Nat} {cs : Nat → List Int32} (h : MB T rf g o nc t cs) (hf : MZ g g') : MB T rf g' o nc t cs := by
  obtain ⟨h1, h2, h3, h4, h5, h6⟩ := h
  exact ⟨h1, by rw [MOv.keep (fun a p q => hf a (by omega) (by omega) (by omega))]; exact h2, h3, h4, h5, h6.keep (hf _ (by omega) (by omega) (by omega)) (hf _ (by omega) (by omega) (by omega))⟩
theorem s_X12_says {d : Nat} {sc : Nat × (Nat → Int32)} {T : List (Nat × Nat)} {rf : Nat → Nat → Option Nat} {g : Nat → Nat → Int32} {t p : Nat} {cs : Nat → List Int32} {x : Int32} {F : Int32 → AH → Prop} (hM : MS T rf) (ht : t < 6) (hT : g 53 16 = nI t) (hL : ML g t cs) (hp : p < 3) (hx : x = nI p) (hQ : ∀ g2, (∀ a, a ≠ 71 → g2 a = g a) → F (hd0 (evX (g 72) (lwM cs p) [])) (T, rf, g2)) : Mok (d + 1) 0 0 sc kX12_says [.ref 53, .int x] (T, rf, g) (Qi F) := by
  subst hx
  obtain ⟨hw, s, a1, a2, a3, a4⟩ := hL p hp
  have e3 : 4 * g 53 16 + nI p = nI (4 * t + p) := by rw [show (4 : Int32) = nI 4 from rfl, hT]; exact nI_mul4 ht (by omega) (by omega)
  refine Mok.ofWp (L := [some (.ref 53), some (.int (nI p)), none, none, none]) rfl rfl rfl ?_
  refine xX12_says_0 ?_
  refine xX12_says_1 rfl ?_
  refine xX12_says_2 ?_
  refine xX12_says_3 (hM.1 _ _ rfl) (hM.2 _ _ _ rfl) ?_
  refine xX12_says_6 ?_
  refine xX12_says_7 ?_
  refine xX12_says_8 (hM.1 _ _ rfl) ?_
  refine xX12_says_11 ?_
  refine xX12_says_12 ?_
  refine xX12_says_13 ?_
  refine xX12_says_14 (j := (4 * t + p)) (hM.1 _ _ rfl) e3 (by omega) rfl ?_
  rw [a1]
  refine xX12_says_15 rfl ?_
  exact lp_X12_says hM ht hp hT a2 a3 (cs p) s _ _ _ [] rfl rfl trivial (Nat.zero_le _) hw rfl (fun _ _ => rfl) a4 hQ
theorem s_X12_asksOf {d : Nat} {sc : Nat × (Nat → Int32)} {T : List (Nat × Nat)} {rf : Nat → Nat → Option Nat} {g : Nat → Nat → Int32} {o : OV} {nc t p cN : Nat} {cs : Nat → List Int32} {x ht mi br c si : Int32} {F : Int32 → AH → Prop} (hB : MB T rf g o nc t cs) (hp : p < 3) (hx : x = nI p) (hc : c = nI cN) (hcn : cN < nc) (hQ : ∀ g2, MY g g2 → F (evL (lwM cs) p (nm6 ht mi br (o 3 cN) si (o 0 8))) (T, rf, g2)) : Mok (d + 2) 0 0 sc kX12_asksOf [.ref 53, .int x, .int ht, .int mi, .int br, .int c, .int si] (T, rf, g) (Qi F) := by
  obtain ⟨hM, hE, hV, hlw, ht6, hL⟩ := id hB
  have hn8 := hV.2.1
  have e3 : g 56 cN = o 3 cN := (hE.2.2.1 cN hcn).2.1
  have e8 : g 53 10 = o 0 8 := hE.1.2.1
  refine Mok.ofWp (L := [some (.ref 53), some (.int x), some (.int ht), some (.int mi), some (.int br), some (.int c), some (.int si)]) rfl rfl rfl ?_
  refine xX12_asksOf_0 ?_
  refine xX12_asksOf_1 (hM.1 _ _ rfl) (hM.2 _ _ _ rfl) ?_
  refine xX12_asksOf_4 ?_
  refine xX12_asksOf_5 ?_
  refine xX12_asksOf_6 (j := 0) (hM.1 _ _ rfl) (by decide) (by decide) rfl ?_
  refine xX12_asksOf_7 ?_
  refine xX12_asksOf_8 (hM.1 _ _ rfl) (hM.2 _ _ _ rfl) ?_
  refine xX12_asksOf_11 ?_
  refine xX12_asksOf_12 ?_
  refine xX12_asksOf_13 (j := 1) (hM.1 _ _ rfl) (by decide) (by decide) rfl ?_
  refine xX12_asksOf_14 ?_
  refine xX12_asksOf_15 (hM.1 _ _ rfl) (hM.2 _ _ _ rfl) ?_
  refine xX12_asksOf_18 ?_
  refine xX12_asksOf_19 ?_
  refine xX12_asksOf_21 (j := 2) (hM.1 _ _ rfl) (by decide) (by decide) rfl ?_
  refine xX12_asksOf_22 ?_
  refine xX12_asksOf_23 (hM.1 _ _ rfl) (hM.2 _ _ _ rfl) ?_
  refine xX12_asksOf_26 ?_
  refine xX12_asksOf_27 ?_
  refine xX12_asksOf_28 (hM.1 _ _ rfl) (hM.2 _ _ _ rfl) ?_
  refine xX12_asksOf_31 ?_
  refine xX12_asksOf_33 (j := cN) (hM.1 _ _ rfl) hc (by omega) rfl ?_
  refine xX12_asksOf_34 (j := 3) (hM.1 _ _ rfl) (by decide) (by decide) rfl ?_
  refine xX12_asksOf_35 ?_
  refine xX12_asksOf_36 (hM.1 _ _ rfl) (hM.2 _ _ _ rfl) ?_
  refine xX12_asksOf_39 ?_
  refine xX12_asksOf_40 ?_
  refine xX12_asksOf_42 (j := 4) (hM.1 _ _ rfl) (by decide) (by decide) rfl ?_
  refine xX12_asksOf_43 ?_
  refine xX12_asksOf_44 (hM.1 _ _ rfl) (hM.2 _ _ _ rfl) ?_
  refine xX12_asksOf_47 ?_
  refine xX12_asksOf_48 ?_
  refine xX12_asksOf_49 (hM.1 _ _ rfl) ?_
  refine xX12_asksOf_52 (j := 5) (hM.1 _ _ rfl) (by decide) (by decide) rfl ?_
  refine xX12_asksOf_53 ?_
  refine xX12_asksOf_54 ?_
  refine xX12_asksOf_55 (hM.1 _ _ rfl) rfl rfl rfl (s_X12_says hM ht6 ((congrFun (show _ = g 53 from by rw [up_row (by omega), up_row (by omega), up_row (by omega), up_row (by omega), up_row (by omega), up_row (by omega)]) 16).trans (hE.1.2.2.2.2.trans hlw)) (hL.keep (by rw [up_row (by omega), up_row (by omega), up_row (by omega), up_row (by omega), up_row (by omega), up_row (by omega)]) (by rw [up_row (by omega), up_row (by omega), up_row (by omega), up_row (by omega), up_row (by omega), up_row (by omega)])) hp hx (fun g0 hf0 => ?_))
  refine xX12_asksOf_58 ?_
  refine xX12_asksOf_59 ?_
  refine xX12_asksOf_61 rfl rfl rfl (s_X12_within  ?_)
  refine xX12_asksOf_64 rfl rfl ?_
  rw [wiM_cl]
  have q := hQ g0 (fun a p q => by rw [hf0 a p, up_row q, up_row q, up_row q, up_row q, up_row q, up_row q])
  rw [evL_congr (nm' := _) (k6 (P := fun k => nm6 ht mi br (o 3 cN) si (o 0 8) k = _) ?_ ?_ ?_ ?_ ?_ ?_)] at q
  exact q
  all_goals simp [up, nm6, e3, e8]
