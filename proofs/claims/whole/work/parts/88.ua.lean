theorem s_X11_text {d : Nat} {sc : Nat × (Nat → Int32)} {T : List (Nat × Nat)} {rf : Nat → Nat → Option Nat} {g : Nat → Nat → Int32} {tp : List Int32} {la tc : Nat} {lws : Nat → Nat → List Int32} {F : Int32 → AH → Prop} (hX : XS T rf) (ht : XP_ g tp) (hB : TB tp) (hl : T.length = la) (hla : 49 ≤ la) (hla9 : la < 800) (hl1 : la ≤ 49 ∨ 77 ≤ la) (hl2 : la % 4 = 1) (htc : g 0 7 = nI tc) (hS : TX T rf g tc lws) (k9 : tc = 6 → F (-4) (T, rf, g)) (k0 : tc < 6 → ∀ g2 b, txX 3 0 (TKS tp 0) = Sum.inl b → XP_ g2 [] → TXF la g g2 → g2 0 7 = nI tc → F (-100 - nI b) (T, rf, g2)) (k1 : tc < 6 → ∀ rf2 g2 css, txX 3 0 (TKS tp 0) = Sum.inr css → css.length = 3 → (∀ c ∈ css, wfd c 0) → css.flatten.length ≤ 160 → XP_ g2 [] → XS (T ++ [(4, 0)] ++ [(20, 4)] ++ [(20, css.flatten.length)] ++ [(20, css.flatten.length)]) rf2 → (∀ a, a ≠ la → a ≠ 39 → rf2 a = rf a) → TXF la g g2 → g2 0 7 = nI (tc + 1) → TX (T ++ [(4, 0)] ++ [(20, 4)] ++ [(20, css.flatten.length)] ++ [(20, css.flatten.length)]) rf2 g2 (tc + 1) (upL lws tc (lwC css)) → F (nI tc) (T ++ [(4, 0)] ++ [(20, 4)] ++ [(20, css.flatten.length)] ++ [(20, css.flatten.length)], rf2, g2)) : Mok (d + 67) 4 328 sc kX11_text [.ref 0] (T, rf, g) (Qi F) := by
  have htc6 := hS.1
  refine Mok.ofWp (L := [some (.ref 0)]) rfl rfl rfl ?_
  refine xX11_text_0 ?_
  refine xX11_text_1 (hX.1 _ _ rfl) ?_
  refine xX11_text_4 ?_
  rw [htc]
  refine xX11_text_6 (fun c6 => ?_) (fun c6 => ?_)
  · have ht6 : tc < 6 := Nat.lt_of_not_le (fun z => absurd c6 (Int32.not_lt.mpr (nI_le (a := 6) z (by omega))))
    refine xX11_text_14 ?_
    refine xX11_text_15A (hX.1 _ _ rfl) (mc1 := 4) (ms1 := 328) (kc1 := 4) (ks1 := 328) rfl rfl rfl rfl rfl (s_X11_readText hX ht hB hl hla hla9 hl1 hl2 htc ht6 hS (fun g0 b0 hR0 hp0 hf0 hc0 => ?_) (fun rf0 g0 css0 hR0 hcl0 hw0 hfl0 hp0 hx0 hrq0 hf0 hc0 hS0 => ?_))
    · refine xX11_text_18 rfl rfl ?_
      exact k0 ht6 _ _ hR0 hp0 hf0 hc0
    · refine xX11_text_18 rfl rfl ?_
      exact k1 ht6 _ _ _ hR0 hcl0 hw0 hfl0 hp0 hx0 hrq0 hf0 hc0 hS0
  · have ht6 : ¬ tc < 6 := fun z => c6 (nI_lt (b := 6) z (by omega))
    refine xX11_text_9 ?_
    refine xX11_text_11 ?_
    refine xX11_text_18 rfl rfl ?_
    exact k9 (by omega)
theorem lp_X5_init {d : Nat} {sc : Nat × (Nat → Int32)} {T : List (Nat × Nat)} {rf : Nat → Nat → Option Nat} {g0 : Nat → Nat → Int32} {b : Nat} {F : AH → Prop} (hT : T[b]? = some (5, 0)) (h1 : T[b + 1]? = some (20, 16)) (hr : rf b 0 = some (b + 1)) (hQ : ∀ g2, (∀ a, a ≠ b + 1 → g2 a = g0 a) → (∀ i, i < 16 → g2 (b + 1) i = 10) → F (T, rf, g2)) : ∀ (k j : Nat) (x1 : Int32) (g : Nat → Nat → Int32), (j + k = 16) → (x1 = nI j) → (∀ a, a ≠ b + 1 → g a = g0 a) → (∀ i, i < j → g (b + 1) i = 10) → Wp (d + 1) 7 60 sc kX5_init (Qv F) 68 [some (.ref b), some (.int x1)] [] (T, rf, g) 7 60 := by
  intro k
  induction k with
  | zero =>
    intro j x1 g hj hx1 hf hi
    subst hx1
    refine xX5_init_68 ?_
    refine xX5_init_69 ?_
    refine xX5_init_71_t (nI_le (a := 16) (by omega) (by omega)) ?_
    refine xX5_init_88 rfl rfl ?_
    have e : j = 16 := by omega
    subst e
    exact hQ _ hf hi
  | succ k ih =>
    intro j x1 g hj hx1 hf hi
    subst hx1
    refine xX5_init_68 ?_
    refine xX5_init_69 ?_
    refine xX5_init_71_f (nI_ge (b := 16) (by omega) (by omega)) ?_
    refine xX5_init_74 ?_
    refine xX5_init_75 hT hr ?_
    refine xX5_init_78 ?_
    refine xX5_init_79 ?_
    refine xX5_init_81 (j := j) h1 rfl (by omega) rfl ?_
    refine xX5_init_82 rfl rfl ?_
    refine xX5_init_85 ?_
    exact ih (j + 1) _ _ (by omega) (nI_1 j) (fun a p => by rw [up_row p]; exact hf a p) (fun i hi2 => by
      by_cases z : i = j
      · subst z; exact up_same _ _ _ _
      · rw [up_ne (fun y => z y.2)]; exact hi i (by omega))
/-- a new oven -/
def NewO (rf : Nat → Nat → Option Nat) (g : Nat → Nat → Int32) (b : Nat) : Prop := (rf b 0 = some (b + 1) ∧ rf b 1 = some (b + 2) ∧ rf b 2 = some (b + 3) ∧ rf b 3 = some (b + 4) ∧ rf b 4 = some (b + 5) ∧ rf b 6 = some (b + 6) ∧ rf b 7 = some (b + 7)) ∧ (∀ k, g b k = if k = 9 then 20 else 0) ∧ (∀ i, i < 16 → g (b + 1) i = 10) ∧ ∀ r, 1 < r → r < 8 → ∀ k, g (b + r) k = 0
theorem NewO.keep {rf rf' : Nat → Nat → Option Nat} {g g' : Nat → Nat → Int32} {b : Nat} (h : NewO rf g b) (hr : rf' b = rf b) (hg : ∀ r, r < 8 → g' (b + r) = g (b + r)) : NewO rf' g' b := by
  obtain ⟨h1, h2, h3, h4⟩ := h
  refine ⟨by rw [hr]; exact h1, fun k => by rw [show g' b = g b from hg 0 (by omega)]; exact h2 k, fun i hi => by rw [hg 1 (by omega)]; exact h3 i hi, fun r p q k => by rw [hg r q]; exact h4 r p q k⟩
theorem s_X5_init {d : Nat} {sc : Nat × (Nat → Int32)} {T : List (Nat × Nat)} {rf : Nat → Nat → Option Nat} {g : Nat → Nat → Int32} {b : Nat} {F : AH → Prop} (hl : T.length = b + 1) (hb : b < 900) (hT : T[b]? = some (5, 0)) (hz : ∀ k, g b k = 0) (hQ : ∀ rf2 g2, (∀ a, a ≠ b → rf2 a = rf a) → (∀ a, a ≠ b → a ≠ b + 1 → g2 a = g a) → NewO rf2 g2 b → F (T ++ [(20, 16)] ++ [(20, 8)] ++ [(20, 8)] ++ [(20, 8)] ++ [(20, 8)] ++ [(20, 6)] ++ [(20, 6)], rf2, g2)) : Mok (d + 1) 7 60 sc kX5_init [.ref b] (T, rf, g) (Qv F) := by
  refine Mok.ofWp (L := [some (.ref b), none]) rfl rfl rfl ?_
  refine xX5_init_0 ?_
  refine xX5_init_1 rfl ?_
  refine xX5_init_4 ?_
  refine xX5_init_5 ?_
  refine xX5_init_7 (j := 16) (n := (b + 1)) (kc1 := 1) (ks1 := 16) (by decide) rfl hl (blt (by omega)) rfl rfl rfl rfl (fun hra1 hga1 => ?_)
  refine xX5_init_9 (tA hT) (tN hl) ?_
  refine xX5_init_12 ?_
  refine xX5_init_13 ?_
  refine xX5_init_15 (j := 8) (n := (b + 2)) (kc1 := 2) (ks1 := 24) (by decide) rfl (tL hl) (blt (by omega)) rfl rfl rfl rfl (fun hra2 hga2 => ?_)
  refine xX5_init_17 (tA (tA hT)) (tN (tL hl)) ?_
  refine xX5_init_20 ?_
  refine xX5_init_21 ?_
  refine xX5_init_23 (j := 8) (n := (b + 3)) (kc1 := 3) (ks1 := 32) (by decide) rfl (tL (tL hl)) (blt (by omega)) rfl rfl rfl rfl (fun hra3 hga3 => ?_)
  refine xX5_init_25 (tA (tA (tA hT))) (tN (tL (tL hl))) ?_
  refine xX5_init_28 ?_
  refine xX5_init_29 ?_
  refine xX5_init_31 (j := 8) (n := (b + 4)) (kc1 := 4) (ks1 := 40) (by decide) rfl (tL (tL (tL hl))) (blt (by omega)) rfl rfl rfl rfl (fun hra4 hga4 => ?_)
  refine xX5_init_33 (tA (tA (tA (tA hT)))) (tN (tL (tL (tL hl)))) ?_
  refine xX5_init_36 ?_
  refine xX5_init_37 ?_
  refine xX5_init_39 (j := 8) (n := (b + 5)) (kc1 := 5) (ks1 := 48) (by decide) rfl (tL (tL (tL (tL hl)))) (blt (by omega)) rfl rfl rfl rfl (fun hra5 hga5 => ?_)
  refine xX5_init_41 (tA (tA (tA (tA (tA hT))))) (tN (tL (tL (tL (tL hl))))) ?_
  refine xX5_init_44 ?_
  refine xX5_init_45 ?_
  refine xX5_init_47 (j := 6) (n := (b + 6)) (kc1 := 6) (ks1 := 54) (by decide) rfl (tL (tL (tL (tL (tL hl))))) (blt (by omega)) rfl rfl rfl rfl (fun hra6 hga6 => ?_)
  refine xX5_init_49 (tA (tA (tA (tA (tA (tA hT)))))) (tN (tL (tL (tL (tL (tL hl)))))) ?_
  refine xX5_init_52 ?_
  refine xX5_init_53 ?_
  refine xX5_init_55 (j := 6) (n := (b + 7)) (kc1 := 7) (ks1 := 60) (by decide) rfl (tL (tL (tL (tL (tL (tL hl)))))) (blt (by omega)) rfl rfl rfl rfl (fun hra7 hga7 => ?_)
  refine xX5_init_57 (tA (tA (tA (tA (tA (tA (tA hT))))))) (tN (tL (tL (tL (tL (tL (tL hl))))))) ?_
  refine xX5_init_60 ?_
  refine xX5_init_61 ?_
  refine xX5_init_63 (tA (tA (tA (tA (tA (tA (tA hT))))))) ?_
  refine xX5_init_66 ?_
  refine xX5_init_67 rfl ?_
  refine lp_X5_init (g0 := up g b 9 20) (tA (tA (tA (tA (tA (tA (tA hT))))))) (tA (tA (tA (tA (tA (tA (tN hl))))))) (by rw [ur_ne (by omega), ur_ne (by omega), ur_ne (by omega), ur_ne (by omega), ur_ne (by omega), ur_ne (by omega), ur_same]) (fun g2 q1 q2 => ?_) 16 0 _ _ (by omega) rfl (fun _ _ => rfl) (fun i hi => absurd hi (Nat.not_lt_zero i))
  refine hQ _ g2 (fun a p => by rw [ur_row p, ur_row p, ur_row p, ur_row p, ur_row p, ur_row p, ur_row p]) (fun a p q => (q1 a q).trans (up_row p)) ⟨⟨by rw [ur_ne (by omega), ur_ne (by omega), ur_ne (by omega), ur_ne (by omega), ur_ne (by omega), ur_ne (by omega), ur_same], by rw [ur_ne (by omega), ur_ne (by omega), ur_ne (by omega), ur_ne (by omega), ur_ne (by omega), ur_same], by rw [ur_ne (by omega), ur_ne (by omega), ur_ne (by omega), ur_ne (by omega), ur_same], by rw [ur_ne (by omega), ur_ne (by omega), ur_ne (by omega), ur_same], by rw [ur_ne (by omega), ur_ne (by omega), ur_same], by rw [ur_ne (by omega), ur_same], ur_same _ _ _ _⟩, fun k => ?_, q2, fun r p q k => ?_⟩
  · rw [q1 b (by omega)]
    by_cases e : k = 9
    · subst e; rw [up_same]; rfl
    · rw [up_ne (by omega), hz k, if_neg e]
  · rw [q1 (b + r) (by omega), up_row (by omega)]
    rcases (by omega : r = 2 ∨ r = 3 ∨ r = 4 ∨ r = 5 ∨ r = 6 ∨ r = 7) with rfl | rfl | rfl | rfl | rfl | rfl
    · exact hga2 k
    · exact hga3 k
    · exact hga4 k
    · exact hga5 k
    · exact hga6 k
    · exact hga7 k
