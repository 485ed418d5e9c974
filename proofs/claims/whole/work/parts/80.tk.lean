theorem tA {T : List (Nat × Nat)} {x : Nat × Nat} {a : Nat} {t : Nat × Nat} (h : T[a]? = some t) : (T ++ [x])[a]? = some t := by
  rw [List.getElem?_append_left (List.getElem?_eq_some_iff.mp h).1]; exact h
theorem tN {T : List (Nat × Nat)} {x : Nat × Nat} {n : Nat} (h : T.length = n) : (T ++ [x])[n]? = some x := by
  subst h
  rw [List.getElem?_append_right (Nat.le_refl _), Nat.sub_self]; rfl
theorem tL {T : List (Nat × Nat)} {x : Nat × Nat} {n : Nat} (h : T.length = n) : (T ++ [x]).length = n + 1 := by
  rw [List.length_append, h]; rfl
theorem blt {a b : Nat} (h : a < b) : Nat.blt a b = true := Nat.ble_eq.mpr h
theorem ble {a b : Nat} (h : a ≤ b) : Nat.ble a b = true := Nat.ble_eq.mpr h
theorem mmN {n : Nat} (h : n ≤ 160) : (if (0 : Int32) < (if nI 160 < nI n then nI 160 else nI n) then (if nI 160 < nI n then nI 160 else nI n) else 0) = nI n := by
  rw [if_neg (show ¬ nI 160 < nI n from Int32.not_lt.mpr (nI_le h (by omega)))]
  by_cases q : 0 < n
  · rw [if_pos (show (0 : Int32) < nI n from nI_lt (a := 0) q (by omega))]
  · have : n = 0 := by omega
    subst this
    rfl
theorem lp_X4_init2 {d : Nat} {sc : Nat × (Nat → Int32)} {T : List (Nat × Nat)} {rf : Nat → Nat → Option Nat} {g0 : Nat → Nat → Int32} {la n : Nat} {m : Int32} {F : AH → Prop} (h4 : T[la]? = some (4, 0)) (hs1 : T[la + 1]? = some (20, 4)) (hs2 : T[la + 2]? = some (20, n)) (h37 : T[37]? = some (20, 160)) (h38 : T[38]? = some (20, 4)) (hr0 : rf la 0 = some (la + 2)) (hr1 : rf la 1 = some (la + 1)) (hn : n ≤ 160) (hla : 40 ≤ la) (hQ : ∀ g2, (∀ a, a ≠ la + 1 → g2 a = g0 a) → (∀ i, i < 4 → g2 (la + 1) i = g0 38 i) → F (T, rf, g2)) : ∀ (k j : Nat) (x5 : Int32) (g : Nat → Nat → Int32), (j + k = 4) → (x5 = nI j) → (∀ a, a ≠ la + 1 → g a = g0 a) → (∀ i, i < j → g (la + 1) i = g0 38 i) → Wp (d + 1) 3 324 sc kX4_init (Qv F) 69 [some (.ref la), some (.ref 37), some (.int m), some (.ref 38), some (.int (nI n)), some (.int x5)] [] (T, rf, g) 3 (4 + n + n) := by
  intro k
  induction k with
  | zero =>
    intro j x5 g hj hx5 hf hr
    subst hx5
    refine xX4_init_69 ?_
    refine xX4_init_71 ?_
    refine xX4_init_72_t (nI_lt (a := 3) (by omega) (by omega)) ?_
    refine xX4_init_99 (ble (by omega)) (ble (by omega)) ?_
    have e : j = 4 := by omega
    subst e
    exact hQ _ hf hr
  | succ k ih =>
    intro j x5 g hj hx5 hf hr
    subst hx5
    refine xX4_init_69 ?_
    refine xX4_init_71 ?_
    refine xX4_init_72_f (Int32.not_lt.mpr (nI_le (b := 3) (by omega) (by omega))) ?_
    refine xX4_init_75 ?_
    refine xX4_init_77 ?_
    refine xX4_init_78 h38 rfl rfl ?_
    refine xX4_init_79_f (Int32.not_le.mpr (nI_lt (b := 4) (by omega) (by omega))) ?_
    refine xX4_init_82 ?_
    refine xX4_init_83 h4 hr1 ?_
    refine xX4_init_86 ?_
    refine xX4_init_88 ?_
    refine xX4_init_89 ?_
    refine xX4_init_91 (j := j) h38 rfl (by omega) rfl ?_
    refine xX4_init_92 (j := j) hs1 rfl (by omega) rfl ?_
    refine xX4_init_93 rfl rfl ?_
    refine xX4_init_96 ?_
    exact ih (j + 1) _ _ (by omega) (nI_1 j) (fun a p => by rw [up_row p]; exact hf a p) (fun i hi => by
      by_cases z : i = j
      · subst z; rw [up_same, hf 38 (by omega)]
      · rw [up_ne (fun y => z y.2)]; exact hr i (by omega))
theorem lp_X4_init1 {d : Nat} {sc : Nat × (Nat → Int32)} {T : List (Nat × Nat)} {rf : Nat → Nat → Option Nat} {g0 : Nat → Nat → Int32} {la n : Nat} {m : Int32} {F : AH → Prop} (h4 : T[la]? = some (4, 0)) (hs1 : T[la + 1]? = some (20, 4)) (hs2 : T[la + 2]? = some (20, n)) (h37 : T[37]? = some (20, 160)) (h38 : T[38]? = some (20, 4)) (hr0 : rf la 0 = some (la + 2)) (hr1 : rf la 1 = some (la + 1)) (hn : n ≤ 160) (hla : 40 ≤ la) (hQ : ∀ g2, (∀ a, a ≠ la + 2 → g2 a = g0 a) → (∀ i, i < n → g2 (la + 2) i = g0 37 i) → Wp (d + 1) 3 324 sc kX4_init (Qv F) 69 [some (.ref la), some (.ref 37), some (.int m), some (.ref 38), some (.int (nI n)), some (.int 0)] [] (T, rf, g2) 3 (4 + n + n)) : ∀ (k j : Nat) (x5 : Int32) (g : Nat → Nat → Int32), (j + k = n) → (x5 = nI j) → (∀ a, a ≠ la + 2 → g a = g0 a) → (∀ i, i < j → g (la + 2) i = g0 37 i) → Wp (d + 1) 3 324 sc kX4_init (Qv F) 42 [some (.ref la), some (.ref 37), some (.int m), some (.ref 38), some (.int (nI n)), some (.int x5)] [] (T, rf, g) 3 (4 + n + n) := by
  intro k
  induction k with
  | zero =>
    intro j x5 g hj hx5 hf hr
    subst hx5
    refine xX4_init_42 ?_
    refine xX4_init_44 ?_
    refine xX4_init_46_t (nI_le (by omega) (by omega)) ?_
    refine xX4_init_66 ?_
    refine xX4_init_67 rfl ?_
    have e : j = n := by omega
    subst e
    exact hQ _ hf hr
  | succ k ih =>
    intro j x5 g hj hx5 hf hr
    subst hx5
    refine xX4_init_42 ?_
    refine xX4_init_44 ?_
    refine xX4_init_46_f (nI_ge (by omega) (by omega)) ?_
    refine xX4_init_49 ?_
    refine xX4_init_50 h4 hr0 ?_
    refine xX4_init_53 ?_
    refine xX4_init_55 ?_
    refine xX4_init_56 ?_
    refine xX4_init_58 (j := j) h37 rfl (by omega) rfl ?_
    refine xX4_init_59 (j := j) hs2 rfl (by omega) (ble (by omega)) ?_
    refine xX4_init_60 rfl rfl ?_
    refine xX4_init_63 ?_
    exact ih (j + 1) _ _ (by omega) (nI_1 j) (fun a p => by rw [up_row p]; exact hf a p) (fun i hi => by
      by_cases z : i = j
      · subst z; rw [up_same, hf 37 (by omega)]
      · rw [up_ne (fun y => z y.2)]; exact hr i (by omega))
theorem s_X4_init {d : Nat} {sc : Nat × (Nat → Int32)} {T : List (Nat × Nat)} {rf : Nat → Nat → Option Nat} {g : Nat → Nat → Int32} {la n : Nat} {m : Int32} {F : AH → Prop} (hl : T.length = la + 1) (hla : 40 ≤ la) (hla9 : la < 900) (h4 : T[la]? = some (4, 0)) (h37 : T[37]? = some (20, 160)) (h38 : T[38]? = some (20, 4)) (hm : m = nI n) (hn : n ≤ 160) (hQ : ∀ rf2 g2, rf2 la 0 = some (la + 2) → rf2 la 1 = some (la + 1) → rf2 la 2 = some (la + 3) → (∀ a, a ≠ la → rf2 a = rf a) → (∀ a, a ≠ la + 1 → a ≠ la + 2 → g2 a = g a) → (∀ i, i < 4 → g2 (la + 1) i = g 38 i) → (∀ i, i < n → g2 (la + 2) i = g 37 i) → F ((T ++ [(20, 4)] ++ [(20, n)] ++ [(20, n)]), rf2, g2)) : Mok (d + 1) 3 324 sc kX4_init [.ref la, .ref 37, .int m, .ref 38] (T, rf, g) (Qv F) := by
  refine Mok.ofWp (L := [some (.ref la), some (.ref 37), some (.int m), some (.ref 38), none, none]) rfl rfl rfl ?_
  refine xX4_init_0 ?_
  refine xX4_init_1 rfl ?_
  refine xX4_init_4 ?_
  refine xX4_init_5 ?_
  refine xX4_init_6 (j := 4) (n := (la + 1)) (kc1 := 1) (ks1 := 4) (by decide) rfl hl (blt (by omega)) rfl rfl rfl rfl (fun hra1 hga1 => ?_)
  refine xX4_init_8 (tA h4) (tN hl) ?_
  refine xX4_init_11 ?_
  refine xX4_init_12 ?_
  refine xX4_init_13 ?_
  refine xX4_init_14 (tA h37) rfl rfl ?_
  refine xX4_init_15 rfl rfl rfl ?_
  refine xX4_init_18 rfl rfl rfl ?_
  rw [hm, mmN hn]
  refine xX4_init_21 rfl ?_
  refine xX4_init_23 ?_
  refine xX4_init_24 ?_
  refine xX4_init_26 (j := n) (n := (la + 2)) (kc1 := 2) (ks1 := (4 + n)) rfl (ble (by omega)) (tL hl) (blt (by omega)) rfl rfl rfl (ble (by omega)) (fun hra2 hga2 => ?_)
  refine xX4_init_28 (tA (tA h4)) (tN (tL hl)) ?_
  refine xX4_init_31 ?_
  refine xX4_init_32 ?_
  refine xX4_init_34 (j := n) (n := (la + 3)) (kc1 := 3) (ks1 := (4 + n + n)) rfl (ble (by omega)) (tL (tL hl)) (blt (by omega)) rfl rfl rfl (ble (by omega)) (fun hra3 hga3 => ?_)
  refine xX4_init_36 (tA (tA (tA h4))) (tN (tL (tL hl))) ?_
  refine xX4_init_39 ?_
  refine xX4_init_40 rfl ?_
  have hne : ∀ a, a < la ∨ la + 3 < a → ∀ k, ur (ur (ur rf la 1 (some (la + 1))) la 0 (some (la + 2))) la 2 (some (la + 3)) a k = rf a k := fun a p k => by rw [ur_ne (by omega), ur_ne (by omega), ur_ne (by omega)]
  refine lp_X4_init1 (g0 := g) (tA (tA (tA h4))) (tA (tA (tN hl))) (tA (tN (tL hl))) (tA (tA (tA h37))) (tA (tA (tA h38))) (by rw [ur_ne (by omega), ur_same]) (by rw [ur_ne (by omega), ur_ne (by omega), ur_same]) hn hla (fun g2 h1 h2 => ?_) n 0 _ _ (by omega) rfl (fun _ _ => rfl) (fun i hi => absurd hi (Nat.not_lt_zero i))
  refine lp_X4_init2 (g0 := g2) (tA (tA (tA h4))) (tA (tA (tN hl))) (tA (tN (tL hl))) (tA (tA (tA h37))) (tA (tA (tA h38))) (by rw [ur_ne (by omega), ur_same]) (by rw [ur_ne (by omega), ur_ne (by omega), ur_same]) hn hla (fun g3 h3 h5 => ?_) 4 0 _ _ (by omega) rfl (fun _ _ => rfl) (fun i hi => absurd hi (Nat.not_lt_zero i))
  refine hQ _ g3 (by rw [ur_ne (by omega), ur_same]) (by rw [ur_ne (by omega), ur_ne (by omega), ur_same]) (by rw [ur_same]) (fun a p => funext (fun k => by rw [ur_ne (by omega), ur_ne (by omega), ur_ne (by omega)])) (fun a p q => (h3 a p).trans (h1 a q)) (fun i hi => (h5 i hi).trans (congrFun (h1 38 (by omega)) i)) (fun i hi => (congrFun (h3 (la + 2) (by omega)) i).trans (h2 i hi))
