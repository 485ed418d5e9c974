theorem s_X3_init {d : Nat} {sc : Nat × (Nat → Int32)} {h : AH} {a : Nat} {F : AH → Prop} (hQ : F h) : Mok (d + 1) 0 0 sc kX3_init [.ref a] h (Qv F) := by
  refine Mok.ofWp (L := [some (.ref a)]) rfl rfl rfl ?_
  refine xX3_init_0 ?_
  refine xX3_init_1 rfl ?_
  refine xX3_init_4 rfl rfl ?_
  exact hQ
theorem s_X9_init {d : Nat} {sc : Nat × (Nat → Int32)} {h : AH} {a : Nat} {F : AH → Prop} (hQ : F h) : Mok (d + 2) 0 0 sc kX9_init [.ref a] h (Qv F) := by
  refine Mok.ofWp (L := [some (.ref a)]) rfl rfl rfl ?_
  refine xX9_init_0 ?_
  refine xX9_init_1 rfl rfl rfl (s_X3_init  ?_)
  refine xX9_init_4 rfl rfl ?_
  exact hQ
theorem s_X10_init {d : Nat} {sc : Nat × (Nat → Int32)} {h : AH} {a : Nat} {F : AH → Prop} (hQ : F h) : Mok (d + 2) 0 0 sc kX10_init [.ref a] h (Qv F) := by
  refine Mok.ofWp (L := [some (.ref a)]) rfl rfl rfl ?_
  refine xX10_init_0 ?_
  refine xX10_init_1 rfl rfl rfl (s_X3_init  ?_)
  refine xX10_init_4 rfl rfl ?_
  exact hQ
theorem s_X8_init {d : Nat} {sc : Nat × (Nat → Int32)} {h : AH} {a : Nat} {F : AH → Prop} (hQ : F h) : Mok (d + 3) 0 0 sc kX8_init [.ref a] h (Qv F) := by
  refine Mok.ofWp (L := [some (.ref a)]) rfl rfl rfl ?_
  refine xX8_init_0 ?_
  refine xX8_init_1 rfl rfl rfl (s_X10_init  ?_)
  refine xX8_init_4 rfl rfl ?_
  exact hQ
theorem s_X2_init {d : Nat} {sc : Nat × (Nat → Int32)} {h : AH} {a : Nat} {F : AH → Prop} (hQ : F h) : Mok (d + 2) 0 0 sc kX2_init [.ref a] h (Qv F) := by
  refine Mok.ofWp (L := [some (.ref a)]) rfl rfl rfl ?_
  refine xX2_init_0 ?_
  refine xX2_init_1 rfl rfl rfl (s_X3_init  ?_)
  refine xX2_init_4 rfl rfl ?_
  exact hQ
theorem s_X1_init {d : Nat} {sc : Nat × (Nat → Int32)} {h : AH} {a : Nat} {F : AH → Prop} (hQ : F h) : Mok (d + 3) 0 0 sc kX1_init [.ref a] h (Qv F) := by
  refine Mok.ofWp (L := [some (.ref a)]) rfl rfl rfl ?_
  refine xX1_init_0 ?_
  refine xX1_init_1 rfl rfl rfl (s_X9_init  ?_)
  refine xX1_init_4 rfl rfl ?_
  exact hQ
theorem s_X0_init {d : Nat} {sc : Nat × (Nat → Int32)} {T : List (Nat × Nat)} {rf : Nat → Nat → Option Nat} {g : Nat → Nat → Int32} {F : AH → Prop} (hT : T = XTl.take 26) (hQ : F (T ++ [(20, 8)] ++ [(23, 6)] ++ [(3, 0)] ++ [(9, 0)] ++ [(10, 0)] ++ [(1, 0)] ++ [(8, 0)] ++ [(2, 0)] ++ [(20, 6)], (ur (ur (ur (ur (ur (ur (ur (ur (ur rf 25 0 (some 26)) 27 0 (some 28)) 27 1 (some 29)) 27 2 (some 30)) 27 3 (some 31)) 27 4 (some 32)) 27 5 (some 33)) 25 1 (some 27)) 25 2 (some 34)), g)) : Mok (d + 4) 9 20 sc kX0_init [.ref 25] (T, rf, g) (Qv F) := by
  subst hT
  refine Mok.ofWp (L := [some (.ref 25)]) rfl rfl rfl ?_
  refine xX0_init_0 ?_
  refine xX0_init_1 rfl ?_
  refine xX0_init_4 ?_
  refine xX0_init_5 ?_
  refine xX0_init_7 (j := 8) (n := 26) (kc1 := 1) (ks1 := 8) (by decide) rfl rfl rfl rfl rfl rfl rfl (fun hra26 hga26 => ?_)
  refine xX0_init_9 rfl rfl ?_
  refine xX0_init_12 ?_
  refine xX0_init_13 ?_
  refine xX0_init_15 (j := 6) (n := 27) (kc1 := 2) (ks1 := 14) (by decide) rfl rfl rfl rfl rfl rfl rfl (fun hr27 hg27 => ?_)
  refine xX0_init_18 rfl ?_
  refine xX0_init_19 ?_
  refine xX0_init_20 (n := 28) (kc1 := 3) (ks1 := 14) rfl rfl rfl rfl rfl rfl (fun hr28 hg28 => ?_)
  refine xX0_init_23 rfl ?_
  refine xX0_init_24 rfl rfl rfl (s_X3_init  ?_)
  refine xX0_init_27 (j := 0) rfl rfl rfl (by decide) (by decide) rfl ?_
  refine xX0_init_28 rfl ?_
  refine xX0_init_29 ?_
  refine xX0_init_30 (n := 29) (kc1 := 4) (ks1 := 14) rfl rfl rfl rfl rfl rfl (fun hr29 hg29 => ?_)
  refine xX0_init_33 rfl ?_
  refine xX0_init_34 rfl rfl rfl (s_X9_init  ?_)
  refine xX0_init_37 (j := 1) rfl rfl rfl (by decide) (by decide) rfl ?_
  refine xX0_init_38 rfl ?_
  refine xX0_init_39 ?_
  refine xX0_init_40 (n := 30) (kc1 := 5) (ks1 := 14) rfl rfl rfl rfl rfl rfl (fun hr30 hg30 => ?_)
  refine xX0_init_43 rfl ?_
  refine xX0_init_44 rfl rfl rfl (s_X10_init  ?_)
  refine xX0_init_47 (j := 2) rfl rfl rfl (by decide) (by decide) rfl ?_
  refine xX0_init_48 rfl ?_
  refine xX0_init_49 ?_
  refine xX0_init_50 (n := 31) (kc1 := 6) (ks1 := 14) rfl rfl rfl rfl rfl rfl (fun hr31 hg31 => ?_)
  refine xX0_init_53 rfl ?_
  refine xX0_init_54 rfl rfl rfl (s_X1_init  ?_)
  refine xX0_init_57 (j := 3) rfl rfl rfl (by decide) (by decide) rfl ?_
  refine xX0_init_58 rfl ?_
  refine xX0_init_59 ?_
  refine xX0_init_60 (n := 32) (kc1 := 7) (ks1 := 14) rfl rfl rfl rfl rfl rfl (fun hr32 hg32 => ?_)
  refine xX0_init_63 rfl ?_
  refine xX0_init_64 rfl rfl rfl (s_X8_init  ?_)
  refine xX0_init_67 (j := 4) rfl rfl rfl (by decide) (by decide) rfl ?_
  refine xX0_init_68 rfl ?_
  refine xX0_init_69 ?_
  refine xX0_init_70 (n := 33) (kc1 := 8) (ks1 := 14) rfl rfl rfl rfl rfl rfl (fun hr33 hg33 => ?_)
  refine xX0_init_73 rfl ?_
  refine xX0_init_74 rfl rfl rfl (s_X2_init  ?_)
  refine xX0_init_77 (j := 5) rfl rfl rfl (by decide) (by decide) rfl ?_
  refine xX0_init_78 rfl rfl ?_
  refine xX0_init_81 ?_
  refine xX0_init_82 ?_
  refine xX0_init_84 (j := 6) (n := 34) (kc1 := 9) (ks1 := 20) (by decide) rfl rfl rfl rfl rfl rfl rfl (fun hr34 hg34 => ?_)
  refine xX0_init_86 rfl rfl ?_
  refine xX0_init_89 rfl rfl ?_
  exact hQ
theorem s_X6_init {d : Nat} {sc : Nat × (Nat → Int32)} {T : List (Nat × Nat)} {rf : Nat → Nat → Option Nat} {g : Nat → Nat → Int32} {F : AH → Prop} (hT : T = XTl.take 36) (hQ : F (T ++ [(20, 160)] ++ [(20, 160)] ++ [(20, 4)], (ur (ur (ur rf 35 2 (some 36)) 35 3 (some 37)) 35 4 (some 38)), g)) : Mok (d + 1) 3 324 sc kX6_init [.ref 35] (T, rf, g) (Qv F) := by
  subst hT
  refine Mok.ofWp (L := [some (.ref 35)]) rfl rfl rfl ?_
  refine xX6_init_0 ?_
  refine xX6_init_1 rfl ?_
  refine xX6_init_4 ?_
  refine xX6_init_5 ?_
  refine xX6_init_8 (j := 160) (n := 36) (kc1 := 1) (ks1 := 160) (by decide) rfl rfl rfl rfl rfl rfl rfl (fun hr36 hg36 => ?_)
  refine xX6_init_10 rfl rfl ?_
  refine xX6_init_13 ?_
  refine xX6_init_14 ?_
  refine xX6_init_17 (j := 160) (n := 37) (kc1 := 2) (ks1 := 320) (by decide) rfl rfl rfl rfl rfl rfl rfl (fun hr37 hg37 => ?_)
  refine xX6_init_19 rfl rfl ?_
  refine xX6_init_22 ?_
  refine xX6_init_23 ?_
  refine xX6_init_24 (j := 4) (n := 38) (kc1 := 3) (ks1 := 324) (by decide) rfl rfl rfl rfl rfl rfl rfl (fun hr38 hg38 => ?_)
  refine xX6_init_26 rfl rfl ?_
  refine xX6_init_29 rfl rfl ?_
  exact hQ
theorem s_X7_init {d : Nat} {sc : Nat × (Nat → Int32)} {T : List (Nat × Nat)} {rf : Nat → Nat → Option Nat} {g : Nat → Nat → Int32} {b : Nat} {F : AH → Prop} (hl : T.length = b + 1) (hb : b < 900) (hT : T[b]? = some (7, 0)) (hQ : (∀ k, g (b + 1) k = 0) → F (T ++ [(20, 40)], ur rf b 0 (some (b + 1)), up g b 1 (-1))) : Mok (d + 1) 1 40 sc kX7_init [.ref b] (T, rf, g) (Qv F) := by
  refine Mok.ofWp (L := [some (.ref b)]) rfl rfl rfl ?_
  refine xX7_init_0 ?_
  refine xX7_init_1 rfl ?_
  refine xX7_init_4 ?_
  refine xX7_init_5 ?_
  refine xX7_init_7 (j := 40) (n := (b + 1)) (kc1 := 1) (ks1 := 40) (by decide) rfl hl (blt (by omega)) rfl rfl rfl rfl (fun hra1 hga1 => ?_)
  refine xX7_init_9 (tA hT) (tN hl) ?_
  refine xX7_init_12 ?_
  refine xX7_init_13 ?_
  refine xX7_init_14 (tA hT) ?_
  refine xX7_init_17 rfl rfl ?_
  exact hQ hga1
