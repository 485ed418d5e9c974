/-- a cake of the kind k is one of f -/
def isUB (k f : Int32) : Bool := decide (f < 6) && (decide (f = 0) || decide (k = f) || (decide (f = 1) && decide (k = 3)) || (decide (f = 2) && decide (k = 4)))
theorem isUB_6 {k f : Int32} (h : 5 < f.toInt) : isUB k f = false := by
  have : ¬ f < 6 := fun z => by
    have z2 := iLt.mp z
    have z2 : f.toInt < 6 := z2
    omega
  simp [isUB, this]
theorem bit1 {b : Bool} (h : ¬ (if b = true then (1 : Int32) else 0) = 0) : b = true := by
  cases b
  · exact absurd rfl h
  · rfl
theorem bit0 {b : Bool} (h : (if b = true then (1 : Int32) else 0) = 0) : ¬ b = true := by
  cases b
  · decide
  · exact absurd h (by decide)
def takenP (o : OV) (nc : Nat) (i f : Int32) : Int32 := if 0 ≤ f ∧ f ≤ 6 then (if 0 ≤ i ∧ i ≤ 31 then (if i < 16 then (if onP o nc i = -1 then -11 else (if isUB (o 2 (nN (onP o nc i))) f = true then onP o nc i else -13)) else (if f = 6 then o 1 (nN i - 16) else -13)) else -12) else -2
theorem s_X11_isOf0 {d : Nat} {sc : Nat × (Nat → Int32)} {T : List (Nat × Nat)} {rf : Nat → Nat → Option Nat} {g : Nat → Nat → Int32} {f : Int32} {F : Int32 → AH → Prop} (hX : XS T rf) (h0 : 0 ≤ f) (hQ : F (if isUB (nI 0) f = true then 1 else 0) (T, rf, g)) : Mok d 0 0 sc kX11_isOf [.ref 28, .int f] (T, rf, g) (Qi F) := by
  refine Mok.ofWp (L := [some (.ref 28), some (.int f)]) rfl rfl rfl ?_
  refine xX11_isOf_0 ?_
  refine xX11_isOf_1 (fun c1 => ?_) (fun c1 => ?_) (fun c1 => ?_) (fun c1 => ?_) (fun c1 => ?_) (fun c1 => ?_) (fun c1 => ?_)
  · subst c1
    refine xX11_isOf_40 ?_
    refine xX11_isOf_41 ?_
    refine xX11_isOf_44 ?_
    refine xX11_isOf_45 ?_
    refine xX11_isOf_49 (Or.inr rfl) rfl rfl ?_
    rw [if_pos (by decide)] at hQ
    exact hQ
  · subst c1
    refine xX11_isOf_50 ?_
    refine xX11_isOf_51_c3 (hX.1 _ _ rfl) ?_
    refine xX11_isOf_54 (Or.inl rfl) rfl rfl ?_
    rw [if_neg (by decide)] at hQ
    exact hQ
  · subst c1
    refine xX11_isOf_55 ?_
    refine xX11_isOf_56_c3 (hX.1 _ _ rfl) ?_
    refine xX11_isOf_59 (Or.inl rfl) rfl rfl ?_
    rw [if_neg (by decide)] at hQ
    exact hQ
  · subst c1
    refine xX11_isOf_60 ?_
    refine xX11_isOf_61_c3 (hX.1 _ _ rfl) ?_
    refine xX11_isOf_64 (Or.inl rfl) rfl rfl ?_
    rw [if_neg (by decide)] at hQ
    exact hQ
  · subst c1
    refine xX11_isOf_65 ?_
    refine xX11_isOf_66_c3 (hX.1 _ _ rfl) ?_
    refine xX11_isOf_69 (Or.inl rfl) rfl rfl ?_
    rw [if_neg (by decide)] at hQ
    exact hQ
  · subst c1
    refine xX11_isOf_70 ?_
    refine xX11_isOf_71_c3 (hX.1 _ _ rfl) ?_
    refine xX11_isOf_74 (Or.inl rfl) rfl rfl ?_
    rw [if_neg (by decide)] at hQ
    exact hQ
  · refine xX11_isOf_75 ?_
    refine xX11_isOf_76 (Or.inl rfl) rfl rfl ?_
    rw [if_neg (by rw [isUB_6 (by have := i0.mp h0; omega)]; decide)] at hQ
    exact hQ
theorem s_X11_isOf1 {d : Nat} {sc : Nat × (Nat → Int32)} {T : List (Nat × Nat)} {rf : Nat → Nat → Option Nat} {g : Nat → Nat → Int32} {f : Int32} {F : Int32 → AH → Prop} (hX : XS T rf) (h0 : 0 ≤ f) (hQ : F (if isUB (nI 1) f = true then 1 else 0) (T, rf, g)) : Mok d 0 0 sc kX11_isOf [.ref 29, .int f] (T, rf, g) (Qi F) := by
  refine Mok.ofWp (L := [some (.ref 29), some (.int f)]) rfl rfl rfl ?_
  refine xX11_isOf_0 ?_
  refine xX11_isOf_1 (fun c1 => ?_) (fun c1 => ?_) (fun c1 => ?_) (fun c1 => ?_) (fun c1 => ?_) (fun c1 => ?_) (fun c1 => ?_)
  · subst c1
    refine xX11_isOf_40 ?_
    refine xX11_isOf_41 ?_
    refine xX11_isOf_44 ?_
    refine xX11_isOf_45 ?_
    refine xX11_isOf_49 (Or.inr rfl) rfl rfl ?_
    rw [if_pos (by decide)] at hQ
    exact hQ
  · subst c1
    refine xX11_isOf_50 ?_
    refine xX11_isOf_51_c9 (hX.1 _ _ rfl) ?_
    refine xX11_isOf_54 (Or.inr rfl) rfl rfl ?_
    rw [if_pos (by decide)] at hQ
    exact hQ
  · subst c1
    refine xX11_isOf_55 ?_
    refine xX11_isOf_56_c9 (hX.1 _ _ rfl) ?_
    refine xX11_isOf_59 (Or.inl rfl) rfl rfl ?_
    rw [if_neg (by decide)] at hQ
    exact hQ
  · subst c1
    refine xX11_isOf_60 ?_
    refine xX11_isOf_61_c9 (hX.1 _ _ rfl) ?_
    refine xX11_isOf_64 (Or.inl rfl) rfl rfl ?_
    rw [if_neg (by decide)] at hQ
    exact hQ
  · subst c1
    refine xX11_isOf_65 ?_
    refine xX11_isOf_66_c9 (hX.1 _ _ rfl) ?_
    refine xX11_isOf_69 (Or.inl rfl) rfl rfl ?_
    rw [if_neg (by decide)] at hQ
    exact hQ
  · subst c1
    refine xX11_isOf_70 ?_
    refine xX11_isOf_71_c9 (hX.1 _ _ rfl) ?_
    refine xX11_isOf_74 (Or.inl rfl) rfl rfl ?_
    rw [if_neg (by decide)] at hQ
    exact hQ
  · refine xX11_isOf_75 ?_
    refine xX11_isOf_76 (Or.inl rfl) rfl rfl ?_
    rw [if_neg (by rw [isUB_6 (by have := i0.mp h0; omega)]; decide)] at hQ
    exact hQ
theorem s_X11_isOf2 {d : Nat} {sc : Nat × (Nat → Int32)} {T : List (Nat × Nat)} {rf : Nat → Nat → Option Nat} {g : Nat → Nat → Int32} {f : Int32} {F : Int32 → AH → Prop} (hX : XS T rf) (h0 : 0 ≤ f) (hQ : F (if isUB (nI 2) f = true then 1 else 0) (T, rf, g)) : Mok d 0 0 sc kX11_isOf [.ref 30, .int f] (T, rf, g) (Qi F) := by
  refine Mok.ofWp (L := [some (.ref 30), some (.int f)]) rfl rfl rfl ?_
  refine xX11_isOf_0 ?_
  refine xX11_isOf_1 (fun c1 => ?_) (fun c1 => ?_) (fun c1 => ?_) (fun c1 => ?_) (fun c1 => ?_) (fun c1 => ?_) (fun c1 => ?_)
  · subst c1
    refine xX11_isOf_40 ?_
    refine xX11_isOf_41 ?_
    refine xX11_isOf_44 ?_
    refine xX11_isOf_45 ?_
    refine xX11_isOf_49 (Or.inr rfl) rfl rfl ?_
    rw [if_pos (by decide)] at hQ
    exact hQ
  · subst c1
    refine xX11_isOf_50 ?_
    refine xX11_isOf_51_c10 (hX.1 _ _ rfl) ?_
    refine xX11_isOf_54 (Or.inl rfl) rfl rfl ?_
    rw [if_neg (by decide)] at hQ
    exact hQ
  · subst c1
    refine xX11_isOf_55 ?_
    refine xX11_isOf_56_c10 (hX.1 _ _ rfl) ?_
    refine xX11_isOf_59 (Or.inr rfl) rfl rfl ?_
    rw [if_pos (by decide)] at hQ
    exact hQ
  · subst c1
    refine xX11_isOf_60 ?_
    refine xX11_isOf_61_c10 (hX.1 _ _ rfl) ?_
    refine xX11_isOf_64 (Or.inl rfl) rfl rfl ?_
    rw [if_neg (by decide)] at hQ
    exact hQ
  · subst c1
    refine xX11_isOf_65 ?_
    refine xX11_isOf_66_c10 (hX.1 _ _ rfl) ?_
    refine xX11_isOf_69 (Or.inl rfl) rfl rfl ?_
    rw [if_neg (by decide)] at hQ
    exact hQ
  · subst c1
    refine xX11_isOf_70 ?_
    refine xX11_isOf_71_c10 (hX.1 _ _ rfl) ?_
    refine xX11_isOf_74 (Or.inl rfl) rfl rfl ?_
    rw [if_neg (by decide)] at hQ
    exact hQ
  · refine xX11_isOf_75 ?_
    refine xX11_isOf_76 (Or.inl rfl) rfl rfl ?_
    rw [if_neg (by rw [isUB_6 (by have := i0.mp h0; omega)]; decide)] at hQ
    exact hQ
theorem s_X11_isOf3 {d : Nat} {sc : Nat × (Nat → Int32)} {T : List (Nat × Nat)} {rf : Nat → Nat → Option Nat} {g : Nat → Nat → Int32} {f : Int32} {F : Int32 → AH → Prop} (hX : XS T rf) (h0 : 0 ≤ f) (hQ : F (if isUB (nI 3) f = true then 1 else 0) (T, rf, g)) : Mok d 0 0 sc kX11_isOf [.ref 31, .int f] (T, rf, g) (Qi F) := by
  refine Mok.ofWp (L := [some (.ref 31), some (.int f)]) rfl rfl rfl ?_
  refine xX11_isOf_0 ?_
  refine xX11_isOf_1 (fun c1 => ?_) (fun c1 => ?_) (fun c1 => ?_) (fun c1 => ?_) (fun c1 => ?_) (fun c1 => ?_) (fun c1 => ?_)
  · subst c1
    refine xX11_isOf_40 ?_
    refine xX11_isOf_41 ?_
    refine xX11_isOf_44 ?_
    refine xX11_isOf_45 ?_
    refine xX11_isOf_49 (Or.inr rfl) rfl rfl ?_
    rw [if_pos (by decide)] at hQ
    exact hQ
  · subst c1
    refine xX11_isOf_50 ?_
    refine xX11_isOf_51_c1 (hX.1 _ _ rfl) ?_
    refine xX11_isOf_54 (Or.inr rfl) rfl rfl ?_
    rw [if_pos (by decide)] at hQ
    exact hQ
  · subst c1
    refine xX11_isOf_55 ?_
    refine xX11_isOf_56_c1 (hX.1 _ _ rfl) ?_
    refine xX11_isOf_59 (Or.inl rfl) rfl rfl ?_
    rw [if_neg (by decide)] at hQ
    exact hQ
  · subst c1
    refine xX11_isOf_60 ?_
    refine xX11_isOf_61_c1 (hX.1 _ _ rfl) ?_
    refine xX11_isOf_64 (Or.inr rfl) rfl rfl ?_
    rw [if_pos (by decide)] at hQ
    exact hQ
  · subst c1
    refine xX11_isOf_65 ?_
    refine xX11_isOf_66_c1 (hX.1 _ _ rfl) ?_
    refine xX11_isOf_69 (Or.inl rfl) rfl rfl ?_
    rw [if_neg (by decide)] at hQ
    exact hQ
  · subst c1
    refine xX11_isOf_70 ?_
    refine xX11_isOf_71_c1 (hX.1 _ _ rfl) ?_
    refine xX11_isOf_74 (Or.inl rfl) rfl rfl ?_
    rw [if_neg (by decide)] at hQ
    exact hQ
  · refine xX11_isOf_75 ?_
    refine xX11_isOf_76 (Or.inl rfl) rfl rfl ?_
    rw [if_neg (by rw [isUB_6 (by have := i0.mp h0; omega)]; decide)] at hQ
    exact hQ
theorem s_X11_isOf4 {d : Nat} {sc : Nat × (Nat → Int32)} {T : List (Nat × Nat)} {rf : Nat → Nat → Option Nat} {g : Nat → Nat → Int32} {f : Int32} {F : Int32 → AH → Prop} (hX : XS T rf) (h0 : 0 ≤ f) (hQ : F (if isUB (nI 4) f = true then 1 else 0) (T, rf, g)) : Mok d 0 0 sc kX11_isOf [.ref 32, .int f] (T, rf, g) (Qi F) := by
  refine Mok.ofWp (L := [some (.ref 32), some (.int f)]) rfl rfl rfl ?_
  refine xX11_isOf_0 ?_
  refine xX11_isOf_1 (fun c1 => ?_) (fun c1 => ?_) (fun c1 => ?_) (fun c1 => ?_) (fun c1 => ?_) (fun c1 => ?_) (fun c1 => ?_)
  · subst c1
    refine xX11_isOf_40 ?_
    refine xX11_isOf_41 ?_
    refine xX11_isOf_44 ?_
    refine xX11_isOf_45 ?_
    refine xX11_isOf_49 (Or.inr rfl) rfl rfl ?_
    rw [if_pos (by decide)] at hQ
    exact hQ
  · subst c1
    refine xX11_isOf_50 ?_
    refine xX11_isOf_51_c8 (hX.1 _ _ rfl) ?_
    refine xX11_isOf_54 (Or.inl rfl) rfl rfl ?_
    rw [if_neg (by decide)] at hQ
    exact hQ
  · subst c1
    refine xX11_isOf_55 ?_
    refine xX11_isOf_56_c8 (hX.1 _ _ rfl) ?_
    refine xX11_isOf_59 (Or.inr rfl) rfl rfl ?_
    rw [if_pos (by decide)] at hQ
    exact hQ
  · subst c1
    refine xX11_isOf_60 ?_
    refine xX11_isOf_61_c8 (hX.1 _ _ rfl) ?_
    refine xX11_isOf_64 (Or.inl rfl) rfl rfl ?_
    rw [if_neg (by decide)] at hQ
    exact hQ
  · subst c1
    refine xX11_isOf_65 ?_
    refine xX11_isOf_66_c8 (hX.1 _ _ rfl) ?_
    refine xX11_isOf_69 (Or.inr rfl) rfl rfl ?_
    rw [if_pos (by decide)] at hQ
    exact hQ
  · subst c1
    refine xX11_isOf_70 ?_
    refine xX11_isOf_71_c8 (hX.1 _ _ rfl) ?_
    refine xX11_isOf_74 (Or.inl rfl) rfl rfl ?_
    rw [if_neg (by decide)] at hQ
    exact hQ
  · refine xX11_isOf_75 ?_
    refine xX11_isOf_76 (Or.inl rfl) rfl rfl ?_
    rw [if_neg (by rw [isUB_6 (by have := i0.mp h0; omega)]; decide)] at hQ
    exact hQ
theorem s_X11_isOf5 {d : Nat} {sc : Nat × (Nat → Int32)} {T : List (Nat × Nat)} {rf : Nat → Nat → Option Nat} {g : Nat → Nat → Int32} {f : Int32} {F : Int32 → AH → Prop} (hX : XS T rf) (h0 : 0 ≤ f) (hQ : F (if isUB (nI 5) f = true then 1 else 0) (T, rf, g)) : Mok d 0 0 sc kX11_isOf [.ref 33, .int f] (T, rf, g) (Qi F) := by
  refine Mok.ofWp (L := [some (.ref 33), some (.int f)]) rfl rfl rfl ?_
  refine xX11_isOf_0 ?_
  refine xX11_isOf_1 (fun c1 => ?_) (fun c1 => ?_) (fun c1 => ?_) (fun c1 => ?_) (fun c1 => ?_) (fun c1 => ?_) (fun c1 => ?_)
  · subst c1
    refine xX11_isOf_40 ?_
    refine xX11_isOf_41 ?_
    refine xX11_isOf_44 ?_
    refine xX11_isOf_45 ?_
    refine xX11_isOf_49 (Or.inr rfl) rfl rfl ?_
    rw [if_pos (by decide)] at hQ
    exact hQ
  · subst c1
    refine xX11_isOf_50 ?_
    refine xX11_isOf_51_c2 (hX.1 _ _ rfl) ?_
    refine xX11_isOf_54 (Or.inl rfl) rfl rfl ?_
    rw [if_neg (by decide)] at hQ
    exact hQ
  · subst c1
    refine xX11_isOf_55 ?_
    refine xX11_isOf_56_c2 (hX.1 _ _ rfl) ?_
    refine xX11_isOf_59 (Or.inl rfl) rfl rfl ?_
    rw [if_neg (by decide)] at hQ
    exact hQ
  · subst c1
    refine xX11_isOf_60 ?_
    refine xX11_isOf_61_c2 (hX.1 _ _ rfl) ?_
    refine xX11_isOf_64 (Or.inl rfl) rfl rfl ?_
    rw [if_neg (by decide)] at hQ
    exact hQ
  · subst c1
    refine xX11_isOf_65 ?_
    refine xX11_isOf_66_c2 (hX.1 _ _ rfl) ?_
    refine xX11_isOf_69 (Or.inl rfl) rfl rfl ?_
    rw [if_neg (by decide)] at hQ
    exact hQ
  · subst c1
    refine xX11_isOf_70 ?_
    refine xX11_isOf_71_c2 (hX.1 _ _ rfl) ?_
    refine xX11_isOf_74 (Or.inr rfl) rfl rfl ?_
    rw [if_pos (by decide)] at hQ
    exact hQ
  · refine xX11_isOf_75 ?_
    refine xX11_isOf_76 (Or.inl rfl) rfl rfl ?_
    rw [if_neg (by rw [isUB_6 (by have := i0.mp h0; omega)]; decide)] at hQ
    exact hQ
theorem s_X11_taken {d : Nat} {sc : Nat × (Nat → Int32)} {T : List (Nat × Nat)} {rf : Nat → Nat → Option Nat} {g : Nat → Nat → Int32} {nc tc t : Nat} {o : OV} {lws : Nat → Nat → List Int32} {i f : Int32} {F : Int32 → AH → Prop} (hO : OB T rf g 1 o nc tc lws t) (hQ : F (takenP o nc i f) (T, rf, g)) : Mok (d + 3) 0 0 sc kX11_taken [.ref 0, .int i, .int f] (T, rf, g) (Qi F) := by
  obtain ⟨hX, -, hS, hE, hV, hlw, htc⟩ := id hO
  have hn8 : nc ≤ 8 := hV.2.1
  have hcn : g 1 5 = nI nc := hE.1.1.trans hV.1
  refine Mok.ofWp (L := [some (.ref 0), some (.int i), some (.int f), none]) rfl rfl rfl ?_
  refine xX11_taken_0 ?_
  refine xX11_taken_1 ?_
  refine xX11_taken_2 ?_
  refine xX11_taken_4 rfl rfl rfl (s_X11_within  (fun hw0 => ?_) (fun nw0 => ?_))
  · refine xX11_taken_7_t (by decide) ?_
    refine xX11_taken_13 ?_
    refine xX11_taken_14 ?_
    refine xX11_taken_15 ?_
    refine xX11_taken_17 rfl rfl rfl (s_X11_within  (fun hw1 => ?_) (fun nw1 => ?_))
    · refine xX11_taken_20_t (by decide) ?_
      refine xX11_taken_26 ?_
      refine xX11_taken_27 ?_
      refine xX11_taken_29 (fun c29 => ?_) (fun c29 => ?_)
      · have h16 : i < 16 := c29
        refine xX11_taken_56 ?_
        refine xX11_taken_57 (hX.1 _ _ rfl) (hX.2 _ _ _ rfl) ?_
        refine xX11_taken_60 ?_
        refine xX11_taken_61 (hX.1 _ _ rfl) rfl rfl rfl (s_X5_cakeOn (OvT.of hX (Or.inl rfl)) hE hV ?_)
        refine xX11_taken_64 rfl ?_
        refine xX11_taken_65 ?_
        refine xX11_taken_66 ?_
        refine xX11_taken_67 (fun c67 => ?_) (fun c67 => ?_)
        · obtain ⟨ci, hci, eci⟩ : ∃ ci, ci < nc ∧ onP o nc i = nI ci := by
            rcases scan_in (p := fun c => o 5 c = i) nc 0 with z | ⟨a, -, z2, -, z4⟩
            · exact absurd z c67
            · exact ⟨a, by omega, z4⟩
          obtain ⟨kk, hkk, ek⟩ := hV.k hci
          have enc : nN (onP o nc i) = ci := by rw [eci, nN_nI (by omega)]
          refine xX11_taken_73 ?_
          refine xX11_taken_74 (hX.1 _ _ rfl) (hX.2 _ _ _ rfl) ?_
          refine xX11_taken_77 ?_
          refine xX11_taken_78 (hX.1 _ _ rfl) (hX.2 _ _ _ rfl) ?_
          refine xX11_taken_81 (hX.1 _ _ rfl) (hX.2 _ _ _ rfl) ?_
          refine xX11_taken_84 ?_
          refine xX11_taken_85 (j := ci) (hX.1 _ _ rfl) eci (by omega) rfl ?_
          rw [show g 3 ci = nI kk from ((hE.2.2.1 _ hci).1).trans ek]
          refine xX11_taken_86 (hX.1 _ _ rfl) rfl rfl rfl (s_X0_kindOf hX rfl hkk (fun hk3 => ?_) (fun hk3 => ?_) (fun hk3 => ?_) (fun hk3 => ?_) (fun hk3 => ?_) (fun hk3 => ?_))
          · subst hk3
            refine xX11_taken_89 ?_
            refine xX11_taken_90 rfl rfl rfl (s_X11_isOf0 hX hw0.1 ?_)
            refine xX11_taken_93 (fun c93 => ?_) (fun c93 => ?_)
            · refine xX11_taken_100 ?_
              refine xX11_taken_102 rfl rfl ?_
              rw [takenP, if_pos hw0, if_pos hw1, if_pos h16, if_neg c67, enc, ek] at hQ
              first
                | (rw [if_pos (bit1 c93)] at hQ; exact hQ)
                | (rw [if_neg (bit0 c93)] at hQ; exact hQ)
            · refine xX11_taken_96 ?_
              refine xX11_taken_97 ?_
              refine xX11_taken_102 rfl rfl ?_
              rw [takenP, if_pos hw0, if_pos hw1, if_pos h16, if_neg c67, enc, ek] at hQ
              first
                | (rw [if_pos (bit1 c93)] at hQ; exact hQ)
                | (rw [if_neg (bit0 c93)] at hQ; exact hQ)
          · subst hk3
            refine xX11_taken_89 ?_
            refine xX11_taken_90 rfl rfl rfl (s_X11_isOf1 hX hw0.1 ?_)
            refine xX11_taken_93 (fun c93 => ?_) (fun c93 => ?_)
            · refine xX11_taken_100 ?_
              refine xX11_taken_102 rfl rfl ?_
              rw [takenP, if_pos hw0, if_pos hw1, if_pos h16, if_neg c67, enc, ek] at hQ
              first
                | (rw [if_pos (bit1 c93)] at hQ; exact hQ)
                | (rw [if_neg (bit0 c93)] at hQ; exact hQ)
            · refine xX11_taken_96 ?_
              refine xX11_taken_97 ?_
              refine xX11_taken_102 rfl rfl ?_
              rw [takenP, if_pos hw0, if_pos hw1, if_pos h16, if_neg c67, enc, ek] at hQ
              first
                | (rw [if_pos (bit1 c93)] at hQ; exact hQ)
                | (rw [if_neg (bit0 c93)] at hQ; exact hQ)
          · subst hk3
            refine xX11_taken_89 ?_
            refine xX11_taken_90 rfl rfl rfl (s_X11_isOf2 hX hw0.1 ?_)
            refine xX11_taken_93 (fun c93 => ?_) (fun c93 => ?_)
            · refine xX11_taken_100 ?_
              refine xX11_taken_102 rfl rfl ?_
              rw [takenP, if_pos hw0, if_pos hw1, if_pos h16, if_neg c67, enc, ek] at hQ
              first
                | (rw [if_pos (bit1 c93)] at hQ; exact hQ)
                | (rw [if_neg (bit0 c93)] at hQ; exact hQ)
            · refine xX11_taken_96 ?_
              refine xX11_taken_97 ?_
              refine xX11_taken_102 rfl rfl ?_
              rw [takenP, if_pos hw0, if_pos hw1, if_pos h16, if_neg c67, enc, ek] at hQ
              first
                | (rw [if_pos (bit1 c93)] at hQ; exact hQ)
                | (rw [if_neg (bit0 c93)] at hQ; exact hQ)
          · subst hk3
            refine xX11_taken_89 ?_
            refine xX11_taken_90 rfl rfl rfl (s_X11_isOf3 hX hw0.1 ?_)
            refine xX11_taken_93 (fun c93 => ?_) (fun c93 => ?_)
            · refine xX11_taken_100 ?_
              refine xX11_taken_102 rfl rfl ?_
              rw [takenP, if_pos hw0, if_pos hw1, if_pos h16, if_neg c67, enc, ek] at hQ
              first
                | (rw [if_pos (bit1 c93)] at hQ; exact hQ)
                | (rw [if_neg (bit0 c93)] at hQ; exact hQ)
            · refine xX11_taken_96 ?_
              refine xX11_taken_97 ?_
              refine xX11_taken_102 rfl rfl ?_
              rw [takenP, if_pos hw0, if_pos hw1, if_pos h16, if_neg c67, enc, ek] at hQ
              first
                | (rw [if_pos (bit1 c93)] at hQ; exact hQ)
                | (rw [if_neg (bit0 c93)] at hQ; exact hQ)
          · subst hk3
            refine xX11_taken_89 ?_
            refine xX11_taken_90 rfl rfl rfl (s_X11_isOf4 hX hw0.1 ?_)
            refine xX11_taken_93 (fun c93 => ?_) (fun c93 => ?_)
            · refine xX11_taken_100 ?_
              refine xX11_taken_102 rfl rfl ?_
              rw [takenP, if_pos hw0, if_pos hw1, if_pos h16, if_neg c67, enc, ek] at hQ
              first
                | (rw [if_pos (bit1 c93)] at hQ; exact hQ)
                | (rw [if_neg (bit0 c93)] at hQ; exact hQ)
            · refine xX11_taken_96 ?_
              refine xX11_taken_97 ?_
              refine xX11_taken_102 rfl rfl ?_
              rw [takenP, if_pos hw0, if_pos hw1, if_pos h16, if_neg c67, enc, ek] at hQ
              first
                | (rw [if_pos (bit1 c93)] at hQ; exact hQ)
                | (rw [if_neg (bit0 c93)] at hQ; exact hQ)
          · subst hk3
            refine xX11_taken_89 ?_
            refine xX11_taken_90 rfl rfl rfl (s_X11_isOf5 hX hw0.1 ?_)
            refine xX11_taken_93 (fun c93 => ?_) (fun c93 => ?_)
            · refine xX11_taken_100 ?_
              refine xX11_taken_102 rfl rfl ?_
              rw [takenP, if_pos hw0, if_pos hw1, if_pos h16, if_neg c67, enc, ek] at hQ
              first
                | (rw [if_pos (bit1 c93)] at hQ; exact hQ)
                | (rw [if_neg (bit0 c93)] at hQ; exact hQ)
            · refine xX11_taken_96 ?_
              refine xX11_taken_97 ?_
              refine xX11_taken_102 rfl rfl ?_
              rw [takenP, if_pos hw0, if_pos hw1, if_pos h16, if_neg c67, enc, ek] at hQ
              first
                | (rw [if_pos (bit1 c93)] at hQ; exact hQ)
                | (rw [if_neg (bit0 c93)] at hQ; exact hQ)
        · 
          refine xX11_taken_70 ?_
          refine xX11_taken_72 rfl rfl ?_
          rw [takenP, if_pos hw0, if_pos hw1, if_pos h16, if_pos c67] at hQ
          exact hQ
      · have h16 : ¬ i < 16 := c29
        have i31 := inN hw1
        have e16 : i - 16 = nI (nN i - 16) := by
          have l1 : 16 ≤ nN i := by
            have := Int32.not_lt.mp c29
            have := iLe.mp this
            have : (16 : Int) ≤ i.toInt := this
            unfold nN; omega
          have l2 : nN i ≤ 31 := i31.2
          apply Int32.toInt_inj.mp
          have e1 : i.toInt = (nN i : Int) := by
            have := i31.1
            have e3 := congrArg Int32.toInt this
            rw [iT (by omega)] at e3
            exact e3
          rw [iSub (by rw [e1]; show _ ≤ _ - (16 : Int); omega) (by rw [e1]; show _ - (16 : Int) < _; omega), e1, iT (by omega)]
          show _ - (16 : Int) = _
          omega
        have l31 : nN i ≤ 31 := i31.2
        refine xX11_taken_32 ?_
        refine xX11_taken_33 ?_
        refine xX11_taken_35 (fun c35 => ?_) (fun c35 => ?_)
        · refine xX11_taken_53 ?_
          refine xX11_taken_55 rfl rfl ?_
          first
            | (rw [takenP, if_pos hw0, if_pos hw1, if_neg h16, if_pos c35, ← hE.2.1 _ (by omega)] at hQ; exact hQ)
            | (rw [takenP, if_pos hw0, if_pos hw1, if_neg h16, if_neg c35] at hQ; exact hQ)
        · refine xX11_taken_38 ?_
          refine xX11_taken_39 (hX.1 _ _ rfl) (hX.2 _ _ _ rfl) ?_
          refine xX11_taken_42 (hX.1 _ _ rfl) (hX.2 _ _ _ rfl) ?_
          refine xX11_taken_45 ?_
          refine xX11_taken_46 ?_
          refine xX11_taken_48 ?_
          refine xX11_taken_49 (j := (nN i - 16)) (hX.1 _ _ rfl) e16 (by omega) rfl ?_
          refine xX11_taken_50 ?_
          refine xX11_taken_55 rfl rfl ?_
          first
            | (rw [takenP, if_pos hw0, if_pos hw1, if_neg h16, if_pos c35, ← hE.2.1 _ (by omega)] at hQ; exact hQ)
            | (rw [takenP, if_pos hw0, if_pos hw1, if_neg h16, if_neg c35] at hQ; exact hQ)
    · refine xX11_taken_20_f (by decide) ?_
      refine xX11_taken_23 ?_
      refine xX11_taken_25 rfl rfl ?_
      rw [takenP, if_pos hw0, if_neg nw1] at hQ
      exact hQ
  · refine xX11_taken_7_f (by decide) ?_
    refine xX11_taken_10 ?_
    refine xX11_taken_12 rfl rfl ?_
    rw [takenP, if_neg nw0] at hQ
    exact hQ
