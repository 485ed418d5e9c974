theorem s_X0_kindOf {d : Nat} {sc : Nat × (Nat → Int32)} {T : List (Nat × Nat)} {rf : Nat → Nat → Option Nat} {g : Nat → Nat → Int32} {F : Option Nat → AH → Prop} {x0 : Int32} {k : Nat} (hX : XS T rf) (hk : x0 = nI k) (hk6 : k < 6) (q0 : k = 0 → F (some 28) (T, rf, g)) (q1 : k = 1 → F (some 29) (T, rf, g)) (q2 : k = 2 → F (some 30) (T, rf, g)) (q3 : k = 3 → F (some 31) (T, rf, g)) (q4 : k = 4 → F (some 32) (T, rf, g)) (q5 : k = 5 → F (some 33) (T, rf, g)) : Mok (d + 1) 0 0 sc kX0_kindOf [.ref 25, .int x0] (T, rf, g) (Qr F) := by
  rcases (by omega : k = 0 ∨ k = 1 ∨ k = 2 ∨ k = 3 ∨ k = 4 ∨ k = 5) with rfl | rfl | rfl | rfl | rfl | rfl
  · refine Mok.ofWp (L := [some (.ref 25), some (.int x0)]) rfl rfl rfl ?_
    refine xX0_kindOf_0 ?_
    refine xX0_kindOf_1 ?_
    refine xX0_kindOf_2 ?_
    refine xX0_kindOf_3 (hX.1 _ _ rfl) (hX.2 _ _ _ rfl) ?_
    refine xX0_kindOf_6 (hX.1 _ _ rfl) rfl rfl ?_
    refine xX0_kindOf_7 ?_
    refine xX0_kindOf_8 ?_
    refine xX0_kindOf_9 rfl rfl rfl (s_X11_within (fun hw0 => ?_) (fun hw0 => absurd ⟨by rw [hk]; decide, by rw [hk]; decide⟩ hw0))
    refine xX0_kindOf_12_f (by decide) ?_
    refine xX0_kindOf_15 ?_
    refine xX0_kindOf_16 (hX.1 _ _ rfl) (hX.2 _ _ _ rfl) ?_
    refine xX0_kindOf_19 ?_
    refine xX0_kindOf_20 (j := 0) (hX.1 _ _ rfl) rfl rfl hk (by decide) rfl (hX.2 _ _ _ rfl) ?_
    refine xX0_kindOf_21 ?_
    refine xX0_kindOf_30 rfl rfl ?_
    exact q0 rfl
  · refine Mok.ofWp (L := [some (.ref 25), some (.int x0)]) rfl rfl rfl ?_
    refine xX0_kindOf_0 ?_
    refine xX0_kindOf_1 ?_
    refine xX0_kindOf_2 ?_
    refine xX0_kindOf_3 (hX.1 _ _ rfl) (hX.2 _ _ _ rfl) ?_
    refine xX0_kindOf_6 (hX.1 _ _ rfl) rfl rfl ?_
    refine xX0_kindOf_7 ?_
    refine xX0_kindOf_8 ?_
    refine xX0_kindOf_9 rfl rfl rfl (s_X11_within (fun hw0 => ?_) (fun hw0 => absurd ⟨by rw [hk]; decide, by rw [hk]; decide⟩ hw0))
    refine xX0_kindOf_12_f (by decide) ?_
    refine xX0_kindOf_15 ?_
    refine xX0_kindOf_16 (hX.1 _ _ rfl) (hX.2 _ _ _ rfl) ?_
    refine xX0_kindOf_19 ?_
    refine xX0_kindOf_20 (j := 1) (hX.1 _ _ rfl) rfl rfl hk (by decide) rfl (hX.2 _ _ _ rfl) ?_
    refine xX0_kindOf_21 ?_
    refine xX0_kindOf_30 rfl rfl ?_
    exact q1 rfl
  · refine Mok.ofWp (L := [some (.ref 25), some (.int x0)]) rfl rfl rfl ?_
    refine xX0_kindOf_0 ?_
    refine xX0_kindOf_1 ?_
    refine xX0_kindOf_2 ?_
    refine xX0_kindOf_3 (hX.1 _ _ rfl) (hX.2 _ _ _ rfl) ?_
    refine xX0_kindOf_6 (hX.1 _ _ rfl) rfl rfl ?_
    refine xX0_kindOf_7 ?_
    refine xX0_kindOf_8 ?_
    refine xX0_kindOf_9 rfl rfl rfl (s_X11_within (fun hw0 => ?_) (fun hw0 => absurd ⟨by rw [hk]; decide, by rw [hk]; decide⟩ hw0))
    refine xX0_kindOf_12_f (by decide) ?_
    refine xX0_kindOf_15 ?_
    refine xX0_kindOf_16 (hX.1 _ _ rfl) (hX.2 _ _ _ rfl) ?_
    refine xX0_kindOf_19 ?_
    refine xX0_kindOf_20 (j := 2) (hX.1 _ _ rfl) rfl rfl hk (by decide) rfl (hX.2 _ _ _ rfl) ?_
    refine xX0_kindOf_21 ?_
    refine xX0_kindOf_30 rfl rfl ?_
    exact q2 rfl
  · refine Mok.ofWp (L := [some (.ref 25), some (.int x0)]) rfl rfl rfl ?_
    refine xX0_kindOf_0 ?_
    refine xX0_kindOf_1 ?_
    refine xX0_kindOf_2 ?_
    refine xX0_kindOf_3 (hX.1 _ _ rfl) (hX.2 _ _ _ rfl) ?_
    refine xX0_kindOf_6 (hX.1 _ _ rfl) rfl rfl ?_
    refine xX0_kindOf_7 ?_
    refine xX0_kindOf_8 ?_
    refine xX0_kindOf_9 rfl rfl rfl (s_X11_within (fun hw0 => ?_) (fun hw0 => absurd ⟨by rw [hk]; decide, by rw [hk]; decide⟩ hw0))
    refine xX0_kindOf_12_f (by decide) ?_
    refine xX0_kindOf_15 ?_
    refine xX0_kindOf_16 (hX.1 _ _ rfl) (hX.2 _ _ _ rfl) ?_
    refine xX0_kindOf_19 ?_
    refine xX0_kindOf_20 (j := 3) (hX.1 _ _ rfl) rfl rfl hk (by decide) rfl (hX.2 _ _ _ rfl) ?_
    refine xX0_kindOf_21 ?_
    refine xX0_kindOf_30 rfl rfl ?_
    exact q3 rfl
  · refine Mok.ofWp (L := [some (.ref 25), some (.int x0)]) rfl rfl rfl ?_
    refine xX0_kindOf_0 ?_
    refine xX0_kindOf_1 ?_
    refine xX0_kindOf_2 ?_
    refine xX0_kindOf_3 (hX.1 _ _ rfl) (hX.2 _ _ _ rfl) ?_
    refine xX0_kindOf_6 (hX.1 _ _ rfl) rfl rfl ?_
    refine xX0_kindOf_7 ?_
    refine xX0_kindOf_8 ?_
    refine xX0_kindOf_9 rfl rfl rfl (s_X11_within (fun hw0 => ?_) (fun hw0 => absurd ⟨by rw [hk]; decide, by rw [hk]; decide⟩ hw0))
    refine xX0_kindOf_12_f (by decide) ?_
    refine xX0_kindOf_15 ?_
    refine xX0_kindOf_16 (hX.1 _ _ rfl) (hX.2 _ _ _ rfl) ?_
    refine xX0_kindOf_19 ?_
    refine xX0_kindOf_20 (j := 4) (hX.1 _ _ rfl) rfl rfl hk (by decide) rfl (hX.2 _ _ _ rfl) ?_
    refine xX0_kindOf_21 ?_
    refine xX0_kindOf_30 rfl rfl ?_
    exact q4 rfl
  · refine Mok.ofWp (L := [some (.ref 25), some (.int x0)]) rfl rfl rfl ?_
    refine xX0_kindOf_0 ?_
    refine xX0_kindOf_1 ?_
    refine xX0_kindOf_2 ?_
    refine xX0_kindOf_3 (hX.1 _ _ rfl) (hX.2 _ _ _ rfl) ?_
    refine xX0_kindOf_6 (hX.1 _ _ rfl) rfl rfl ?_
    refine xX0_kindOf_7 ?_
    refine xX0_kindOf_8 ?_
    refine xX0_kindOf_9 rfl rfl rfl (s_X11_within (fun hw0 => ?_) (fun hw0 => absurd ⟨by rw [hk]; decide, by rw [hk]; decide⟩ hw0))
    refine xX0_kindOf_12_f (by decide) ?_
    refine xX0_kindOf_15 ?_
    refine xX0_kindOf_16 (hX.1 _ _ rfl) (hX.2 _ _ _ rfl) ?_
    refine xX0_kindOf_19 ?_
    refine xX0_kindOf_20 (j := 5) (hX.1 _ _ rfl) rfl rfl hk (by decide) rfl (hX.2 _ _ _ rfl) ?_
    refine xX0_kindOf_21 ?_
    refine xX0_kindOf_30 rfl rfl ?_
    exact q5 rfl
theorem s_X0_name {d : Nat} {sc : Nat × (Nat → Int32)} {T : List (Nat × Nat)} {rf : Nat → Nat → Option Nat} {g : Nat → Nat → Int32} {F : AH → Prop} {b la n : Nat} {c ht mi br si : Int32} {cN : Nat} (hB : BS T rf b la n) (hc : c = nI cN) (hc8 : cN < 8) (hQ : ∀ g2, AF la g g2 → (∀ k, k < 6 → g2 34 k = nm6 ht mi br (g (b + 3) cN) si (g b 8) k) → F (T, rf, g2)) : Mok d 0 0 sc kX0_name [.ref 25, .int c, .int ht, .int mi, .int br, .int si] (T, rf, g) (Qv F) := by
  obtain ⟨hX, hbc, hrb, hrl, hL, hn, hla⟩ := id hB
  have hb17 : b ≤ 17 := hB.b
  have hO := OvT.of hX hbc
  refine Mok.ofWp (L := [some (.ref 25), some (.int c), some (.int ht), some (.int mi), some (.int br), some (.int si)]) rfl rfl rfl ?_
  refine xX0_name_0 ?_
  refine xX0_name_1 (hX.1 _ _ rfl) (hX.2 _ _ _ rfl) ?_
  refine xX0_name_4 ?_
  refine xX0_name_5 ?_
  refine xX0_name_6 (j := 0) (hX.1 _ _ rfl) (by decide) (by decide) rfl ?_
  refine xX0_name_7 ?_
  refine xX0_name_8 (hX.1 _ _ rfl) (hX.2 _ _ _ rfl) ?_
  refine xX0_name_11 ?_
  refine xX0_name_12 ?_
  refine xX0_name_13 (j := 1) (hX.1 _ _ rfl) (by decide) (by decide) rfl ?_
  refine xX0_name_14 ?_
  refine xX0_name_15 (hX.1 _ _ rfl) (hX.2 _ _ _ rfl) ?_
  refine xX0_name_18 ?_
  refine xX0_name_19 ?_
  refine xX0_name_21 (j := 2) (hX.1 _ _ rfl) (by decide) (by decide) rfl ?_
  refine xX0_name_22 ?_
  refine xX0_name_23 (hX.1 _ _ rfl) (hX.2 _ _ _ rfl) ?_
  refine xX0_name_26 ?_
  refine xX0_name_27 ?_
  refine xX0_name_28 (hX.1 _ _ rfl) hrb ?_
  refine xX0_name_31 ?_
  refine xX0_name_38 ?_
  refine xX0_name_39 (hX.1 _ _ rfl) hrb ?_
  refine xX0_name_42 hO.1 hO.2.2.2.2.2.2.2.2.2.2.1 ?_
  refine xX0_name_45 ?_
  refine xX0_name_46 (j := cN) hO.2.2.2.1 hc hc8 rfl ?_
  refine xX0_name_47 (j := 3) (hX.1 _ _ rfl) (by decide) (by decide) rfl ?_
  refine xX0_name_48 ?_
  refine xX0_name_49 (hX.1 _ _ rfl) (hX.2 _ _ _ rfl) ?_
  refine xX0_name_52 ?_
  refine xX0_name_53 ?_
  refine xX0_name_55 (j := 4) (hX.1 _ _ rfl) (by decide) (by decide) rfl ?_
  refine xX0_name_56 ?_
  refine xX0_name_57 (hX.1 _ _ rfl) (hX.2 _ _ _ rfl) ?_
  refine xX0_name_60 ?_
  refine xX0_name_61 ?_
  refine xX0_name_62 (hX.1 _ _ rfl) hrb ?_
  refine xX0_name_65 ?_
  refine xX0_name_72 ?_
  refine xX0_name_73 (hX.1 _ _ rfl) hrb ?_
  refine xX0_name_76 hO.1 ?_
  refine xX0_name_79 (j := 5) (hX.1 _ _ rfl) (by decide) (by decide) rfl ?_
  refine xX0_name_80 rfl rfl ?_
  have e3 : up (up (up g 34 0 ht) 34 1 mi) 34 2 br (b + 3) cN = g (b + 3) cN := by rw [up_row (by omega), up_row (by omega), up_row (by omega)]
  have e8 : up (up (up (up (up g 34 0 ht) 34 1 mi) 34 2 br) 34 3 (up (up (up g 34 0 ht) 34 1 mi) 34 2 br (b + 3) cN)) 34 4 si b 8 = g b 8 := by rw [up_row (by omega), up_row (by omega), up_row (by omega), up_row (by omega), up_row (by omega)]
  rw [e8, e3]
  refine hQ _ (fun a h1 _ _ => by rw [up_row h1, up_row h1, up_row h1, up_row h1, up_row h1, up_row h1]) (k6 ?_ ?_ ?_ ?_ ?_ ?_) <;> simp [up, nm6]
theorem s_X0_ask {d : Nat} {sc : Nat × (Nat → Int32)} {T : List (Nat × Nat)} {rf : Nat → Nat → Option Nat} {g : Nat → Nat → Int32} {F : Int32 → AH → Prop} {b la n p : Nat} {lw : Nat → List Int32} {x0 : Int32} (hB : BS T rf b la n) (hw : LawG g la n lw) (hp : p < 3) (hx : x0 = nI p) (hQ : ∀ g2, AF la g g2 → F (evL lw p (g 34)) (T, rf, g2)) : Mok (d + 2) 0 0 sc kX0_ask [.ref 25, .int x0] (T, rf, g) (Qi F) := by
  obtain ⟨hX, hbc, hrb, hrl, hL, hn, hla⟩ := id hB
  have hb17 : b ≤ 17 := hB.b
  have hO := OvT.of hX hbc
  refine Mok.ofWp (L := [some (.ref 25), some (.int x0)]) rfl rfl rfl ?_
  refine xX0_ask_0 ?_
  refine xX0_ask_1 (hX.1 _ _ rfl) hrl ?_
  refine xX0_ask_4 ?_
  refine xX0_ask_11 ?_
  refine xX0_ask_12 (hX.1 _ _ rfl) hrl ?_
  refine xX0_ask_15 ?_
  refine xX0_ask_16 ?_
  refine xX0_ask_17 (hX.1 _ _ rfl) (hX.2 _ _ _ rfl) ?_
  refine xX0_ask_20 hL.1 rfl rfl rfl (s_X4_says hX hL hn hla hw hp hx (fun g0 hf0 => ?_))
  refine xX0_ask_23 rfl rfl ?_
  exact hQ _ hf0.af
