theorem s_X11_within {d : Nat} {sc : Nat × (Nat → Int32)} {v lo hi : Int32} {h : AH} {F : Int32 → AH → Prop} (k1 : lo ≤ v ∧ v ≤ hi → F 1 h) (k0 : ¬ (lo ≤ v ∧ v ≤ hi) → F 0 h) : Mok d 0 0 sc kX11_within [.int v, .int lo, .int hi] h (Qi F) := by
  refine Mok.ofWp (L := [some (.int v), some (.int lo), some (.int hi)]) rfl rfl rfl ?_
  refine xX11_within_0 ?_
  refine xX11_within_1 ?_
  refine xX11_within_2 (fun c2 => ?_) (fun c2 => ?_)
  · refine xX11_within_14 ?_
    refine xX11_within_15 (Or.inl rfl) rfl rfl ?_
    first | exact k1 ⟨Int32.not_lt.mp c2, Int32.not_lt.mp c7⟩ | exact k0 (fun q => c2 (Int32.not_lt.mpr q.1)) | exact k0 (fun q => absurd c2 (Int32.not_lt.mpr q.1)) | exact k0 (fun q => absurd c7 (Int32.not_lt.mpr q.2))
  · refine xX11_within_5 ?_
    refine xX11_within_6 ?_
    refine xX11_within_7 (fun c7 => ?_) (fun c7 => ?_)
    · refine xX11_within_14 ?_
      refine xX11_within_15 (Or.inl rfl) rfl rfl ?_
      first | exact k1 ⟨Int32.not_lt.mp c2, Int32.not_lt.mp c7⟩ | exact k0 (fun q => c2 (Int32.not_lt.mpr q.1)) | exact k0 (fun q => absurd c2 (Int32.not_lt.mpr q.1)) | exact k0 (fun q => absurd c7 (Int32.not_lt.mpr q.2))
    · refine xX11_within_10 ?_
      refine xX11_within_11 ?_
      refine xX11_within_15 (Or.inr rfl) rfl rfl ?_
      first | exact k1 ⟨Int32.not_lt.mp c2, Int32.not_lt.mp c7⟩ | exact k0 (fun q => c2 (Int32.not_lt.mpr q.1)) | exact k0 (fun q => absurd c2 (Int32.not_lt.mpr q.1)) | exact k0 (fun q => absurd c7 (Int32.not_lt.mpr q.2))
theorem s_X11_isByte {d : Nat} {sc : Nat × (Nat → Int32)} {v : Int32} {h : AH} {F : Int32 → AH → Prop} (k1 : 0 ≤ v ∧ v ≤ 255 → F 1 h) (k0 : ¬ (0 ≤ v ∧ v ≤ 255) → F 0 h) : Mok (d + 1) 0 0 sc kX11_isByte [.int v] h (Qi F) := by
  refine Mok.ofWp (L := [some (.int v)]) rfl rfl rfl ?_
  refine xX11_isByte_0 ?_
  refine xX11_isByte_1 ?_
  refine xX11_isByte_2 ?_
  refine xX11_isByte_5 rfl rfl rfl (s_X11_within  (fun hw0 => ?_) (fun hw0 => ?_))
  · refine xX11_isByte_8 (Or.inr rfl) rfl rfl ?_
    first | exact k1 hw0 | exact k0 hw0
  · refine xX11_isByte_8 (Or.inl rfl) rfl rfl ?_
    first | exact k1 hw0 | exact k0 hw0
theorem s_X11_isCake {d : Nat} {sc : Nat × (Nat → Int32)} {v : Int32} {T : List (Nat × Nat)} {rf : Nat → Nat → Option Nat} {g : Nat → Nat → Int32} {F : Int32 → AH → Prop} (hX : XS T rf) (k1 : 0 ≤ v ∧ v ≤ g 1 5 - 1 → F 1 (T, rf, g)) (k0 : ¬ (0 ≤ v ∧ v ≤ g 1 5 - 1) → F 0 (T, rf, g)) : Mok (d + 1) 0 0 sc kX11_isCake [.ref 0, .int v] (T, rf, g) (Qi F) := by
  refine Mok.ofWp (L := [some (.ref 0), some (.int v)]) rfl rfl rfl ?_
  refine xX11_isCake_0 ?_
  refine xX11_isCake_1 ?_
  refine xX11_isCake_2 ?_
  refine xX11_isCake_3 (hX.1 _ _ rfl) (hX.2 _ _ _ rfl) ?_
  refine xX11_isCake_6 (hX.1 _ _ rfl) ?_
  refine xX11_isCake_9 ?_
  refine xX11_isCake_10 ?_
  refine xX11_isCake_11 rfl rfl rfl (s_X11_within  (fun hw0 => ?_) (fun hw0 => ?_))
  · refine xX11_isCake_14 (Or.inr rfl) rfl rfl ?_
    first | exact k1 hw0 | exact k0 hw0
  · refine xX11_isCake_14 (Or.inl rfl) rfl rfl ?_
    first | exact k1 hw0 | exact k0 hw0
theorem s_X3_gains {d : Nat} {sc : Nat × (Nat → Int32)} {h : AH} {F : Int32 → AH → Prop} {a : Nat} {s b m : Int32} (hQ : F s h) : Mok d 0 0 sc kX3_gains [.ref a, .int s, .int b, .int m] h (Qi F) := by
  refine Mok.ofWp (L := [some (.ref a), some (.int s), some (.int b), some (.int m)]) rfl rfl rfl ?_
  refine xX3_gains_0 ?_
  refine xX3_gains_1 rfl rfl ?_
  exact hQ
theorem s_X3_begins {d : Nat} {sc : Nat × (Nat → Int32)} {h : AH} {F : Int32 → AH → Prop} {a : Nat} {m : Int32} (hQ : F 0 h) : Mok d 0 0 sc kX3_begins [.ref a, .int m] h (Qi F) := by
  refine Mok.ofWp (L := [some (.ref a), some (.int m)]) rfl rfl rfl ?_
  refine xX3_begins_0 ?_
  refine xX3_begins_1 rfl rfl ?_
  exact hQ
theorem s_X3_away {d : Nat} {sc : Nat × (Nat → Int32)} {h : AH} {F : Int32 → AH → Prop} {a : Nat} {b w : Int32} (hQ : F (kAway0 b w) h) : Mok d 0 0 sc kX3_away [.ref a, .int b, .int w] h (Qi F) := by
  refine Mok.ofWp (L := [some (.ref a), some (.int b), some (.int w)]) rfl rfl rfl ?_
  refine xX3_away_0 ?_
  refine xX3_away_1 ?_
  refine xX3_away_2 (fun c2 => ?_) (fun c2 => ?_)
  · refine xX3_away_11 ?_
    refine xX3_away_12 ?_
    refine xX3_away_13 ?_
    refine xX3_away_14 rfl rfl ?_
    first | (rw [kAway0, if_neg (by rw [Int32.not_lt]; exact c2)] at hQ; exact hQ) | (rw [kAway0, if_pos (Int32.not_le.mp c2)] at hQ; exact hQ)
  · refine xX3_away_5 ?_
    refine xX3_away_6 ?_
    refine xX3_away_7 ?_
    refine xX3_away_8 ?_
    refine xX3_away_14 rfl rfl ?_
    first | (rw [kAway0, if_neg (by rw [Int32.not_lt]; exact c2)] at hQ; exact hQ) | (rw [kAway0, if_pos (Int32.not_le.mp c2)] at hQ; exact hQ)
theorem s_X9_gains_c9 {d : Nat} {sc : Nat × (Nat → Int32)} {h : AH} {F : Int32 → AH → Prop} {a : Nat} {s b m : Int32} (hT : h.1[a]? = some (9, 0)) (hQ : F (s * 2 / 3) h) : Mok (d + 1) 0 0 sc kX9_gains [.ref a, .int s, .int b, .int m] h (Qi F) := by
  refine Mok.ofWp (L := [some (.ref a), some (.int s), some (.int b), some (.int m)]) rfl rfl rfl ?_
  refine xX9_gains_0 ?_
  refine xX9_gains_1 ?_
  refine xX9_gains_2 ?_
  refine xX9_gains_3 ?_
  refine xX9_gains_4_c9 hT rfl rfl rfl (s_X3_gains  ?_)
  refine xX9_gains_7 ?_
  refine xX9_gains_8 ?_
  refine xX9_gains_9 ?_
  refine xX9_gains_10 (by decide) ?_
  refine xX9_gains_11 rfl rfl ?_
  exact hQ
theorem s_X9_begins_c9 {d : Nat} {sc : Nat × (Nat → Int32)} {h : AH} {F : Int32 → AH → Prop} {a : Nat} {m : Int32} (hT : h.1[a]? = some (9, 0)) (hQ : F (0 + m / 3) h) : Mok (d + 1) 0 0 sc kX9_begins [.ref a, .int m] h (Qi F) := by
  refine Mok.ofWp (L := [some (.ref a), some (.int m)]) rfl rfl rfl ?_
  refine xX9_begins_0 ?_
  refine xX9_begins_1 ?_
  refine xX9_begins_2_c9 hT rfl rfl rfl (s_X3_begins  ?_)
  refine xX9_begins_5 ?_
  refine xX9_begins_6 ?_
  refine xX9_begins_7 (by decide) ?_
  refine xX9_begins_8 ?_
  refine xX9_begins_9 rfl rfl ?_
  exact hQ
theorem s_X9_gains_c1 {d : Nat} {sc : Nat × (Nat → Int32)} {h : AH} {F : Int32 → AH → Prop} {a : Nat} {s b m : Int32} (hT : h.1[a]? = some (1, 0)) (hQ : F (s * 2 / 3) h) : Mok (d + 1) 0 0 sc kX9_gains [.ref a, .int s, .int b, .int m] h (Qi F) := by
  refine Mok.ofWp (L := [some (.ref a), some (.int s), some (.int b), some (.int m)]) rfl rfl rfl ?_
  refine xX9_gains_0 ?_
  refine xX9_gains_1 ?_
  refine xX9_gains_2 ?_
  refine xX9_gains_3 ?_
  refine xX9_gains_4_c1 hT rfl rfl rfl (s_X3_gains  ?_)
  refine xX9_gains_7 ?_
  refine xX9_gains_8 ?_
  refine xX9_gains_9 ?_
  refine xX9_gains_10 (by decide) ?_
  refine xX9_gains_11 rfl rfl ?_
  exact hQ
theorem s_X9_begins_c1 {d : Nat} {sc : Nat × (Nat → Int32)} {h : AH} {F : Int32 → AH → Prop} {a : Nat} {m : Int32} (hT : h.1[a]? = some (1, 0)) (hQ : F (0 + m / 3) h) : Mok (d + 1) 0 0 sc kX9_begins [.ref a, .int m] h (Qi F) := by
  refine Mok.ofWp (L := [some (.ref a), some (.int m)]) rfl rfl rfl ?_
  refine xX9_begins_0 ?_
  refine xX9_begins_1 ?_
  refine xX9_begins_2_c1 hT rfl rfl rfl (s_X3_begins  ?_)
  refine xX9_begins_5 ?_
  refine xX9_begins_6 ?_
  refine xX9_begins_7 (by decide) ?_
  refine xX9_begins_8 ?_
  refine xX9_begins_9 rfl rfl ?_
  exact hQ
theorem s_X10_gains_c10 {d : Nat} {sc : Nat × (Nat → Int32)} {h : AH} {F : Int32 → AH → Prop} {a : Nat} {s b m : Int32} (hT : h.1[a]? = some (10, 0)) (hQ : F (s + m / 2) h) : Mok (d + 1) 0 0 sc kX10_gains [.ref a, .int s, .int b, .int m] h (Qi F) := by
  refine Mok.ofWp (L := [some (.ref a), some (.int s), some (.int b), some (.int m)]) rfl rfl rfl ?_
  refine xX10_gains_0 ?_
  refine xX10_gains_1 ?_
  refine xX10_gains_2 ?_
  refine xX10_gains_3 ?_
  refine xX10_gains_4_c10 hT rfl rfl rfl (s_X3_gains  ?_)
  refine xX10_gains_7 ?_
  refine xX10_gains_8 ?_
  refine xX10_gains_9 (by decide) ?_
  refine xX10_gains_10 ?_
  refine xX10_gains_11 rfl rfl ?_
  exact hQ
theorem s_X10_gains_c8 {d : Nat} {sc : Nat × (Nat → Int32)} {h : AH} {F : Int32 → AH → Prop} {a : Nat} {s b m : Int32} (hT : h.1[a]? = some (8, 0)) (hQ : F (s + m / 2) h) : Mok (d + 1) 0 0 sc kX10_gains [.ref a, .int s, .int b, .int m] h (Qi F) := by
  refine Mok.ofWp (L := [some (.ref a), some (.int s), some (.int b), some (.int m)]) rfl rfl rfl ?_
  refine xX10_gains_0 ?_
  refine xX10_gains_1 ?_
  refine xX10_gains_2 ?_
  refine xX10_gains_3 ?_
  refine xX10_gains_4_c8 hT rfl rfl rfl (s_X3_gains  ?_)
  refine xX10_gains_7 ?_
  refine xX10_gains_8 ?_
  refine xX10_gains_9 (by decide) ?_
  refine xX10_gains_10 ?_
  refine xX10_gains_11 rfl rfl ?_
  exact hQ
theorem s_X1_begins {d : Nat} {sc : Nat × (Nat → Int32)} {h : AH} {F : Int32 → AH → Prop} {a : Nat} {m : Int32} (hT : h.1[a]? = some (1, 0)) (hQ : F ((0 + m / 3) * 2 + 2) h) : Mok (d + 2) 0 0 sc kX1_begins [.ref a, .int m] h (Qi F) := by
  refine Mok.ofWp (L := [some (.ref a), some (.int m)]) rfl rfl rfl ?_
  refine xX1_begins_0 ?_
  refine xX1_begins_1 ?_
  refine xX1_begins_2_c1 hT rfl rfl rfl (s_X9_begins_c1 hT ?_)
  refine xX1_begins_5 ?_
  refine xX1_begins_6 ?_
  refine xX1_begins_7 ?_
  refine xX1_begins_8 ?_
  refine xX1_begins_9 rfl rfl ?_
  exact hQ
theorem s_X8_gains {d : Nat} {sc : Nat × (Nat → Int32)} {h : AH} {F : Int32 → AH → Prop} {a : Nat} {s b m : Int32} (hT : h.1[a]? = some (8, 0)) (hQ : F (if 10 * m + 20 < b then 3 * (s + m / 2) else s + m / 2) h) : Mok (d + 2) 0 0 sc kX8_gains [.ref a, .int s, .int b, .int m] h (Qi F) := by
  refine Mok.ofWp (L := [some (.ref a), some (.int s), some (.int b), some (.int m), none]) rfl rfl rfl ?_
  refine xX8_gains_0 ?_
  refine xX8_gains_1 ?_
  refine xX8_gains_2 ?_
  refine xX8_gains_3 ?_
  refine xX8_gains_4_c8 hT rfl rfl rfl (s_X10_gains_c8 hT ?_)
  refine xX8_gains_7 rfl ?_
  refine xX8_gains_9 ?_
  refine xX8_gains_10 ?_
  refine xX8_gains_12 ?_
  refine xX8_gains_13 ?_
  refine xX8_gains_14 ?_
  refine xX8_gains_16 ?_
  refine xX8_gains_17 (fun c17 => ?_) (fun c17 => ?_)
  · refine xX8_gains_27 ?_
    refine xX8_gains_29 rfl rfl ?_
    first | (rw [if_neg (by rw [Int32.not_lt]; exact c17)] at hQ; exact hQ) | (rw [if_pos (Int32.not_le.mp c17)] at hQ; exact hQ)
  · refine xX8_gains_20 ?_
    refine xX8_gains_21 ?_
    refine xX8_gains_23 ?_
    refine xX8_gains_24 ?_
    refine xX8_gains_29 rfl rfl ?_
    first | (rw [if_neg (by rw [Int32.not_lt]; exact c17)] at hQ; exact hQ) | (rw [if_pos (Int32.not_le.mp c17)] at hQ; exact hQ)
theorem s_X8_away {d : Nat} {sc : Nat × (Nat → Int32)} {h : AH} {F : Int32 → AH → Prop} {a : Nat} {b w : Int32} (hT : h.1[a]? = some (8, 0)) (hQ : F (if w < b then 2 * kAway0 b w else kAway0 b w) h) : Mok (d + 1) 0 0 sc kX8_away [.ref a, .int b, .int w] h (Qi F) := by
  refine Mok.ofWp (L := [some (.ref a), some (.int b), some (.int w), none]) rfl rfl rfl ?_
  refine xX8_away_0 ?_
  refine xX8_away_1 ?_
  refine xX8_away_2 ?_
  refine xX8_away_3 hT rfl rfl rfl (s_X3_away  ?_)
  refine xX8_away_6 rfl ?_
  refine xX8_away_7 ?_
  refine xX8_away_8 ?_
  refine xX8_away_9 (fun c9 => ?_) (fun c9 => ?_)
  · refine xX8_away_18 ?_
    refine xX8_away_19 rfl rfl ?_
    first | (rw [if_neg (by rw [Int32.not_lt]; exact c9)] at hQ; exact hQ) | (rw [if_pos (Int32.not_le.mp c9)] at hQ; exact hQ)
  · refine xX8_away_12 ?_
    refine xX8_away_13 ?_
    refine xX8_away_14 ?_
    refine xX8_away_15 ?_
    refine xX8_away_19 rfl rfl ?_
    first | (rw [if_neg (by rw [Int32.not_lt]; exact c9)] at hQ; exact hQ) | (rw [if_pos (Int32.not_le.mp c9)] at hQ; exact hQ)
theorem s_X2_away {d : Nat} {sc : Nat × (Nat → Int32)} {h : AH} {F : Int32 → AH → Prop} {a : Nat} {b w : Int32} (hT : h.1[a]? = some (2, 0)) (hQ : F (if b < w then kAway0 b w else 0) h) : Mok (d + 1) 0 0 sc kX2_away [.ref a, .int b, .int w] h (Qi F) := by
  refine Mok.ofWp (L := [some (.ref a), some (.int b), some (.int w)]) rfl rfl rfl ?_
  refine xX2_away_0 ?_
  refine xX2_away_1 ?_
  refine xX2_away_2 (fun c2 => ?_) (fun c2 => ?_)
  · refine xX2_away_9 ?_
    refine xX2_away_10 ?_
    refine xX2_away_11 ?_
    refine xX2_away_12_c2 hT rfl rfl rfl (s_X3_away  ?_)
    refine xX2_away_15 rfl rfl ?_
    first | (rw [if_neg c2] at hQ; exact hQ) | (rw [if_pos c2] at hQ; exact hQ)
  · refine xX2_away_5 ?_
    refine xX2_away_6 ?_
    refine xX2_away_15 rfl rfl ?_
    first | (rw [if_neg c2] at hQ; exact hQ) | (rw [if_pos c2] at hQ; exact hQ)
theorem s_X4_push {d : Nat} {sc : Nat × (Nat → Int32)} {T : List (Nat × Nat)} {rf : Nat → Nat → Option Nat} {g : Nat → Nat → Int32} {F : AH → Prop} {la n : Nat} {v : Int32} {st : List Int32} (hL : LawAt T rf la n) (hn : Nat.ble n 2000 = true) (hs : SR g la st) (hlen : st.length < n) (hQ : ∀ g2, SR g2 la (v :: st) → LF la g g2 → F (T, rf, g2)) : Mok d 0 0 sc kX4_push [.ref la, .int v] (T, rf, g) (Qv F) := by
  have hn2 := Nat.le_of_ble_eq_true hn
  refine Mok.ofWp (L := [some (.ref la), some (.int v)]) rfl rfl rfl ?_
  refine xX4_push_0 ?_
  refine xX4_push_1 hL.1 ?_
  refine xX4_push_4 ?_
  refine xX4_push_5 hL.1 hL.2.2.2.2.2.2 ?_
  refine xX4_push_8 hL.2.2.2.1 rfl rfl ?_
  refine xX4_push_9_f (by rw [hs.1]; exact nI_ge hlen (by omega)) ?_
  refine xX4_push_12 ?_
  refine xX4_push_13 hL.1 hL.2.2.2.2.2.2 ?_
  refine xX4_push_16 ?_
  refine xX4_push_17 hL.1 ?_
  refine xX4_push_20 ?_
  refine xX4_push_21 (j := st.length) hL.2.2.2.1 hs.1 hlen hn ?_
  refine xX4_push_22 ?_
  refine xX4_push_23 rfl ?_
  refine xX4_push_24 hL.1 ?_
  refine xX4_push_27 ?_
  refine xX4_push_28 ?_
  refine xX4_push_29 hL.1 ?_
  refine xX4_push_32 rfl rfl ?_
  have e : up g (la + 3) st.length v la 3 + 1 = nI (st.length + 1) := by rw [up_ne (by omega), hs.1]; exact nI_1 _
  refine hQ _ ⟨?_, ?_, ?_⟩ (fun a h1 h2 => ?_)
  · rw [up_same, e]; rfl
  · rw [up_ne (by omega), up_same]
  · exact SRl_keep (fun k hk => by rw [up_ne (by omega), up_ne (by omega)]) hs.2
  · rw [up_row h1, up_row h2]
theorem s_X4_pop {d : Nat} {sc : Nat × (Nat → Int32)} {T : List (Nat × Nat)} {rf : Nat → Nat → Option Nat} {g : Nat → Nat → Int32} {F : Int32 → AH → Prop} {la n : Nat} {st : List Int32} (hL : LawAt T rf la n) (hn : Nat.ble n 2000 = true) (hs : SR g la st) (hlen : st.length ≤ n) (hQ : ∀ g2, SR g2 la st.tail → LF la g g2 → F (hd0 st) (T, rf, g2)) : Mok d 0 0 sc kX4_pop [.ref la] (T, rf, g) (Qi F) := by
  have hn2 := Nat.le_of_ble_eq_true hn
  refine Mok.ofWp (L := [some (.ref la)]) rfl rfl rfl ?_
  refine xX4_pop_0 ?_
  refine xX4_pop_1 hL.1 ?_
  refine xX4_pop_4 (fun c4 => ?_) (fun c4 => ?_)
  · cases st with
    | nil => exact absurd c4 (by rw [hs.1]; decide)
    | cons v st => ?_
    refine xX4_pop_9 ?_
    refine xX4_pop_10 rfl ?_
    refine xX4_pop_11 hL.1 ?_
    refine xX4_pop_14 ?_
    refine xX4_pop_15 ?_
    have e : g la 3 - 1 = nI st.length := by rw [hs.1]; exact nI_pred _
    refine xX4_pop_16 hL.1 ?_
    refine xX4_pop_19 ?_
    refine xX4_pop_20 hL.1 hL.2.2.2.2.2.2 ?_
    refine xX4_pop_23 ?_
    refine xX4_pop_24 hL.1 ?_
    refine xX4_pop_27 (j := st.length) hL.2.2.2.1 (by rw [up_same]; exact e) (by simp at hlen; omega) hn ?_
    refine xX4_pop_28 rfl rfl ?_
    have e2 : up g la 3 (g la 3 - 1) (la + 3) st.length = v := by rw [up_ne (by omega)]; exact hs.2.1
    rw [e2]
    refine hQ _ ⟨?_, ?_⟩ (fun a h1 h2 => up_row h1)
    · rw [up_same, e]; rfl
    · exact SRl_keep (fun k hk => up_ne (by omega)) hs.2.2
  · cases st with
    | cons v st => exact absurd (by rw [hs.1]; exact iPos (by simp) (by simp at hlen ⊢; omega)) c4
    | nil => ?_
    refine xX4_pop_7 ?_
    refine xX4_pop_8 rfl rfl ?_
    exact hQ g hs LF.rf
theorem s_X4_joined {d : Nat} {sc : Nat × (Nat → Int32)} {h : AH} {F : Int32 → AH → Prop} {sg l r : Int32} (hQ : F (joinX sg l r) h) : Mok d 0 0 sc kX4_joined [.int sg, .int l, .int r] h (Qi F) := by
  refine Mok.ofWp (L := [some (.int sg), some (.int l), some (.int r)]) rfl rfl rfl ?_
  refine xX4_joined_0 ?_
  refine xX4_joined_1 (fun c1 => ?_) (fun c1 => ?_) (fun c1 => ?_) (fun c1 => ?_) (fun c1 => ?_) (fun c1 => ?_) (fun c1 => ?_) (fun c1_0 c1_1 c1_2 c1_3 c1_4 c1_5 c1_6 => ?_)
  · refine xX4_joined_76 ?_
    refine xX4_joined_77 ?_
    refine xX4_joined_78 ?_
    refine xX4_joined_79 rfl rfl ?_
    simp [joinX, *] at hQ; exact hQ
  · refine xX4_joined_68 ?_
    refine xX4_joined_69 ?_
    refine xX4_joined_70 ?_
    refine xX4_joined_71 rfl rfl ?_
    simp [joinX, *] at hQ; exact hQ
  · refine xX4_joined_72 ?_
    refine xX4_joined_73 ?_
    refine xX4_joined_74 ?_
    refine xX4_joined_75 rfl rfl ?_
    simp [joinX, *] at hQ; exact hQ
  · refine xX4_joined_80 ?_
    refine xX4_joined_81 ?_
    refine xX4_joined_82 (fun c82 => ?_) (fun c82 => ?_)
    · have q82 : ¬ l < r := Int32.not_lt.mpr c82
      refine xX4_joined_89 ?_
      refine xX4_joined_90 rfl rfl ?_
      simp [joinX, *] at hQ; exact hQ
    · have q82 : l < r := Int32.not_le.mp c82
      refine xX4_joined_85 ?_
      refine xX4_joined_86 ?_
      refine xX4_joined_90 rfl rfl ?_
      simp [joinX, *] at hQ; exact hQ
  · refine xX4_joined_91 ?_
    refine xX4_joined_92 ?_
    refine xX4_joined_93 (fun c93 => ?_) (fun c93 => ?_)
    · refine xX4_joined_100 ?_
      refine xX4_joined_101 rfl rfl ?_
      simp [joinX, *] at hQ; exact hQ
    · refine xX4_joined_96 ?_
      refine xX4_joined_97 ?_
      refine xX4_joined_101 rfl rfl ?_
      simp [joinX, *] at hQ; exact hQ
  · refine xX4_joined_102 ?_
    refine xX4_joined_103 (fun c103 => ?_) (fun c103 => ?_)
    · refine xX4_joined_110 ?_
      refine xX4_joined_111 ?_
      refine xX4_joined_115 rfl rfl ?_
      simp [joinX, *] at hQ; exact hQ
    · refine xX4_joined_106 ?_
      refine xX4_joined_107 (fun c107 => ?_) (fun c107 => ?_)
      · refine xX4_joined_114 ?_
        refine xX4_joined_115 rfl rfl ?_
        simp [joinX, *] at hQ; exact hQ
      · refine xX4_joined_110 ?_
        refine xX4_joined_111 ?_
        refine xX4_joined_115 rfl rfl ?_
        simp [joinX, *] at hQ; exact hQ
  · refine xX4_joined_116 ?_
    refine xX4_joined_117 (fun c117 => ?_) (fun c117 => ?_)
    · refine xX4_joined_128 ?_
      refine xX4_joined_129 rfl rfl ?_
      simp [joinX, *] at hQ; exact hQ
    · refine xX4_joined_120 ?_
      refine xX4_joined_121 (fun c121 => ?_) (fun c121 => ?_)
      · refine xX4_joined_128 ?_
        refine xX4_joined_129 rfl rfl ?_
        simp [joinX, *] at hQ; exact hQ
      · refine xX4_joined_124 ?_
        refine xX4_joined_125 ?_
        refine xX4_joined_129 rfl rfl ?_
        simp [joinX, *] at hQ; exact hQ
  · refine xX4_joined_130 ?_
    refine xX4_joined_131 rfl rfl ?_
    simp [joinX, *] at hQ; exact hQ
theorem lp_X4_says {d : Nat} {sc : Nat × (Nat → Int32)} {T : List (Nat × Nat)} {rf : Nat → Nat → Option Nat} {F : Int32 → AH → Prop} {la n p : Nat} {nm : Nat → Int32} (hX : XS T rf) (hL : LawAt T rf la n) (hn : Nat.ble n 2000 = true) (hla : 49 ≤ la) (hp : p < 3) : ∀ (cs : List Int32) (j : Nat) (x3 : Int32) (g : Nat → Nat → Int32) (st : List Int32), x3 = nI j → SR g la st → st.length ≤ j → j + cs.length ≤ n → g 34 = nm → g (la + 1) (p + 1) = nI (j + cs.length) → (∀ (i : Nat) (v : Int32), cs[i]? = some v → g (la + 2) (j + i) = v) → (∀ g2, LF la g g2 → F (clX (hd0 (evX nm cs st))) (T, rf, g2)) → Wp (d + 1) 0 0 sc kX4_says (Qi F) 16 [some (.ref la), some (.int (nI p)), some (.ref 34), some (.int x3), none, none] [] (T, rf, g) 0 0 := by
  have hn2 := Nat.le_of_ble_eq_true hn
  intro cs
  induction cs with
  | nil =>
    intro j x3 g st hx3 hs hjl hje h34 hend hcs hQ
    simp only [List.length_nil, Nat.add_zero] at hje hend
    refine xX4_says_16 ?_
    refine xX4_says_17 ?_
    refine xX4_says_18 hL.1 hL.2.2.2.2.2.1 ?_
    refine xX4_says_21 ?_
    refine xX4_says_22 ?_
    refine xX4_says_23 ?_
    refine xX4_says_24 (j := (p + 1)) hL.2.1 (nI_1 p) (by omega) rfl ?_
    refine xX4_says_25_t (by rw [hx3, hend]; exact nI_le (Nat.le_refl _) (by omega)) ?_
    refine xX4_says_169 ?_
    refine xX4_says_170 ?_
    refine xX4_says_172 ?_
    refine xX4_says_173 hL.1 rfl rfl rfl (s_X4_pop hL hn hs (by first | omega | (simp only [List.length_tail]; omega)) (fun g0 hs0 hf0 => ?_))
    refine xX4_says_176 rfl rfl rfl ?_
    refine xX4_says_179 rfl rfl rfl ?_
    refine xX4_says_182 rfl rfl ?_
    exact hQ _ hf0
  | cons c cs ih =>
    intro j x3 g st hx3 hs hjl hje h34 hend hcs hQ
    simp only [List.length_cons] at hje hend
    have hjn : j < n := by omega
    have hc0 : g (la + 2) j = c := hcs 0 c rfl
    refine xX4_says_16 ?_
    refine xX4_says_17 ?_
    refine xX4_says_18 hL.1 hL.2.2.2.2.2.1 ?_
    refine xX4_says_21 ?_
    refine xX4_says_22 ?_
    refine xX4_says_23 ?_
    refine xX4_says_24 (j := (p + 1)) hL.2.1 (nI_1 p) (by omega) rfl ?_
    refine xX4_says_25_f (by rw [hx3, hend]; exact nI_ge (by omega) (by omega)) ?_
    refine xX4_says_28 ?_
    refine xX4_says_29 ?_
    refine xX4_says_30 hL.1 hL.2.2.2.2.1 ?_
    refine xX4_says_33 hL.2.2.1 rfl rfl ?_
    refine xX4_says_34_f (by rw [hx3]; exact nI_ge hjn (by omega)) ?_
    refine xX4_says_37 ?_
    refine xX4_says_38 hL.1 hL.2.2.2.2.1 ?_
    refine xX4_says_41 ?_
    refine xX4_says_42 (j := j) hL.2.2.1 hx3 hjn hn ?_
    rw [hc0]
    refine xX4_says_43 rfl ?_
    refine xX4_says_45 ?_
    refine xX4_says_47 (fun c47 => ?_) (fun c47 => ?_)
    · have n1 : ¬ 0 ≤ c := Int32.not_le.mpr c47
      refine xX4_says_59 ?_
      refine xX4_says_61 ?_
      refine xX4_says_63 (fun c63 => ?_) (fun c63 => ?_)
      · have n2 : ¬ c ≤ -106 := Int32.not_le.mpr c63
        refine xX4_says_96 ?_
        refine xX4_says_98 ?_
        refine xX4_says_100 (fun c100 => ?_) (fun c100 => ?_)
        · have n3 : ¬ c = -3 := c100
          refine xX4_says_115 ?_
          refine xX4_says_117 ?_
          refine xX4_says_119 (fun c119 => ?_) (fun c119 => ?_)
          · have e1 : st1 nm c st = joinX (-c) (hd0 st.tail) (hd0 st) :: st.tail.tail := by rw [st1, if_neg n1, if_neg n2, if_neg n3, if_neg c119]
            refine xX4_says_141 ?_
            refine xX4_says_142 hL.1 rfl rfl rfl (s_X4_pop hL hn hs (by first | omega | (simp only [List.length_tail]; omega)) (fun g0 hs0 hf0 => ?_))
            refine xX4_says_145 rfl ?_
            refine xX4_says_147 ?_
            refine xX4_says_148 ?_
            refine xX4_says_150 ?_
            refine xX4_says_151 ?_
            refine xX4_says_152 hL.1 rfl rfl rfl (s_X4_pop hL hn hs0 (by first | omega | (simp only [List.length_tail]; omega)) (fun g1 hs1 hf1 => ?_))
            refine xX4_says_155 ?_
            refine xX4_says_157 rfl rfl rfl (s_X4_joined  ?_)
            refine xX4_says_160 hL.1 rfl rfl rfl (s_X4_push hL hn hs1 (by first | omega | (simp only [List.length_tail]; omega)) (fun g3 hs3 hf3 => ?_))
            refine xX4_says_163 rfl rfl ?_
            refine xX4_says_166 ?_
            refine wp_kill_4 ?_
            refine wp_kill_5 ?_
            have hst : SR g3 la (st1 nm c st) := by rw [e1]; exact hs3
            have hf := (((LF.rf.tr hf0).tr hf1).tr hf3)
            exact ih (j + 1) _ _ _ (by rw [hx3]; exact nI_1 j) hst (Nat.le_trans (st1_len nm c st) (by omega)) (by omega) (by rw [hf 34 (by omega) (by omega)]; exact h34) (by rw [hf (la + 1) (by omega) (by omega), hend]; congr 1; omega) (fun i v hi => by rw [hf (la + 2) (by omega) (by omega), show j + 1 + i = j + (i + 1) by omega]; exact hcs (i + 1) v hi) (fun g2 hf2 => hQ g2 (hf.tr hf2))
          · have e0 : st1 nm c st = (if hd0 st = 0 then 1 else 0) :: st.tail := by rw [st1, if_neg n1, if_neg n2, if_neg n3, if_pos c119]
            refine xX4_says_122 ?_
            refine xX4_says_123 ?_
            refine xX4_says_124 hL.1 rfl rfl rfl (s_X4_pop hL hn hs (by first | omega | (simp only [List.length_tail]; omega)) (fun g4 hs4 hf4 => ?_))
            refine xX4_says_127 (fun c127 => ?_) (fun c127 => ?_)
            · have e1 : st1 nm c st = 0 :: st.tail := by rw [e0, if_neg c127]
              refine xX4_says_134 ?_
              refine xX4_says_135 hL.1 rfl rfl rfl (s_X4_push hL hn hs4 (by first | omega | (simp only [List.length_tail]; omega)) (fun g5 hs5 hf5 => ?_))
              refine xX4_says_138 ?_
              refine xX4_says_163 rfl rfl ?_
              refine xX4_says_166 ?_
              refine wp_kill_4 ?_
              have hst : SR g5 la (st1 nm c st) := by rw [e1]; exact hs5
              have hf := ((LF.rf.tr hf4).tr hf5)
              exact ih (j + 1) _ _ _ (by rw [hx3]; exact nI_1 j) hst (Nat.le_trans (st1_len nm c st) (by omega)) (by omega) (by rw [hf 34 (by omega) (by omega)]; exact h34) (by rw [hf (la + 1) (by omega) (by omega), hend]; congr 1; omega) (fun i v hi => by rw [hf (la + 2) (by omega) (by omega), show j + 1 + i = j + (i + 1) by omega]; exact hcs (i + 1) v hi) (fun g2 hf2 => hQ g2 (hf.tr hf2))
            · have e1 : st1 nm c st = 1 :: st.tail := by rw [e0, if_pos c127]
              refine xX4_says_130 ?_
              refine xX4_says_131 ?_
              refine xX4_says_135 hL.1 rfl rfl rfl (s_X4_push hL hn hs4 (by first | omega | (simp only [List.length_tail]; omega)) (fun g6 hs6 hf6 => ?_))
              refine xX4_says_138 ?_
              refine xX4_says_163 rfl rfl ?_
              refine xX4_says_166 ?_
              refine wp_kill_4 ?_
              have hst : SR g6 la (st1 nm c st) := by rw [e1]; exact hs6
              have hf := ((LF.rf.tr hf4).tr hf6)
              exact ih (j + 1) _ _ _ (by rw [hx3]; exact nI_1 j) hst (Nat.le_trans (st1_len nm c st) (by omega)) (by omega) (by rw [hf 34 (by omega) (by omega)]; exact h34) (by rw [hf (la + 1) (by omega) (by omega), hend]; congr 1; omega) (fun i v hi => by rw [hf (la + 2) (by omega) (by omega), show j + 1 + i = j + (i + 1) by omega]; exact hcs (i + 1) v hi) (fun g2 hf2 => hQ g2 (hf.tr hf2))
        · have e1 : st1 nm c st = (-(hd0 st)) :: st.tail := by rw [st1, if_neg n1, if_neg n2, if_pos c100]
          refine xX4_says_103 ?_
          refine xX4_says_104 ?_
          refine xX4_says_105 hL.1 rfl rfl rfl (s_X4_pop hL hn hs (by first | omega | (simp only [List.length_tail]; omega)) (fun g7 hs7 hf7 => ?_))
          refine xX4_says_108 ?_
          refine xX4_says_109 hL.1 rfl rfl rfl (s_X4_push hL hn hs7 (by first | omega | (simp only [List.length_tail]; omega)) (fun g8 hs8 hf8 => ?_))
          refine xX4_says_112 ?_
          refine xX4_says_163 rfl rfl ?_
          refine xX4_says_166 ?_
          refine wp_kill_4 ?_
          have hst : SR g8 la (st1 nm c st) := by rw [e1]; exact hs8
          have hf := ((LF.rf.tr hf7).tr hf8)
          exact ih (j + 1) _ _ _ (by rw [hx3]; exact nI_1 j) hst (Nat.le_trans (st1_len nm c st) (by omega)) (by omega) (by rw [hf 34 (by omega) (by omega)]; exact h34) (by rw [hf (la + 1) (by omega) (by omega), hend]; congr 1; omega) (fun i v hi => by rw [hf (la + 2) (by omega) (by omega), show j + 1 + i = j + (i + 1) by omega]; exact hcs (i + 1) v hi) (fun g2 hf2 => hQ g2 (hf.tr hf2))
      · have e0 : st1 nm c st = nmS nm (-c - 106) :: st := by rw [st1, if_neg n1, if_pos (Int32.not_lt.mp c63)]
        refine xX4_says_66 ?_
        refine xX4_says_68 ?_
        refine xX4_says_69 ?_
        refine xX4_says_71 ?_
        refine xX4_says_72 rfl ?_
        refine xX4_says_74 ?_
        refine xX4_says_75 ?_
        refine xX4_says_77 ?_
        refine xX4_says_78 (hX.1 _ _ rfl) rfl rfl ?_
        refine xX4_says_79 (fun c79 => ?_) (fun c79 => ?_)
        · have e1 : st1 nm c st = 0 :: st := by rw [e0, nmS, if_neg (show ¬ (-c - 106 < 6) from Int32.not_lt.mpr c79)]
          refine xX4_says_89 ?_
          refine xX4_says_90 hL.1 rfl rfl rfl (s_X4_push hL hn hs (by first | omega | (simp only [List.length_tail]; omega)) (fun g9 hs9 hf9 => ?_))
          refine xX4_says_93 ?_
          refine xX4_says_163 rfl rfl ?_
          refine xX4_says_166 ?_
          refine wp_kill_4 ?_
          refine wp_kill_5 ?_
          have hst : SR g9 la (st1 nm c st) := by rw [e1]; exact hs9
          have hf := (LF.rf.tr hf9)
          exact ih (j + 1) _ _ _ (by rw [hx3]; exact nI_1 j) hst (Nat.le_trans (st1_len nm c st) (by omega)) (by omega) (by rw [hf 34 (by omega) (by omega)]; exact h34) (by rw [hf (la + 1) (by omega) (by omega), hend]; congr 1; omega) (fun i v hi => by rw [hf (la + 2) (by omega) (by omega), show j + 1 + i = j + (i + 1) by omega]; exact hcs (i + 1) v hi) (fun g2 hf2 => hQ g2 (hf.tr hf2))
        · obtain ⟨jn, hjn6, ejn⟩ := nmS_at (Int32.not_lt.mp c63) (Int32.not_le.mp c79)
          have e1 : st1 nm c st = g 34 jn :: st := by rw [e0, nmS, if_pos (show -c - 106 < 6 from Int32.not_le.mp c79), ejn, nN_nI (by omega), h34]
          refine xX4_says_82 ?_
          refine xX4_says_83 ?_
          refine xX4_says_85 (j := jn) (hX.1 _ _ rfl) ejn hjn6 rfl ?_
          refine xX4_says_86 ?_
          refine xX4_says_90 hL.1 rfl rfl rfl (s_X4_push hL hn hs (by first | omega | (simp only [List.length_tail]; omega)) (fun g10 hs10 hf10 => ?_))
          refine xX4_says_93 ?_
          refine xX4_says_163 rfl rfl ?_
          refine xX4_says_166 ?_
          refine wp_kill_4 ?_
          refine wp_kill_5 ?_
          have hst : SR g10 la (st1 nm c st) := by rw [e1]; exact hs10
          have hf := (LF.rf.tr hf10)
          exact ih (j + 1) _ _ _ (by rw [hx3]; exact nI_1 j) hst (Nat.le_trans (st1_len nm c st) (by omega)) (by omega) (by rw [hf 34 (by omega) (by omega)]; exact h34) (by rw [hf (la + 1) (by omega) (by omega), hend]; congr 1; omega) (fun i v hi => by rw [hf (la + 2) (by omega) (by omega), show j + 1 + i = j + (i + 1) by omega]; exact hcs (i + 1) v hi) (fun g2 hf2 => hQ g2 (hf.tr hf2))
    · have e1 : st1 nm c st = c :: st := by rw [st1, if_pos (Int32.not_lt.mp c47)]
      refine xX4_says_50 ?_
      refine xX4_says_51 ?_
      refine xX4_says_53 hL.1 rfl rfl rfl (s_X4_push hL hn hs (by first | omega | (simp only [List.length_tail]; omega)) (fun g11 hs11 hf11 => ?_))
      refine xX4_says_56 ?_
      refine xX4_says_163 rfl rfl ?_
      refine xX4_says_166 ?_
      refine wp_kill_4 ?_
      have hst : SR g11 la (st1 nm c st) := by rw [e1]; exact hs11
      have hf := (LF.rf.tr hf11)
      exact ih (j + 1) _ _ _ (by rw [hx3]; exact nI_1 j) hst (Nat.le_trans (st1_len nm c st) (by omega)) (by omega) (by rw [hf 34 (by omega) (by omega)]; exact h34) (by rw [hf (la + 1) (by omega) (by omega), hend]; congr 1; omega) (fun i v hi => by rw [hf (la + 2) (by omega) (by omega), show j + 1 + i = j + (i + 1) by omega]; exact hcs (i + 1) v hi) (fun g2 hf2 => hQ g2 (hf.tr hf2))
theorem s_X4_says {d : Nat} {sc : Nat × (Nat → Int32)} {T : List (Nat × Nat)} {rf : Nat → Nat → Option Nat} {g : Nat → Nat → Int32} {F : Int32 → AH → Prop} {la n p : Nat} {x : Int32} {lw : Nat → List Int32} (hX : XS T rf) (hL : LawAt T rf la n) (hn : Nat.ble n 2000 = true) (hla : 49 ≤ la) (hw : LawG g la n lw) (hp : p < 3) (hx : x = nI p) (hQ : ∀ g2, LF la g g2 → F (evL lw p (g 34)) (T, rf, g2)) : Mok (d + 1) 0 0 sc kX4_says [.ref la, .int x, .ref 34] (T, rf, g) (Qi F) := by
  have hn2 := Nat.le_of_ble_eq_true hn
  obtain ⟨s, hs1, hs2, hs3, hs4⟩ := hw p hp
  subst hx
  refine Mok.ofWp (L := [some (.ref la), some (.int (nI p)), some (.ref 34), none, none, none]) rfl rfl rfl ?_
  refine xX4_says_0 ?_
  refine xX4_says_1 ?_
  refine xX4_says_2 hL.1 ?_
  refine xX4_says_5 ?_
  refine xX4_says_6 ?_
  refine xX4_says_7 hL.1 hL.2.2.2.2.2.1 ?_
  refine xX4_says_10 ?_
  refine xX4_says_11 (j := p) hL.2.1 rfl (by omega) rfl ?_
  refine xX4_says_12 rfl rfl rfl ?_
  refine xX4_says_15 rfl ?_
  have hf : LF la g (up g la 3 0) := fun a h1 h2 => up_row h1
  have hx3 : (if (0 : Int32) < up g la 3 0 (la + 1) p then up g la 3 0 (la + 1) p else 0) = nI s := by
    rw [hf _ (by omega) (by omega), hs1]
    split
    · rfl
    · have := iNat_zero (n := s) (by assumption) (by omega); rw [this]; rfl
  exact lp_X4_says hX hL hn hla hp (lw p) s _ _ [] hx3 ⟨up_same _ _ _ _, trivial⟩ (Nat.zero_le _) hs3 (hf 34 (by omega) (by omega)) (by rw [hf _ (by omega) (by omega)]; exact hs2) (fun i v hi => by rw [hf _ (by omega) (by omega)]; exact hs4 i v hi) (fun g2 hf2 => hQ g2 (hf.tr hf2))
