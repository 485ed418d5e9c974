theorem s_X11_within {d : Nat} {sc : Nat × (Nat → Int32)} {v lo hi : Int32} {h : AH} {F : Int32 → AH → Prop} (k1 : lo ≤ v ∧ v ≤ hi → F 1 h) (k0 : ¬ (lo ≤ v ∧ v ≤ hi) → F 0 h) : Mok d 0 0 sc kX11_within [.int v, .int lo, .int hi] h (Qi F) := by
  refine Mok.ofWp (L := [some (.int v), some (.int lo), some (.int hi)]) rfl rfl rfl ?_
  refine xX11_within_0 ?_
  refine xX11_within_1 ?_
  refine xX11_within_2 (fun c2 => ?_) (fun c2 => ?_)
  · refine xX11_within_14 ?_
    refine xX11_within_15 (Or.inl rfl) rfl rfl ?_
    first | exact k1 ⟨Int32.not_lt.mp c2, Int32.not_lt.mp c7⟩ | exact k0 (fun q => c2 (Int32.not_lt.mpr q.1)) | exact k0 (fun q => absurd c2 (Int32.not_lt.mpr q.1)) | exact k0 (fun q => absurd c7 (Int32.not_lt.mpr q.2))
  · refine xX11_within_5 ?_
    refine xX11_within_6 ?_
    refine xX11_within_7 (fun c7 => ?_) (fun c7 => ?_)
    · refine xX11_within_14 ?_
      refine xX11_within_15 (Or.inl rfl) rfl rfl ?_
      first | exact k1 ⟨Int32.not_lt.mp c2, Int32.not_lt.mp c7⟩ | exact k0 (fun q => c2 (Int32.not_lt.mpr q.1)) | exact k0 (fun q => absurd c2 (Int32.not_lt.mpr q.1)) | exact k0 (fun q => absurd c7 (Int32.not_lt.mpr q.2))
    · refine xX11_within_10 ?_
      refine xX11_within_11 ?_
      refine xX11_within_15 (Or.inr rfl) rfl rfl ?_
      first | exact k1 ⟨Int32.not_lt.mp c2, Int32.not_lt.mp c7⟩ | exact k0 (fun q => c2 (Int32.not_lt.mpr q.1)) | exact k0 (fun q => absurd c2 (Int32.not_lt.mpr q.1)) | exact k0 (fun q => absurd c7 (Int32.not_lt.mpr q.2))
theorem s_X11_isByte {d : Nat} {sc : Nat × (Nat → Int32)} {v : Int32} {h : AH} {F : Int32 → AH → Prop} (k1 : 0 ≤ v ∧ v ≤ 255 → F 1 h) (k0 : ¬ (0 ≤ v ∧ v ≤ 255) → F 0 h) : Mok (d + 1) 0 0 sc kX11_isByte [.int v] h (Qi F) := by
  refine Mok.ofWp (L := [some (.int v)]) rfl rfl rfl ?_
  refine xX11_isByte_0 ?_
  refine xX11_isByte_1 ?_
  refine xX11_isByte_2 ?_
  refine xX11_isByte_5 rfl rfl rfl (s_X11_within  (fun hw0 => ?_) (fun hw0 => ?_))
  · refine xX11_isByte_8 (Or.inr rfl) rfl rfl ?_
    first | exact k1 hw0 | exact k0 hw0
  · refine xX11_isByte_8 (Or.inl rfl) rfl rfl ?_
    first | exact k1 hw0 | exact k0 hw0
theorem s_X11_isCake {d : Nat} {sc : Nat × (Nat → Int32)} {v : Int32} {T : List (Nat × Nat)} {rf : Nat → Nat → Option Nat} {g : Nat → Nat → Int32} {F : Int32 → AH → Prop} (hX : XS T rf) (k1 : 0 ≤ v ∧ v ≤ g 1 5 - 1 → F 1 (T, rf, g)) (k0 : ¬ (0 ≤ v ∧ v ≤ g 1 5 - 1) → F 0 (T, rf, g)) : Mok (d + 1) 0 0 sc kX11_isCake [.ref 0, .int v] (T, rf, g) (Qi F) := by
  refine Mok.ofWp (L := [some (.ref 0), some (.int v)]) rfl rfl rfl ?_
  refine xX11_isCake_0 ?_
  refine xX11_isCake_1 ?_
  refine xX11_isCake_2 ?_
  refine xX11_isCake_3 (hX.1 _ _ rfl) (hX.2 _ _ _ rfl) ?_
  refine xX11_isCake_6 (hX.1 _ _ rfl) ?_
  refine xX11_isCake_9 ?_
  refine xX11_isCake_10 ?_
  refine xX11_isCake_11 rfl rfl rfl (s_X11_within  (fun hw0 => ?_) (fun hw0 => ?_))
  · refine xX11_isCake_14 (Or.inr rfl) rfl rfl ?_
    first | exact k1 hw0 | exact k0 hw0
  · refine xX11_isCake_14 (Or.inl rfl) rfl rfl ?_
    first | exact k1 hw0 | exact k0 hw0
