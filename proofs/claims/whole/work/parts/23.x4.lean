theorem lp_X0_step {d : Nat} {sc : Nat × (Nat → Int32)} {T : List (Nat × Nat)} {rf : Nat → Nat → Option Nat} {b la n nc m : Nat} {lw : Nat → List Int32} {o : OV} {F : AH → Prop} {g0 : Nat → Nat → Int32} (hB : BS T rf b la n) (hV : OVk o nc) (hm : m < 90) (hQ : ∀ g2, BF la g0 g2 → BK g2 o (evL lw) nc (m + 1) → F (T, rf, g2)) : ∀ (k j : Nat) (x1 : Int32) (g : Nat → Nat → Int32), j + k = nc → x1 = nI j → BG g b la n lw o → BF la g0 g → g 25 5 = nI m → g 25 6 = nI (opn o (m + 1)).1 → g 25 7 = lastI (opn o (m + 1)).2.1 → g 25 8 = nI (opn o (m + 1)).2.2 → (∀ c, c < j → g 26 c = brS o (evL lw) c (m + 1)) → (∀ c, j ≤ c → c < nc → g 26 c = brS o (evL lw) c m) → Wp (d + 4) 0 0 sc kX0_step (Qv F) 84 [some (.ref 25), some (.int x1)] [] (T, rf, g) 0 0 := by
  intro k
  induction k with
  | zero =>
    intro j x1 g hjk hx1 hG hf k5 k6 k7 k8 hold hnew
    obtain ⟨hX, hbc, hrb, hrl, hL, hn, hla⟩ := id hB
    have hb17 : b ≤ 17 := hB.b
    have hO := OvT.of hX hbc
    obtain ⟨gw, r0, r1, r2, r3, r4, r5, r6, r7⟩ := id hG
    obtain ⟨v1, v2, ⟨no, v3, v31, v32, v33⟩, v4, ⟨li, v5, v51⟩, vk, vm, vw, vp, vh⟩ := id hV
    have hl4 : (opn o (m + 1)).1 < 4 := opn_l o _ (by rw [v51, nN_nI (by omega)]; exact v5)
    have hlm : ∀ a, (opn o (m + 1)).2.1 = some a → a ≤ m := fun a h => by have := opn_last o (m + 1) a h; omega
    refine xX0_step_84 ?_
    refine xX0_step_85 ?_
    refine xX0_step_86 (hX.1 _ _ rfl) hrb ?_
    refine xX0_step_89 hO.1 ?_
    rw [r0, v1]
    refine xX0_step_92_t (by rw [hx1]; exact nI_le (by omega) (by omega)) ?_
    refine xX0_step_106 ?_
    refine xX0_step_107 rfl ?_
    refine xX0_step_108 (hX.1 _ _ rfl) ?_
    rw [k5]
    refine xX0_step_111 ?_
    refine xX0_step_112 ?_
    rw [nI_1]
    refine xX0_step_113 (hX.1 _ _ rfl) ?_
    refine xX0_step_116 rfl rfl ?_
    refine hQ _ (hf.tr (fun a p _ _ _ _ => up_row p)) ⟨up_same _ _ _ _, ?_, ?_, ?_, fun c hc => ?_⟩
    · rw [up_ne (by decide)]; exact k6
    · rw [up_ne (by decide)]; exact k7
    · rw [up_ne (by decide)]; exact k8
    · rw [up_row (by decide)]; exact hold c (by omega)
  | succ k ih =>
    intro j x1 g hjk hx1 hG hf k5 k6 k7 k8 hold hnew
    obtain ⟨hX, hbc, hrb, hrl, hL, hn, hla⟩ := id hB
    have hb17 : b ≤ 17 := hB.b
    have hO := OvT.of hX hbc
    obtain ⟨gw, r0, r1, r2, r3, r4, r5, r6, r7⟩ := id hG
    obtain ⟨v1, v2, ⟨no, v3, v31, v32, v33⟩, v4, ⟨li, v5, v51⟩, vk, vm, vw, vp, vh⟩ := id hV
    have hl4 : (opn o (m + 1)).1 < 4 := opn_l o _ (by rw [v51, nN_nI (by omega)]; exact v5)
    have hlm : ∀ a, (opn o (m + 1)).2.1 = some a → a ≤ m := fun a h => by have := opn_last o (m + 1) a h; omega
    refine xX0_step_84 ?_
    refine xX0_step_85 ?_
    refine xX0_step_86 (hX.1 _ _ rfl) hrb ?_
    refine xX0_step_89 hO.1 ?_
    rw [r0, v1]
    refine xX0_step_92_f (by rw [hx1]; exact nI_ge (by omega) (by omega)) ?_
    refine xX0_step_95 ?_
    refine xX0_step_96 ?_
    refine xX0_step_97 (hX.1 _ _ rfl) rfl rfl rfl (s_X0_bakeOne hB hG hV hx1 (by omega) k5 (by omega) k6 hl4 k7 hlm (hnew j (Nat.le_refl _) (by omega)) (fun g0 hf0 h250 hot0 hvl0 => ?_))
    refine xX0_step_100 rfl rfl ?_
    refine xX0_step_103 ?_
    exact ih (j + 1) _ _ (by omega) (by rw [hx1]; exact nI_1 j) (hG.keep hb17 hla hf0) (hf.tr hf0) (by rw [h250]; exact k5) (by rw [h250]; exact k6) (by rw [h250]; exact k7) (by rw [h250]; exact k8) (fun c hc => by
      rcases Nat.lt_or_ge c j with q | q
      · rw [hot0 c (by omega)]; exact hold c q
      · have e : c = j := by omega
        subst e; exact hvl0) (fun c h1 h2 => by rw [hot0 c (by omega)]; exact hnew c (by omega) h2)
theorem s_X0_step {d : Nat} {sc : Nat × (Nat → Int32)} {T : List (Nat × Nat)} {rf : Nat → Nat → Option Nat} {g : Nat → Nat → Int32} {b la n nc : Nat} {lw : Nat → List Int32} {o : OV} {F : AH → Prop} {m : Nat} (hB : BS T rf b la n) (hG : BG g b la n lw o) (hV : OVk o nc) (hm : m < 90) (hK : BK g o (evL lw) nc m) (hQ : ∀ g2, BF la g g2 → BK g2 o (evL lw) nc (m + 1) → F (T, rf, g2)) : Mok (d + 4) 0 0 sc kX0_step [.ref 25] (T, rf, g) (Qv F) := by
  obtain ⟨hX, hbc, hrb, hrl, hL, hn, hla⟩ := id hB
  have hb17 : b ≤ 17 := hB.b
  have hO := OvT.of hX hbc
  obtain ⟨gw, r0, r1, r2, r3, r4, r5, r6, r7⟩ := id hG
  obtain ⟨v1, v2, ⟨no, v3, v31, v32, v33⟩, v4, ⟨li, v5, v51⟩, vk, vm, vw, vp, vh⟩ := id hV
  obtain ⟨k5, k6, k7, k8, k9⟩ := id hK
  have hl4 : (opn o m).1 < 4 := opn_l o _ (by rw [v51, nN_nI (by omega)]; exact v5)
  refine Mok.ofWp (L := [some (.ref 25), none]) rfl rfl rfl ?_
  refine xX0_step_0 ?_
  refine xX0_step_1 (hX.1 _ _ rfl) hrb ?_
  refine xX0_step_4 ?_
  refine xX0_step_8 ?_
  refine xX0_step_9 (hX.1 _ _ rfl) ?_
  rw [k8]
  refine xX0_step_12 ?_
  refine xX0_step_13 (hX.1 _ _ rfl) hrb ?_
  refine xX0_step_16 hO.1 ?_
  rw [r0, v31]
  refine xX0_step_19 (fun c19 => ?_) (fun c19 => ?_)
  · have hno : opn o (m + 1) = opn o m := opn_no (fun q => by
      have q1 := q.1
      rw [v31, nN_nI (by omega)] at q1
      exact absurd c19 (nI_ge q1 (by omega)))
    refine xX0_step_82 ?_
    refine xX0_step_83 rfl ?_
    exact lp_X0_step hB hV (by omega) hQ nc 0 _ _ (by omega) rfl (hG.keep hb17 hla (BF.rf)) (BF.rf) k5 (by rw [hno]; exact k6) (by rw [hno]; exact k7) (by rw [hno]; exact k8) (fun c hc => absurd hc (Nat.not_lt_zero c)) (fun c _ hc => k9 c hc)
  · have hnx : (opn o m).2.2 < no := by
      rcases Nat.lt_or_ge (opn o m).2.2 no with q | q
      · exact q
      · exact absurd (nI_le q (by have := opn_next o m; rw [v31, nN_nI (by omega)] at this; omega)) c19
    obtain ⟨mi, hmi, emi⟩ := v32 _ hnx
    obtain ⟨qq, hqq, eqq⟩ := v33 _ hnx
    refine xX0_step_22 ?_
    refine xX0_step_23 (hX.1 _ _ rfl) hrb ?_
    refine xX0_step_26 hO.1 hO.2.2.2.2.2.2.2.2.2.2.2.2.2.1 ?_
    refine xX0_step_29 ?_
    refine xX0_step_30 (hX.1 _ _ rfl) ?_
    rw [k8]
    refine xX0_step_33 (j := (opn o m).2.2) hO.2.2.2.2.2.2.1 rfl (by omega) rfl ?_
    rw [r6, emi]
    refine xX0_step_34 ?_
    refine xX0_step_35 (hX.1 _ _ rfl) ?_
    rw [k5]
    refine xX0_step_38 (fun c38 => ?_) (fun c38 => ?_)
    · have hno : opn o (m + 1) = opn o m := opn_no (fun q => by
        have q2 := q.2
        rw [emi, nN_nI (by omega)] at q2
        exact c38 (by rw [q2]))
      refine xX0_step_82 ?_
      refine xX0_step_83 rfl ?_
      exact lp_X0_step hB hV (by omega) hQ nc 0 _ _ (by omega) rfl (hG.keep hb17 hla (BF.rf)) (BF.rf) k5 (by rw [hno]; exact k6) (by rw [hno]; exact k7) (by rw [hno]; exact k8) (fun c hc => absurd hc (Nat.not_lt_zero c)) (fun c _ hc => k9 c hc)
    · have hmm : mi = m := nIinj (by omega) (by omega) c38
      have hye : opn o (m + 1) = (((opn o m).1 + qq) % 4, some m, (opn o m).2.2 + 1) := by
        have := opn_yes (o := o) (m := m) (by rw [v31, nN_nI (by omega)]; exact hnx) (by rw [emi, nN_nI (by omega)]; exact hmm)
        rw [eqq, nN_nI (by omega)] at this
        exact this
      refine xX0_step_41 ?_
      refine xX0_step_42 ?_
      refine xX0_step_43 (hX.1 _ _ rfl) ?_
      rw [k6]
      refine xX0_step_46 ?_
      refine xX0_step_47 (hX.1 _ _ rfl) hrb ?_
      refine xX0_step_50 hO.1 hO.2.2.2.2.2.2.2.2.2.2.2.2.2.2 ?_
      refine xX0_step_53 ?_
      refine xX0_step_54 (hX.1 _ _ rfl) ?_
      rw [k8]
      refine xX0_step_57 (j := (opn o m).2.2) hO.2.2.2.2.2.2.2.1 rfl (by omega) rfl ?_
      rw [r7, eqq]
      refine xX0_step_58 ?_
      refine xX0_step_59 ?_
      refine xX0_step_60 ?_
      rw [nI_add, pk_andN (by omega) 2 rfl]
      refine xX0_step_61 (hX.1 _ _ rfl) ?_
      refine xX0_step_64 ?_
      refine xX0_step_65 ?_
      refine xX0_step_66 (hX.1 _ _ rfl) ?_
      rw [up_ne (by decide), k5]
      refine xX0_step_69 (hX.1 _ _ rfl) ?_
      refine xX0_step_72 ?_
      refine xX0_step_73 rfl ?_
      refine xX0_step_74 (hX.1 _ _ rfl) ?_
      rw [up_ne (by decide), up_ne (by decide), k8]
      refine xX0_step_77 ?_
      refine xX0_step_78 ?_
      rw [nI_1]
      refine xX0_step_79 (hX.1 _ _ rfl) ?_
      refine xX0_step_82 ?_
      refine xX0_step_83 rfl ?_
      exact lp_X0_step hB hV (by omega) hQ nc 0 _ _ (by omega) rfl (hG.keep hb17 hla ((fun a p _ _ _ _ => by rw [up_row p, up_row p, up_row p]))) ((fun a p _ _ _ _ => by rw [up_row p, up_row p, up_row p])) (by rw [up_ne (by decide), up_ne (by decide), up_ne (by decide)]; exact k5) (by rw [up_ne (by decide), up_ne (by decide), up_same, hye]) (by rw [up_ne (by decide), up_same, hye]; rfl) (by rw [up_same, hye]) (fun c hc => absurd hc (Nat.not_lt_zero c)) (fun c _ hc => by rw [up_row (by decide), up_row (by decide), up_row (by decide)]; exact k9 c hc)
theorem s_X0_away {d : Nat} {sc : Nat × (Nat → Int32)} {T : List (Nat × Nat)} {rf : Nat → Nat → Option Nat} {g : Nat → Nat → Int32} {b la n nc : Nat} {lw : Nat → List Int32} {o : OV} {F : Int32 → AH → Prop} {cN : Nat} {x0 : Int32} (hB : BS T rf b la n) (hG : BG g b la n lw o) (hV : OVk o nc) (hc : x0 = nI cN) (hcn : cN < nc) (hQ : F (kAway (o 2 cN) (g 26 cN) (o 4 cN)) (T, rf, g)) : Mok (d + 2) 0 0 sc kX0_away [.ref 25, .int x0] (T, rf, g) (Qi F) := by
  obtain ⟨hX, hbc, hrb, hrl, hL, hn, hla⟩ := id hB
  have hb17 : b ≤ 17 := hB.b
  have hO := OvT.of hX hbc
  obtain ⟨gw, r0, r1, r2, r3, r4, r5, r6, r7⟩ := id hG
  obtain ⟨v1, v2, ⟨no, v3, v31, v32, v33⟩, v4, ⟨li, v5, v51⟩, vk, vm, vw, vp, vh⟩ := id hV
  obtain ⟨kk, hkk, ek⟩ := vk cN hcn
  refine Mok.ofWp (L := [some (.ref 25), some (.int x0)]) rfl rfl rfl ?_
  refine xX0_away_0 ?_
  refine xX0_away_1 (hX.1 _ _ rfl) hrb ?_
  refine xX0_away_4 ?_
  refine xX0_away_11 ?_
  refine xX0_away_12 ?_
  refine xX0_away_13 (hX.1 _ _ rfl) hrb ?_
  refine xX0_away_16 hO.1 hO.2.2.2.2.2.2.2.2.2.1 ?_
  refine xX0_away_19 ?_
  refine xX0_away_20 (j := cN) hO.2.2.1 hc (by omega) rfl ?_
  rw [r2, ek]
  refine xX0_away_21 (hX.1 _ _ rfl) rfl rfl rfl (s_X0_kindOf hX rfl hkk (fun hk0 => ?_) (fun hk0 => ?_) (fun hk0 => ?_) (fun hk0 => ?_) (fun hk0 => ?_) (fun hk0 => ?_))
  · subst hk0
    refine xX0_away_24 ?_
    refine xX0_away_25 (hX.1 _ _ rfl) (hX.2 _ _ _ rfl) ?_
    refine xX0_away_28 ?_
    refine xX0_away_29 (hX.1 _ _ rfl) (by assumption) (by omega) rfl ?_
    refine xX0_away_30 ?_
    refine xX0_away_31 (hX.1 _ _ rfl) hrb ?_
    refine xX0_away_34 hO.1 hO.2.2.2.2.2.2.2.2.2.2.2.1 ?_
    refine xX0_away_37 ?_
    refine xX0_away_38 (j := cN) hO.2.2.2.2.1 hc (by omega) rfl ?_
    rw [r4]
    refine xX0_away_39_c3 (hX.1 _ _ rfl) rfl rfl rfl (s_X3_away  ?_)
    refine xX0_away_42 rfl rfl ?_
    first | (rw [ek, kA0] at hQ; exact hQ) | (rw [ek, kA1] at hQ; exact hQ) | (rw [ek, kA2] at hQ; exact hQ) | (rw [ek, kA3] at hQ; exact hQ) | (rw [ek, kA4] at hQ; exact hQ) | (rw [ek, kA5] at hQ; exact hQ)
  · subst hk0
    refine xX0_away_24 ?_
    refine xX0_away_25 (hX.1 _ _ rfl) (hX.2 _ _ _ rfl) ?_
    refine xX0_away_28 ?_
    refine xX0_away_29 (hX.1 _ _ rfl) (by assumption) (by omega) rfl ?_
    refine xX0_away_30 ?_
    refine xX0_away_31 (hX.1 _ _ rfl) hrb ?_
    refine xX0_away_34 hO.1 hO.2.2.2.2.2.2.2.2.2.2.2.1 ?_
    refine xX0_away_37 ?_
    refine xX0_away_38 (j := cN) hO.2.2.2.2.1 hc (by omega) rfl ?_
    rw [r4]
    refine xX0_away_39_c9 (hX.1 _ _ rfl) rfl rfl rfl (s_X3_away  ?_)
    refine xX0_away_42 rfl rfl ?_
    first | (rw [ek, kA0] at hQ; exact hQ) | (rw [ek, kA1] at hQ; exact hQ) | (rw [ek, kA2] at hQ; exact hQ) | (rw [ek, kA3] at hQ; exact hQ) | (rw [ek, kA4] at hQ; exact hQ) | (rw [ek, kA5] at hQ; exact hQ)
  · subst hk0
    refine xX0_away_24 ?_
    refine xX0_away_25 (hX.1 _ _ rfl) (hX.2 _ _ _ rfl) ?_
    refine xX0_away_28 ?_
    refine xX0_away_29 (hX.1 _ _ rfl) (by assumption) (by omega) rfl ?_
    refine xX0_away_30 ?_
    refine xX0_away_31 (hX.1 _ _ rfl) hrb ?_
    refine xX0_away_34 hO.1 hO.2.2.2.2.2.2.2.2.2.2.2.1 ?_
    refine xX0_away_37 ?_
    refine xX0_away_38 (j := cN) hO.2.2.2.2.1 hc (by omega) rfl ?_
    rw [r4]
    refine xX0_away_39_c10 (hX.1 _ _ rfl) rfl rfl rfl (s_X3_away  ?_)
    refine xX0_away_42 rfl rfl ?_
    first | (rw [ek, kA0] at hQ; exact hQ) | (rw [ek, kA1] at hQ; exact hQ) | (rw [ek, kA2] at hQ; exact hQ) | (rw [ek, kA3] at hQ; exact hQ) | (rw [ek, kA4] at hQ; exact hQ) | (rw [ek, kA5] at hQ; exact hQ)
  · subst hk0
    refine xX0_away_24 ?_
    refine xX0_away_25 (hX.1 _ _ rfl) (hX.2 _ _ _ rfl) ?_
    refine xX0_away_28 ?_
    refine xX0_away_29 (hX.1 _ _ rfl) (by assumption) (by omega) rfl ?_
    refine xX0_away_30 ?_
    refine xX0_away_31 (hX.1 _ _ rfl) hrb ?_
    refine xX0_away_34 hO.1 hO.2.2.2.2.2.2.2.2.2.2.2.1 ?_
    refine xX0_away_37 ?_
    refine xX0_away_38 (j := cN) hO.2.2.2.2.1 hc (by omega) rfl ?_
    rw [r4]
    refine xX0_away_39_c1 (hX.1 _ _ rfl) rfl rfl rfl (s_X3_away  ?_)
    refine xX0_away_42 rfl rfl ?_
    first | (rw [ek, kA0] at hQ; exact hQ) | (rw [ek, kA1] at hQ; exact hQ) | (rw [ek, kA2] at hQ; exact hQ) | (rw [ek, kA3] at hQ; exact hQ) | (rw [ek, kA4] at hQ; exact hQ) | (rw [ek, kA5] at hQ; exact hQ)
  · subst hk0
    refine xX0_away_24 ?_
    refine xX0_away_25 (hX.1 _ _ rfl) (hX.2 _ _ _ rfl) ?_
    refine xX0_away_28 ?_
    refine xX0_away_29 (hX.1 _ _ rfl) (by assumption) (by omega) rfl ?_
    refine xX0_away_30 ?_
    refine xX0_away_31 (hX.1 _ _ rfl) hrb ?_
    refine xX0_away_34 hO.1 hO.2.2.2.2.2.2.2.2.2.2.2.1 ?_
    refine xX0_away_37 ?_
    refine xX0_away_38 (j := cN) hO.2.2.2.2.1 hc (by omega) rfl ?_
    rw [r4]
    refine xX0_away_39_c8 (hX.1 _ _ rfl) rfl rfl rfl (s_X8_away (hX.1 _ _ rfl) ?_)
    refine xX0_away_42 rfl rfl ?_
    first | (rw [ek, kA0] at hQ; exact hQ) | (rw [ek, kA1] at hQ; exact hQ) | (rw [ek, kA2] at hQ; exact hQ) | (rw [ek, kA3] at hQ; exact hQ) | (rw [ek, kA4] at hQ; exact hQ) | (rw [ek, kA5] at hQ; exact hQ)
  · subst hk0
    refine xX0_away_24 ?_
    refine xX0_away_25 (hX.1 _ _ rfl) (hX.2 _ _ _ rfl) ?_
    refine xX0_away_28 ?_
    refine xX0_away_29 (hX.1 _ _ rfl) (by assumption) (by omega) rfl ?_
    refine xX0_away_30 ?_
    refine xX0_away_31 (hX.1 _ _ rfl) hrb ?_
    refine xX0_away_34 hO.1 hO.2.2.2.2.2.2.2.2.2.2.2.1 ?_
    refine xX0_away_37 ?_
    refine xX0_away_38 (j := cN) hO.2.2.2.2.1 hc (by omega) rfl ?_
    rw [r4]
    refine xX0_away_39_c2 (hX.1 _ _ rfl) rfl rfl rfl (s_X2_away (hX.1 _ _ rfl) ?_)
    refine xX0_away_42 rfl rfl ?_
    first | (rw [ek, kA0] at hQ; exact hQ) | (rw [ek, kA1] at hQ; exact hQ) | (rw [ek, kA2] at hQ; exact hQ) | (rw [ek, kA3] at hQ; exact hQ) | (rw [ek, kA4] at hQ; exact hQ) | (rw [ek, kA5] at hQ; exact hQ)
theorem s_X0_badnessOf {d : Nat} {sc : Nat × (Nat → Int32)} {T : List (Nat × Nat)} {rf : Nat → Nat → Option Nat} {g : Nat → Nat → Int32} {b la n nc : Nat} {lw : Nat → List Int32} {o : OV} {F : Int32 → AH → Prop} {cN : Nat} {x0 : Int32} (hB : BS T rf b la n) (hG : BG g b la n lw o) (hV : OVk o nc) (hc : x0 = nI cN) (hcn : cN < nc) (hQ : ∀ g2, AF la g g2 → F (badX o (evL lw) cN (g 26 cN)) (T, rf, g2)) : Mok (d + 3) 0 0 sc kX0_badnessOf [.ref 25, .int x0] (T, rf, g) (Qi F) := by
  obtain ⟨hX, hbc, hrb, hrl, hL, hn, hla⟩ := id hB
  have hb17 : b ≤ 17 := hB.b
  have hO := OvT.of hX hbc
  obtain ⟨gw, r0, r1, r2, r3, r4, r5, r6, r7⟩ := id hG
  obtain ⟨v1, v2, ⟨no, v3, v31, v32, v33⟩, v4, ⟨li, v5, v51⟩, vk, vm, vw, vp, vh⟩ := id hV
  refine Mok.ofWp (L := [some (.ref 25), some (.int x0)]) rfl rfl rfl ?_
  refine xX0_badnessOf_0 ?_
  refine xX0_badnessOf_1 ?_
  refine xX0_badnessOf_2 ?_
  refine xX0_badnessOf_3 ?_
  refine xX0_badnessOf_4 ?_
  refine xX0_badnessOf_5 (hX.1 _ _ rfl) (hX.2 _ _ _ rfl) ?_
  refine xX0_badnessOf_8 ?_
  refine xX0_badnessOf_9 (j := cN) (hX.1 _ _ rfl) hc (by omega) rfl ?_
  refine xX0_badnessOf_10 ?_
  refine xX0_badnessOf_11 (hX.1 _ _ rfl) rfl rfl rfl (s_X0_name hB hc (by omega) (fun g0 hf0 hn0 => ?_))
  refine xX0_badnessOf_14 ?_
  refine xX0_badnessOf_15 ?_
  refine xX0_badnessOf_16 (hX.1 _ _ rfl) rfl rfl rfl (s_X0_away hB (hG.keep hb17 hla hf0.bf) hV hc hcn ?_)
  refine xX0_badnessOf_19 ?_
  refine xX0_badnessOf_20 ?_
  refine xX0_badnessOf_21 (hX.1 _ _ rfl) rfl rfl rfl (s_X0_ask hB (hf0.lw hla gw) (by decide) (show (2 : Int32) = nI 2 from rfl) (fun g2 hf2 => ?_))
  rw [evL_congr hn0, r3, r0, hf0 26 (by omega) (by omega) (by omega)]
  refine xX0_badnessOf_24 ?_
  refine xX0_badnessOf_25 rfl rfl ?_
  exact hQ _ (hf0.tr hf2)
theorem s_X0_cakes {d : Nat} {sc : Nat × (Nat → Int32)} {T : List (Nat × Nat)} {rf : Nat → Nat → Option Nat} {g : Nat → Nat → Int32} {b la n nc : Nat} {lw : Nat → List Int32} {o : OV} {F : Int32 → AH → Prop} (hB : BS T rf b la n) (hG : BG g b la n lw o) (hV : OVk o nc) (hQ : F (nI nc) (T, rf, g)) : Mok d 0 0 sc kX0_cakes [.ref 25] (T, rf, g) (Qi F) := by
  obtain ⟨hX, hbc, hrb, hrl, hL, hn, hla⟩ := id hB
  have hb17 : b ≤ 17 := hB.b
  have hO := OvT.of hX hbc
  obtain ⟨gw, r0, r1, r2, r3, r4, r5, r6, r7⟩ := id hG
  obtain ⟨v1, v2, ⟨no, v3, v31, v32, v33⟩, v4, ⟨li, v5, v51⟩, vk, vm, vw, vp, vh⟩ := id hV
  refine Mok.ofWp (L := [some (.ref 25)]) rfl rfl rfl ?_
  refine xX0_cakes_0 ?_
  refine xX0_cakes_1 (hX.1 _ _ rfl) hrb ?_
  refine xX0_cakes_4 ?_
  refine xX0_cakes_11 ?_
  refine xX0_cakes_12 (hX.1 _ _ rfl) hrb ?_
  refine xX0_cakes_15 hO.1 ?_
  rw [r0, v1]
  refine xX0_cakes_18 rfl rfl ?_
  exact hQ
