theorem s_X11_spotUnder {d : Nat} {sc : Nat × (Nat → Int32)} {h : AH} {F : Int32 → AH → Prop} {x0 y0 : Int32} {p q : Nat} (hx : x0 = nI p) (hp : p < 16) (hy : y0 = nI q) (hq : q < 4) (hQ : F (nI (rot p q)) h) : Mok d 0 0 sc kX11_spotUnder [.int x0, .int y0] h (Qi F) := by
  subst hx
  rcases (by omega : q = 0 ∨ q = 1 ∨ q = 2 ∨ q = 3) with rfl | rfl | rfl | rfl <;> subst hy
  · refine Mok.ofWp (L := [some (.int (nI p)), some (.int (nI 0)), none, none, none, none]) rfl rfl rfl ?_
    refine xX11_spotUnder_0 ?_
    refine xX11_spotUnder_1 ?_
    refine xX11_spotUnder_2 ?_
    refine xX11_spotUnder_3 rfl ?_
    refine xX11_spotUnder_4 ?_
    refine xX11_spotUnder_5 ?_
    refine xX11_spotUnder_6 ?_
    refine xX11_spotUnder_7 ?_
    refine xX11_spotUnder_8 ?_
    refine xX11_spotUnder_9 rfl ?_
    refine xX11_spotUnder_10 ?_
    refine xX11_spotUnder_11 rfl ?_
    refine xX11_spotUnder_13 ?_
    refine xX11_spotUnder_15 ?_
    refine xX11_spotUnder_16_t (by decide) ?_
    refine xX11_spotUnder_35 ?_
    refine xX11_spotUnder_36 ?_
    refine xX11_spotUnder_37 ?_
    refine xX11_spotUnder_38 ?_
    refine xX11_spotUnder_39 ?_
    refine xX11_spotUnder_40 ?_
    refine xX11_spotUnder_41 ?_
    refine xX11_spotUnder_42 ?_
    refine xX11_spotUnder_43 ?_
    refine xX11_spotUnder_44 rfl rfl ?_
    exact byEq hQ (sp0 p hp)
  · refine Mok.ofWp (L := [some (.int (nI p)), some (.int (nI 1)), none, none, none, none]) rfl rfl rfl ?_
    refine xX11_spotUnder_0 ?_
    refine xX11_spotUnder_1 ?_
    refine xX11_spotUnder_2 ?_
    refine xX11_spotUnder_3 rfl ?_
    refine xX11_spotUnder_4 ?_
    refine xX11_spotUnder_5 ?_
    refine xX11_spotUnder_6 ?_
    refine xX11_spotUnder_7 ?_
    refine xX11_spotUnder_8 ?_
    refine xX11_spotUnder_9 rfl ?_
    refine xX11_spotUnder_10 ?_
    refine xX11_spotUnder_11 rfl ?_
    refine xX11_spotUnder_13 ?_
    refine xX11_spotUnder_15 ?_
    refine xX11_spotUnder_16_f (by decide) ?_
    refine xX11_spotUnder_19 ?_
    refine xX11_spotUnder_20 rfl ?_
    refine xX11_spotUnder_22 ?_
    refine xX11_spotUnder_23 ?_
    refine xX11_spotUnder_24 ?_
    refine xX11_spotUnder_25 rfl ?_
    refine xX11_spotUnder_26 ?_
    refine xX11_spotUnder_28 rfl ?_
    refine xX11_spotUnder_29 rfl rfl ?_
    refine xX11_spotUnder_32 ?_
    refine xX11_spotUnder_13 ?_
    refine xX11_spotUnder_15 ?_
    refine xX11_spotUnder_16_t (by decide) ?_
    refine xX11_spotUnder_35 ?_
    refine xX11_spotUnder_36 ?_
    refine xX11_spotUnder_37 ?_
    refine xX11_spotUnder_38 ?_
    refine xX11_spotUnder_39 ?_
    refine xX11_spotUnder_40 ?_
    refine xX11_spotUnder_41 ?_
    refine xX11_spotUnder_42 ?_
    refine xX11_spotUnder_43 ?_
    refine xX11_spotUnder_44 rfl rfl ?_
    exact byEq hQ (sp1 p hp)
  · refine Mok.ofWp (L := [some (.int (nI p)), some (.int (nI 2)), none, none, none, none]) rfl rfl rfl ?_
    refine xX11_spotUnder_0 ?_
    refine xX11_spotUnder_1 ?_
    refine xX11_spotUnder_2 ?_
    refine xX11_spotUnder_3 rfl ?_
    refine xX11_spotUnder_4 ?_
    refine xX11_spotUnder_5 ?_
    refine xX11_spotUnder_6 ?_
    refine xX11_spotUnder_7 ?_
    refine xX11_spotUnder_8 ?_
    refine xX11_spotUnder_9 rfl ?_
    refine xX11_spotUnder_10 ?_
    refine xX11_spotUnder_11 rfl ?_
    refine xX11_spotUnder_13 ?_
    refine xX11_spotUnder_15 ?_
    refine xX11_spotUnder_16_f (by decide) ?_
    refine xX11_spotUnder_19 ?_
    refine xX11_spotUnder_20 rfl ?_
    refine xX11_spotUnder_22 ?_
    refine xX11_spotUnder_23 ?_
    refine xX11_spotUnder_24 ?_
    refine xX11_spotUnder_25 rfl ?_
    refine xX11_spotUnder_26 ?_
    refine xX11_spotUnder_28 rfl ?_
    refine xX11_spotUnder_29 rfl rfl ?_
    refine xX11_spotUnder_32 ?_
    refine xX11_spotUnder_13 ?_
    refine xX11_spotUnder_15 ?_
    refine xX11_spotUnder_16_f (by decide) ?_
    refine xX11_spotUnder_19 ?_
    refine xX11_spotUnder_20 rfl ?_
    refine xX11_spotUnder_22 ?_
    refine xX11_spotUnder_23 ?_
    refine xX11_spotUnder_24 ?_
    refine xX11_spotUnder_25 rfl ?_
    refine xX11_spotUnder_26 ?_
    refine xX11_spotUnder_28 rfl ?_
    refine xX11_spotUnder_29 rfl rfl ?_
    refine xX11_spotUnder_32 ?_
    refine xX11_spotUnder_13 ?_
    refine xX11_spotUnder_15 ?_
    refine xX11_spotUnder_16_t (by decide) ?_
    refine xX11_spotUnder_35 ?_
    refine xX11_spotUnder_36 ?_
    refine xX11_spotUnder_37 ?_
    refine xX11_spotUnder_38 ?_
    refine xX11_spotUnder_39 ?_
    refine xX11_spotUnder_40 ?_
    refine xX11_spotUnder_41 ?_
    refine xX11_spotUnder_42 ?_
    refine xX11_spotUnder_43 ?_
    refine xX11_spotUnder_44 rfl rfl ?_
    exact byEq hQ (sp2 p hp)
  · refine Mok.ofWp (L := [some (.int (nI p)), some (.int (nI 3)), none, none, none, none]) rfl rfl rfl ?_
    refine xX11_spotUnder_0 ?_
    refine xX11_spotUnder_1 ?_
    refine xX11_spotUnder_2 ?_
    refine xX11_spotUnder_3 rfl ?_
    refine xX11_spotUnder_4 ?_
    refine xX11_spotUnder_5 ?_
    refine xX11_spotUnder_6 ?_
    refine xX11_spotUnder_7 ?_
    refine xX11_spotUnder_8 ?_
    refine xX11_spotUnder_9 rfl ?_
    refine xX11_spotUnder_10 ?_
    refine xX11_spotUnder_11 rfl ?_
    refine xX11_spotUnder_13 ?_
    refine xX11_spotUnder_15 ?_
    refine xX11_spotUnder_16_f (by decide) ?_
    refine xX11_spotUnder_19 ?_
    refine xX11_spotUnder_20 rfl ?_
    refine xX11_spotUnder_22 ?_
    refine xX11_spotUnder_23 ?_
    refine xX11_spotUnder_24 ?_
    refine xX11_spotUnder_25 rfl ?_
    refine xX11_spotUnder_26 ?_
    refine xX11_spotUnder_28 rfl ?_
    refine xX11_spotUnder_29 rfl rfl ?_
    refine xX11_spotUnder_32 ?_
    refine xX11_spotUnder_13 ?_
    refine xX11_spotUnder_15 ?_
    refine xX11_spotUnder_16_f (by decide) ?_
    refine xX11_spotUnder_19 ?_
    refine xX11_spotUnder_20 rfl ?_
    refine xX11_spotUnder_22 ?_
    refine xX11_spotUnder_23 ?_
    refine xX11_spotUnder_24 ?_
    refine xX11_spotUnder_25 rfl ?_
    refine xX11_spotUnder_26 ?_
    refine xX11_spotUnder_28 rfl ?_
    refine xX11_spotUnder_29 rfl rfl ?_
    refine xX11_spotUnder_32 ?_
    refine xX11_spotUnder_13 ?_
    refine xX11_spotUnder_15 ?_
    refine xX11_spotUnder_16_f (by decide) ?_
    refine xX11_spotUnder_19 ?_
    refine xX11_spotUnder_20 rfl ?_
    refine xX11_spotUnder_22 ?_
    refine xX11_spotUnder_23 ?_
    refine xX11_spotUnder_24 ?_
    refine xX11_spotUnder_25 rfl ?_
    refine xX11_spotUnder_26 ?_
    refine xX11_spotUnder_28 rfl ?_
    refine xX11_spotUnder_29 rfl rfl ?_
    refine xX11_spotUnder_32 ?_
    refine xX11_spotUnder_13 ?_
    refine xX11_spotUnder_15 ?_
    refine xX11_spotUnder_16_t (by decide) ?_
    refine xX11_spotUnder_35 ?_
    refine xX11_spotUnder_36 ?_
    refine xX11_spotUnder_37 ?_
    refine xX11_spotUnder_38 ?_
    refine xX11_spotUnder_39 ?_
    refine xX11_spotUnder_40 ?_
    refine xX11_spotUnder_41 ?_
    refine xX11_spotUnder_42 ?_
    refine xX11_spotUnder_43 ?_
    refine xX11_spotUnder_44 rfl rfl ?_
    exact byEq hQ (sp3 p hp)
theorem s_X0_bakeOne {d : Nat} {sc : Nat × (Nat → Int32)} {T : List (Nat × Nat)} {rf : Nat → Nat → Option Nat} {g : Nat → Nat → Int32} {F : AH → Prop} {b la n nc cN m l : Nat} {last : Option Nat} {lw : Nat → List Int32} {o : OV} {x0 br : Int32} (hB : BS T rf b la n) (hG : BG g b la n lw o) (hV : OVk o nc) (hc : x0 = nI cN) (hcn : cN < nc) (hm : g 25 5 = nI m) (hm5 : m < 100) (hl : g 25 6 = nI l) (hl4 : l < 4) (hlast : g 25 7 = lastI last) (hlm : ∀ a, last = some a → a ≤ m) (hbr : g 26 cN = br) (hQ : ∀ g2, BF la g g2 → g2 25 = g 25 → (∀ k, k ≠ cN → g2 26 k = g 26 k) → g2 26 cN = bk1 o (evL lw) cN m l last br → F (T, rf, g2)) : Mok (d + 3) 0 0 sc kX0_bakeOne [.ref 25, .int x0] (T, rf, g) (Qv F) := by
  obtain ⟨hX, hbc, hrb, hrl, hL, hn, hla⟩ := id hB
  have hb17 : b ≤ 17 := hB.b
  have hO := OvT.of hX hbc
  obtain ⟨gw, r0, r1, r2, r3, r4, r5, r6, r7⟩ := id hG
  obtain ⟨v1, v2, v3, v4, v5, vk, vm, vw, vp, vh⟩ := id hV
  obtain ⟨kk, hkk, ek⟩ := vk cN hcn
  obtain ⟨pp, hpp, ep⟩ := vp cN hcn
  cases last with
  | none =>
    have hlast : g 25 7 = -1 := hlast
    refine Mok.ofWp (L := [some (.ref 25), some (.int x0), none, none, none, none]) rfl rfl rfl ?_
    refine xX0_bakeOne_0 ?_
    refine xX0_bakeOne_1 (hX.1 _ _ rfl) ?_
    rw [hlast]
    refine xX0_bakeOne_4 ?_
    refine xX0_bakeOne_5_f rfl ?_
    refine xX0_bakeOne_8 ?_
    refine xX0_bakeOne_9 (hX.1 _ _ rfl) ?_
    rw [hm]
    refine xX0_bakeOne_12 ?_
    refine xX0_bakeOne_24 rfl ?_
    refine xX0_bakeOne_25 ?_
    refine xX0_bakeOne_26 (hX.1 _ _ rfl) hrb ?_
    refine xX0_bakeOne_29 hO.1 hO.2.2.2.2.2.2.2.2.1 ?_
    refine xX0_bakeOne_32 ?_
    refine xX0_bakeOne_33 (hX.1 _ _ rfl) hrb ?_
    refine xX0_bakeOne_36 hO.1 hO.2.2.2.2.2.2.2.2.2.2.2.2.1 ?_
    refine xX0_bakeOne_39 ?_
    refine xX0_bakeOne_40 (j := cN) hO.2.2.2.2.2.1 hc (by omega) rfl ?_
    rw [r5, ep]
    refine xX0_bakeOne_41 ?_
    refine xX0_bakeOne_42 (hX.1 _ _ rfl) ?_
    rw [hl]
    refine xX0_bakeOne_45 rfl rfl rfl (s_X11_spotUnder rfl hpp rfl hl4 ?_)
    refine xX0_bakeOne_48 (j := (rot pp l)) hO.2.1 rfl (rot_lt hpp l) rfl ?_
    rw [r1]
    refine xX0_bakeOne_49 rfl ?_
    refine xX0_bakeOne_50 ?_
    refine xX0_bakeOne_51 (hX.1 _ _ rfl) ?_
    rw [hlast]
    refine xX0_bakeOne_54 ?_
    refine xX0_bakeOne_55_t rfl ?_
    refine xX0_bakeOne_87 ?_
    refine xX0_bakeOne_88 ?_
    refine xX0_bakeOne_89 (hX.1 _ _ rfl) hrb ?_
    refine xX0_bakeOne_92 hO.1 hO.2.2.2.2.2.2.2.2.2.1 ?_
    refine xX0_bakeOne_95 ?_
    refine xX0_bakeOne_96 (j := cN) hO.2.2.1 hc (by omega) rfl ?_
    rw [r2, ek]
    refine xX0_bakeOne_97 (hX.1 _ _ rfl) rfl rfl rfl (s_X0_kindOf hX rfl hkk (fun hk1 => ?_) (fun hk1 => ?_) (fun hk1 => ?_) (fun hk1 => ?_) (fun hk1 => ?_) (fun hk1 => ?_))
    · subst hk1
      refine xX0_bakeOne_100 rfl ?_
      refine xX0_bakeOne_102 ?_
      refine xX0_bakeOne_103 (hX.1 _ _ rfl) ?_
      rw [hm]
      refine xX0_bakeOne_106 ?_
      refine xX0_bakeOne_108 ?_
      refine xX0_bakeOne_109 (hX.1 _ _ rfl) hrb ?_
      refine xX0_bakeOne_112 hO.1 hO.2.2.2.2.2.2.2.2.2.2.1 ?_
      refine xX0_bakeOne_115 ?_
      refine xX0_bakeOne_116 (j := cN) hO.2.2.2.1 hc (by omega) rfl ?_
      rw [r3]
      refine xX0_bakeOne_117_c3 (hX.1 _ _ rfl) rfl rfl rfl (s_X3_begins  ?_)
      refine xX0_bakeOne_120 (fun c120 => ?_) (fun c120 => ?_)
      · refine xX0_bakeOne_124 ?_
        refine xX0_bakeOne_125 ?_
        refine xX0_bakeOne_126 ?_
        refine xX0_bakeOne_127 ?_
        refine xX0_bakeOne_128 (hX.1 _ _ rfl) ?_
        rw [hm]
        refine xX0_bakeOne_131 ?_
        refine xX0_bakeOne_132 (hX.1 _ _ rfl) (hX.2 _ _ _ rfl) ?_
        refine xX0_bakeOne_135 ?_
        refine xX0_bakeOne_136 (j := cN) (hX.1 _ _ rfl) hc (by omega) rfl ?_
        rw [hbr]
        refine xX0_bakeOne_137 ?_
        refine xX0_bakeOne_138 (hX.1 _ _ rfl) rfl rfl rfl (s_X0_name hB hc (by omega) (fun g3 hf3 hn3 => ?_))
        refine xX0_bakeOne_141 ?_
        refine xX0_bakeOne_142 ?_
        refine xX0_bakeOne_144 ?_
        refine xX0_bakeOne_145 ?_
        refine xX0_bakeOne_146 (hX.1 _ _ rfl) rfl rfl rfl (s_X0_ask hB (hf3.lw hla gw) (by decide) (show (0 : Int32) = nI 0 from rfl) (fun g4 hf4 => ?_))
        rw [evL_congr hn3, r3, r0]
        refine xX0_bakeOne_149 ?_
        refine xX0_bakeOne_150 (hX.1 _ _ rfl) (hX.2 _ _ _ rfl) ?_
        refine xX0_bakeOne_153 ?_
        refine xX0_bakeOne_154 (j := cN) (hX.1 _ _ rfl) hc (by omega) rfl ?_
        rw [(hf3.tr hf4) 26 (by omega) (by omega) (by omega), hbr]
        refine xX0_bakeOne_155 ?_
        refine xX0_bakeOne_156 (hX.1 _ _ rfl) hrb ?_
        refine xX0_bakeOne_159 hO.1 hO.2.2.2.2.2.2.2.2.2.2.1 ?_
        refine xX0_bakeOne_162 ?_
        refine xX0_bakeOne_163 (j := cN) hO.2.2.2.1 hc (by omega) rfl ?_
        rw [(hf3.tr hf4) (b + 3) (by omega) (by omega) (by omega), r3]
        refine xX0_bakeOne_164_c3 (hX.1 _ _ rfl) rfl rfl rfl (s_X3_gains  ?_)
        refine xX0_bakeOne_167 rfl rfl rfl ?_
        refine xX0_bakeOne_170 rfl ?_
        refine xX0_bakeOne_172 ?_
        refine xX0_bakeOne_173 (hX.1 _ _ rfl) (hX.2 _ _ _ rfl) ?_
        refine xX0_bakeOne_176 ?_
        refine xX0_bakeOne_177 ?_
        refine xX0_bakeOne_180 ?_
        refine xX0_bakeOne_181 (hX.1 _ _ rfl) (hX.2 _ _ _ rfl) ?_
        refine xX0_bakeOne_184 ?_
        refine xX0_bakeOne_185 (j := cN) (hX.1 _ _ rfl) hc (by omega) rfl ?_
        rw [(hf3.tr hf4) 26 (by omega) (by omega) (by omega), hbr]
        refine xX0_bakeOne_186 ?_
        refine xX0_bakeOne_188 ?_
        refine xX0_bakeOne_189 rfl rfl rfl ?_
        refine xX0_bakeOne_192 (j := cN) (hX.1 _ _ rfl) hc (by omega) rfl ?_
        refine xX0_bakeOne_193 rfl rfl ?_
        refine hQ _ (fun a p q r s t => by rw [up_row q]; exact (hf3.tr hf4) a r s t) (by rw [up_row (by decide)]; exact (hf3.tr hf4) 25 (by omega) (by omega) (by omega)) (fun k hk => by rw [up_ne (fun z => hk z.2), (hf3.tr hf4) 26 (by omega) (by omega) (by omega)]) ?_
        rw [up_same, bk1, ek, kB0, if_neg (Int32.not_lt.mpr c120), kG0]
        simp only [heat1, sinceN, ep, nN_nI (show pp < 2147483648 by omega)]
        rfl
      · refine xX0_bakeOne_123 rfl rfl ?_
        exact hQ g BF.rf rfl (fun _ _ => rfl) (by rw [hbr, bk1, ek, kB0, if_pos (Int32.not_le.mp c120)])
    · subst hk1
      refine xX0_bakeOne_100 rfl ?_
      refine xX0_bakeOne_102 ?_
      refine xX0_bakeOne_103 (hX.1 _ _ rfl) ?_
      rw [hm]
      refine xX0_bakeOne_106 ?_
      refine xX0_bakeOne_108 ?_
      refine xX0_bakeOne_109 (hX.1 _ _ rfl) hrb ?_
      refine xX0_bakeOne_112 hO.1 hO.2.2.2.2.2.2.2.2.2.2.1 ?_
      refine xX0_bakeOne_115 ?_
      refine xX0_bakeOne_116 (j := cN) hO.2.2.2.1 hc (by omega) rfl ?_
      rw [r3]
      refine xX0_bakeOne_117_c9 (hX.1 _ _ rfl) rfl rfl rfl (s_X9_begins_c9 (hX.1 _ _ rfl) ?_)
      refine xX0_bakeOne_120 (fun c120 => ?_) (fun c120 => ?_)
      · refine xX0_bakeOne_124 ?_
        refine xX0_bakeOne_125 ?_
        refine xX0_bakeOne_126 ?_
        refine xX0_bakeOne_127 ?_
        refine xX0_bakeOne_128 (hX.1 _ _ rfl) ?_
        rw [hm]
        refine xX0_bakeOne_131 ?_
        refine xX0_bakeOne_132 (hX.1 _ _ rfl) (hX.2 _ _ _ rfl) ?_
        refine xX0_bakeOne_135 ?_
        refine xX0_bakeOne_136 (j := cN) (hX.1 _ _ rfl) hc (by omega) rfl ?_
        rw [hbr]
        refine xX0_bakeOne_137 ?_
        refine xX0_bakeOne_138 (hX.1 _ _ rfl) rfl rfl rfl (s_X0_name hB hc (by omega) (fun g7 hf7 hn7 => ?_))
        refine xX0_bakeOne_141 ?_
        refine xX0_bakeOne_142 ?_
        refine xX0_bakeOne_144 ?_
        refine xX0_bakeOne_145 ?_
        refine xX0_bakeOne_146 (hX.1 _ _ rfl) rfl rfl rfl (s_X0_ask hB (hf7.lw hla gw) (by decide) (show (0 : Int32) = nI 0 from rfl) (fun g8 hf8 => ?_))
        rw [evL_congr hn7, r3, r0]
        refine xX0_bakeOne_149 ?_
        refine xX0_bakeOne_150 (hX.1 _ _ rfl) (hX.2 _ _ _ rfl) ?_
        refine xX0_bakeOne_153 ?_
        refine xX0_bakeOne_154 (j := cN) (hX.1 _ _ rfl) hc (by omega) rfl ?_
        rw [(hf7.tr hf8) 26 (by omega) (by omega) (by omega), hbr]
        refine xX0_bakeOne_155 ?_
        refine xX0_bakeOne_156 (hX.1 _ _ rfl) hrb ?_
        refine xX0_bakeOne_159 hO.1 hO.2.2.2.2.2.2.2.2.2.2.1 ?_
        refine xX0_bakeOne_162 ?_
        refine xX0_bakeOne_163 (j := cN) hO.2.2.2.1 hc (by omega) rfl ?_
        rw [(hf7.tr hf8) (b + 3) (by omega) (by omega) (by omega), r3]
        refine xX0_bakeOne_164_c9 (hX.1 _ _ rfl) rfl rfl rfl (s_X9_gains_c9 (hX.1 _ _ rfl) ?_)
        refine xX0_bakeOne_167 rfl rfl rfl ?_
        refine xX0_bakeOne_170 rfl ?_
        refine xX0_bakeOne_172 ?_
        refine xX0_bakeOne_173 (hX.1 _ _ rfl) (hX.2 _ _ _ rfl) ?_
        refine xX0_bakeOne_176 ?_
        refine xX0_bakeOne_177 ?_
        refine xX0_bakeOne_180 ?_
        refine xX0_bakeOne_181 (hX.1 _ _ rfl) (hX.2 _ _ _ rfl) ?_
        refine xX0_bakeOne_184 ?_
        refine xX0_bakeOne_185 (j := cN) (hX.1 _ _ rfl) hc (by omega) rfl ?_
        rw [(hf7.tr hf8) 26 (by omega) (by omega) (by omega), hbr]
        refine xX0_bakeOne_186 ?_
        refine xX0_bakeOne_188 ?_
        refine xX0_bakeOne_189 rfl rfl rfl ?_
        refine xX0_bakeOne_192 (j := cN) (hX.1 _ _ rfl) hc (by omega) rfl ?_
        refine xX0_bakeOne_193 rfl rfl ?_
        refine hQ _ (fun a p q r s t => by rw [up_row q]; exact (hf7.tr hf8) a r s t) (by rw [up_row (by decide)]; exact (hf7.tr hf8) 25 (by omega) (by omega) (by omega)) (fun k hk => by rw [up_ne (fun z => hk z.2), (hf7.tr hf8) 26 (by omega) (by omega) (by omega)]) ?_
        rw [up_same, bk1, ek, kB1, if_neg (Int32.not_lt.mpr c120), kG1]
        simp only [heat1, sinceN, ep, nN_nI (show pp < 2147483648 by omega)]
        rfl
      · refine xX0_bakeOne_123 rfl rfl ?_
        exact hQ g BF.rf rfl (fun _ _ => rfl) (by rw [hbr, bk1, ek, kB1, if_pos (Int32.not_le.mp c120)])
    · subst hk1
      refine xX0_bakeOne_100 rfl ?_
      refine xX0_bakeOne_102 ?_
      refine xX0_bakeOne_103 (hX.1 _ _ rfl) ?_
      rw [hm]
      refine xX0_bakeOne_106 ?_
      refine xX0_bakeOne_108 ?_
      refine xX0_bakeOne_109 (hX.1 _ _ rfl) hrb ?_
      refine xX0_bakeOne_112 hO.1 hO.2.2.2.2.2.2.2.2.2.2.1 ?_
      refine xX0_bakeOne_115 ?_
      refine xX0_bakeOne_116 (j := cN) hO.2.2.2.1 hc (by omega) rfl ?_
      rw [r3]
      refine xX0_bakeOne_117_c10 (hX.1 _ _ rfl) rfl rfl rfl (s_X3_begins  ?_)
      refine xX0_bakeOne_120 (fun c120 => ?_) (fun c120 => ?_)
      · refine xX0_bakeOne_124 ?_
        refine xX0_bakeOne_125 ?_
        refine xX0_bakeOne_126 ?_
        refine xX0_bakeOne_127 ?_
        refine xX0_bakeOne_128 (hX.1 _ _ rfl) ?_
        rw [hm]
        refine xX0_bakeOne_131 ?_
        refine xX0_bakeOne_132 (hX.1 _ _ rfl) (hX.2 _ _ _ rfl) ?_
        refine xX0_bakeOne_135 ?_
        refine xX0_bakeOne_136 (j := cN) (hX.1 _ _ rfl) hc (by omega) rfl ?_
        rw [hbr]
        refine xX0_bakeOne_137 ?_
        refine xX0_bakeOne_138 (hX.1 _ _ rfl) rfl rfl rfl (s_X0_name hB hc (by omega) (fun g11 hf11 hn11 => ?_))
        refine xX0_bakeOne_141 ?_
        refine xX0_bakeOne_142 ?_
        refine xX0_bakeOne_144 ?_
        refine xX0_bakeOne_145 ?_
        refine xX0_bakeOne_146 (hX.1 _ _ rfl) rfl rfl rfl (s_X0_ask hB (hf11.lw hla gw) (by decide) (show (0 : Int32) = nI 0 from rfl) (fun g12 hf12 => ?_))
        rw [evL_congr hn11, r3, r0]
        refine xX0_bakeOne_149 ?_
        refine xX0_bakeOne_150 (hX.1 _ _ rfl) (hX.2 _ _ _ rfl) ?_
        refine xX0_bakeOne_153 ?_
        refine xX0_bakeOne_154 (j := cN) (hX.1 _ _ rfl) hc (by omega) rfl ?_
        rw [(hf11.tr hf12) 26 (by omega) (by omega) (by omega), hbr]
        refine xX0_bakeOne_155 ?_
        refine xX0_bakeOne_156 (hX.1 _ _ rfl) hrb ?_
        refine xX0_bakeOne_159 hO.1 hO.2.2.2.2.2.2.2.2.2.2.1 ?_
        refine xX0_bakeOne_162 ?_
        refine xX0_bakeOne_163 (j := cN) hO.2.2.2.1 hc (by omega) rfl ?_
        rw [(hf11.tr hf12) (b + 3) (by omega) (by omega) (by omega), r3]
        refine xX0_bakeOne_164_c10 (hX.1 _ _ rfl) rfl rfl rfl (s_X10_gains_c10 (hX.1 _ _ rfl) ?_)
        refine xX0_bakeOne_167 rfl rfl rfl ?_
        refine xX0_bakeOne_170 rfl ?_
        refine xX0_bakeOne_172 ?_
        refine xX0_bakeOne_173 (hX.1 _ _ rfl) (hX.2 _ _ _ rfl) ?_
        refine xX0_bakeOne_176 ?_
        refine xX0_bakeOne_177 ?_
        refine xX0_bakeOne_180 ?_
        refine xX0_bakeOne_181 (hX.1 _ _ rfl) (hX.2 _ _ _ rfl) ?_
        refine xX0_bakeOne_184 ?_
        refine xX0_bakeOne_185 (j := cN) (hX.1 _ _ rfl) hc (by omega) rfl ?_
        rw [(hf11.tr hf12) 26 (by omega) (by omega) (by omega), hbr]
        refine xX0_bakeOne_186 ?_
        refine xX0_bakeOne_188 ?_
        refine xX0_bakeOne_189 rfl rfl rfl ?_
        refine xX0_bakeOne_192 (j := cN) (hX.1 _ _ rfl) hc (by omega) rfl ?_
        refine xX0_bakeOne_193 rfl rfl ?_
        refine hQ _ (fun a p q r s t => by rw [up_row q]; exact (hf11.tr hf12) a r s t) (by rw [up_row (by decide)]; exact (hf11.tr hf12) 25 (by omega) (by omega) (by omega)) (fun k hk => by rw [up_ne (fun z => hk z.2), (hf11.tr hf12) 26 (by omega) (by omega) (by omega)]) ?_
        rw [up_same, bk1, ek, kB2, if_neg (Int32.not_lt.mpr c120), kG2]
        simp only [heat1, sinceN, ep, nN_nI (show pp < 2147483648 by omega)]
        rfl
      · refine xX0_bakeOne_123 rfl rfl ?_
        exact hQ g BF.rf rfl (fun _ _ => rfl) (by rw [hbr, bk1, ek, kB2, if_pos (Int32.not_le.mp c120)])
    · subst hk1
      refine xX0_bakeOne_100 rfl ?_
      refine xX0_bakeOne_102 ?_
      refine xX0_bakeOne_103 (hX.1 _ _ rfl) ?_
      rw [hm]
      refine xX0_bakeOne_106 ?_
      refine xX0_bakeOne_108 ?_
      refine xX0_bakeOne_109 (hX.1 _ _ rfl) hrb ?_
      refine xX0_bakeOne_112 hO.1 hO.2.2.2.2.2.2.2.2.2.2.1 ?_
      refine xX0_bakeOne_115 ?_
      refine xX0_bakeOne_116 (j := cN) hO.2.2.2.1 hc (by omega) rfl ?_
      rw [r3]
      refine xX0_bakeOne_117_c1 (hX.1 _ _ rfl) rfl rfl rfl (s_X1_begins (hX.1 _ _ rfl) ?_)
      refine xX0_bakeOne_120 (fun c120 => ?_) (fun c120 => ?_)
      · refine xX0_bakeOne_124 ?_
        refine xX0_bakeOne_125 ?_
        refine xX0_bakeOne_126 ?_
        refine xX0_bakeOne_127 ?_
        refine xX0_bakeOne_128 (hX.1 _ _ rfl) ?_
        rw [hm]
        refine xX0_bakeOne_131 ?_
        refine xX0_bakeOne_132 (hX.1 _ _ rfl) (hX.2 _ _ _ rfl) ?_
        refine xX0_bakeOne_135 ?_
        refine xX0_bakeOne_136 (j := cN) (hX.1 _ _ rfl) hc (by omega) rfl ?_
        rw [hbr]
        refine xX0_bakeOne_137 ?_
        refine xX0_bakeOne_138 (hX.1 _ _ rfl) rfl rfl rfl (s_X0_name hB hc (by omega) (fun g15 hf15 hn15 => ?_))
        refine xX0_bakeOne_141 ?_
        refine xX0_bakeOne_142 ?_
        refine xX0_bakeOne_144 ?_
        refine xX0_bakeOne_145 ?_
        refine xX0_bakeOne_146 (hX.1 _ _ rfl) rfl rfl rfl (s_X0_ask hB (hf15.lw hla gw) (by decide) (show (0 : Int32) = nI 0 from rfl) (fun g16 hf16 => ?_))
        rw [evL_congr hn15, r3, r0]
        refine xX0_bakeOne_149 ?_
        refine xX0_bakeOne_150 (hX.1 _ _ rfl) (hX.2 _ _ _ rfl) ?_
        refine xX0_bakeOne_153 ?_
        refine xX0_bakeOne_154 (j := cN) (hX.1 _ _ rfl) hc (by omega) rfl ?_
        rw [(hf15.tr hf16) 26 (by omega) (by omega) (by omega), hbr]
        refine xX0_bakeOne_155 ?_
        refine xX0_bakeOne_156 (hX.1 _ _ rfl) hrb ?_
        refine xX0_bakeOne_159 hO.1 hO.2.2.2.2.2.2.2.2.2.2.1 ?_
        refine xX0_bakeOne_162 ?_
        refine xX0_bakeOne_163 (j := cN) hO.2.2.2.1 hc (by omega) rfl ?_
        rw [(hf15.tr hf16) (b + 3) (by omega) (by omega) (by omega), r3]
        refine xX0_bakeOne_164_c1 (hX.1 _ _ rfl) rfl rfl rfl (s_X9_gains_c1 (hX.1 _ _ rfl) ?_)
        refine xX0_bakeOne_167 rfl rfl rfl ?_
        refine xX0_bakeOne_170 rfl ?_
        refine xX0_bakeOne_172 ?_
        refine xX0_bakeOne_173 (hX.1 _ _ rfl) (hX.2 _ _ _ rfl) ?_
        refine xX0_bakeOne_176 ?_
        refine xX0_bakeOne_177 ?_
        refine xX0_bakeOne_180 ?_
        refine xX0_bakeOne_181 (hX.1 _ _ rfl) (hX.2 _ _ _ rfl) ?_
        refine xX0_bakeOne_184 ?_
        refine xX0_bakeOne_185 (j := cN) (hX.1 _ _ rfl) hc (by omega) rfl ?_
        rw [(hf15.tr hf16) 26 (by omega) (by omega) (by omega), hbr]
        refine xX0_bakeOne_186 ?_
        refine xX0_bakeOne_188 ?_
        refine xX0_bakeOne_189 rfl rfl rfl ?_
        refine xX0_bakeOne_192 (j := cN) (hX.1 _ _ rfl) hc (by omega) rfl ?_
        refine xX0_bakeOne_193 rfl rfl ?_
        refine hQ _ (fun a p q r s t => by rw [up_row q]; exact (hf15.tr hf16) a r s t) (by rw [up_row (by decide)]; exact (hf15.tr hf16) 25 (by omega) (by omega) (by omega)) (fun k hk => by rw [up_ne (fun z => hk z.2), (hf15.tr hf16) 26 (by omega) (by omega) (by omega)]) ?_
        rw [up_same, bk1, ek, kB3, if_neg (Int32.not_lt.mpr c120), kG3]
        simp only [heat1, sinceN, ep, nN_nI (show pp < 2147483648 by omega)]
        rfl
      · refine xX0_bakeOne_123 rfl rfl ?_
        exact hQ g BF.rf rfl (fun _ _ => rfl) (by rw [hbr, bk1, ek, kB3, if_pos (Int32.not_le.mp c120)])
    · subst hk1
      refine xX0_bakeOne_100 rfl ?_
      refine xX0_bakeOne_102 ?_
      refine xX0_bakeOne_103 (hX.1 _ _ rfl) ?_
      rw [hm]
      refine xX0_bakeOne_106 ?_
      refine xX0_bakeOne_108 ?_
      refine xX0_bakeOne_109 (hX.1 _ _ rfl) hrb ?_
      refine xX0_bakeOne_112 hO.1 hO.2.2.2.2.2.2.2.2.2.2.1 ?_
      refine xX0_bakeOne_115 ?_
      refine xX0_bakeOne_116 (j := cN) hO.2.2.2.1 hc (by omega) rfl ?_
      rw [r3]
      refine xX0_bakeOne_117_c8 (hX.1 _ _ rfl) rfl rfl rfl (s_X3_begins  ?_)
      refine xX0_bakeOne_120 (fun c120 => ?_) (fun c120 => ?_)
      · refine xX0_bakeOne_124 ?_
        refine xX0_bakeOne_125 ?_
        refine xX0_bakeOne_126 ?_
        refine xX0_bakeOne_127 ?_
        refine xX0_bakeOne_128 (hX.1 _ _ rfl) ?_
        rw [hm]
        refine xX0_bakeOne_131 ?_
        refine xX0_bakeOne_132 (hX.1 _ _ rfl) (hX.2 _ _ _ rfl) ?_
        refine xX0_bakeOne_135 ?_
        refine xX0_bakeOne_136 (j := cN) (hX.1 _ _ rfl) hc (by omega) rfl ?_
        rw [hbr]
        refine xX0_bakeOne_137 ?_
        refine xX0_bakeOne_138 (hX.1 _ _ rfl) rfl rfl rfl (s_X0_name hB hc (by omega) (fun g19 hf19 hn19 => ?_))
        refine xX0_bakeOne_141 ?_
        refine xX0_bakeOne_142 ?_
        refine xX0_bakeOne_144 ?_
        refine xX0_bakeOne_145 ?_
        refine xX0_bakeOne_146 (hX.1 _ _ rfl) rfl rfl rfl (s_X0_ask hB (hf19.lw hla gw) (by decide) (show (0 : Int32) = nI 0 from rfl) (fun g20 hf20 => ?_))
        rw [evL_congr hn19, r3, r0]
        refine xX0_bakeOne_149 ?_
        refine xX0_bakeOne_150 (hX.1 _ _ rfl) (hX.2 _ _ _ rfl) ?_
        refine xX0_bakeOne_153 ?_
        refine xX0_bakeOne_154 (j := cN) (hX.1 _ _ rfl) hc (by omega) rfl ?_
        rw [(hf19.tr hf20) 26 (by omega) (by omega) (by omega), hbr]
        refine xX0_bakeOne_155 ?_
        refine xX0_bakeOne_156 (hX.1 _ _ rfl) hrb ?_
        refine xX0_bakeOne_159 hO.1 hO.2.2.2.2.2.2.2.2.2.2.1 ?_
        refine xX0_bakeOne_162 ?_
        refine xX0_bakeOne_163 (j := cN) hO.2.2.2.1 hc (by omega) rfl ?_
        rw [(hf19.tr hf20) (b + 3) (by omega) (by omega) (by omega), r3]
        refine xX0_bakeOne_164_c8 (hX.1 _ _ rfl) rfl rfl rfl (s_X8_gains (hX.1 _ _ rfl) ?_)
        refine xX0_bakeOne_167 rfl rfl rfl ?_
        refine xX0_bakeOne_170 rfl ?_
        refine xX0_bakeOne_172 ?_
        refine xX0_bakeOne_173 (hX.1 _ _ rfl) (hX.2 _ _ _ rfl) ?_
        refine xX0_bakeOne_176 ?_
        refine xX0_bakeOne_177 ?_
        refine xX0_bakeOne_180 ?_
        refine xX0_bakeOne_181 (hX.1 _ _ rfl) (hX.2 _ _ _ rfl) ?_
        refine xX0_bakeOne_184 ?_
        refine xX0_bakeOne_185 (j := cN) (hX.1 _ _ rfl) hc (by omega) rfl ?_
        rw [(hf19.tr hf20) 26 (by omega) (by omega) (by omega), hbr]
        refine xX0_bakeOne_186 ?_
        refine xX0_bakeOne_188 ?_
        refine xX0_bakeOne_189 rfl rfl rfl ?_
        refine xX0_bakeOne_192 (j := cN) (hX.1 _ _ rfl) hc (by omega) rfl ?_
        refine xX0_bakeOne_193 rfl rfl ?_
        refine hQ _ (fun a p q r s t => by rw [up_row q]; exact (hf19.tr hf20) a r s t) (by rw [up_row (by decide)]; exact (hf19.tr hf20) 25 (by omega) (by omega) (by omega)) (fun k hk => by rw [up_ne (fun z => hk z.2), (hf19.tr hf20) 26 (by omega) (by omega) (by omega)]) ?_
        rw [up_same, bk1, ek, kB4, if_neg (Int32.not_lt.mpr c120), kG4]
        simp only [heat1, sinceN, ep, nN_nI (show pp < 2147483648 by omega)]
        rfl
      · refine xX0_bakeOne_123 rfl rfl ?_
        exact hQ g BF.rf rfl (fun _ _ => rfl) (by rw [hbr, bk1, ek, kB4, if_pos (Int32.not_le.mp c120)])
    · subst hk1
      refine xX0_bakeOne_100 rfl ?_
      refine xX0_bakeOne_102 ?_
      refine xX0_bakeOne_103 (hX.1 _ _ rfl) ?_
      rw [hm]
      refine xX0_bakeOne_106 ?_
      refine xX0_bakeOne_108 ?_
      refine xX0_bakeOne_109 (hX.1 _ _ rfl) hrb ?_
      refine xX0_bakeOne_112 hO.1 hO.2.2.2.2.2.2.2.2.2.2.1 ?_
      refine xX0_bakeOne_115 ?_
      refine xX0_bakeOne_116 (j := cN) hO.2.2.2.1 hc (by omega) rfl ?_
      rw [r3]
      refine xX0_bakeOne_117_c2 (hX.1 _ _ rfl) rfl rfl rfl (s_X3_begins  ?_)
      refine xX0_bakeOne_120 (fun c120 => ?_) (fun c120 => ?_)
      · refine xX0_bakeOne_124 ?_
        refine xX0_bakeOne_125 ?_
        refine xX0_bakeOne_126 ?_
        refine xX0_bakeOne_127 ?_
        refine xX0_bakeOne_128 (hX.1 _ _ rfl) ?_
        rw [hm]
        refine xX0_bakeOne_131 ?_
        refine xX0_bakeOne_132 (hX.1 _ _ rfl) (hX.2 _ _ _ rfl) ?_
        refine xX0_bakeOne_135 ?_
        refine xX0_bakeOne_136 (j := cN) (hX.1 _ _ rfl) hc (by omega) rfl ?_
        rw [hbr]
        refine xX0_bakeOne_137 ?_
        refine xX0_bakeOne_138 (hX.1 _ _ rfl) rfl rfl rfl (s_X0_name hB hc (by omega) (fun g23 hf23 hn23 => ?_))
        refine xX0_bakeOne_141 ?_
        refine xX0_bakeOne_142 ?_
        refine xX0_bakeOne_144 ?_
        refine xX0_bakeOne_145 ?_
        refine xX0_bakeOne_146 (hX.1 _ _ rfl) rfl rfl rfl (s_X0_ask hB (hf23.lw hla gw) (by decide) (show (0 : Int32) = nI 0 from rfl) (fun g24 hf24 => ?_))
        rw [evL_congr hn23, r3, r0]
        refine xX0_bakeOne_149 ?_
        refine xX0_bakeOne_150 (hX.1 _ _ rfl) (hX.2 _ _ _ rfl) ?_
        refine xX0_bakeOne_153 ?_
        refine xX0_bakeOne_154 (j := cN) (hX.1 _ _ rfl) hc (by omega) rfl ?_
        rw [(hf23.tr hf24) 26 (by omega) (by omega) (by omega), hbr]
        refine xX0_bakeOne_155 ?_
        refine xX0_bakeOne_156 (hX.1 _ _ rfl) hrb ?_
        refine xX0_bakeOne_159 hO.1 hO.2.2.2.2.2.2.2.2.2.2.1 ?_
        refine xX0_bakeOne_162 ?_
        refine xX0_bakeOne_163 (j := cN) hO.2.2.2.1 hc (by omega) rfl ?_
        rw [(hf23.tr hf24) (b + 3) (by omega) (by omega) (by omega), r3]
        refine xX0_bakeOne_164_c2 (hX.1 _ _ rfl) rfl rfl rfl (s_X3_gains  ?_)
        refine xX0_bakeOne_167 rfl rfl rfl ?_
        refine xX0_bakeOne_170 rfl ?_
        refine xX0_bakeOne_172 ?_
        refine xX0_bakeOne_173 (hX.1 _ _ rfl) (hX.2 _ _ _ rfl) ?_
        refine xX0_bakeOne_176 ?_
        refine xX0_bakeOne_177 ?_
        refine xX0_bakeOne_180 ?_
        refine xX0_bakeOne_181 (hX.1 _ _ rfl) (hX.2 _ _ _ rfl) ?_
        refine xX0_bakeOne_184 ?_
        refine xX0_bakeOne_185 (j := cN) (hX.1 _ _ rfl) hc (by omega) rfl ?_
        rw [(hf23.tr hf24) 26 (by omega) (by omega) (by omega), hbr]
        refine xX0_bakeOne_186 ?_
        refine xX0_bakeOne_188 ?_
        refine xX0_bakeOne_189 rfl rfl rfl ?_
        refine xX0_bakeOne_192 (j := cN) (hX.1 _ _ rfl) hc (by omega) rfl ?_
        refine xX0_bakeOne_193 rfl rfl ?_
        refine hQ _ (fun a p q r s t => by rw [up_row q]; exact (hf23.tr hf24) a r s t) (by rw [up_row (by decide)]; exact (hf23.tr hf24) 25 (by omega) (by omega) (by omega)) (fun k hk => by rw [up_ne (fun z => hk z.2), (hf23.tr hf24) 26 (by omega) (by omega) (by omega)]) ?_
        rw [up_same, bk1, ek, kB5, if_neg (Int32.not_lt.mpr c120), kG5]
        simp only [heat1, sinceN, ep, nN_nI (show pp < 2147483648 by omega)]
        rfl
      · refine xX0_bakeOne_123 rfl rfl ?_
        exact hQ g BF.rf rfl (fun _ _ => rfl) (by rw [hbr, bk1, ek, kB5, if_pos (Int32.not_le.mp c120)])
  | some a =>
    have hlm : a ≤ m := hlm a rfl
    have hlast : g 25 7 = nI a := hlast
    refine Mok.ofWp (L := [some (.ref 25), some (.int x0), none, none, none, none]) rfl rfl rfl ?_
    refine xX0_bakeOne_0 ?_
    refine xX0_bakeOne_1 (hX.1 _ _ rfl) ?_
    rw [hlast]
    refine xX0_bakeOne_4 ?_
    refine xX0_bakeOne_5_t (nIm1 (by omega)) ?_
    refine xX0_bakeOne_15 ?_
    refine xX0_bakeOne_16 (hX.1 _ _ rfl) ?_
    rw [hm]
    refine xX0_bakeOne_19 ?_
    refine xX0_bakeOne_20 (hX.1 _ _ rfl) ?_
    rw [hlast]
    refine xX0_bakeOne_23 ?_
    rw [pk_sub hlm]
    refine xX0_bakeOne_24 rfl ?_
    refine xX0_bakeOne_25 ?_
    refine xX0_bakeOne_26 (hX.1 _ _ rfl) hrb ?_
    refine xX0_bakeOne_29 hO.1 hO.2.2.2.2.2.2.2.2.1 ?_
    refine xX0_bakeOne_32 ?_
    refine xX0_bakeOne_33 (hX.1 _ _ rfl) hrb ?_
    refine xX0_bakeOne_36 hO.1 hO.2.2.2.2.2.2.2.2.2.2.2.2.1 ?_
    refine xX0_bakeOne_39 ?_
    refine xX0_bakeOne_40 (j := cN) hO.2.2.2.2.2.1 hc (by omega) rfl ?_
    rw [r5, ep]
    refine xX0_bakeOne_41 ?_
    refine xX0_bakeOne_42 (hX.1 _ _ rfl) ?_
    rw [hl]
    refine xX0_bakeOne_45 rfl rfl rfl (s_X11_spotUnder rfl hpp rfl hl4 ?_)
    refine xX0_bakeOne_48 (j := (rot pp l)) hO.2.1 rfl (rot_lt hpp l) rfl ?_
    rw [r1]
    refine xX0_bakeOne_49 rfl ?_
    refine xX0_bakeOne_50 ?_
    refine xX0_bakeOne_51 (hX.1 _ _ rfl) ?_
    rw [hlast]
    refine xX0_bakeOne_54 ?_
    refine xX0_bakeOne_55_f (nIm1 (by omega)) ?_
    refine xX0_bakeOne_58 ?_
    refine xX0_bakeOne_59 ?_
    refine xX0_bakeOne_60 ?_
    refine xX0_bakeOne_61 ?_
    refine xX0_bakeOne_62 (hX.1 _ _ rfl) ?_
    rw [hm]
    refine xX0_bakeOne_65 ?_
    refine xX0_bakeOne_66 (hX.1 _ _ rfl) (hX.2 _ _ _ rfl) ?_
    refine xX0_bakeOne_69 ?_
    refine xX0_bakeOne_70 (j := cN) (hX.1 _ _ rfl) hc (by omega) rfl ?_
    rw [hbr]
    refine xX0_bakeOne_71 ?_
    refine xX0_bakeOne_72 (hX.1 _ _ rfl) rfl rfl rfl (s_X0_name hB hc (by omega) (fun g1 hf1 hn1 => ?_))
    refine xX0_bakeOne_75 ?_
    refine xX0_bakeOne_76 ?_
    refine xX0_bakeOne_77 ?_
    refine xX0_bakeOne_78 ?_
    refine xX0_bakeOne_79 (hX.1 _ _ rfl) rfl rfl rfl (s_X0_ask hB (hf1.lw hla gw) (by decide) (show (1 : Int32) = nI 1 from rfl) (fun g2 hf2 => ?_))
    rw [evL_congr hn1, r3, r0]
    refine xX0_bakeOne_82 ?_
    refine xX0_bakeOne_83 rfl rfl rfl ?_
    refine xX0_bakeOne_86 rfl ?_
    refine xX0_bakeOne_87 ?_
    refine xX0_bakeOne_88 ?_
    refine xX0_bakeOne_89 (hX.1 _ _ rfl) hrb ?_
    refine xX0_bakeOne_92 hO.1 hO.2.2.2.2.2.2.2.2.2.1 ?_
    refine xX0_bakeOne_95 ?_
    refine xX0_bakeOne_96 (j := cN) hO.2.2.1 hc (by omega) rfl ?_
    rw [(hf1.tr hf2) (b + 2) (by omega) (by omega) (by omega), r2, ek]
    refine xX0_bakeOne_97 (hX.1 _ _ rfl) rfl rfl rfl (s_X0_kindOf hX rfl hkk (fun hk3 => ?_) (fun hk3 => ?_) (fun hk3 => ?_) (fun hk3 => ?_) (fun hk3 => ?_) (fun hk3 => ?_))
    · subst hk3
      refine xX0_bakeOne_100 rfl ?_
      refine xX0_bakeOne_102 ?_
      refine xX0_bakeOne_103 (hX.1 _ _ rfl) ?_
      rw [(hf1.tr hf2) 25 (by omega) (by omega) (by omega), hm]
      refine xX0_bakeOne_106 ?_
      refine xX0_bakeOne_108 ?_
      refine xX0_bakeOne_109 (hX.1 _ _ rfl) hrb ?_
      refine xX0_bakeOne_112 hO.1 hO.2.2.2.2.2.2.2.2.2.2.1 ?_
      refine xX0_bakeOne_115 ?_
      refine xX0_bakeOne_116 (j := cN) hO.2.2.2.1 hc (by omega) rfl ?_
      rw [(hf1.tr hf2) (b + 3) (by omega) (by omega) (by omega), r3]
      refine xX0_bakeOne_117_c3 (hX.1 _ _ rfl) rfl rfl rfl (s_X3_begins  ?_)
      refine xX0_bakeOne_120 (fun c120 => ?_) (fun c120 => ?_)
      · refine xX0_bakeOne_124 ?_
        refine xX0_bakeOne_125 ?_
        refine xX0_bakeOne_126 ?_
        refine xX0_bakeOne_127 ?_
        refine xX0_bakeOne_128 (hX.1 _ _ rfl) ?_
        rw [(hf1.tr hf2) 25 (by omega) (by omega) (by omega), hm]
        refine xX0_bakeOne_131 ?_
        refine xX0_bakeOne_132 (hX.1 _ _ rfl) (hX.2 _ _ _ rfl) ?_
        refine xX0_bakeOne_135 ?_
        refine xX0_bakeOne_136 (j := cN) (hX.1 _ _ rfl) hc (by omega) rfl ?_
        rw [(hf1.tr hf2) 26 (by omega) (by omega) (by omega), hbr]
        refine xX0_bakeOne_137 ?_
        refine xX0_bakeOne_138 (hX.1 _ _ rfl) rfl rfl rfl (s_X0_name hB hc (by omega) (fun g5 hf5 hn5 => ?_))
        refine xX0_bakeOne_141 ?_
        refine xX0_bakeOne_142 ?_
        refine xX0_bakeOne_144 ?_
        refine xX0_bakeOne_145 ?_
        refine xX0_bakeOne_146 (hX.1 _ _ rfl) rfl rfl rfl (s_X0_ask hB (((hf1.tr hf2).tr hf5).lw hla gw) (by decide) (show (0 : Int32) = nI 0 from rfl) (fun g6 hf6 => ?_))
        rw [evL_congr hn5, (hf1.tr hf2) (b + 3) (by omega) (by omega) (by omega), r3, (hf1.tr hf2) b (by omega) (by omega) (by omega), r0]
        refine xX0_bakeOne_149 ?_
        refine xX0_bakeOne_150 (hX.1 _ _ rfl) (hX.2 _ _ _ rfl) ?_
        refine xX0_bakeOne_153 ?_
        refine xX0_bakeOne_154 (j := cN) (hX.1 _ _ rfl) hc (by omega) rfl ?_
        rw [(((hf1.tr hf2).tr hf5).tr hf6) 26 (by omega) (by omega) (by omega), hbr]
        refine xX0_bakeOne_155 ?_
        refine xX0_bakeOne_156 (hX.1 _ _ rfl) hrb ?_
        refine xX0_bakeOne_159 hO.1 hO.2.2.2.2.2.2.2.2.2.2.1 ?_
        refine xX0_bakeOne_162 ?_
        refine xX0_bakeOne_163 (j := cN) hO.2.2.2.1 hc (by omega) rfl ?_
        rw [(((hf1.tr hf2).tr hf5).tr hf6) (b + 3) (by omega) (by omega) (by omega), r3]
        refine xX0_bakeOne_164_c3 (hX.1 _ _ rfl) rfl rfl rfl (s_X3_gains  ?_)
        refine xX0_bakeOne_167 rfl rfl rfl ?_
        refine xX0_bakeOne_170 rfl ?_
        refine xX0_bakeOne_172 ?_
        refine xX0_bakeOne_173 (hX.1 _ _ rfl) (hX.2 _ _ _ rfl) ?_
        refine xX0_bakeOne_176 ?_
        refine xX0_bakeOne_177 ?_
        refine xX0_bakeOne_180 ?_
        refine xX0_bakeOne_181 (hX.1 _ _ rfl) (hX.2 _ _ _ rfl) ?_
        refine xX0_bakeOne_184 ?_
        refine xX0_bakeOne_185 (j := cN) (hX.1 _ _ rfl) hc (by omega) rfl ?_
        rw [(((hf1.tr hf2).tr hf5).tr hf6) 26 (by omega) (by omega) (by omega), hbr]
        refine xX0_bakeOne_186 ?_
        refine xX0_bakeOne_188 ?_
        refine xX0_bakeOne_189 rfl rfl rfl ?_
        refine xX0_bakeOne_192 (j := cN) (hX.1 _ _ rfl) hc (by omega) rfl ?_
        refine xX0_bakeOne_193 rfl rfl ?_
        refine hQ _ (fun a p q r s t => by rw [up_row q]; exact (((hf1.tr hf2).tr hf5).tr hf6) a r s t) (by rw [up_row (by decide)]; exact (((hf1.tr hf2).tr hf5).tr hf6) 25 (by omega) (by omega) (by omega)) (fun k hk => by rw [up_ne (fun z => hk z.2), (((hf1.tr hf2).tr hf5).tr hf6) 26 (by omega) (by omega) (by omega)]) ?_
        rw [up_same, bk1, ek, kB0, if_neg (Int32.not_lt.mpr c120), kG0]
        simp only [heat1, sinceN, ep, nN_nI (show pp < 2147483648 by omega)]
        rfl
      · refine xX0_bakeOne_123 rfl rfl ?_
        exact hQ _ ((hf1.tr hf2).bf) ((hf1.tr hf2) 25 (by omega) (by omega) (by omega)) (fun k hk => by rw [(hf1.tr hf2) 26 (by omega) (by omega) (by omega)]) (by rw [(hf1.tr hf2) 26 (by omega) (by omega) (by omega), hbr, bk1, ek, kB0, if_pos (Int32.not_le.mp c120)])
    · subst hk3
      refine xX0_bakeOne_100 rfl ?_
      refine xX0_bakeOne_102 ?_
      refine xX0_bakeOne_103 (hX.1 _ _ rfl) ?_
      rw [(hf1.tr hf2) 25 (by omega) (by omega) (by omega), hm]
      refine xX0_bakeOne_106 ?_
      refine xX0_bakeOne_108 ?_
      refine xX0_bakeOne_109 (hX.1 _ _ rfl) hrb ?_
      refine xX0_bakeOne_112 hO.1 hO.2.2.2.2.2.2.2.2.2.2.1 ?_
      refine xX0_bakeOne_115 ?_
      refine xX0_bakeOne_116 (j := cN) hO.2.2.2.1 hc (by omega) rfl ?_
      rw [(hf1.tr hf2) (b + 3) (by omega) (by omega) (by omega), r3]
      refine xX0_bakeOne_117_c9 (hX.1 _ _ rfl) rfl rfl rfl (s_X9_begins_c9 (hX.1 _ _ rfl) ?_)
      refine xX0_bakeOne_120 (fun c120 => ?_) (fun c120 => ?_)
      · refine xX0_bakeOne_124 ?_
        refine xX0_bakeOne_125 ?_
        refine xX0_bakeOne_126 ?_
        refine xX0_bakeOne_127 ?_
        refine xX0_bakeOne_128 (hX.1 _ _ rfl) ?_
        rw [(hf1.tr hf2) 25 (by omega) (by omega) (by omega), hm]
        refine xX0_bakeOne_131 ?_
        refine xX0_bakeOne_132 (hX.1 _ _ rfl) (hX.2 _ _ _ rfl) ?_
        refine xX0_bakeOne_135 ?_
        refine xX0_bakeOne_136 (j := cN) (hX.1 _ _ rfl) hc (by omega) rfl ?_
        rw [(hf1.tr hf2) 26 (by omega) (by omega) (by omega), hbr]
        refine xX0_bakeOne_137 ?_
        refine xX0_bakeOne_138 (hX.1 _ _ rfl) rfl rfl rfl (s_X0_name hB hc (by omega) (fun g9 hf9 hn9 => ?_))
        refine xX0_bakeOne_141 ?_
        refine xX0_bakeOne_142 ?_
        refine xX0_bakeOne_144 ?_
        refine xX0_bakeOne_145 ?_
        refine xX0_bakeOne_146 (hX.1 _ _ rfl) rfl rfl rfl (s_X0_ask hB (((hf1.tr hf2).tr hf9).lw hla gw) (by decide) (show (0 : Int32) = nI 0 from rfl) (fun g10 hf10 => ?_))
        rw [evL_congr hn9, (hf1.tr hf2) (b + 3) (by omega) (by omega) (by omega), r3, (hf1.tr hf2) b (by omega) (by omega) (by omega), r0]
        refine xX0_bakeOne_149 ?_
        refine xX0_bakeOne_150 (hX.1 _ _ rfl) (hX.2 _ _ _ rfl) ?_
        refine xX0_bakeOne_153 ?_
        refine xX0_bakeOne_154 (j := cN) (hX.1 _ _ rfl) hc (by omega) rfl ?_
        rw [(((hf1.tr hf2).tr hf9).tr hf10) 26 (by omega) (by omega) (by omega), hbr]
        refine xX0_bakeOne_155 ?_
        refine xX0_bakeOne_156 (hX.1 _ _ rfl) hrb ?_
        refine xX0_bakeOne_159 hO.1 hO.2.2.2.2.2.2.2.2.2.2.1 ?_
        refine xX0_bakeOne_162 ?_
        refine xX0_bakeOne_163 (j := cN) hO.2.2.2.1 hc (by omega) rfl ?_
        rw [(((hf1.tr hf2).tr hf9).tr hf10) (b + 3) (by omega) (by omega) (by omega), r3]
        refine xX0_bakeOne_164_c9 (hX.1 _ _ rfl) rfl rfl rfl (s_X9_gains_c9 (hX.1 _ _ rfl) ?_)
        refine xX0_bakeOne_167 rfl rfl rfl ?_
        refine xX0_bakeOne_170 rfl ?_
        refine xX0_bakeOne_172 ?_
        refine xX0_bakeOne_173 (hX.1 _ _ rfl) (hX.2 _ _ _ rfl) ?_
        refine xX0_bakeOne_176 ?_
        refine xX0_bakeOne_177 ?_
        refine xX0_bakeOne_180 ?_
        refine xX0_bakeOne_181 (hX.1 _ _ rfl) (hX.2 _ _ _ rfl) ?_
        refine xX0_bakeOne_184 ?_
        refine xX0_bakeOne_185 (j := cN) (hX.1 _ _ rfl) hc (by omega) rfl ?_
        rw [(((hf1.tr hf2).tr hf9).tr hf10) 26 (by omega) (by omega) (by omega), hbr]
        refine xX0_bakeOne_186 ?_
        refine xX0_bakeOne_188 ?_
        refine xX0_bakeOne_189 rfl rfl rfl ?_
        refine xX0_bakeOne_192 (j := cN) (hX.1 _ _ rfl) hc (by omega) rfl ?_
        refine xX0_bakeOne_193 rfl rfl ?_
        refine hQ _ (fun a p q r s t => by rw [up_row q]; exact (((hf1.tr hf2).tr hf9).tr hf10) a r s t) (by rw [up_row (by decide)]; exact (((hf1.tr hf2).tr hf9).tr hf10) 25 (by omega) (by omega) (by omega)) (fun k hk => by rw [up_ne (fun z => hk z.2), (((hf1.tr hf2).tr hf9).tr hf10) 26 (by omega) (by omega) (by omega)]) ?_
        rw [up_same, bk1, ek, kB1, if_neg (Int32.not_lt.mpr c120), kG1]
        simp only [heat1, sinceN, ep, nN_nI (show pp < 2147483648 by omega)]
        rfl
      · refine xX0_bakeOne_123 rfl rfl ?_
        exact hQ _ ((hf1.tr hf2).bf) ((hf1.tr hf2) 25 (by omega) (by omega) (by omega)) (fun k hk => by rw [(hf1.tr hf2) 26 (by omega) (by omega) (by omega)]) (by rw [(hf1.tr hf2) 26 (by omega) (by omega) (by omega), hbr, bk1, ek, kB1, if_pos (Int32.not_le.mp c120)])
    · subst hk3
      refine xX0_bakeOne_100 rfl ?_
      refine xX0_bakeOne_102 ?_
      refine xX0_bakeOne_103 (hX.1 _ _ rfl) ?_
      rw [(hf1.tr hf2) 25 (by omega) (by omega) (by omega), hm]
      refine xX0_bakeOne_106 ?_
      refine xX0_bakeOne_108 ?_
      refine xX0_bakeOne_109 (hX.1 _ _ rfl) hrb ?_
      refine xX0_bakeOne_112 hO.1 hO.2.2.2.2.2.2.2.2.2.2.1 ?_
      refine xX0_bakeOne_115 ?_
      refine xX0_bakeOne_116 (j := cN) hO.2.2.2.1 hc (by omega) rfl ?_
      rw [(hf1.tr hf2) (b + 3) (by omega) (by omega) (by omega), r3]
      refine xX0_bakeOne_117_c10 (hX.1 _ _ rfl) rfl rfl rfl (s_X3_begins  ?_)
      refine xX0_bakeOne_120 (fun c120 => ?_) (fun c120 => ?_)
      · refine xX0_bakeOne_124 ?_
        refine xX0_bakeOne_125 ?_
        refine xX0_bakeOne_126 ?_
        refine xX0_bakeOne_127 ?_
        refine xX0_bakeOne_128 (hX.1 _ _ rfl) ?_
        rw [(hf1.tr hf2) 25 (by omega) (by omega) (by omega), hm]
        refine xX0_bakeOne_131 ?_
        refine xX0_bakeOne_132 (hX.1 _ _ rfl) (hX.2 _ _ _ rfl) ?_
        refine xX0_bakeOne_135 ?_
        refine xX0_bakeOne_136 (j := cN) (hX.1 _ _ rfl) hc (by omega) rfl ?_
        rw [(hf1.tr hf2) 26 (by omega) (by omega) (by omega), hbr]
        refine xX0_bakeOne_137 ?_
        refine xX0_bakeOne_138 (hX.1 _ _ rfl) rfl rfl rfl (s_X0_name hB hc (by omega) (fun g13 hf13 hn13 => ?_))
        refine xX0_bakeOne_141 ?_
        refine xX0_bakeOne_142 ?_
        refine xX0_bakeOne_144 ?_
        refine xX0_bakeOne_145 ?_
        refine xX0_bakeOne_146 (hX.1 _ _ rfl) rfl rfl rfl (s_X0_ask hB (((hf1.tr hf2).tr hf13).lw hla gw) (by decide) (show (0 : Int32) = nI 0 from rfl) (fun g14 hf14 => ?_))
        rw [evL_congr hn13, (hf1.tr hf2) (b + 3) (by omega) (by omega) (by omega), r3, (hf1.tr hf2) b (by omega) (by omega) (by omega), r0]
        refine xX0_bakeOne_149 ?_
        refine xX0_bakeOne_150 (hX.1 _ _ rfl) (hX.2 _ _ _ rfl) ?_
        refine xX0_bakeOne_153 ?_
        refine xX0_bakeOne_154 (j := cN) (hX.1 _ _ rfl) hc (by omega) rfl ?_
        rw [(((hf1.tr hf2).tr hf13).tr hf14) 26 (by omega) (by omega) (by omega), hbr]
        refine xX0_bakeOne_155 ?_
        refine xX0_bakeOne_156 (hX.1 _ _ rfl) hrb ?_
        refine xX0_bakeOne_159 hO.1 hO.2.2.2.2.2.2.2.2.2.2.1 ?_
        refine xX0_bakeOne_162 ?_
        refine xX0_bakeOne_163 (j := cN) hO.2.2.2.1 hc (by omega) rfl ?_
        rw [(((hf1.tr hf2).tr hf13).tr hf14) (b + 3) (by omega) (by omega) (by omega), r3]
        refine xX0_bakeOne_164_c10 (hX.1 _ _ rfl) rfl rfl rfl (s_X10_gains_c10 (hX.1 _ _ rfl) ?_)
        refine xX0_bakeOne_167 rfl rfl rfl ?_
        refine xX0_bakeOne_170 rfl ?_
        refine xX0_bakeOne_172 ?_
        refine xX0_bakeOne_173 (hX.1 _ _ rfl) (hX.2 _ _ _ rfl) ?_
        refine xX0_bakeOne_176 ?_
        refine xX0_bakeOne_177 ?_
        refine xX0_bakeOne_180 ?_
        refine xX0_bakeOne_181 (hX.1 _ _ rfl) (hX.2 _ _ _ rfl) ?_
        refine xX0_bakeOne_184 ?_
        refine xX0_bakeOne_185 (j := cN) (hX.1 _ _ rfl) hc (by omega) rfl ?_
        rw [(((hf1.tr hf2).tr hf13).tr hf14) 26 (by omega) (by omega) (by omega), hbr]
        refine xX0_bakeOne_186 ?_
        refine xX0_bakeOne_188 ?_
        refine xX0_bakeOne_189 rfl rfl rfl ?_
        refine xX0_bakeOne_192 (j := cN) (hX.1 _ _ rfl) hc (by omega) rfl ?_
        refine xX0_bakeOne_193 rfl rfl ?_
        refine hQ _ (fun a p q r s t => by rw [up_row q]; exact (((hf1.tr hf2).tr hf13).tr hf14) a r s t) (by rw [up_row (by decide)]; exact (((hf1.tr hf2).tr hf13).tr hf14) 25 (by omega) (by omega) (by omega)) (fun k hk => by rw [up_ne (fun z => hk z.2), (((hf1.tr hf2).tr hf13).tr hf14) 26 (by omega) (by omega) (by omega)]) ?_
        rw [up_same, bk1, ek, kB2, if_neg (Int32.not_lt.mpr c120), kG2]
        simp only [heat1, sinceN, ep, nN_nI (show pp < 2147483648 by omega)]
        rfl
      · refine xX0_bakeOne_123 rfl rfl ?_
        exact hQ _ ((hf1.tr hf2).bf) ((hf1.tr hf2) 25 (by omega) (by omega) (by omega)) (fun k hk => by rw [(hf1.tr hf2) 26 (by omega) (by omega) (by omega)]) (by rw [(hf1.tr hf2) 26 (by omega) (by omega) (by omega), hbr, bk1, ek, kB2, if_pos (Int32.not_le.mp c120)])
    · subst hk3
      refine xX0_bakeOne_100 rfl ?_
      refine xX0_bakeOne_102 ?_
      refine xX0_bakeOne_103 (hX.1 _ _ rfl) ?_
      rw [(hf1.tr hf2) 25 (by omega) (by omega) (by omega), hm]
      refine xX0_bakeOne_106 ?_
      refine xX0_bakeOne_108 ?_
      refine xX0_bakeOne_109 (hX.1 _ _ rfl) hrb ?_
      refine xX0_bakeOne_112 hO.1 hO.2.2.2.2.2.2.2.2.2.2.1 ?_
      refine xX0_bakeOne_115 ?_
      refine xX0_bakeOne_116 (j := cN) hO.2.2.2.1 hc (by omega) rfl ?_
      rw [(hf1.tr hf2) (b + 3) (by omega) (by omega) (by omega), r3]
      refine xX0_bakeOne_117_c1 (hX.1 _ _ rfl) rfl rfl rfl (s_X1_begins (hX.1 _ _ rfl) ?_)
      refine xX0_bakeOne_120 (fun c120 => ?_) (fun c120 => ?_)
      · refine xX0_bakeOne_124 ?_
        refine xX0_bakeOne_125 ?_
        refine xX0_bakeOne_126 ?_
        refine xX0_bakeOne_127 ?_
        refine xX0_bakeOne_128 (hX.1 _ _ rfl) ?_
        rw [(hf1.tr hf2) 25 (by omega) (by omega) (by omega), hm]
        refine xX0_bakeOne_131 ?_
        refine xX0_bakeOne_132 (hX.1 _ _ rfl) (hX.2 _ _ _ rfl) ?_
        refine xX0_bakeOne_135 ?_
        refine xX0_bakeOne_136 (j := cN) (hX.1 _ _ rfl) hc (by omega) rfl ?_
        rw [(hf1.tr hf2) 26 (by omega) (by omega) (by omega), hbr]
        refine xX0_bakeOne_137 ?_
        refine xX0_bakeOne_138 (hX.1 _ _ rfl) rfl rfl rfl (s_X0_name hB hc (by omega) (fun g17 hf17 hn17 => ?_))
        refine xX0_bakeOne_141 ?_
        refine xX0_bakeOne_142 ?_
        refine xX0_bakeOne_144 ?_
        refine xX0_bakeOne_145 ?_
        refine xX0_bakeOne_146 (hX.1 _ _ rfl) rfl rfl rfl (s_X0_ask hB (((hf1.tr hf2).tr hf17).lw hla gw) (by decide) (show (0 : Int32) = nI 0 from rfl) (fun g18 hf18 => ?_))
        rw [evL_congr hn17, (hf1.tr hf2) (b + 3) (by omega) (by omega) (by omega), r3, (hf1.tr hf2) b (by omega) (by omega) (by omega), r0]
        refine xX0_bakeOne_149 ?_
        refine xX0_bakeOne_150 (hX.1 _ _ rfl) (hX.2 _ _ _ rfl) ?_
        refine xX0_bakeOne_153 ?_
        refine xX0_bakeOne_154 (j := cN) (hX.1 _ _ rfl) hc (by omega) rfl ?_
        rw [(((hf1.tr hf2).tr hf17).tr hf18) 26 (by omega) (by omega) (by omega), hbr]
        refine xX0_bakeOne_155 ?_
        refine xX0_bakeOne_156 (hX.1 _ _ rfl) hrb ?_
        refine xX0_bakeOne_159 hO.1 hO.2.2.2.2.2.2.2.2.2.2.1 ?_
        refine xX0_bakeOne_162 ?_
        refine xX0_bakeOne_163 (j := cN) hO.2.2.2.1 hc (by omega) rfl ?_
        rw [(((hf1.tr hf2).tr hf17).tr hf18) (b + 3) (by omega) (by omega) (by omega), r3]
        refine xX0_bakeOne_164_c1 (hX.1 _ _ rfl) rfl rfl rfl (s_X9_gains_c1 (hX.1 _ _ rfl) ?_)
        refine xX0_bakeOne_167 rfl rfl rfl ?_
        refine xX0_bakeOne_170 rfl ?_
        refine xX0_bakeOne_172 ?_
        refine xX0_bakeOne_173 (hX.1 _ _ rfl) (hX.2 _ _ _ rfl) ?_
        refine xX0_bakeOne_176 ?_
        refine xX0_bakeOne_177 ?_
        refine xX0_bakeOne_180 ?_
        refine xX0_bakeOne_181 (hX.1 _ _ rfl) (hX.2 _ _ _ rfl) ?_
        refine xX0_bakeOne_184 ?_
        refine xX0_bakeOne_185 (j := cN) (hX.1 _ _ rfl) hc (by omega) rfl ?_
        rw [(((hf1.tr hf2).tr hf17).tr hf18) 26 (by omega) (by omega) (by omega), hbr]
        refine xX0_bakeOne_186 ?_
        refine xX0_bakeOne_188 ?_
        refine xX0_bakeOne_189 rfl rfl rfl ?_
        refine xX0_bakeOne_192 (j := cN) (hX.1 _ _ rfl) hc (by omega) rfl ?_
        refine xX0_bakeOne_193 rfl rfl ?_
        refine hQ _ (fun a p q r s t => by rw [up_row q]; exact (((hf1.tr hf2).tr hf17).tr hf18) a r s t) (by rw [up_row (by decide)]; exact (((hf1.tr hf2).tr hf17).tr hf18) 25 (by omega) (by omega) (by omega)) (fun k hk => by rw [up_ne (fun z => hk z.2), (((hf1.tr hf2).tr hf17).tr hf18) 26 (by omega) (by omega) (by omega)]) ?_
        rw [up_same, bk1, ek, kB3, if_neg (Int32.not_lt.mpr c120), kG3]
        simp only [heat1, sinceN, ep, nN_nI (show pp < 2147483648 by omega)]
        rfl
      · refine xX0_bakeOne_123 rfl rfl ?_
        exact hQ _ ((hf1.tr hf2).bf) ((hf1.tr hf2) 25 (by omega) (by omega) (by omega)) (fun k hk => by rw [(hf1.tr hf2) 26 (by omega) (by omega) (by omega)]) (by rw [(hf1.tr hf2) 26 (by omega) (by omega) (by omega), hbr, bk1, ek, kB3, if_pos (Int32.not_le.mp c120)])
    · subst hk3
      refine xX0_bakeOne_100 rfl ?_
      refine xX0_bakeOne_102 ?_
      refine xX0_bakeOne_103 (hX.1 _ _ rfl) ?_
      rw [(hf1.tr hf2) 25 (by omega) (by omega) (by omega), hm]
      refine xX0_bakeOne_106 ?_
      refine xX0_bakeOne_108 ?_
      refine xX0_bakeOne_109 (hX.1 _ _ rfl) hrb ?_
      refine xX0_bakeOne_112 hO.1 hO.2.2.2.2.2.2.2.2.2.2.1 ?_
      refine xX0_bakeOne_115 ?_
      refine xX0_bakeOne_116 (j := cN) hO.2.2.2.1 hc (by omega) rfl ?_
      rw [(hf1.tr hf2) (b + 3) (by omega) (by omega) (by omega), r3]
      refine xX0_bakeOne_117_c8 (hX.1 _ _ rfl) rfl rfl rfl (s_X3_begins  ?_)
      refine xX0_bakeOne_120 (fun c120 => ?_) (fun c120 => ?_)
      · refine xX0_bakeOne_124 ?_
        refine xX0_bakeOne_125 ?_
        refine xX0_bakeOne_126 ?_
        refine xX0_bakeOne_127 ?_
        refine xX0_bakeOne_128 (hX.1 _ _ rfl) ?_
        rw [(hf1.tr hf2) 25 (by omega) (by omega) (by omega), hm]
        refine xX0_bakeOne_131 ?_
        refine xX0_bakeOne_132 (hX.1 _ _ rfl) (hX.2 _ _ _ rfl) ?_
        refine xX0_bakeOne_135 ?_
        refine xX0_bakeOne_136 (j := cN) (hX.1 _ _ rfl) hc (by omega) rfl ?_
        rw [(hf1.tr hf2) 26 (by omega) (by omega) (by omega), hbr]
        refine xX0_bakeOne_137 ?_
        refine xX0_bakeOne_138 (hX.1 _ _ rfl) rfl rfl rfl (s_X0_name hB hc (by omega) (fun g21 hf21 hn21 => ?_))
        refine xX0_bakeOne_141 ?_
        refine xX0_bakeOne_142 ?_
        refine xX0_bakeOne_144 ?_
        refine xX0_bakeOne_145 ?_
        refine xX0_bakeOne_146 (hX.1 _ _ rfl) rfl rfl rfl (s_X0_ask hB (((hf1.tr hf2).tr hf21).lw hla gw) (by decide) (show (0 : Int32) = nI 0 from rfl) (fun g22 hf22 => ?_))
        rw [evL_congr hn21, (hf1.tr hf2) (b + 3) (by omega) (by omega) (by omega), r3, (hf1.tr hf2) b (by omega) (by omega) (by omega), r0]
        refine xX0_bakeOne_149 ?_
        refine xX0_bakeOne_150 (hX.1 _ _ rfl) (hX.2 _ _ _ rfl) ?_
        refine xX0_bakeOne_153 ?_
        refine xX0_bakeOne_154 (j := cN) (hX.1 _ _ rfl) hc (by omega) rfl ?_
        rw [(((hf1.tr hf2).tr hf21).tr hf22) 26 (by omega) (by omega) (by omega), hbr]
        refine xX0_bakeOne_155 ?_
        refine xX0_bakeOne_156 (hX.1 _ _ rfl) hrb ?_
        refine xX0_bakeOne_159 hO.1 hO.2.2.2.2.2.2.2.2.2.2.1 ?_
        refine xX0_bakeOne_162 ?_
        refine xX0_bakeOne_163 (j := cN) hO.2.2.2.1 hc (by omega) rfl ?_
        rw [(((hf1.tr hf2).tr hf21).tr hf22) (b + 3) (by omega) (by omega) (by omega), r3]
        refine xX0_bakeOne_164_c8 (hX.1 _ _ rfl) rfl rfl rfl (s_X8_gains (hX.1 _ _ rfl) ?_)
        refine xX0_bakeOne_167 rfl rfl rfl ?_
        refine xX0_bakeOne_170 rfl ?_
        refine xX0_bakeOne_172 ?_
        refine xX0_bakeOne_173 (hX.1 _ _ rfl) (hX.2 _ _ _ rfl) ?_
        refine xX0_bakeOne_176 ?_
        refine xX0_bakeOne_177 ?_
        refine xX0_bakeOne_180 ?_
        refine xX0_bakeOne_181 (hX.1 _ _ rfl) (hX.2 _ _ _ rfl) ?_
        refine xX0_bakeOne_184 ?_
        refine xX0_bakeOne_185 (j := cN) (hX.1 _ _ rfl) hc (by omega) rfl ?_
        rw [(((hf1.tr hf2).tr hf21).tr hf22) 26 (by omega) (by omega) (by omega), hbr]
        refine xX0_bakeOne_186 ?_
        refine xX0_bakeOne_188 ?_
        refine xX0_bakeOne_189 rfl rfl rfl ?_
        refine xX0_bakeOne_192 (j := cN) (hX.1 _ _ rfl) hc (by omega) rfl ?_
        refine xX0_bakeOne_193 rfl rfl ?_
        refine hQ _ (fun a p q r s t => by rw [up_row q]; exact (((hf1.tr hf2).tr hf21).tr hf22) a r s t) (by rw [up_row (by decide)]; exact (((hf1.tr hf2).tr hf21).tr hf22) 25 (by omega) (by omega) (by omega)) (fun k hk => by rw [up_ne (fun z => hk z.2), (((hf1.tr hf2).tr hf21).tr hf22) 26 (by omega) (by omega) (by omega)]) ?_
        rw [up_same, bk1, ek, kB4, if_neg (Int32.not_lt.mpr c120), kG4]
        simp only [heat1, sinceN, ep, nN_nI (show pp < 2147483648 by omega)]
        rfl
      · refine xX0_bakeOne_123 rfl rfl ?_
        exact hQ _ ((hf1.tr hf2).bf) ((hf1.tr hf2) 25 (by omega) (by omega) (by omega)) (fun k hk => by rw [(hf1.tr hf2) 26 (by omega) (by omega) (by omega)]) (by rw [(hf1.tr hf2) 26 (by omega) (by omega) (by omega), hbr, bk1, ek, kB4, if_pos (Int32.not_le.mp c120)])
    · subst hk3
      refine xX0_bakeOne_100 rfl ?_
      refine xX0_bakeOne_102 ?_
      refine xX0_bakeOne_103 (hX.1 _ _ rfl) ?_
      rw [(hf1.tr hf2) 25 (by omega) (by omega) (by omega), hm]
      refine xX0_bakeOne_106 ?_
      refine xX0_bakeOne_108 ?_
      refine xX0_bakeOne_109 (hX.1 _ _ rfl) hrb ?_
      refine xX0_bakeOne_112 hO.1 hO.2.2.2.2.2.2.2.2.2.2.1 ?_
      refine xX0_bakeOne_115 ?_
      refine xX0_bakeOne_116 (j := cN) hO.2.2.2.1 hc (by omega) rfl ?_
      rw [(hf1.tr hf2) (b + 3) (by omega) (by omega) (by omega), r3]
      refine xX0_bakeOne_117_c2 (hX.1 _ _ rfl) rfl rfl rfl (s_X3_begins  ?_)
      refine xX0_bakeOne_120 (fun c120 => ?_) (fun c120 => ?_)
      · refine xX0_bakeOne_124 ?_
        refine xX0_bakeOne_125 ?_
        refine xX0_bakeOne_126 ?_
        refine xX0_bakeOne_127 ?_
        refine xX0_bakeOne_128 (hX.1 _ _ rfl) ?_
        rw [(hf1.tr hf2) 25 (by omega) (by omega) (by omega), hm]
        refine xX0_bakeOne_131 ?_
        refine xX0_bakeOne_132 (hX.1 _ _ rfl) (hX.2 _ _ _ rfl) ?_
        refine xX0_bakeOne_135 ?_
        refine xX0_bakeOne_136 (j := cN) (hX.1 _ _ rfl) hc (by omega) rfl ?_
        rw [(hf1.tr hf2) 26 (by omega) (by omega) (by omega), hbr]
        refine xX0_bakeOne_137 ?_
        refine xX0_bakeOne_138 (hX.1 _ _ rfl) rfl rfl rfl (s_X0_name hB hc (by omega) (fun g25 hf25 hn25 => ?_))
        refine xX0_bakeOne_141 ?_
        refine xX0_bakeOne_142 ?_
        refine xX0_bakeOne_144 ?_
        refine xX0_bakeOne_145 ?_
        refine xX0_bakeOne_146 (hX.1 _ _ rfl) rfl rfl rfl (s_X0_ask hB (((hf1.tr hf2).tr hf25).lw hla gw) (by decide) (show (0 : Int32) = nI 0 from rfl) (fun g26 hf26 => ?_))
        rw [evL_congr hn25, (hf1.tr hf2) (b + 3) (by omega) (by omega) (by omega), r3, (hf1.tr hf2) b (by omega) (by omega) (by omega), r0]
        refine xX0_bakeOne_149 ?_
        refine xX0_bakeOne_150 (hX.1 _ _ rfl) (hX.2 _ _ _ rfl) ?_
        refine xX0_bakeOne_153 ?_
        refine xX0_bakeOne_154 (j := cN) (hX.1 _ _ rfl) hc (by omega) rfl ?_
        rw [(((hf1.tr hf2).tr hf25).tr hf26) 26 (by omega) (by omega) (by omega), hbr]
        refine xX0_bakeOne_155 ?_
        refine xX0_bakeOne_156 (hX.1 _ _ rfl) hrb ?_
        refine xX0_bakeOne_159 hO.1 hO.2.2.2.2.2.2.2.2.2.2.1 ?_
        refine xX0_bakeOne_162 ?_
        refine xX0_bakeOne_163 (j := cN) hO.2.2.2.1 hc (by omega) rfl ?_
        rw [(((hf1.tr hf2).tr hf25).tr hf26) (b + 3) (by omega) (by omega) (by omega), r3]
        refine xX0_bakeOne_164_c2 (hX.1 _ _ rfl) rfl rfl rfl (s_X3_gains  ?_)
        refine xX0_bakeOne_167 rfl rfl rfl ?_
        refine xX0_bakeOne_170 rfl ?_
        refine xX0_bakeOne_172 ?_
        refine xX0_bakeOne_173 (hX.1 _ _ rfl) (hX.2 _ _ _ rfl) ?_
        refine xX0_bakeOne_176 ?_
        refine xX0_bakeOne_177 ?_
        refine xX0_bakeOne_180 ?_
        refine xX0_bakeOne_181 (hX.1 _ _ rfl) (hX.2 _ _ _ rfl) ?_
        refine xX0_bakeOne_184 ?_
        refine xX0_bakeOne_185 (j := cN) (hX.1 _ _ rfl) hc (by omega) rfl ?_
        rw [(((hf1.tr hf2).tr hf25).tr hf26) 26 (by omega) (by omega) (by omega), hbr]
        refine xX0_bakeOne_186 ?_
        refine xX0_bakeOne_188 ?_
        refine xX0_bakeOne_189 rfl rfl rfl ?_
        refine xX0_bakeOne_192 (j := cN) (hX.1 _ _ rfl) hc (by omega) rfl ?_
        refine xX0_bakeOne_193 rfl rfl ?_
        refine hQ _ (fun a p q r s t => by rw [up_row q]; exact (((hf1.tr hf2).tr hf25).tr hf26) a r s t) (by rw [up_row (by decide)]; exact (((hf1.tr hf2).tr hf25).tr hf26) 25 (by omega) (by omega) (by omega)) (fun k hk => by rw [up_ne (fun z => hk z.2), (((hf1.tr hf2).tr hf25).tr hf26) 26 (by omega) (by omega) (by omega)]) ?_
        rw [up_same, bk1, ek, kB5, if_neg (Int32.not_lt.mpr c120), kG5]
        simp only [heat1, sinceN, ep, nN_nI (show pp < 2147483648 by omega)]
        rfl
      · refine xX0_bakeOne_123 rfl rfl ?_
        exact hQ _ ((hf1.tr hf2).bf) ((hf1.tr hf2) 25 (by omega) (by omega) (by omega)) (fun k hk => by rw [(hf1.tr hf2) 26 (by omega) (by omega) (by omega)]) (by rw [(hf1.tr hf2) 26 (by omega) (by omega) (by omega), hbr, bk1, ek, kB5, if_pos (Int32.not_le.mp c120)])
