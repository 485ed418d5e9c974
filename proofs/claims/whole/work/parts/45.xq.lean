def asksP (o : OV) (nc : Nat) (ev : EV) (part hm br cs : Int32) : Int32 := if 0 ≤ part ∧ part ≤ 2 then (if 0 ≤ br ∧ br ≤ 999 then (if cs < 0 then -2 else if hm < 0 then -2 else if 99 < hm / 100 then -2 else if remI hm 100 < 40 then (if 0 ≤ cs / 100 ∧ cs / 100 ≤ nI nc - 1 then ev (nN part) (nm6 (hm / 100) (remI hm 100) br (o 3 (nN (cs / 100))) (remI cs 100) (o 0 8)) else -2) else -2) else -2) else -2
theorem s_X11_asks {d : Nat} {sc : Nat × (Nat → Int32)} {T : List (Nat × Nat)} {rf : Nat → Nat → Option Nat} {g : Nat → Nat → Int32} {nc tc t : Nat} {o : OV} {lws : Nat → Nat → List Int32} {part hm br cs : Int32} {F : Int32 → AH → Prop} (hO : OB T rf g 1 o nc tc lws t) (hQ : ∀ rf2 g2, ZR T rf rf2 → VF g g2 → F (asksP o nc (evL (lws t)) part hm br cs) (T, rf2, g2)) : Mok (d + 5) 0 0 sc kX11_asks [.ref 0, .int part, .int hm, .int br, .int cs] (T, rf, g) (Qi F) := by
  obtain ⟨hX, -, hS, hE, hV, hlw, htc⟩ := id hO
  have hn8 : nc ≤ 8 := hV.2.1
  have hcn : g 1 5 = nI nc := hE.1.1.trans hV.1
  refine Mok.ofWp (L := [some (.ref 0), some (.int part), some (.int hm), some (.int br), some (.int cs), none, none]) rfl rfl rfl ?_
  refine xX11_asks_0 ?_
  refine xX11_asks_1 ?_
  refine xX11_asks_2 ?_
  refine xX11_asks_3 rfl rfl rfl (s_X11_within  (fun hw0 => ?_) (fun nw0 => ?_))
  · refine xX11_asks_6_f (by decide) ?_
    refine xX11_asks_9 ?_
    refine xX11_asks_10 ?_
    refine xX11_asks_11 ?_
    refine xX11_asks_14 rfl rfl rfl (s_X11_within  (fun hw1 => ?_) (fun nw1 => ?_))
    · refine xX11_asks_17_f (by decide) ?_
      refine xX11_asks_20 ?_
      refine xX11_asks_22 (fun c22 => ?_) (fun c22 => ?_)
      · have z22 : ¬ cs < 0 := by first | exact c22 | exact Int32.not_lt.mpr c22
        refine xX11_asks_28 ?_
        refine xX11_asks_29 ?_
        refine xX11_asks_31 (by decide) ?_
        refine xX11_asks_32 rfl ?_
        refine xX11_asks_34 ?_
        refine xX11_asks_35 ?_
        refine xX11_asks_37 (by decide) ?_
        refine xX11_asks_38 rfl ?_
        refine xX11_asks_40 ?_
        refine xX11_asks_41 (fun c41 => ?_) (fun c41 => ?_)
        · refine xX11_asks_70 ?_
          refine xX11_asks_72 rfl rfl ?_
          have q := hQ _ g ⟨hX, fun _ _ => rfl⟩ VF.rf
          first
            | (rw [asksP, if_pos hw0, if_pos hw1, if_neg z22, if_pos c41] at q; exact q)
            | (rw [asksP, if_pos hw0, if_pos hw1, if_neg z22, if_neg c41, if_pos (Int32.not_le.mp c48)] at q; exact q)
            | (rw [asksP, if_pos hw0, if_pos hw1, if_neg z22, if_neg c41, if_pos c48] at q; exact q)
            | (rw [asksP, if_pos hw0, if_pos hw1, if_neg z22, if_neg c41, if_neg y48, if_neg z55] at q; exact q)
        · refine xX11_asks_44 ?_
          refine xX11_asks_46 ?_
          refine xX11_asks_48 (fun c48 => ?_) (fun c48 => ?_)
          · refine xX11_asks_70 ?_
            refine xX11_asks_72 rfl rfl ?_
            have q := hQ _ g ⟨hX, fun _ _ => rfl⟩ VF.rf
            first
              | (rw [asksP, if_pos hw0, if_pos hw1, if_neg z22, if_pos c41] at q; exact q)
              | (rw [asksP, if_pos hw0, if_pos hw1, if_neg z22, if_neg c41, if_pos (Int32.not_le.mp c48)] at q; exact q)
              | (rw [asksP, if_pos hw0, if_pos hw1, if_neg z22, if_neg c41, if_pos c48] at q; exact q)
              | (rw [asksP, if_pos hw0, if_pos hw1, if_neg z22, if_neg c41, if_neg y48, if_neg z55] at q; exact q)
          · have y48 : ¬ 99 < hm / 100 := by first | exact c48 | exact Int32.not_lt.mpr c48 | exact Int32.not_lt.mpr (Int32.not_lt.mp c48)
            refine xX11_asks_51 ?_
            refine xX11_asks_53 ?_
            refine xX11_asks_55 (fun c55 => ?_) (fun c55 => ?_)
            · have z55 : ¬ remI hm 100 < 40 := by first | exact c55 | exact Int32.not_lt.mpr c55
              refine xX11_asks_70 ?_
              refine xX11_asks_72 rfl rfl ?_
              have q := hQ _ g ⟨hX, fun _ _ => rfl⟩ VF.rf
              first
                | (rw [asksP, if_pos hw0, if_pos hw1, if_neg z22, if_pos c41] at q; exact q)
                | (rw [asksP, if_pos hw0, if_pos hw1, if_neg z22, if_neg c41, if_pos (Int32.not_le.mp c48)] at q; exact q)
                | (rw [asksP, if_pos hw0, if_pos hw1, if_neg z22, if_neg c41, if_pos c48] at q; exact q)
                | (rw [asksP, if_pos hw0, if_pos hw1, if_neg z22, if_neg c41, if_neg y48, if_neg z55] at q; exact q)
            · have z55 : remI hm 100 < 40 := by first | exact Int32.not_le.mp c55 | exact Decidable.not_not.mp c55
              refine xX11_asks_58 ?_
              refine xX11_asks_59 ?_
              refine xX11_asks_61 ?_
              refine xX11_asks_63 (by decide) ?_
              refine xX11_asks_64 (hX.1 _ _ rfl) rfl rfl rfl (t_X11_isCake hX hcn (fun hw2 => ?_) (fun nw2 => ?_))
              · obtain ⟨ecN, hcN⟩ := isC_N hw2 hn8
                refine xX11_asks_67_t (by decide) ?_
                refine xX11_asks_73 ?_
                refine xX11_asks_74 ?_
                refine xX11_asks_75 (hX.1 _ _ rfl) (hX.2 _ _ _ rfl) ?_
                refine xX11_asks_78 (hX.1 _ _ rfl) rfl rfl rfl (s_X11_startBaking hO (fun rf3 g3 hr3 hz3 hk3 => ?_))
                refine xX11_asks_81 ?_
                refine xX11_asks_82 (hX.1 _ _ rfl) (hr3.1.2 _ _ _ rfl) ?_
                refine xX11_asks_85 ?_
                refine xX11_asks_87 ?_
                refine xX11_asks_89 (by decide) ?_
                refine xX11_asks_90 ?_
                refine xX11_asks_92 ?_
                refine xX11_asks_94 ?_
                refine xX11_asks_95 ?_
                refine xX11_asks_97 ?_
                refine xX11_asks_99 (by decide) ?_
                obtain ⟨la, n, hB, hG, hE2, hV2, hK2, hl1, hl2⟩ := id hk3
                have hla := hB.2.2.2.2.2.2
                refine xX11_asks_100 (hX.1 _ _ rfl) rfl rfl rfl (s_X0_name hB ecN (by omega) (fun g4 hf4 hn4 => ?_))
                refine xX11_asks_103 ?_
                refine xX11_asks_104 (hX.1 _ _ rfl) (hr3.1.2 _ _ _ rfl) ?_
                refine xX11_asks_107 ?_
                refine xX11_asks_108 (hX.1 _ _ rfl) rfl rfl rfl (s_X0_ask hB (hf4.lw hla hG.1) (Nat.lt_succ_of_le (inN hw0).2) (inN hw0).1 (fun g5 hf5 => ?_))
                refine xX11_asks_111 rfl rfl ?_
                have q := hQ _ _ hr3 (hz3.vf.tr (((hf4.tr hf5).bf).zf hla hl1 hl2).vf)
                rw [asksP, if_pos hw0, if_pos hw1, if_neg z22, if_neg c41, if_neg y48, if_pos z55, if_pos hw2] at q
                rw [evL_congr hn4, show g3 (1 + 3) (nN (cs / 100)) = o 3 (nN (cs / 100)) from (hE2.2.2.1 _ hcN).2.1, show g3 1 8 = o 0 8 from hE2.1.2.1]
                exact q
              · refine xX11_asks_67_f (by decide) ?_
                refine xX11_asks_70 ?_
                refine xX11_asks_72 rfl rfl ?_
                have q := hQ _ g ⟨hX, fun _ _ => rfl⟩ VF.rf
                first
                  | (rw [asksP, if_pos hw0, if_pos hw1, if_neg z22, if_neg c41, if_neg y48, if_pos z55, if_neg nw2] at q; exact q)
      · have z22 : cs < 0 := by first | exact Int32.not_le.mp c22 | exact Decidable.not_not.mp c22
        refine xX11_asks_25 ?_
        refine xX11_asks_27 rfl rfl ?_
        have q := hQ _ g ⟨hX, fun _ _ => rfl⟩ VF.rf
        rw [asksP, if_pos hw0, if_pos hw1, if_pos z22] at q
        exact q
    · refine xX11_asks_17_t (by decide) ?_
      refine xX11_asks_25 ?_
      refine xX11_asks_27 rfl rfl ?_
      have q := hQ _ g ⟨hX, fun _ _ => rfl⟩ VF.rf
      rw [asksP, if_pos hw0, if_neg nw1] at q
      exact q
  · refine xX11_asks_6_t (by decide) ?_
    refine xX11_asks_25 ?_
    refine xX11_asks_27 rfl rfl ?_
    have q := hQ _ g ⟨hX, fun _ _ => rfl⟩ VF.rf
    rw [asksP, if_neg nw0] at q
    exact q
