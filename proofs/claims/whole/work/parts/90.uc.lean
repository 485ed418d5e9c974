-- ===== the class made =====
def lawB : List Int32 := strByt.getD 0 []
def css0 : List (List Int32) := match txX 3 0 (TKS lawB 0) with
  | Sum.inl _ => []
  | Sum.inr c => c
theorem tx0 : txX 3 0 (TKS lawB 0) = Sum.inr css0 := by decide +kernel
theorem lawB_l : lawB.length = 53 ∧ TB lawB := by
  refine ⟨by decide +kernel, ?_⟩
  unfold TB
  decide +kernel
def o0 : OV := fun r k => if r = 0 then (if k = 9 then 20 else 0) else if r = 1 then 10 else 0
theorem o0_OEq {rf : Nat → Nat → Option Nat} {g : Nat → Nat → Int32} (h : NewO rf g 1) : OEq (XO g 1) o0 0 := by
  obtain ⟨-, h2, h3, h4⟩ := h
  have e : ∀ k, XO g 1 0 k = if k = 9 then 20 else 0 := h2
  refine ⟨⟨e 5, e 8, e 9, e 10, e 11⟩, h3, fun c hc => absurd hc (Nat.not_lt_zero c), fun k _ => ⟨h4 6 (by omega) (by omega) k, h4 7 (by omega) (by omega) k⟩⟩
def allR (rf : Nat → Nat → Option Nat) : List (Nat × Nat × Nat) → Prop
  | [] => True
  | p :: l => rf p.1 p.2.1 = some p.2.2 ∧ allR rf l
theorem allR_mem {rf : Nat → Nat → Option Nat} : ∀ {l : List (Nat × Nat × Nat)} {p : Nat × Nat × Nat}, allR rf l → p ∈ l → rf p.1 p.2.1 = some p.2.2 := by
  intro l
  induction l with
  | nil => intro p _ h; cases h
  | cons q l ih =>
    intro p h hp
    rcases List.mem_cons.mp hp with e | e
    · subst e; exact h.1
    · exact ih h.2 e
def XRp : List (Nat × Nat × Nat) := [(0, 0, 1), (0, 1, 9), (0, 2, 17), (0, 4, 25), (0, 5, 35), (0, 6, 39), (0, 8, 40), (1, 0, 2), (1, 1, 3), (1, 2, 4), (1, 3, 5), (1, 4, 6), (1, 6, 7), (1, 7, 8), (9, 0, 10), (9, 1, 11), (9, 2, 12), (9, 3, 13), (9, 4, 14), (9, 6, 15), (9, 7, 16), (17, 0, 18), (17, 1, 19), (17, 2, 20), (17, 3, 21), (17, 4, 22), (17, 6, 23), (17, 7, 24), (25, 0, 26), (25, 1, 27), (25, 2, 34), (27, 0, 28), (27, 1, 29), (27, 2, 30), (27, 3, 31), (27, 4, 32), (27, 5, 33), (35, 2, 36), (35, 3, 37), (35, 4, 38), (40, 0, 41), (40, 1, 43), (40, 2, 45), (40, 3, 47), (41, 0, 42), (43, 0, 44), (45, 0, 46), (47, 0, 48)]
theorem XRp_all : ∀ a, a < 49 → ∀ k, k < 9 → ∀ b ∈ (XRf a k).toList, (a, k, b) ∈ XRp := by decide +kernel
theorem XRt_row : ∀ a, a < 49 → (XRt.getD a []).length ≤ 9 := by decide +kernel
theorem XRp_of {a k b : Nat} (h : XRf a k = some b) : (a, k, b) ∈ XRp := by
  have ha : a < 49 := by
    rcases Nat.lt_or_ge a 49 with q | q
    · exact q
    · exfalso
      have e : XRt.getD a [] = [] := by
        rw [List.getD_eq_getElem?_getD, List.getElem?_eq_none (show XRt.length ≤ a from q)]; rfl
      unfold XRf at h
      rw [e] at h
      simp at h
  have hk : k < 9 := by
    rcases Nat.lt_or_ge k 9 with q | q
    · exact q
    · exfalso
      have := XRt_row a ha
      unfold XRf at h
      rw [List.getD_eq_getElem?_getD, List.getElem?_eq_none (by omega)] at h
      cases h
  exact XRp_all a ha k hk b (by rw [h]; exact List.mem_cons_self)
theorem XS_of {T : List (Nat × Nat)} {rf : Nat → Nat → Option Nat} (hT : T = XTl) (h : allR rf XRp) : XS T rf := ⟨fun a t ha => by rw [hT]; exact ha, fun a k b hb => allR_mem h (XRp_of hb)⟩
theorem lp_X11_init {d : Nat} {sc : Nat × (Nat → Int32)} {T : List (Nat × Nat)} {rf : Nat → Nat → Option Nat} {g0 : Nat → Nat → Int32} {F : AH → Prop} (hX : XS T rf) (hQ : ∀ g2 x1, XP_ g2 lawB → TPF g0 g2 → Wp (d + 67) 52 1089 sc kX11_init (Qv F) 132 [some (.ref 0), some (.int x1)] [] (T, rf, g2) 48 761) : ∀ (k j : Nat) (x1 : Int32) (g : Nat → Nat → Int32), (j + k = 53) → (x1 = nI j) → (XP_ g (lawB.take j)) → (TPF g0 g) → Wp (d + 67) 52 1089 sc kX11_init (Qv F) 104 [some (.ref 0), some (.int x1)] [] (T, rf, g) 48 761 := by
  intro k
  induction k with
  | zero =>
    intro j x1 g hj hx1 ht hf
    subst hx1
    have hlb := lawB_l.1
    refine xX11_init_104 ?_
    refine xX11_init_105 ?_
    refine xX11_init_107 (i := 0) (by decide) rfl rfl rfl rfl (s_J0_length (i := 0) (by decide) rfl ?_)
    refine xX11_init_110_t (nI_le (a := 53) (by omega) (by omega)) ?_
    have e : j = 53 := by omega
    subst e
    exact hQ _ _ (by rw [List.take_of_length_le (by omega)] at ht; exact ht) hf
  | succ k ih =>
    intro j x1 g hj hx1 ht hf
    subst hx1
    have hlb := lawB_l.1
    refine xX11_init_104 ?_
    refine xX11_init_105 ?_
    refine xX11_init_107 (i := 0) (by decide) rfl rfl rfl rfl (s_J0_length (i := 0) (by decide) rfl ?_)
    refine xX11_init_110_f (nI_ge (b := 53) (by omega) (by omega)) ?_
    refine xX11_init_113 ?_
    refine xX11_init_114 (hX.1 _ _ rfl) (hX.2 _ _ _ rfl) ?_
    refine xX11_init_117 ?_
    refine xX11_init_119 ?_
    refine xX11_init_120 (i := 0) (by decide) rfl rfl rfl rfl (s_J0_charAt (i := 0) (j := j) (by decide) rfl (show j < 53 by omega) rfl ?_)
    refine xX11_init_123 (hX.1 _ _ rfl) rfl rfl rfl (s_X6_take hX ht (by rw [List.length_take]; omega) (fun g2 ht2 hf2 => ?_))
    refine xX11_init_126 rfl rfl ?_
    refine xX11_init_129 ?_
    refine ih (j + 1) _ _ (by omega) (nI_1 j) ?_ (hf.tr hf2)
    have e : lawB.take (j + 1) = lawB.take j ++ [lawB.getD j 0] := by
      rw [List.take_succ, List.getD_eq_getElem?_getD, List.getElem?_eq_getElem (by omega)]; rfl
    rw [e]
    exact ht2
def sh0 : Nat → Nat → Int32 := fun _ k => if k = 0 then -1 else 0
def T53 : List (Nat × Nat) := (XTl ++ [(4, 0)] ++ [(20, 4)] ++ [(20, css0.flatten.length)] ++ [(20, css0.flatten.length)])
theorem s_X11_init {d : Nat} {sc : Nat × (Nat → Int32)} {rf : Nat → Nat → Option Nat} {g : Nat → Nat → Int32} {F : AH → Prop} (hz : ∀ k, g 0 k = 0) (hQ : ∀ rf2 g2, XS T53 rf2 → (css0.length = 3 ∧ (∀ c ∈ css0, wfd c 0) ∧ css0.flatten.length ≤ 160) → OEq (XO g2 1) o0 0 → XH g2 sh0 → XP_ g2 [] → g2 0 7 = nI 1 → g2 0 3 = 0 → TX T53 rf2 g2 1 (upL (fun _ _ => []) 0 (lwC css0)) → F (T53, rf2, g2)) : Mok (d + 67) 52 1089 sc kX11_init [.ref 0] ([(11, 0)], rf, g) (Qv F) := by
  refine Mok.ofWp (L := [some (.ref 0), none]) rfl rfl rfl ?_
  refine xX11_init_0 ?_
  refine xX11_init_1 rfl ?_
  refine xX11_init_4 ?_
  refine xX11_init_5 (n := 1) (kc1 := 1) (ks1 := 12) rfl rfl rfl rfl rfl rfl (fun hr1 hg1 => ?_)
  refine xX11_init_8 rfl ?_
  refine xX11_init_9A (mc1 := 7) (ms1 := 60) (kc1 := 8) (ks1 := 72) rfl rfl rfl rfl rfl (s_X5_init rfl (by decide) rfl hg1 (fun rfA gA qA pA nA => ?_))
  refine xX11_init_12 rfl rfl ?_
  refine xX11_init_15 ?_
  refine xX11_init_16 (n := 9) (kc1 := 9) (ks1 := 84) rfl rfl rfl rfl rfl rfl (fun hr9 hg9 => ?_)
  refine xX11_init_19 rfl ?_
  refine xX11_init_20A (mc1 := 7) (ms1 := 60) (kc1 := 16) (ks1 := 144) rfl rfl rfl rfl rfl (s_X5_init rfl (by decide) rfl hg9 (fun rfB gB qB pB nB => ?_))
  refine xX11_init_23 rfl rfl ?_
  refine xX11_init_26 ?_
  refine xX11_init_27 (n := 17) (kc1 := 17) (ks1 := 156) rfl rfl rfl rfl rfl rfl (fun hr17 hg17 => ?_)
  refine xX11_init_30 rfl ?_
  refine xX11_init_31A (mc1 := 7) (ms1 := 60) (kc1 := 24) (ks1 := 216) rfl rfl rfl rfl rfl (s_X5_init rfl (by decide) rfl hg17 (fun rfC gC qC pC nC => ?_))
  refine xX11_init_34 rfl rfl ?_
  refine xX11_init_37 ?_
  refine xX11_init_38 (n := 25) (kc1 := 25) (ks1 := 225) rfl rfl rfl rfl rfl rfl (fun hr25 hg25 => ?_)
  refine xX11_init_41 rfl ?_
  refine xX11_init_42A (mc1 := 9) (ms1 := 20) (kc1 := 34) (ks1 := 245) rfl rfl rfl rfl rfl (s_X0_init rfl ?_)
  refine xX11_init_45 rfl rfl ?_
  refine xX11_init_48 ?_
  refine xX11_init_49 (n := 35) (kc1 := 35) (ks1 := 255) rfl rfl rfl rfl rfl rfl (fun hr35 hg35 => ?_)
  refine xX11_init_52 rfl ?_
  refine xX11_init_53A (mc1 := 3) (ms1 := 324) (kc1 := 38) (ks1 := 579) rfl rfl rfl rfl rfl (s_X6_init rfl ?_)
  refine xX11_init_56 rfl rfl ?_
  refine xX11_init_59 ?_
  refine xX11_init_60 ?_
  refine xX11_init_62 (j := 6) (n := 39) (kc1 := 39) (ks1 := 585) (by decide) rfl rfl rfl rfl rfl rfl rfl (fun hr39 hg39 => ?_)
  refine xX11_init_65 rfl rfl ?_
  refine xX11_init_68 ?_
  refine xX11_init_69 ?_
  refine xX11_init_70 (j := 4) (n := 40) (kc1 := 40) (ks1 := 589) (by decide) rfl rfl rfl rfl rfl rfl rfl (fun hr40 hg40 => ?_)
  refine xX11_init_73 rfl rfl ?_
  refine xX11_init_76 ?_
  refine xX11_init_77 rfl ?_
  refine xX11_init_78 ?_
  refine xX11_init_79 ?_
  refine xX11_init_80_f (by decide) ?_
  refine xX11_init_83 ?_
  refine xX11_init_84 rfl (by first | rfl | simp [ur]) ?_
  refine xX11_init_87 ?_
  refine xX11_init_88 (n := 41) (kc1 := 41) (ks1 := 592) rfl rfl rfl rfl rfl rfl (fun hr41 hg41 => ?_)
  refine xX11_init_91 rfl ?_
  refine xX11_init_92A (mc1 := 1) (ms1 := 40) (kc1 := 42) (ks1 := 632) rfl rfl rfl rfl rfl (s_X7_init rfl (by decide) rfl (fun hsA => ?_))
  refine xX11_init_95 (j := 0) rfl rfl rfl (by decide) (by decide) rfl ?_
  refine xX11_init_96 rfl rfl ?_
  refine xX11_init_99 ?_
  refine xX11_init_78 ?_
  refine xX11_init_79 ?_
  refine xX11_init_80_f (by decide) ?_
  refine xX11_init_83 ?_
  refine xX11_init_84 rfl (by first | rfl | simp [ur]) ?_
  refine xX11_init_87 ?_
  refine xX11_init_88 (n := 43) (kc1 := 43) (ks1 := 635) rfl rfl rfl rfl rfl rfl (fun hr43 hg43 => ?_)
  refine xX11_init_91 rfl ?_
  refine xX11_init_92A (mc1 := 1) (ms1 := 40) (kc1 := 44) (ks1 := 675) rfl rfl rfl rfl rfl (s_X7_init rfl (by decide) rfl (fun hsB => ?_))
  refine xX11_init_95 (j := 1) rfl rfl rfl (by decide) (by decide) rfl ?_
  refine xX11_init_96 rfl rfl ?_
  refine xX11_init_99 ?_
  refine xX11_init_78 ?_
  refine xX11_init_79 ?_
  refine xX11_init_80_f (by decide) ?_
  refine xX11_init_83 ?_
  refine xX11_init_84 rfl (by first | rfl | simp [ur]) ?_
  refine xX11_init_87 ?_
  refine xX11_init_88 (n := 45) (kc1 := 45) (ks1 := 678) rfl rfl rfl rfl rfl rfl (fun hr45 hg45 => ?_)
  refine xX11_init_91 rfl ?_
  refine xX11_init_92A (mc1 := 1) (ms1 := 40) (kc1 := 46) (ks1 := 718) rfl rfl rfl rfl rfl (s_X7_init rfl (by decide) rfl (fun hsC => ?_))
  refine xX11_init_95 (j := 2) rfl rfl rfl (by decide) (by decide) rfl ?_
  refine xX11_init_96 rfl rfl ?_
  refine xX11_init_99 ?_
  refine xX11_init_78 ?_
  refine xX11_init_79 ?_
  refine xX11_init_80_f (by decide) ?_
  refine xX11_init_83 ?_
  refine xX11_init_84 rfl (by first | rfl | simp [ur]) ?_
  refine xX11_init_87 ?_
  refine xX11_init_88 (n := 47) (kc1 := 47) (ks1 := 721) rfl rfl rfl rfl rfl rfl (fun hr47 hg47 => ?_)
  refine xX11_init_91 rfl ?_
  refine xX11_init_92A (mc1 := 1) (ms1 := 40) (kc1 := 48) (ks1 := 761) rfl rfl rfl rfl rfl (s_X7_init rfl (by decide) rfl (fun hsD => ?_))
  refine xX11_init_95 (j := 3) rfl rfl rfl (by decide) (by decide) rfl ?_
  refine xX11_init_96 rfl rfl ?_
  refine xX11_init_99 ?_
  refine xX11_init_78 ?_
  refine xX11_init_79 ?_
  refine xX11_init_80_t (by decide) ?_
  refine xX11_init_102 ?_
  refine xX11_init_103 rfl ?_
  obtain ⟨gF, hgF⟩ : ∃ gF, gF = up (up (up (up gC 41 1 (-1)) 43 1 (-1)) 45 1 (-1)) 47 1 (-1) := ⟨_, rfl⟩
  obtain ⟨rfF, hrF⟩ : ∃ rfF, rfF = (ur (ur (ur (ur (ur (ur (ur (ur (ur (ur (ur (ur (ur (ur (ur (ur (ur (ur (ur (ur (ur (ur (ur (ur (ur rfC 0 2 (some 17)) 25 0 (some 26)) 27 0 (some 28)) 27 1 (some 29)) 27 2 (some 30)) 27 3 (some 31)) 27 4 (some 32)) 27 5 (some 33)) 25 1 (some 27)) 25 2 (some 34)) 0 4 (some 25)) 35 2 (some 36)) 35 3 (some 37)) 35 4 (some 38)) 0 5 (some 35)) 0 6 (some 39)) 0 8 (some 40)) 41 0 (some 42)) 40 0 (some 41)) 43 0 (some 44)) 40 1 (some 43)) 45 0 (some 46)) 40 2 (some 45)) 47 0 (some 48)) 40 3 (some 47)) := ⟨_, rfl⟩
  rw [← hgF, ← hrF]
  have r1_0 : rfF 1 0 = some 2 := by
    rw [hrF]
    have e : (ur (ur (ur (ur (ur (ur (ur (ur (ur (ur (ur (ur (ur (ur (ur (ur (ur (ur (ur (ur (ur (ur (ur (ur (ur rfC 0 2 (some 17)) 25 0 (some 26)) 27 0 (some 28)) 27 1 (some 29)) 27 2 (some 30)) 27 3 (some 31)) 27 4 (some 32)) 27 5 (some 33)) 25 1 (some 27)) 25 2 (some 34)) 0 4 (some 25)) 35 2 (some 36)) 35 3 (some 37)) 35 4 (some 38)) 0 5 (some 35)) 0 6 (some 39)) 0 8 (some 40)) 41 0 (some 42)) 40 0 (some 41)) 43 0 (some 44)) 40 1 (some 43)) 45 0 (some 46)) 40 2 (some 45)) 47 0 (some 48)) 40 3 (some 47)) 1 0 = rfC 1 0 := by simp [ur]
    rw [e]
    rw [qC 1 (by omega)]
    have e2 : (ur rfB 0 1 (some 9)) 1 0 = rfB 1 0 := by simp [ur]
    rw [e2, qB 1 (by omega)]
    have e3 : (ur rfA 0 0 (some 1)) 1 0 = rfA 1 0 := by simp [ur]
    rw [e3]
    exact nA.1.1
  have r1_1 : rfF 1 1 = some 3 := by
    rw [hrF]
    have e : (ur (ur (ur (ur (ur (ur (ur (ur (ur (ur (ur (ur (ur (ur (ur (ur (ur (ur (ur (ur (ur (ur (ur (ur (ur rfC 0 2 (some 17)) 25 0 (some 26)) 27 0 (some 28)) 27 1 (some 29)) 27 2 (some 30)) 27 3 (some 31)) 27 4 (some 32)) 27 5 (some 33)) 25 1 (some 27)) 25 2 (some 34)) 0 4 (some 25)) 35 2 (some 36)) 35 3 (some 37)) 35 4 (some 38)) 0 5 (some 35)) 0 6 (some 39)) 0 8 (some 40)) 41 0 (some 42)) 40 0 (some 41)) 43 0 (some 44)) 40 1 (some 43)) 45 0 (some 46)) 40 2 (some 45)) 47 0 (some 48)) 40 3 (some 47)) 1 1 = rfC 1 1 := by simp [ur]
    rw [e]
    rw [qC 1 (by omega)]
    have e2 : (ur rfB 0 1 (some 9)) 1 1 = rfB 1 1 := by simp [ur]
    rw [e2, qB 1 (by omega)]
    have e3 : (ur rfA 0 0 (some 1)) 1 1 = rfA 1 1 := by simp [ur]
    rw [e3]
    exact nA.1.2.1
  have r1_2 : rfF 1 2 = some 4 := by
    rw [hrF]
    have e : (ur (ur (ur (ur (ur (ur (ur (ur (ur (ur (ur (ur (ur (ur (ur (ur (ur (ur (ur (ur (ur (ur (ur (ur (ur rfC 0 2 (some 17)) 25 0 (some 26)) 27 0 (some 28)) 27 1 (some 29)) 27 2 (some 30)) 27 3 (some 31)) 27 4 (some 32)) 27 5 (some 33)) 25 1 (some 27)) 25 2 (some 34)) 0 4 (some 25)) 35 2 (some 36)) 35 3 (some 37)) 35 4 (some 38)) 0 5 (some 35)) 0 6 (some 39)) 0 8 (some 40)) 41 0 (some 42)) 40 0 (some 41)) 43 0 (some 44)) 40 1 (some 43)) 45 0 (some 46)) 40 2 (some 45)) 47 0 (some 48)) 40 3 (some 47)) 1 2 = rfC 1 2 := by simp [ur]
    rw [e]
    rw [qC 1 (by omega)]
    have e2 : (ur rfB 0 1 (some 9)) 1 2 = rfB 1 2 := by simp [ur]
    rw [e2, qB 1 (by omega)]
    have e3 : (ur rfA 0 0 (some 1)) 1 2 = rfA 1 2 := by simp [ur]
    rw [e3]
    exact nA.1.2.2.1
  have r1_3 : rfF 1 3 = some 5 := by
    rw [hrF]
    have e : (ur (ur (ur (ur (ur (ur (ur (ur (ur (ur (ur (ur (ur (ur (ur (ur (ur (ur (ur (ur (ur (ur (ur (ur (ur rfC 0 2 (some 17)) 25 0 (some 26)) 27 0 (some 28)) 27 1 (some 29)) 27 2 (some 30)) 27 3 (some 31)) 27 4 (some 32)) 27 5 (some 33)) 25 1 (some 27)) 25 2 (some 34)) 0 4 (some 25)) 35 2 (some 36)) 35 3 (some 37)) 35 4 (some 38)) 0 5 (some 35)) 0 6 (some 39)) 0 8 (some 40)) 41 0 (some 42)) 40 0 (some 41)) 43 0 (some 44)) 40 1 (some 43)) 45 0 (some 46)) 40 2 (some 45)) 47 0 (some 48)) 40 3 (some 47)) 1 3 = rfC 1 3 := by simp [ur]
    rw [e]
    rw [qC 1 (by omega)]
    have e2 : (ur rfB 0 1 (some 9)) 1 3 = rfB 1 3 := by simp [ur]
    rw [e2, qB 1 (by omega)]
    have e3 : (ur rfA 0 0 (some 1)) 1 3 = rfA 1 3 := by simp [ur]
    rw [e3]
    exact nA.1.2.2.2.1
  have r1_4 : rfF 1 4 = some 6 := by
    rw [hrF]
    have e : (ur (ur (ur (ur (ur (ur (ur (ur (ur (ur (ur (ur (ur (ur (ur (ur (ur (ur (ur (ur (ur (ur (ur (ur (ur rfC 0 2 (some 17)) 25 0 (some 26)) 27 0 (some 28)) 27 1 (some 29)) 27 2 (some 30)) 27 3 (some 31)) 27 4 (some 32)) 27 5 (some 33)) 25 1 (some 27)) 25 2 (some 34)) 0 4 (some 25)) 35 2 (some 36)) 35 3 (some 37)) 35 4 (some 38)) 0 5 (some 35)) 0 6 (some 39)) 0 8 (some 40)) 41 0 (some 42)) 40 0 (some 41)) 43 0 (some 44)) 40 1 (some 43)) 45 0 (some 46)) 40 2 (some 45)) 47 0 (some 48)) 40 3 (some 47)) 1 4 = rfC 1 4 := by simp [ur]
    rw [e]
    rw [qC 1 (by omega)]
    have e2 : (ur rfB 0 1 (some 9)) 1 4 = rfB 1 4 := by simp [ur]
    rw [e2, qB 1 (by omega)]
    have e3 : (ur rfA 0 0 (some 1)) 1 4 = rfA 1 4 := by simp [ur]
    rw [e3]
    exact nA.1.2.2.2.2.1
  have r1_6 : rfF 1 6 = some 7 := by
    rw [hrF]
    have e : (ur (ur (ur (ur (ur (ur (ur (ur (ur (ur (ur (ur (ur (ur (ur (ur (ur (ur (ur (ur (ur (ur (ur (ur (ur rfC 0 2 (some 17)) 25 0 (some 26)) 27 0 (some 28)) 27 1 (some 29)) 27 2 (some 30)) 27 3 (some 31)) 27 4 (some 32)) 27 5 (some 33)) 25 1 (some 27)) 25 2 (some 34)) 0 4 (some 25)) 35 2 (some 36)) 35 3 (some 37)) 35 4 (some 38)) 0 5 (some 35)) 0 6 (some 39)) 0 8 (some 40)) 41 0 (some 42)) 40 0 (some 41)) 43 0 (some 44)) 40 1 (some 43)) 45 0 (some 46)) 40 2 (some 45)) 47 0 (some 48)) 40 3 (some 47)) 1 6 = rfC 1 6 := by simp [ur]
    rw [e]
    rw [qC 1 (by omega)]
    have e2 : (ur rfB 0 1 (some 9)) 1 6 = rfB 1 6 := by simp [ur]
    rw [e2, qB 1 (by omega)]
    have e3 : (ur rfA 0 0 (some 1)) 1 6 = rfA 1 6 := by simp [ur]
    rw [e3]
    exact nA.1.2.2.2.2.2.1
  have r1_7 : rfF 1 7 = some 8 := by
    rw [hrF]
    have e : (ur (ur (ur (ur (ur (ur (ur (ur (ur (ur (ur (ur (ur (ur (ur (ur (ur (ur (ur (ur (ur (ur (ur (ur (ur rfC 0 2 (some 17)) 25 0 (some 26)) 27 0 (some 28)) 27 1 (some 29)) 27 2 (some 30)) 27 3 (some 31)) 27 4 (some 32)) 27 5 (some 33)) 25 1 (some 27)) 25 2 (some 34)) 0 4 (some 25)) 35 2 (some 36)) 35 3 (some 37)) 35 4 (some 38)) 0 5 (some 35)) 0 6 (some 39)) 0 8 (some 40)) 41 0 (some 42)) 40 0 (some 41)) 43 0 (some 44)) 40 1 (some 43)) 45 0 (some 46)) 40 2 (some 45)) 47 0 (some 48)) 40 3 (some 47)) 1 7 = rfC 1 7 := by simp [ur]
    rw [e]
    rw [qC 1 (by omega)]
    have e2 : (ur rfB 0 1 (some 9)) 1 7 = rfB 1 7 := by simp [ur]
    rw [e2, qB 1 (by omega)]
    have e3 : (ur rfA 0 0 (some 1)) 1 7 = rfA 1 7 := by simp [ur]
    rw [e3]
    exact nA.1.2.2.2.2.2.2
  have r9_0 : rfF 9 0 = some 10 := by
    rw [hrF]
    have e : (ur (ur (ur (ur (ur (ur (ur (ur (ur (ur (ur (ur (ur (ur (ur (ur (ur (ur (ur (ur (ur (ur (ur (ur (ur rfC 0 2 (some 17)) 25 0 (some 26)) 27 0 (some 28)) 27 1 (some 29)) 27 2 (some 30)) 27 3 (some 31)) 27 4 (some 32)) 27 5 (some 33)) 25 1 (some 27)) 25 2 (some 34)) 0 4 (some 25)) 35 2 (some 36)) 35 3 (some 37)) 35 4 (some 38)) 0 5 (some 35)) 0 6 (some 39)) 0 8 (some 40)) 41 0 (some 42)) 40 0 (some 41)) 43 0 (some 44)) 40 1 (some 43)) 45 0 (some 46)) 40 2 (some 45)) 47 0 (some 48)) 40 3 (some 47)) 9 0 = rfC 9 0 := by simp [ur]
    rw [e]
    rw [qC 9 (by omega)]
    have e2 : (ur rfB 0 1 (some 9)) 9 0 = rfB 9 0 := by simp [ur]
    rw [e2]
    exact nB.1.1
  have r9_1 : rfF 9 1 = some 11 := by
    rw [hrF]
    have e : (ur (ur (ur (ur (ur (ur (ur (ur (ur (ur (ur (ur (ur (ur (ur (ur (ur (ur (ur (ur (ur (ur (ur (ur (ur rfC 0 2 (some 17)) 25 0 (some 26)) 27 0 (some 28)) 27 1 (some 29)) 27 2 (some 30)) 27 3 (some 31)) 27 4 (some 32)) 27 5 (some 33)) 25 1 (some 27)) 25 2 (some 34)) 0 4 (some 25)) 35 2 (some 36)) 35 3 (some 37)) 35 4 (some 38)) 0 5 (some 35)) 0 6 (some 39)) 0 8 (some 40)) 41 0 (some 42)) 40 0 (some 41)) 43 0 (some 44)) 40 1 (some 43)) 45 0 (some 46)) 40 2 (some 45)) 47 0 (some 48)) 40 3 (some 47)) 9 1 = rfC 9 1 := by simp [ur]
    rw [e]
    rw [qC 9 (by omega)]
    have e2 : (ur rfB 0 1 (some 9)) 9 1 = rfB 9 1 := by simp [ur]
    rw [e2]
    exact nB.1.2.1
  have r9_2 : rfF 9 2 = some 12 := by
    rw [hrF]
    have e : (ur (ur (ur (ur (ur (ur (ur (ur (ur (ur (ur (ur (ur (ur (ur (ur (ur (ur (ur (ur (ur (ur (ur (ur (ur rfC 0 2 (some 17)) 25 0 (some 26)) 27 0 (some 28)) 27 1 (some 29)) 27 2 (some 30)) 27 3 (some 31)) 27 4 (some 32)) 27 5 (some 33)) 25 1 (some 27)) 25 2 (some 34)) 0 4 (some 25)) 35 2 (some 36)) 35 3 (some 37)) 35 4 (some 38)) 0 5 (some 35)) 0 6 (some 39)) 0 8 (some 40)) 41 0 (some 42)) 40 0 (some 41)) 43 0 (some 44)) 40 1 (some 43)) 45 0 (some 46)) 40 2 (some 45)) 47 0 (some 48)) 40 3 (some 47)) 9 2 = rfC 9 2 := by simp [ur]
    rw [e]
    rw [qC 9 (by omega)]
    have e2 : (ur rfB 0 1 (some 9)) 9 2 = rfB 9 2 := by simp [ur]
    rw [e2]
    exact nB.1.2.2.1
  have r9_3 : rfF 9 3 = some 13 := by
    rw [hrF]
    have e : (ur (ur (ur (ur (ur (ur (ur (ur (ur (ur (ur (ur (ur (ur (ur (ur (ur (ur (ur (ur (ur (ur (ur (ur (ur rfC 0 2 (some 17)) 25 0 (some 26)) 27 0 (some 28)) 27 1 (some 29)) 27 2 (some 30)) 27 3 (some 31)) 27 4 (some 32)) 27 5 (some 33)) 25 1 (some 27)) 25 2 (some 34)) 0 4 (some 25)) 35 2 (some 36)) 35 3 (some 37)) 35 4 (some 38)) 0 5 (some 35)) 0 6 (some 39)) 0 8 (some 40)) 41 0 (some 42)) 40 0 (some 41)) 43 0 (some 44)) 40 1 (some 43)) 45 0 (some 46)) 40 2 (some 45)) 47 0 (some 48)) 40 3 (some 47)) 9 3 = rfC 9 3 := by simp [ur]
    rw [e]
    rw [qC 9 (by omega)]
    have e2 : (ur rfB 0 1 (some 9)) 9 3 = rfB 9 3 := by simp [ur]
    rw [e2]
    exact nB.1.2.2.2.1
  have r9_4 : rfF 9 4 = some 14 := by
    rw [hrF]
    have e : (ur (ur (ur (ur (ur (ur (ur (ur (ur (ur (ur (ur (ur (ur (ur (ur (ur (ur (ur (ur (ur (ur (ur (ur (ur rfC 0 2 (some 17)) 25 0 (some 26)) 27 0 (some 28)) 27 1 (some 29)) 27 2 (some 30)) 27 3 (some 31)) 27 4 (some 32)) 27 5 (some 33)) 25 1 (some 27)) 25 2 (some 34)) 0 4 (some 25)) 35 2 (some 36)) 35 3 (some 37)) 35 4 (some 38)) 0 5 (some 35)) 0 6 (some 39)) 0 8 (some 40)) 41 0 (some 42)) 40 0 (some 41)) 43 0 (some 44)) 40 1 (some 43)) 45 0 (some 46)) 40 2 (some 45)) 47 0 (some 48)) 40 3 (some 47)) 9 4 = rfC 9 4 := by simp [ur]
    rw [e]
    rw [qC 9 (by omega)]
    have e2 : (ur rfB 0 1 (some 9)) 9 4 = rfB 9 4 := by simp [ur]
    rw [e2]
    exact nB.1.2.2.2.2.1
  have r9_6 : rfF 9 6 = some 15 := by
    rw [hrF]
    have e : (ur (ur (ur (ur (ur (ur (ur (ur (ur (ur (ur (ur (ur (ur (ur (ur (ur (ur (ur (ur (ur (ur (ur (ur (ur rfC 0 2 (some 17)) 25 0 (some 26)) 27 0 (some 28)) 27 1 (some 29)) 27 2 (some 30)) 27 3 (some 31)) 27 4 (some 32)) 27 5 (some 33)) 25 1 (some 27)) 25 2 (some 34)) 0 4 (some 25)) 35 2 (some 36)) 35 3 (some 37)) 35 4 (some 38)) 0 5 (some 35)) 0 6 (some 39)) 0 8 (some 40)) 41 0 (some 42)) 40 0 (some 41)) 43 0 (some 44)) 40 1 (some 43)) 45 0 (some 46)) 40 2 (some 45)) 47 0 (some 48)) 40 3 (some 47)) 9 6 = rfC 9 6 := by simp [ur]
    rw [e]
    rw [qC 9 (by omega)]
    have e2 : (ur rfB 0 1 (some 9)) 9 6 = rfB 9 6 := by simp [ur]
    rw [e2]
    exact nB.1.2.2.2.2.2.1
  have r9_7 : rfF 9 7 = some 16 := by
    rw [hrF]
    have e : (ur (ur (ur (ur (ur (ur (ur (ur (ur (ur (ur (ur (ur (ur (ur (ur (ur (ur (ur (ur (ur (ur (ur (ur (ur rfC 0 2 (some 17)) 25 0 (some 26)) 27 0 (some 28)) 27 1 (some 29)) 27 2 (some 30)) 27 3 (some 31)) 27 4 (some 32)) 27 5 (some 33)) 25 1 (some 27)) 25 2 (some 34)) 0 4 (some 25)) 35 2 (some 36)) 35 3 (some 37)) 35 4 (some 38)) 0 5 (some 35)) 0 6 (some 39)) 0 8 (some 40)) 41 0 (some 42)) 40 0 (some 41)) 43 0 (some 44)) 40 1 (some 43)) 45 0 (some 46)) 40 2 (some 45)) 47 0 (some 48)) 40 3 (some 47)) 9 7 = rfC 9 7 := by simp [ur]
    rw [e]
    rw [qC 9 (by omega)]
    have e2 : (ur rfB 0 1 (some 9)) 9 7 = rfB 9 7 := by simp [ur]
    rw [e2]
    exact nB.1.2.2.2.2.2.2
  have r17_0 : rfF 17 0 = some 18 := by
    rw [hrF]
    have e : (ur (ur (ur (ur (ur (ur (ur (ur (ur (ur (ur (ur (ur (ur (ur (ur (ur (ur (ur (ur (ur (ur (ur (ur (ur rfC 0 2 (some 17)) 25 0 (some 26)) 27 0 (some 28)) 27 1 (some 29)) 27 2 (some 30)) 27 3 (some 31)) 27 4 (some 32)) 27 5 (some 33)) 25 1 (some 27)) 25 2 (some 34)) 0 4 (some 25)) 35 2 (some 36)) 35 3 (some 37)) 35 4 (some 38)) 0 5 (some 35)) 0 6 (some 39)) 0 8 (some 40)) 41 0 (some 42)) 40 0 (some 41)) 43 0 (some 44)) 40 1 (some 43)) 45 0 (some 46)) 40 2 (some 45)) 47 0 (some 48)) 40 3 (some 47)) 17 0 = rfC 17 0 := by simp [ur]
    rw [e]
    exact nC.1.1
  have r17_1 : rfF 17 1 = some 19 := by
    rw [hrF]
    have e : (ur (ur (ur (ur (ur (ur (ur (ur (ur (ur (ur (ur (ur (ur (ur (ur (ur (ur (ur (ur (ur (ur (ur (ur (ur rfC 0 2 (some 17)) 25 0 (some 26)) 27 0 (some 28)) 27 1 (some 29)) 27 2 (some 30)) 27 3 (some 31)) 27 4 (some 32)) 27 5 (some 33)) 25 1 (some 27)) 25 2 (some 34)) 0 4 (some 25)) 35 2 (some 36)) 35 3 (some 37)) 35 4 (some 38)) 0 5 (some 35)) 0 6 (some 39)) 0 8 (some 40)) 41 0 (some 42)) 40 0 (some 41)) 43 0 (some 44)) 40 1 (some 43)) 45 0 (some 46)) 40 2 (some 45)) 47 0 (some 48)) 40 3 (some 47)) 17 1 = rfC 17 1 := by simp [ur]
    rw [e]
    exact nC.1.2.1
  have r17_2 : rfF 17 2 = some 20 := by
    rw [hrF]
    have e : (ur (ur (ur (ur (ur (ur (ur (ur (ur (ur (ur (ur (ur (ur (ur (ur (ur (ur (ur (ur (ur (ur (ur (ur (ur rfC 0 2 (some 17)) 25 0 (some 26)) 27 0 (some 28)) 27 1 (some 29)) 27 2 (some 30)) 27 3 (some 31)) 27 4 (some 32)) 27 5 (some 33)) 25 1 (some 27)) 25 2 (some 34)) 0 4 (some 25)) 35 2 (some 36)) 35 3 (some 37)) 35 4 (some 38)) 0 5 (some 35)) 0 6 (some 39)) 0 8 (some 40)) 41 0 (some 42)) 40 0 (some 41)) 43 0 (some 44)) 40 1 (some 43)) 45 0 (some 46)) 40 2 (some 45)) 47 0 (some 48)) 40 3 (some 47)) 17 2 = rfC 17 2 := by simp [ur]
    rw [e]
    exact nC.1.2.2.1
  have r17_3 : rfF 17 3 = some 21 := by
    rw [hrF]
    have e : (ur (ur (ur (ur (ur (ur (ur (ur (ur (ur (ur (ur (ur (ur (ur (ur (ur (ur (ur (ur (ur (ur (ur (ur (ur rfC 0 2 (some 17)) 25 0 (some 26)) 27 0 (some 28)) 27 1 (some 29)) 27 2 (some 30)) 27 3 (some 31)) 27 4 (some 32)) 27 5 (some 33)) 25 1 (some 27)) 25 2 (some 34)) 0 4 (some 25)) 35 2 (some 36)) 35 3 (some 37)) 35 4 (some 38)) 0 5 (some 35)) 0 6 (some 39)) 0 8 (some 40)) 41 0 (some 42)) 40 0 (some 41)) 43 0 (some 44)) 40 1 (some 43)) 45 0 (some 46)) 40 2 (some 45)) 47 0 (some 48)) 40 3 (some 47)) 17 3 = rfC 17 3 := by simp [ur]
    rw [e]
    exact nC.1.2.2.2.1
  have r17_4 : rfF 17 4 = some 22 := by
    rw [hrF]
    have e : (ur (ur (ur (ur (ur (ur (ur (ur (ur (ur (ur (ur (ur (ur (ur (ur (ur (ur (ur (ur (ur (ur (ur (ur (ur rfC 0 2 (some 17)) 25 0 (some 26)) 27 0 (some 28)) 27 1 (some 29)) 27 2 (some 30)) 27 3 (some 31)) 27 4 (some 32)) 27 5 (some 33)) 25 1 (some 27)) 25 2 (some 34)) 0 4 (some 25)) 35 2 (some 36)) 35 3 (some 37)) 35 4 (some 38)) 0 5 (some 35)) 0 6 (some 39)) 0 8 (some 40)) 41 0 (some 42)) 40 0 (some 41)) 43 0 (some 44)) 40 1 (some 43)) 45 0 (some 46)) 40 2 (some 45)) 47 0 (some 48)) 40 3 (some 47)) 17 4 = rfC 17 4 := by simp [ur]
    rw [e]
    exact nC.1.2.2.2.2.1
  have r17_6 : rfF 17 6 = some 23 := by
    rw [hrF]
    have e : (ur (ur (ur (ur (ur (ur (ur (ur (ur (ur (ur (ur (ur (ur (ur (ur (ur (ur (ur (ur (ur (ur (ur (ur (ur rfC 0 2 (some 17)) 25 0 (some 26)) 27 0 (some 28)) 27 1 (some 29)) 27 2 (some 30)) 27 3 (some 31)) 27 4 (some 32)) 27 5 (some 33)) 25 1 (some 27)) 25 2 (some 34)) 0 4 (some 25)) 35 2 (some 36)) 35 3 (some 37)) 35 4 (some 38)) 0 5 (some 35)) 0 6 (some 39)) 0 8 (some 40)) 41 0 (some 42)) 40 0 (some 41)) 43 0 (some 44)) 40 1 (some 43)) 45 0 (some 46)) 40 2 (some 45)) 47 0 (some 48)) 40 3 (some 47)) 17 6 = rfC 17 6 := by simp [ur]
    rw [e]
    exact nC.1.2.2.2.2.2.1
  have r17_7 : rfF 17 7 = some 24 := by
    rw [hrF]
    have e : (ur (ur (ur (ur (ur (ur (ur (ur (ur (ur (ur (ur (ur (ur (ur (ur (ur (ur (ur (ur (ur (ur (ur (ur (ur rfC 0 2 (some 17)) 25 0 (some 26)) 27 0 (some 28)) 27 1 (some 29)) 27 2 (some 30)) 27 3 (some 31)) 27 4 (some 32)) 27 5 (some 33)) 25 1 (some 27)) 25 2 (some 34)) 0 4 (some 25)) 35 2 (some 36)) 35 3 (some 37)) 35 4 (some 38)) 0 5 (some 35)) 0 6 (some 39)) 0 8 (some 40)) 41 0 (some 42)) 40 0 (some 41)) 43 0 (some 44)) 40 1 (some 43)) 45 0 (some 46)) 40 2 (some 45)) 47 0 (some 48)) 40 3 (some 47)) 17 7 = rfC 17 7 := by simp [ur]
    rw [e]
    exact nC.1.2.2.2.2.2.2
  have r0_0 : rfF 0 0 = some 1 := by
    rw [hrF]
    have e : (ur (ur (ur (ur (ur (ur (ur (ur (ur (ur (ur (ur (ur (ur (ur (ur (ur (ur (ur (ur (ur (ur (ur (ur (ur rfC 0 2 (some 17)) 25 0 (some 26)) 27 0 (some 28)) 27 1 (some 29)) 27 2 (some 30)) 27 3 (some 31)) 27 4 (some 32)) 27 5 (some 33)) 25 1 (some 27)) 25 2 (some 34)) 0 4 (some 25)) 35 2 (some 36)) 35 3 (some 37)) 35 4 (some 38)) 0 5 (some 35)) 0 6 (some 39)) 0 8 (some 40)) 41 0 (some 42)) 40 0 (some 41)) 43 0 (some 44)) 40 1 (some 43)) 45 0 (some 46)) 40 2 (some 45)) 47 0 (some 48)) 40 3 (some 47)) 0 0 = rfC 0 0 := by simp [ur]
    rw [e, qC 0 (by omega)]
    have e2 : (ur rfB 0 1 (some 9)) 0 0 = rfB 0 0 := by simp [ur]
    rw [e2, qB 0 (by omega)]
    exact ur_same _ _ _ _
  have r0_1 : rfF 0 1 = some 9 := by
    rw [hrF]
    have e : (ur (ur (ur (ur (ur (ur (ur (ur (ur (ur (ur (ur (ur (ur (ur (ur (ur (ur (ur (ur (ur (ur (ur (ur (ur rfC 0 2 (some 17)) 25 0 (some 26)) 27 0 (some 28)) 27 1 (some 29)) 27 2 (some 30)) 27 3 (some 31)) 27 4 (some 32)) 27 5 (some 33)) 25 1 (some 27)) 25 2 (some 34)) 0 4 (some 25)) 35 2 (some 36)) 35 3 (some 37)) 35 4 (some 38)) 0 5 (some 35)) 0 6 (some 39)) 0 8 (some 40)) 41 0 (some 42)) 40 0 (some 41)) 43 0 (some 44)) 40 1 (some 43)) 45 0 (some 46)) 40 2 (some 45)) 47 0 (some 48)) 40 3 (some 47)) 0 1 = rfC 0 1 := by simp [ur]
    rw [e, qC 0 (by omega)]
    exact ur_same _ _ _ _
  have hX : XS _ rfF := XS_of (T := [(11, 0)] ++ [(5, 0)] ++ [(20, 16)] ++ [(20, 8)] ++ [(20, 8)] ++ [(20, 8)] ++ [(20, 8)] ++ [(20, 6)] ++ [(20, 6)] ++ [(5, 0)] ++ [(20, 16)] ++ [(20, 8)] ++ [(20, 8)] ++ [(20, 8)] ++ [(20, 8)] ++ [(20, 6)] ++ [(20, 6)] ++ [(5, 0)] ++ [(20, 16)] ++ [(20, 8)] ++ [(20, 8)] ++ [(20, 8)] ++ [(20, 8)] ++ [(20, 6)] ++ [(20, 6)] ++ [(0, 0)] ++ [(20, 8)] ++ [(23, 6)] ++ [(3, 0)] ++ [(9, 0)] ++ [(10, 0)] ++ [(1, 0)] ++ [(8, 0)] ++ [(2, 0)] ++ [(20, 6)] ++ [(6, 0)] ++ [(20, 160)] ++ [(20, 160)] ++ [(20, 4)] ++ [(21, 6)] ++ [(22, 4)] ++ [(7, 0)] ++ [(20, 40)] ++ [(7, 0)] ++ [(20, 40)] ++ [(7, 0)] ++ [(20, 40)] ++ [(7, 0)] ++ [(20, 40)]) rfl ⟨r0_0, r0_1, (by rw [hrF]; first | rfl | simp [ur]), (by rw [hrF]; first | rfl | simp [ur]), (by rw [hrF]; first | rfl | simp [ur]), (by rw [hrF]; first | rfl | simp [ur]), (by rw [hrF]; first | rfl | simp [ur]), r1_0, r1_1, r1_2, r1_3, r1_4, r1_6, r1_7, r9_0, r9_1, r9_2, r9_3, r9_4, r9_6, r9_7, r17_0, r17_1, r17_2, r17_3, r17_4, r17_6, r17_7, (by rw [hrF]; first | rfl | simp [ur]), (by rw [hrF]; first | rfl | simp [ur]), (by rw [hrF]; first | rfl | simp [ur]), (by rw [hrF]; first | rfl | simp [ur]), (by rw [hrF]; first | rfl | simp [ur]), (by rw [hrF]; first | rfl | simp [ur]), (by rw [hrF]; first | rfl | simp [ur]), (by rw [hrF]; first | rfl | simp [ur]), (by rw [hrF]; first | rfl | simp [ur]), (by rw [hrF]; first | rfl | simp [ur]), (by rw [hrF]; first | rfl | simp [ur]), (by rw [hrF]; first | rfl | simp [ur]), (by rw [hrF]; first | rfl | simp [ur]), (by rw [hrF]; first | rfl | simp [ur]), (by rw [hrF]; first | rfl | simp [ur]), (by rw [hrF]; first | rfl | simp [ur]), (by rw [hrF]; first | rfl | simp [ur]), (by rw [hrF]; first | rfl | simp [ur]), (by rw [hrF]; first | rfl | simp [ur]), (by rw [hrF]; first | rfl | simp [ur]), trivial⟩
  have hgC0 : ∀ k, gC 0 k = 0 := fun k => by rw [pC 0 (by omega) (by omega), pB 0 (by omega) (by omega), pA 0 (by omega) (by omega)]; exact hz k
  have hgF0 : ∀ a, a ≠ 41 → a ≠ 43 → a ≠ 45 → a ≠ 47 → gF a = gC a := fun a p q r s => by rw [hgF, up_row s, up_row r, up_row q, up_row p]
  have hN1 : NewO rfA gF 1 := nA.keep rfl (fun r hr => by rw [hgF0 _ (by omega) (by omega) (by omega) (by omega), pC _ (by omega) (by omega), pB _ (by omega) (by omega)])
  have hXP : XP_ gF [] := ⟨by rw [hgF0 35 (by omega) (by omega) (by omega) (by omega)]; exact hg35 0, by simp, fun i v hv => by simp at hv⟩
  have hXH : XH gF sh0 := by
    have hs41 : ∀ k, gF 42 k = 0 := fun k => by rw [hgF, up_row (by omega), up_row (by omega), up_row (by omega), up_row (by omega)]; exact hsA k
    have hs43 : ∀ k, gF 44 k = 0 := fun k => by rw [hgF, up_row (by omega), up_row (by omega), up_row (by omega)]; exact hsB k
    have hs45 : ∀ k, gF 46 k = 0 := fun k => by rw [hgF, up_row (by omega), up_row (by omega)]; exact hsC k
    have hs47 : ∀ k, gF 48 k = 0 := fun k => by rw [hgF, up_row (by omega)]; exact hsD k
    intro s hs
    rcases (by omega : s = 0 ∨ s = 1 ∨ s = 2 ∨ s = 3) with rfl | rfl | rfl | rfl
    · exact ⟨by rw [hgF, up_row (by omega), up_row (by omega), up_row (by omega)]; exact up_same _ _ _ _, by rw [hgF, up_row (by omega), up_row (by omega), up_row (by omega), up_ne (by omega)]; exact hg41 2, fun k _ => (hs41 k).trans (if_neg (by omega)).symm⟩
    · exact ⟨by rw [hgF, up_row (by omega), up_row (by omega)]; exact up_same _ _ _ _, by rw [hgF, up_row (by omega), up_row (by omega), up_ne (by omega)]; exact hg43 2, fun k _ => (hs43 k).trans (if_neg (by omega)).symm⟩
    · exact ⟨by rw [hgF, up_row (by omega)]; exact up_same _ _ _ _, by rw [hgF, up_row (by omega), up_ne (by omega)]; exact hg45 2, fun k _ => (hs45 k).trans (if_neg (by omega)).symm⟩
    · exact ⟨by rw [hgF]; exact up_same _ _ _ _, by rw [hgF, up_ne (by omega)]; exact hg47 2, fun k _ => (hs47 k).trans (if_neg (by omega)).symm⟩
  refine lp_X11_init (g0 := gF) hX (fun g2 x1 hp2 hf2 => ?_) 53 0 _ gF (by omega) rfl hXP TPF.rf
  have h207 : g2 0 7 = nI 0 := by rw [hf2.1 0 (by omega) (by omega), hgF0 0 (by omega) (by omega) (by omega) (by omega)]; exact hgC0 7
  have hTX : TX ([(11, 0)] ++ [(5, 0)] ++ [(20, 16)] ++ [(20, 8)] ++ [(20, 8)] ++ [(20, 8)] ++ [(20, 8)] ++ [(20, 6)] ++ [(20, 6)] ++ [(5, 0)] ++ [(20, 16)] ++ [(20, 8)] ++ [(20, 8)] ++ [(20, 8)] ++ [(20, 8)] ++ [(20, 6)] ++ [(20, 6)] ++ [(5, 0)] ++ [(20, 16)] ++ [(20, 8)] ++ [(20, 8)] ++ [(20, 8)] ++ [(20, 8)] ++ [(20, 6)] ++ [(20, 6)] ++ [(0, 0)] ++ [(20, 8)] ++ [(23, 6)] ++ [(3, 0)] ++ [(9, 0)] ++ [(10, 0)] ++ [(1, 0)] ++ [(8, 0)] ++ [(2, 0)] ++ [(20, 6)] ++ [(6, 0)] ++ [(20, 160)] ++ [(20, 160)] ++ [(20, 4)] ++ [(21, 6)] ++ [(22, 4)] ++ [(7, 0)] ++ [(20, 40)] ++ [(7, 0)] ++ [(20, 40)] ++ [(7, 0)] ++ [(20, 40)] ++ [(7, 0)] ++ [(20, 40)]) rfF g2 0 (fun _ _ => []) := ⟨by omega, fun t ht => absurd ht (Nat.not_lt_zero t)⟩
  refine xX11_init_132 ?_
  refine xX11_init_133A (hX.1 _ _ rfl) (mc1 := 4) (ms1 := 328) (kc1 := 52) (ks1 := 1089) rfl rfl rfl rfl rfl (s_X11_readText (la := 49) hX hp2 lawB_l.2 rfl (by omega) (by omega) (by omega) (by omega) h207 (by omega) hTX (fun gz bz hRz hpz hfz hcz => ?_) (fun rfz gz css hRz hclz hwz hflz hpz hxz hrqz hfz hcz hSz => ?_))
  · exact absurd (tx0.symm.trans hRz) (by intro z; cases z)
  · refine xX11_init_136 rfl ?_
    refine xX11_init_137 rfl rfl ?_
    have ecs : css = css0 := by
      have := tx0.symm.trans hRz
      injection this with this
      exact this.symm
    subst ecs
    refine hQ _ _ hxz ?_ ?_ ?_ hpz hcz ?_ hSz
    · exact ⟨hclz, hwz, hflz⟩
    · exact o0_OEq (rf := rfA) (hN1.keep rfl (fun r hr => by rw [hfz.1 _ (by omega) (by omega) (by omega) (by omega) (by omega) (by omega), hf2.1 _ (by omega) (by omega)]))
    · intro s hs
      obtain ⟨a1, a2, a3⟩ := hXH s hs
      have e : ∀ a, 41 ≤ a → a ≤ 48 → gz a = gF a := fun a p q => by rw [hfz.1 a (by omega) (by omega) (by omega) (by omega) (by omega) (by omega), hf2.1 a (by omega) (by omega)]
      exact ⟨by rw [e _ (by omega) (by omega)]; exact a1, by rw [e _ (by omega) (by omega)]; exact a2, fun k hk => by rw [e _ (by omega) (by omega)]; exact a3 k hk⟩
    · rw [hfz.2 3 (by omega), hf2.1 0 (by omega) (by omega), hgF0 0 (by omega) (by omega) (by omega) (by omega)]; exact hgC0 3
