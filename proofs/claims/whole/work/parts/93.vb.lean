-- ===== both in one heap =====
def XRl (T : List (Nat × Nat)) (rf : Nat → Nat → Option Nat) (g : Nat → Nat → Int32) (o : OV) (nc t tc : Nat) (css : Nat → Nat → List Int32) (sh : Nat → Nat → Int32) (tp : List Int32) (ko : OV) (kn : Nat) : Prop := OB T rf g 1 o nc tc (fun q => lwM (css q)) t ∧ XH g sh ∧ XP_ g tp ∧ g 0 7 = nI tc ∧ (g 0 3 ≠ 0 → OEq (XO g 17) ko kn)
def MRl_ (T : List (Nat × Nat)) (rf : Nat → Nat → Option Nat) (g : Nat → Nat → Int32) (o : OV) (nc tc : Nat) (css : Nat → Nat → List Int32) (sh : Nat → Nat → Int32) (tp : List Int32) (ko : OV) (kn : Nat) : Prop := MS T rf ∧ OEq (MOv g) o nc ∧ MH g sh ∧ MTp g tp ∧ g 53 15 = nI tc ∧ (∀ q, q < tc → ML g q (css q)) ∧ WR g ∧ (g 53 17 ≠ 0 → IMg g ko kn)
def RLg (T : List (Nat × Nat)) (rf : Nat → Nat → Option Nat) (g : Nat → Nat → Int32) (o : OV) (nc t tc : Nat) (css : Nat → Nat → List Int32) (sh : Nat → Nat → Int32) (tp : List Int32) (ko : OV) (kn kt : Nat) : Prop := XRl T rf g o nc t tc css sh tp ko kn ∧ MRl_ T rf g o nc tc css sh tp ko kn ∧ (g 0 3 = 0 ↔ g 53 17 = 0) ∧ Gd o nc t ∧ t < tc ∧ tc ≤ 6 ∧ Sz sh ∧ TB tp ∧ T.length = 73 + 4 * tc ∧ (g 53 17 ≠ 0 → Gd ko kn kt ∧ kt < tc ∧ kn ≤ nc ∧ KC o ko kn)
/-- the reference's rows stay -/
def M53 (g g' : Nat → Nat → Int32) : Prop := ∀ a, 53 ≤ a → a < 77 → g' a = g a
/-- the class's rows stay -/
def X53 (g g' : Nat → Nat → Int32) : Prop := ∀ a, (a < 53 ∨ 77 ≤ a) → g' a = g a
theorem VF.m5 {g g' : Nat → Nat → Int32} (h : VF g g') : M53 g g' := fun a p q => h.1 a (by omega) (by omega) (by omega) (by omega) (by omega) (by omega)
theorem SF.m5 {g g' : Nat → Nat → Int32} (h : SF g g') : M53 g g' := fun a p q => h.1 a (by omega) (by omega) (by omega) (by omega) (by omega) (by omega) (by omega)
theorem UF.m5 {g g' : Nat → Nat → Int32} (h : UF g g') : M53 g g' := fun a p q => h a (by omega)
theorem HF.m5 {g g' : Nat → Nat → Int32} (h : HF g g') : M53 g g' := fun a p q => h a (by omega)
theorem TPF.m5 {g g' : Nat → Nat → Int32} (h : TPF g g') : M53 g g' := fun a p q => h.1 a (by omega) (by omega)
theorem MV.x5 {g g' : Nat → Nat → Int32} (h : MV g g') : X53 g g' := fun a p => h.1 a (by omega)
theorem MQm.x5 {g g' : Nat → Nat → Int32} (h : MQm g g') : X53 g g' := fun a p => h.1 a (by omega)
theorem MG.x5 {g g' : Nat → Nat → Int32} (h : MG g g') : X53 g g' := fun a p => h a (by omega) (by omega) (by omega)
theorem MIm.x5 {g g' : Nat → Nat → Int32} (h : MIm g g') : X53 g g' := fun a p => h.1 a (by omega) (by omega)
theorem MTF.x5 {g g' : Nat → Nat → Int32} (h : MTF g g') : X53 g g' := fun a p => h.1 a (by omega) (by omega)
theorem MTx.x5 {tc : Nat} {g g' : Nat → Nat → Int32} (h : MTx tc g g') : X53 g g' := fun a p => h.1 a (by omega) (by omega) (by omega) (by omega)
theorem MS.rf2 {T : List (Nat × Nat)} {rf rf2 : Nat → Nat → Option Nat} (h : MS T rf) (hr : ∀ a, a ≠ 25 → rf2 a = rf a) : MS T rf2 := ⟨h.1, fun a k b hb => by
  have : a ≠ 25 := fun z => by subst z; cases hb
  rw [hr a this]; exact h.2 a k b hb⟩
theorem ZR.me {T : List (Nat × Nat)} {rf : Nat → Nat → Option Nat} (h : XS T rf) : ZR T rf rf := ⟨h, fun _ _ => rfl⟩
theorem MOv.m5 {g g' : Nat → Nat → Int32} (h : M53 g g') : MOv g' = MOv g := MOv.keep (fun a p q => h a p (by omega))
theorem ML.m5 {g g' : Nat → Nat → Int32} {q : Nat} {cs : Nat → List Int32} (h : ML g q cs) (hf : M53 g g') : ML g' q cs := h.keep (hf 62 (by omega) (by omega)) (hf 63 (by omega) (by omega))
theorem MH.m5 {g g' : Nat → Nat → Int32} {sh : Nat → Nat → Int32} (h : MH g sh) (hf : M53 g g') : MH g' sh := h.rows (hf 65 (by omega) (by omega)) (hf 66 (by omega) (by omega)) (hf 67 (by omega) (by omega))
theorem MTp.m5 {g g' : Nat → Nat → Int32} {tp : List Int32} (h : MTp g tp) (hf : M53 g g') : MTp g' tp := ⟨by rw [hf 53 (by omega) (by omega)]; exact h.1, h.2.1, fun i v hv => by rw [hf 61 (by omega) (by omega)]; exact h.2.2 i v hv⟩
theorem WR.m5 {g g' : Nat → Nat → Int32} (h : WR g) (hf : M53 g g') : WR g' := fun k hk c hc => by rw [hf 69 (by omega) (by omega)]; exact h k hk c hc
theorem IMg.of {g g' : Nat → Nat → Int32} {ko : OV} {kn : Nat} (h : IMg g ko kn) (h1 : ∀ k, 18 ≤ k → k ≤ 22 → g' 53 k = g 53 k) (h2 : g' 64 = g 64) : IMg g' ko kn := by
  obtain ⟨⟨a1, a2, a3, a4, a5⟩, a6, a7, a8⟩ := h
  exact ⟨⟨(h1 _ (by omega) (by omega)).trans a1, (h1 _ (by omega) (by omega)).trans a2, (h1 _ (by omega) (by omega)).trans a3, (h1 _ (by omega) (by omega)).trans a4, (h1 _ (by omega) (by omega)).trans a5⟩, by rw [h2]; exact a6, by rw [h2]; exact a7, by rw [h2]; exact a8⟩
theorem XP_.of {g g' : Nat → Nat → Int32} {tp : List Int32} (h : XP_ g tp) (h1 : g' 35 0 = g 35 0) (h2 : g' 36 = g 36) : XP_ g' tp := ⟨h1.trans h.1, h.2.1, fun i v hv => by rw [h2]; exact h.2.2 i v hv⟩

theorem RL.mc {T : List (Nat × Nat)} {rf : Nat → Nat → Option Nat} {rf2 : Nat → Nat → Option Nat} {g : Nat → Nat → Int32} {g2 : Nat → Nat → Int32} {o : OV} {nc : Nat} {t : Nat} {tc : Nat} {css : Nat → Nat → List Int32} {sh : Nat → Nat → Int32} {tp : List Int32} {ko : OV} {kn : Nat} {kt : Nat} (h : RLg T rf g o nc t tc css sh tp ko kn kt) (hr : ∀ a, a ≠ 25 → rf2 a = rf a) (hf : M53 g g2) : MC T rf2 g2 o nc t (css t) := by
  obtain ⟨-, ⟨m1, m2, m3, m4, m5, m6, m7, m8⟩, -, hG, ht, h6, -⟩ := h
  exact ⟨⟨m1.rf2 hr, by rw [MOv.m5 hf]; exact m2, hG.1, hG.2.1, by omega, (m6 t ht).m5 hf⟩, hG.2.2.1⟩
theorem RL.ms {T : List (Nat × Nat)} {rf : Nat → Nat → Option Nat} {rf2 : Nat → Nat → Option Nat} {g : Nat → Nat → Int32} {o : OV} {nc : Nat} {t : Nat} {tc : Nat} {css : Nat → Nat → List Int32} {sh : Nat → Nat → Int32} {tp : List Int32} {ko : OV} {kn : Nat} {kt : Nat} (h : RLg T rf g o nc t tc css sh tp ko kn kt) (hr : ∀ a, a ≠ 25 → rf2 a = rf a) : MS T rf2 := h.2.1.1.rf2 hr
theorem RL.mh {T : List (Nat × Nat)} {rf : Nat → Nat → Option Nat} {g : Nat → Nat → Int32} {g2 : Nat → Nat → Int32} {o : OV} {nc : Nat} {t : Nat} {tc : Nat} {css : Nat → Nat → List Int32} {sh : Nat → Nat → Int32} {tp : List Int32} {ko : OV} {kn : Nat} {kt : Nat} (h : RLg T rf g o nc t tc css sh tp ko kn kt) (hf : M53 g g2) : MH g2 sh := h.2.1.2.2.1.m5 hf
theorem RL.gen {T : List (Nat × Nat)} {rf : Nat → Nat → Option Nat} {rf2 : Nat → Nat → Option Nat} {g : Nat → Nat → Int32} {g2 : Nat → Nat → Int32} {o : OV} {o2 : OV} {nc : Nat} {n2 : Nat} {t : Nat} {t2 : Nat} {tc : Nat} {css : Nat → Nat → List Int32} {sh : Nat → Nat → Int32} {sh2 : Nat → Nat → Int32} {tp : List Int32} {tp2 : List Int32} {ko : OV} {kn : Nat} {kt : Nat} {ko2 : OV} {kn2 kt2 : Nat} (h : RLg T rf g o nc t tc css sh tp ko kn kt) (hX : XS T rf2) (hr2 : ∀ a, a ≠ 25 → rf2 a = rf a)
    (hL : ∀ a, 49 ≤ a → (a < 53 ∨ 77 ≤ a) → (a % 4 = 2 ∨ a % 4 = 3) → g2 a = g a) (h62 : g2 62 = g 62) (h63 : g2 63 = g 63) (h69 : g2 69 = g 69) (h7 : g2 0 7 = g 0 7) (h15 : g2 53 15 = g 53 15)
    (hXO : OEq (XO g2 1) o2 n2) (hMO : OEq (MOv g2) o2 n2) (hXH : XH g2 sh2) (hMH : MH g2 sh2) (hXP : XP_ g2 tp2) (hMP : MTp g2 tp2)
    (hI : (g2 0 3 ≠ 0 → OEq (XO g2 17) ko2 kn2) ∧ (g2 53 17 ≠ 0 → IMg g2 ko2 kn2) ∧ (g2 0 3 = 0 ↔ g2 53 17 = 0))
    (hG : Gd o2 n2 t2) (ht : t2 < tc) (hS : Sz sh2) (hB : TB tp2) (hK : g2 53 17 ≠ 0 → Gd ko2 kn2 kt2 ∧ kt2 < tc ∧ kn2 ≤ n2 ∧ KC o2 ko2 kn2) : RLg T rf2 g2 o2 n2 t2 tc css sh2 tp2 ko2 kn2 kt2 := by
  obtain ⟨⟨⟨x1, x2, x3, -, -, -, -⟩, -, -, x7, -⟩, ⟨m1, -, -, -, m5, m6, m7, -⟩, -, -, -, h6, -, -, hl, -⟩ := h
  exact ⟨⟨⟨hX, x2, x3.keep hr2 hL, hXO, hG.1, hG.2.1, ht⟩, hXH, hXP, h7.trans x7, hI.1⟩, ⟨m1.rf2 hr2, hMO, hMH, hMP, h15.trans m5, fun q hq => (m6 q hq).keep h62 h63, fun k hk c hc => by rw [h69]; exact m7 k hk c hc, hI.2.1⟩, hI.2.2, hG, ht, h6, hS, hB, hl, hK⟩
theorem RL.tx {T : List (Nat × Nat)} {rf : Nat → Nat → Option Nat} {rf2 : Nat → Nat → Option Nat} {g : Nat → Nat → Int32} {g2 : Nat → Nat → Int32} {o : OV} {nc : Nat} {t : Nat} {tc : Nat} {css : Nat → Nat → List Int32} {sh : Nat → Nat → Int32} {tp : List Int32} {ko : OV} {kn : Nat} {kt : Nat} (h : RLg T rf g o nc t tc css sh tp ko kn kt) (hz : ZR T rf rf2) (hv : VF g g2) : RLg T rf2 g2 o nc t tc css sh tp ko kn kt := by
  have hm := hv.m5
  have e : ∀ a, 53 ≤ a → a < 77 → g2 a = g a := hm
  have e53 : g2 53 = g 53 := e 53 (by omega) (by omega)
  obtain ⟨⟨x1, x2, x3, x7, x8⟩, ⟨m1, m2, m3, m4, m5, m6, m7, m8⟩, hfl, hG, ht, h6, hS, hB, hl, hK⟩ := id h
  refine RL.gen h hz.1 hz.2 (fun a p q r => hv.1 a (by omega) (by omega) (by omega) (by omega) (by omega) (by omega)) (e _ (by omega) (by omega)) (e _ (by omega) (by omega)) (e _ (by omega) (by omega)) (hv.2 7 (by omega)) (by rw [e53]) (x1.vf hz hv).2.2.2.1 (by rw [MOv.m5 hm]; exact m2) (hv.xh x2) (m3.m5 hm) (x3.of (congrFun (hv.1 35 (by omega) (by omega) (by omega) (by omega) (by omega) (by omega)) 0) (hv.1 36 (by omega) (by omega) (by omega) (by omega) (by omega) (by omega))) (m4.m5 hm) ⟨fun z => ?_, fun z => ?_, ?_⟩ hG ht hS hB (by rw [e53]; exact hK)
  · rw [hv.2 3 (by omega)] at z
    exact (x8 z).rows (fun r hr => hv.1 (17 + r) (by omega) (by omega) (by omega) (by omega) (by omega) (by omega))
  · rw [e53] at z
    exact (m8 z).of (fun k _ _ => by rw [e53]) (e 64 (by omega) (by omega))
  · rw [hv.2 3 (by omega), e53]; exact hfl
theorem RL.ch {T : List (Nat × Nat)} {rf : Nat → Nat → Option Nat} {g : Nat → Nat → Int32} {g2 : Nat → Nat → Int32} {g3 : Nat → Nat → Int32} {o : OV} {o2 : OV} {nc : Nat} {n2 : Nat} {t : Nat} {t2 : Nat} {tc : Nat} {css : Nat → Nat → List Int32} {sh : Nat → Nat → Int32} {tp : List Int32} {ko : OV} {kn : Nat} {kt : Nat} (h : RLg T rf g o nc t tc css sh tp ko kn kt) (hu : UF g g2) (hXO : OEq (XO g2 1) o2 n2) (hv : MV g2 g3) (hMO : OEq (MOv g3) o2 n2) (hG : Gd o2 n2 t2) (ht : t2 < tc) (hn : nc ≤ n2) (hc : ∀ {ko : OV} {kn : Nat}, kn ≤ nc → KC o ko kn → KC o2 ko kn) : RLg T rf g3 o2 n2 t2 tc css sh tp ko kn kt := by
  obtain ⟨⟨x1, x2, x3, x7, x8⟩, ⟨m1, m2, m3, m4, m5, m6, m7, m8⟩, hfl, -, -, h6, hS, hB, hl, hK⟩ := id h
  have hx := hv.x5
  have e : ∀ a, a < 1 ∨ (8 < a ∧ (a < 53 ∨ (61 ≤ a ∧ a ≤ 70) ∨ 76 < a)) → g3 a = g a := fun a p => (hv.1 a (by omega)).trans (hu a (by omega))
  have f : ∀ k, k ≠ 1 → k ≠ 2 → k ≠ 3 → k ≠ 10 → k ≠ 16 → k ≠ 42 → k ≠ 43 → g3 53 k = g 53 k := fun k a b c d i j l => (hv.2 k a b c d i j l).trans (congrFun (hu 53 (by omega)) k)
  refine RL.gen h x1.1 (fun _ _ => rfl) (fun a p q r => e a (by omega)) (e _ (by omega)) (e _ (by omega)) (e _ (by omega)) (congrFun (e 0 (by omega)) 7) (f 15 (by omega) (by omega) (by omega) (by omega) (by omega) (by omega) (by omega)) (hXO.rows (fun r hr => hx _ (by omega))) hMO (x2.keep (fun a p q => e a (by omega))) (m3.rows (e _ (by omega)) (e _ (by omega)) (e _ (by omega))) (x3.of (congrFun (e 35 (by omega)) 0) (e 36 (by omega))) ⟨(f 12 (by omega) (by omega) (by omega) (by omega) (by omega) (by omega) (by omega)).trans m4.1, m4.2.1, fun i v hv2 => by rw [e 61 (by omega)]; exact m4.2.2 i v hv2⟩ ⟨fun z => ?_, fun z => ?_, ?_⟩ hG ht hS hB (fun z => ?_)
  · rw [e 0 (by omega)] at z
    exact (x8 z).rows (fun r hr => e (17 + r) (by omega))
  · rw [f 17 (by omega) (by omega) (by omega) (by omega) (by omega) (by omega) (by omega)] at z
    exact (m8 z).of (fun k p q => f k (by omega) (by omega) (by omega) (by omega) (by omega) (by omega) (by omega)) (e 64 (by omega))
  · rw [e 0 (by omega), f 17 (by omega) (by omega) (by omega) (by omega) (by omega) (by omega) (by omega)]; exact hfl
  · rw [f 17 (by omega) (by omega) (by omega) (by omega) (by omega) (by omega) (by omega)] at z
    obtain ⟨k1, k2, k3, k4⟩ := hK z
    exact ⟨k1, k2, by omega, hc k3 k4⟩
theorem RL.tm {T : List (Nat × Nat)} {rf : Nat → Nat → Option Nat} {g : Nat → Nat → Int32} {g2 : Nat → Nat → Int32} {o : OV} {nc : Nat} {t : Nat} {tc : Nat} {css : Nat → Nat → List Int32} {sh : Nat → Nat → Int32} {tp : List Int32} {ko : OV} {kn : Nat} {kt : Nat} (h : RLg T rf g o nc t tc css sh tp ko kn kt) (hMO : OEq (MOv g2) o nc) (hv : MV g g2) : RLg T rf g2 o nc t tc css sh tp ko kn kt := RL.ch h UF.rf h.1.1.2.2.2.1 hv hMO h.2.2.2.1 h.2.2.2.2.1 (Nat.le_refl _) (fun _ hk => hk)
/-- sheets and film -/
theorem RL.sq {T : List (Nat × Nat)} {rf : Nat → Nat → Option Nat} {rf2 : Nat → Nat → Option Nat} {g : Nat → Nat → Int32} {g2 : Nat → Nat → Int32} {g3 : Nat → Nat → Int32} {o : OV} {nc : Nat} {t : Nat} {tc : Nat} {css : Nat → Nat → List Int32} {sh : Nat → Nat → Int32} {sh2 : Nat → Nat → Int32} {tp : List Int32} {ko : OV} {kn : Nat} {kt : Nat} (h : RLg T rf g o nc t tc css sh tp ko kn kt) (hz : ZR T rf rf2) (hv : SF g g2) (hXH : XH g2 sh2) (hq : MQm g2 g3) (hMO : OEq (MOv g3) o nc) (hMH : MH g3 sh2) (hS2 : Sz sh2) : RLg T rf2 g3 o nc t tc css sh2 tp ko kn kt := by
  obtain ⟨⟨x1, x2, x3, x7, x8⟩, ⟨m1, m2, m3, m4, m5, m6, m7, m8⟩, hfl, hG, ht, h6, hS, hB, hl, hK⟩ := id h
  have e : ∀ a, a ≠ 0 → (a < 9 ∨ 16 < a) → (a < 41 ∨ 48 < a) → a ≠ 25 → a ≠ 26 → a ≠ 34 → (a < 49 ∨ (61 ≤ a ∧ a ≤ 64) ∨ (68 ≤ a ∧ a ≤ 70) ∨ (a < 53 ∨ 77 ≤ a) ∧ (a % 4 = 2 ∨ a % 4 = 3)) → g3 a = g a := fun a p q r s u v w => (hq.1 a (by omega)).trans (hv.1 a p q r s u v (by omega))
  have e0 : ∀ k, k < 9 → g3 0 k = g 0 k := fun k hk => (congrFun (hq.1 0 (by omega)) k).trans (hv.2 k hk)
  have f : ∀ k, k ≠ 1 → k ≠ 2 → k ≠ 3 → k ≠ 10 → k ≠ 16 → k ≠ 42 → k ≠ 43 → g3 53 k = g 53 k := fun k a b c d i j l => (hq.2 k a b c d i j l).trans (congrFun (hv.m5 53 (by omega) (by omega)) k)
  refine RL.gen h hz.1 hz.2 (fun a p q r => e a (by omega) (by omega) (by omega) (by omega) (by omega) (by omega) (by omega)) (e _ (by omega) (by omega) (by omega) (by omega) (by omega) (by omega) (by omega)) (e _ (by omega) (by omega) (by omega) (by omega) (by omega) (by omega) (by omega)) (e _ (by omega) (by omega) (by omega) (by omega) (by omega) (by omega) (by omega)) (e0 7 (by omega)) (f 15 (by omega) (by omega) (by omega) (by omega) (by omega) (by omega) (by omega)) (x1.2.2.2.1.rows (fun r hr => e _ (by omega) (by omega) (by omega) (by omega) (by omega) (by omega) (by omega))) hMO (hXH.keep (fun a p q => hq.x5 a (by omega))) hMH (x3.of (congrFun (e 35 (by omega) (by omega) (by omega) (by omega) (by omega) (by omega) (by omega)) 0) (e 36 (by omega) (by omega) (by omega) (by omega) (by omega) (by omega) (by omega))) ⟨(f 12 (by omega) (by omega) (by omega) (by omega) (by omega) (by omega) (by omega)).trans m4.1, m4.2.1, fun i v hv2 => by rw [e 61 (by omega) (by omega) (by omega) (by omega) (by omega) (by omega) (by omega)]; exact m4.2.2 i v hv2⟩ ⟨fun z => ?_, fun z => ?_, ?_⟩ hG ht hS2 hB (fun z => ?_)
  · rw [e0 3 (by omega)] at z
    exact (x8 z).rows (fun r hr => e (17 + r) (by omega) (by omega) (by omega) (by omega) (by omega) (by omega) (by omega))
  · rw [f 17 (by omega) (by omega) (by omega) (by omega) (by omega) (by omega) (by omega)] at z
    exact (m8 z).of (fun k p q => f k (by omega) (by omega) (by omega) (by omega) (by omega) (by omega) (by omega)) (e 64 (by omega) (by omega) (by omega) (by omega) (by omega) (by omega) (by omega))
  · rw [e0 3 (by omega), f 17 (by omega) (by omega) (by omega) (by omega) (by omega) (by omega) (by omega)]; exact hfl
  · rw [f 17 (by omega) (by omega) (by omega) (by omega) (by omega) (by omega) (by omega)] at z
    exact hK z
theorem RL.sh {T : List (Nat × Nat)} {rf : Nat → Nat → Option Nat} {g : Nat → Nat → Int32} {g2 : Nat → Nat → Int32} {g3 : Nat → Nat → Int32} {o : OV} {nc : Nat} {t : Nat} {tc : Nat} {css : Nat → Nat → List Int32} {sh : Nat → Nat → Int32} {sh2 : Nat → Nat → Int32} {tp : List Int32} {ko : OV} {kn : Nat} {kt : Nat} (h : RLg T rf g o nc t tc css sh tp ko kn kt) (hv : HF g g2) (hXH : XH g2 sh2) (hq : MG g2 g3) (hMH : MH g3 sh2) (hS2 : Sz sh2) : RLg T rf g3 o nc t tc css sh2 tp ko kn kt := RL.sq h (ZR.me h.1.1.1) hv.sf hXH hq.mq (by rw [hq.mo, MOv.m5 hv.m5]; exact h.2.1.2.1) hMH hS2
theorem RL.fe {T : List (Nat × Nat)} {rf : Nat → Nat → Option Nat} {g : Nat → Nat → Int32} {g2 : Nat → Nat → Int32} {g3 : Nat → Nat → Int32} {o : OV} {nc : Nat} {t : Nat} {tc : Nat} {css : Nat → Nat → List Int32} {sh : Nat → Nat → Int32} {tp : List Int32} {tp2 : List Int32} {ko : OV} {kn : Nat} {kt : Nat} (h : RLg T rf g o nc t tc css sh tp ko kn kt) (hv : TPF g g2) (hXP : XP_ g2 tp2) (hq : MTF g2 g3) (hMP : MTp g3 tp2) (hB2 : TB tp2) : RLg T rf g3 o nc t tc css sh tp2 ko kn kt := by
  obtain ⟨⟨x1, x2, x3, x7, x8⟩, ⟨m1, m2, m3, m4, m5, m6, m7, m8⟩, hfl, hG, ht, h6, hS, hB, hl, hK⟩ := id h
  have e : ∀ a, a ≠ 35 → a ≠ 36 → a ≠ 53 → a ≠ 61 → g3 a = g a := fun a p q r s => (hq.1 a r s).trans (hv.1 a p q)
  have f : ∀ k, k ≠ 12 → g3 53 k = g 53 k := fun k hk => (hq.2 k hk).trans (congrFun (hv.1 53 (by omega) (by omega)) k)
  refine RL.gen h x1.1 (fun _ _ => rfl) (fun a p q r => e a (by omega) (by omega) (by omega) (by omega)) (e _ (by omega) (by omega) (by omega) (by omega)) (e _ (by omega) (by omega) (by omega) (by omega)) (e _ (by omega) (by omega) (by omega) (by omega)) (congrFun (e 0 (by omega) (by omega) (by omega) (by omega)) 7) (f 15 (by omega)) (x1.2.2.2.1.rows (fun r hr => e _ (by omega) (by omega) (by omega) (by omega))) (OEq.tr ?_ m2) (x2.keep (fun a p q => e a (by omega) (by omega) (by omega) (by omega))) (m3.rows (e _ (by omega) (by omega) (by omega) (by omega)) (e _ (by omega) (by omega) (by omega) (by omega)) (e _ (by omega) (by omega) (by omega) (by omega))) (hXP.of (congrFun (hq.1 35 (by omega) (by omega)) 0) (hq.1 36 (by omega) (by omega))) hMP ⟨fun z => ?_, fun z => ?_, ?_⟩ hG ht hS hB2 (fun z => ?_)
  · refine ⟨⟨f _ (by omega), f _ (by omega), f _ (by omega), f _ (by omega), f _ (by omega)⟩, fun i _ => ?_, fun c _ => ⟨?_, ?_, ?_, ?_⟩, fun k _ => ⟨?_, ?_⟩⟩
    · exact congrFun (e 54 (by omega) (by omega) (by omega) (by omega)) i
    · exact congrFun (e 55 (by omega) (by omega) (by omega) (by omega)) c
    · exact congrFun (e 56 (by omega) (by omega) (by omega) (by omega)) c
    · exact congrFun (e 57 (by omega) (by omega) (by omega) (by omega)) c
    · exact congrFun (e 58 (by omega) (by omega) (by omega) (by omega)) c
    · exact congrFun (e 59 (by omega) (by omega) (by omega) (by omega)) k
    · exact congrFun (e 60 (by omega) (by omega) (by omega) (by omega)) k
  · rw [e 0 (by omega) (by omega) (by omega) (by omega)] at z
    exact (x8 z).rows (fun r hr => e (17 + r) (by omega) (by omega) (by omega) (by omega))
  · rw [f 17 (by omega)] at z
    exact (m8 z).of (fun k p q => f k (by omega)) (e 64 (by omega) (by omega) (by omega) (by omega))
  · rw [e 0 (by omega) (by omega) (by omega) (by omega), f 17 (by omega)]; exact hfl
  · rw [f 17 (by omega)] at z
    exact hK z
theorem RL.im {T : List (Nat × Nat)} {rf : Nat → Nat → Option Nat} {g : Nat → Nat → Int32} {g2 : Nat → Nat → Int32} {g3 : Nat → Nat → Int32} {o : OV} {nc : Nat} {t : Nat} {tc : Nat} {css : Nat → Nat → List Int32} {sh : Nat → Nat → Int32} {tp : List Int32} {ko : OV} {kn : Nat} {kt : Nat} (h : RLg T rf g o nc t tc css sh tp ko kn kt) (hK2 : OEq (XO g2 17) o nc) (hf1 : g2 0 3 = 1) (hv : ∀ a, a ≠ 0 → (a < 17 ∨ 24 < a) → g2 a = g a) (hv0 : ∀ k, k ≠ 3 → g2 0 k = g 0 k) (hMO : OEq (MOv g3) o nc) (hIM : IMg g3 o nc) (hf2 : g3 53 17 = 1) (hq : MIm g2 g3) : RLg T rf g3 o nc t tc css sh tp o nc t := by
  obtain ⟨⟨x1, x2, x3, x7, x8⟩, ⟨m1, m2, m3, m4, m5, m6, m7, m8⟩, hfl, hG, ht, h6, hS, hB, hl, hK⟩ := id h
  have e : ∀ a, a ≠ 0 → (a < 17 ∨ 24 < a) → a ≠ 53 → a ≠ 64 → g3 a = g a := fun a p q r s => (hq.1 a r s).trans (hv a p q)
  have e0 : ∀ k, k ≠ 3 → g3 0 k = g 0 k := fun k hk => (congrFun (hq.1 0 (by omega) (by omega)) k).trans (hv0 k hk)
  have f : ∀ k, (k < 17 ∨ 22 < k) → g3 53 k = g 53 k := fun k hk => (hq.2 k hk).trans (congrFun (hv 53 (by omega) (by omega)) k)
  refine RL.gen h x1.1 (fun _ _ => rfl) (fun a p q r => e a (by omega) (by omega) (by omega) (by omega)) (e _ (by omega) (by omega) (by omega) (by omega)) (e _ (by omega) (by omega) (by omega) (by omega)) (e _ (by omega) (by omega) (by omega) (by omega)) (e0 7 (by omega)) (f 15 (by omega)) (x1.2.2.2.1.rows (fun r hr => e _ (by omega) (by omega) (by omega) (by omega))) hMO (x2.keep (fun a p q => e a (by omega) (by omega) (by omega) (by omega))) (m3.rows (e _ (by omega) (by omega) (by omega) (by omega)) (e _ (by omega) (by omega) (by omega) (by omega)) (e _ (by omega) (by omega) (by omega) (by omega))) (x3.of (congrFun (e 35 (by omega) (by omega) (by omega) (by omega)) 0) (e 36 (by omega) (by omega) (by omega) (by omega))) ⟨(f 12 (by omega)).trans m4.1, m4.2.1, fun i v hv2 => by rw [e 61 (by omega) (by omega) (by omega) (by omega)]; exact m4.2.2 i v hv2⟩ ⟨fun _ => hK2.rows (fun r hr => hq.x5 _ (by omega)), fun _ => hIM, ?_⟩ hG ht hS hB (fun _ => ⟨hG, ht, Nat.le_refl _, fun _ _ => ⟨rfl, rfl, rfl⟩⟩)
  rw [show g3 0 3 = 1 from (congrFun (hq.1 0 (by omega) (by omega)) 3).trans hf1, hf2]
theorem RL.bk {T : List (Nat × Nat)} {rf : Nat → Nat → Option Nat} {g : Nat → Nat → Int32} {g2 : Nat → Nat → Int32} {g3 : Nat → Nat → Int32} {o : OV} {nc : Nat} {t : Nat} {tc : Nat} {css : Nat → Nat → List Int32} {sh : Nat → Nat → Int32} {tp : List Int32} {ko : OV} {kn : Nat} {kt : Nat} (h : RLg T rf g o nc t tc css sh tp ko kn kt) (hk : g 53 17 ≠ 0) (hu : UF g g2) (hXO : OEq (XO g2 1) ko kn) (hv : MV g2 g3) (hMO : OEq (MOv g3) ko kn) : RLg T rf g3 ko kn kt tc css sh tp ko kn kt := by
  obtain ⟨⟨x1, x2, x3, x7, x8⟩, ⟨m1, m2, m3, m4, m5, m6, m7, m8⟩, hfl, -, -, h6, hS, hB, hl, hK⟩ := id h
  obtain ⟨k1, k2, k3, k4⟩ := hK hk
  have hx := hv.x5
  have e : ∀ a, a < 1 ∨ (8 < a ∧ (a < 53 ∨ (61 ≤ a ∧ a ≤ 70) ∨ 76 < a)) → g3 a = g a := fun a p => (hv.1 a (by omega)).trans (hu a (by omega))
  have f : ∀ k, k ≠ 1 → k ≠ 2 → k ≠ 3 → k ≠ 10 → k ≠ 16 → k ≠ 42 → k ≠ 43 → g3 53 k = g 53 k := fun k a b c d i j l => (hv.2 k a b c d i j l).trans (congrFun (hu 53 (by omega)) k)
  refine RL.gen h x1.1 (fun _ _ => rfl) (fun a p q r => e a (by omega)) (e _ (by omega)) (e _ (by omega)) (e _ (by omega)) (congrFun (e 0 (by omega)) 7) (f 15 (by omega) (by omega) (by omega) (by omega) (by omega) (by omega) (by omega)) (hXO.rows (fun r hr => hx _ (by omega))) hMO (x2.keep (fun a p q => e a (by omega))) (m3.rows (e _ (by omega)) (e _ (by omega)) (e _ (by omega))) (x3.of (congrFun (e 35 (by omega)) 0) (e 36 (by omega))) ⟨(f 12 (by omega) (by omega) (by omega) (by omega) (by omega) (by omega) (by omega)).trans m4.1, m4.2.1, fun i v hv2 => by rw [e 61 (by omega)]; exact m4.2.2 i v hv2⟩ ⟨fun z => ?_, fun z => ?_, ?_⟩ k1 k2 hS hB (fun z => ⟨k1, k2, Nat.le_refl _, fun _ _ => ⟨rfl, rfl, rfl⟩⟩)
  · rw [e 0 (by omega)] at z
    exact (x8 z).rows (fun r hr => e (17 + r) (by omega))
  · rw [f 17 (by omega) (by omega) (by omega) (by omega) (by omega) (by omega) (by omega)] at z
    exact (m8 z).of (fun k p q => f k (by omega) (by omega) (by omega) (by omega) (by omega) (by omega) (by omega)) (e 64 (by omega))
  · rw [e 0 (by omega), f 17 (by omega) (by omega) (by omega) (by omega) (by omega) (by omega) (by omega)]; exact hfl
