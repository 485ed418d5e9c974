/-- what a text leaves: but for the count of texts, the reader, the new law -/
def TXF (la : Nat) (g g' : Nat → Nat → Int32) : Prop := (∀ a, a ≠ 0 → a ≠ 35 → a ≠ 37 → a ≠ 38 → a ≠ la + 1 → a ≠ la + 2 → g' a = g a) ∧ ∀ k, k ≠ 7 → g' 0 k = g 0 k
def upL (lws : Nat → Nat → List Int32) (t : Nat) (x : Nat → List Int32) : Nat → Nat → List Int32 := fun i => if i = t then x else lws i
theorem TX.app {T T2 : List (Nat × Nat)} {rf rf2 : Nat → Nat → Option Nat} {g g2 : Nat → Nat → Int32} {tc la n : Nat} {lws : Nat → Nat → List Int32} {lw : Nat → List Int32} (h : TX T rf g tc lws) (hl : T.length = la) (hT : ∀ (a : Nat) (t : Nat × Nat), T[a]? = some t → T2[a]? = some t) (hr : ∀ a, a ≠ la → a ≠ 39 → rf2 a = rf a) (h39 : ∀ k, k ≠ tc → rf2 39 k = rf 39 k) (ht : rf2 39 tc = some la) (hg : ∀ a, 49 ≤ a → a < la → g2 a = g a) (hL : LawAt T2 rf2 la n) (hG : LawG g2 la n lw) (hn : n ≤ 160) (htc : tc < 6) (hla : 49 ≤ la) (hl1 : la ≤ 49 ∨ 77 ≤ la) (hl2 : la % 4 = 1) : TX T2 rf2 g2 (tc + 1) (upL lws tc lw) := by
  refine ⟨by omega, fun t htt => ?_⟩
  by_cases q : t = tc
  · subst q
    exact ⟨la, n, ht, hL, ble (by omega), hla, hl1, hl2, by unfold upL; rw [if_pos rfl]; exact hG⟩
  · obtain ⟨lb, m, a1, a2, a3, a4, a5, a6, a7⟩ := h.2 t (by omega)
    obtain ⟨b1, b2, b3, b4, b5, b6, b7⟩ := a2
    have hlb : lb + 3 < la := by rw [← hl]; exact (List.getElem?_eq_some_iff.mp b4).1
    refine ⟨lb, m, by rw [h39 t q]; exact a1, ⟨hT _ _ b1, hT _ _ b2, hT _ _ b3, hT _ _ b4, ?_, ?_, ?_⟩, a3, a4, a5, a6, ?_⟩
    · rw [hr lb (by omega) (by omega)]; exact b5
    · rw [hr lb (by omega) (by omega)]; exact b6
    · rw [hr lb (by omega) (by omega)]; exact b7
    · unfold upL
      rw [if_neg q]
      exact a7.keep (hg _ (by omega) (by omega)) (hg _ (by omega) (by omega))
theorem XP_e {g : Nat → Nat → Int32} (h : g 35 0 = 0) : XP_ g [] := ⟨h, by simp, fun i v hv => by simp at hv⟩
theorem s_X11_readText {d : Nat} {sc : Nat × (Nat → Int32)} {T : List (Nat × Nat)} {rf : Nat → Nat → Option Nat} {g : Nat → Nat → Int32} {tp : List Int32} {la tc : Nat} {lws : Nat → Nat → List Int32} {F : Int32 → AH → Prop} (hX : XS T rf) (ht : XP_ g tp) (hB : TB tp) (hl : T.length = la) (hla : 49 ≤ la) (hla9 : la < 800) (hl1 : la ≤ 49 ∨ 77 ≤ la) (hl2 : la % 4 = 1) (htc : g 0 7 = nI tc) (htc6 : tc < 6) (hS : TX T rf g tc lws) (k0 : ∀ g2 b, txX 3 0 (TKS tp 0) = Sum.inl b → XP_ g2 [] → TXF la g g2 → g2 0 7 = nI tc → F (-100 - nI b) (T, rf, g2)) (k1 : ∀ rf2 g2 css, txX 3 0 (TKS tp 0) = Sum.inr css → css.length = 3 → (∀ c ∈ css, wfd c 0) → css.flatten.length ≤ 160 → XP_ g2 [] → XS (T ++ [(4, 0)] ++ [(20, 4)] ++ [(20, css.flatten.length)] ++ [(20, css.flatten.length)]) rf2 → (∀ a, a ≠ la → a ≠ 39 → rf2 a = rf a) → TXF la g g2 → g2 0 7 = nI (tc + 1) → TX (T ++ [(4, 0)] ++ [(20, 4)] ++ [(20, css.flatten.length)] ++ [(20, css.flatten.length)]) rf2 g2 (tc + 1) (upL lws tc (lwC css)) → F (nI tc) (T ++ [(4, 0)] ++ [(20, 4)] ++ [(20, css.flatten.length)] ++ [(20, css.flatten.length)], rf2, g2)) : Mok (d + 66) 4 328 sc kX11_readText [.ref 0] (T, rf, g) (Qi F) := by
  refine Mok.ofWp (L := [some (.ref 0), none, none]) rfl rfl rfl ?_
  refine xX11_readText_0 ?_
  refine xX11_readText_1 (hX.1 _ _ rfl) (hX.2 _ _ _ rfl) ?_
  refine xX11_readText_4 (hX.1 _ _ rfl) rfl rfl rfl (s_X6_read hX ht hB (fun g0 css0 hR0 hGT0 hft0 => ?_) (fun g0 b0 hR0 hbg0 hft0 => ?_))
  · refine xX11_readText_7 rfl ?_
    refine xX11_readText_8 ?_
    refine xX11_readText_9 (hX.1 _ _ rfl) (hX.2 _ _ _ rfl) ?_
    refine xX11_readText_12 (hX.1 _ _ rfl) ?_
    refine xX11_readText_15 rfl ?_
    refine xX11_readText_16 ?_
    refine xX11_readText_17 (hX.1 _ _ rfl) (hX.2 _ _ _ rfl) ?_
    refine xX11_readText_20 ?_
    refine xX11_readText_21 (hX.1 _ _ rfl) ?_
    refine xX11_readText_24 ?_
    refine xX11_readText_25_f (by decide) ?_
    refine xX11_readText_28 ?_
    refine xX11_readText_29 (hX.1 _ _ rfl) ?_
    refine xX11_readText_32 ?_
    refine xX11_readText_33 (hX.1 _ _ rfl) (hX.2 _ _ _ rfl) ?_
    refine xX11_readText_36 (hX.1 _ _ rfl) rfl rfl ?_
    have h07 : ∀ z, up g0 35 0 z 0 7 = nI tc := fun z => by rw [up_row (by omega), hft0.1 0 (by omega) (by omega) (by omega)]; exact htc
    rw [h07]
    refine xX11_readText_37_t (nI_lt (b := 6) htc6 (by omega)) ?_
    refine xX11_readText_45 ?_
    refine xX11_readText_46 (hX.1 _ _ rfl) (hX.2 _ _ _ rfl) ?_
    refine xX11_readText_49 ?_
    refine xX11_readText_50 (hX.1 _ _ rfl) ?_
    refine xX11_readText_53 ?_
    refine xX11_readText_54 (hX.1 _ _ rfl) (hX.2 _ _ _ rfl) ?_
    have hGT9 : GT (up g0 35 0 0) css0 := by
      obtain ⟨a1, a2, a3, a4, a5, a6⟩ := hGT0
      exact ⟨a1, a2, a3, (up_ne (by omega)).trans a4, fun i v hv => by rw [up_row (by omega)]; exact a5 i v hv, fun i hi => by rw [up_row (by omega)]; exact a6 i hi⟩
    rw [h07]
    refine xX11_readText_57A (hX.1 _ _ rfl) (mc1 := 4) (ms1 := 328) (kc1 := 4) (ks1 := 328) rfl rfl rfl rfl rfl (s_X6_law hX hl (by omega) (by omega) hGT9 (fun rf9 g9 q1 q2 q3 q4 => ?_))
    refine xX11_readText_60 (j := tc) (tA (tA (tA (tA (hX.1 _ _ rfl))))) q1.1 rfl rfl htc6 rfl ?_
    refine xX11_readText_61 ?_
    refine xX11_readText_62 rfl ?_
    refine xX11_readText_63 (tA (tA (tA (tA (hX.1 _ _ rfl))))) ?_
    refine xX11_readText_66 ?_
    refine xX11_readText_67 ?_
    have h97 : g9 0 7 = nI tc := by rw [q4 0 (by omega) (by omega)]; exact h07 0
    rw [h97, show nI tc + 1 = nI (tc + 1) from nI_1 tc]
    refine xX11_readText_68 (tA (tA (tA (tA (hX.1 _ _ rfl))))) ?_
    refine xX11_readText_71 ?_
    refine xX11_readText_72 (tA (tA (tA (tA (hX.1 _ _ rfl))))) ?_
    rw [show up g9 0 7 (nI (tc + 1)) 0 7 = nI (tc + 1) from up_same _ _ _ _]
    refine xX11_readText_75 ?_
    
    refine xX11_readText_76 ?_
    rw [show nI (tc + 1) - 1 = nI tc from nI_pred tc]
    refine xX11_readText_77 rfl rfl ?_
    have hX9 : XS (T ++ [(4, 0)] ++ [(20, 4)] ++ [(20, css0.flatten.length)] ++ [(20, css0.flatten.length)]) rf9 := XS.app (XS.app (XS.app (XS.app hX (fun _ _ => rfl)) (fun _ _ => rfl)) (fun _ _ => rfl)) (fun a p => q3 a (by omega))
    have hX10 : XS (T ++ [(4, 0)] ++ [(20, 4)] ++ [(20, css0.flatten.length)] ++ [(20, css0.flatten.length)]) (ur rf9 39 tc (some la)) := hX9.rr (fun a _ p => ur_row p)
    have hg9 : ∀ a, a ≠ 0 → a ≠ 35 → a ≠ 37 → a ≠ 38 → a ≠ la + 1 → a ≠ la + 2 → up g9 0 7 (nI (tc + 1)) a = g a := fun a p q r s t u => by rw [up_row p, q4 a t u, up_row q]; exact hft0.1 a q r s
    have hLA : LawAt (T ++ [(4, 0)] ++ [(20, 4)] ++ [(20, css0.flatten.length)] ++ [(20, css0.flatten.length)]) (ur rf9 39 tc (some la)) la css0.flatten.length := by
      obtain ⟨a1, a2, a3, a4, a5, a6, a7⟩ := q1
      exact ⟨a1, a2, a3, a4, by rw [ur_row (by omega)]; exact a5, by rw [ur_row (by omega)]; exact a6, by rw [ur_row (by omega)]; exact a7⟩
    refine k1 _ _ css0 hR0 hGT0.1 hGT0.2.1 hGT0.2.2.1 (XP_e ?_) hX10 (fun a p q => (ur_row q).trans (q3 a p)) ⟨hg9, fun k hk => ?_⟩ (up_same _ _ _ _) (hS.app hl (fun a t ha => tA (tA (tA (tA ha)))) (fun a p q => (ur_row q).trans (q3 a p)) (fun k hk => (ur_ne (fun z => hk z.2)).trans (congrFun (q3 39 (by omega)) k)) (ur_same _ _ _ _) (fun a p q => hg9 a (by omega) (by omega) (by omega) (by omega) (by omega) (by omega)) hLA (q2.keep (up_row (by omega)) (up_row (by omega))) hGT0.2.2.1 htc6 hla hl1 hl2)
    · rw [up_row (by omega), q4 35 (by omega) (by omega), up_same]
    · rw [up_ne (fun z => hk z.2), q4 0 (by omega) (by omega), up_row (by omega)]
      exact congrFun (hft0.1 0 (by omega) (by omega) (by omega)) k
  · refine xX11_readText_7 rfl ?_
    refine xX11_readText_8 ?_
    refine xX11_readText_9 (hX.1 _ _ rfl) (hX.2 _ _ _ rfl) ?_
    refine xX11_readText_12 (hX.1 _ _ rfl) ?_
    rw [hbg0]
    refine xX11_readText_15 rfl ?_
    refine xX11_readText_16 ?_
    refine xX11_readText_17 (hX.1 _ _ rfl) (hX.2 _ _ _ rfl) ?_
    refine xX11_readText_20 ?_
    refine xX11_readText_21 (hX.1 _ _ rfl) ?_
    refine xX11_readText_24 ?_
    refine xX11_readText_25_t (by decide) ?_
    refine xX11_readText_40 ?_
    refine xX11_readText_42 ?_
    refine xX11_readText_43 ?_
    refine xX11_readText_44 rfl rfl ?_
    exact k0 _ _ hR0 (XP_e (up_same _ _ _ _)) ⟨fun a p q r s _ _ => (up_row q).trans (hft0.1 a q r s), fun k hk => (congrFun (up_row (by omega)) k).trans (congrFun (hft0.1 0 (by omega) (by omega) (by omega)) k)⟩ (by rw [up_row (by omega), hft0.1 0 (by omega) (by omega) (by omega)]; exact htc)
