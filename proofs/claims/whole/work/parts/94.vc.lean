theorem RL.gen2 {T : List (Nat × Nat)} {rf : Nat → Nat → Option Nat} {rf2 : Nat → Nat → Option Nat} {g : Nat → Nat → Int32} {g3 : Nat → Nat → Int32} {o : OV} {nc : Nat} {t : Nat} {tc : Nat} {css : Nat → Nat → List Int32} {sh : Nat → Nat → Int32} {tp : List Int32} {ko : OV} {kn : Nat} {kt : Nat} {T2 : List (Nat × Nat)} {tc2 : Nat} {css2 : Nat → Nat → List Int32} (h : RLg T rf g o nc t tc css sh tp ko kn kt) (hX : XS T2 rf2) (hTX : TX T2 rf2 g3 tc2 (fun q => lwM (css2 q))) (h07 : g3 0 7 = nI tc2) (h03 : g3 0 3 = g 0 3) (hrw : ∀ a, ((1 ≤ a ∧ a ≤ 8) ∨ (17 ≤ a ∧ a ≤ 24) ∨ (41 ≤ a ∧ a ≤ 48) ∨ (54 ≤ a ∧ a ≤ 60) ∨ (64 ≤ a ∧ a ≤ 67) ∨ a = 69) → g3 a = g a) (f : ∀ k, (k < 12 ∨ (15 < k ∧ k < 28)) → g3 53 k = g 53 k) (hXP : XP_ g3 []) (hMP : MTp g3 []) (h15 : g3 53 15 = nI tc2) (hML : ∀ q, q < tc2 → ML g3 q (css2 q)) (hMS : MS T2 rf2) (htc : tc ≤ tc2) (h62 : tc2 ≤ 6) (hl2 : T2.length = 73 + 4 * tc2) : RLg T2 rf2 g3 o nc t tc2 css2 sh [] ko kn kt := by
  obtain ⟨⟨x1, x2, x3, x7, x8⟩, ⟨m1, m2, m3, m4, m5, m6, m7, m8⟩, hfl, hG, ht, h6, hS, hB, hl, hK⟩ := id h
  have hmo : OEq (MOv g3) (MOv g) nc := by
    refine ⟨⟨f _ (by omega), f _ (by omega), f _ (by omega), f _ (by omega), f _ (by omega)⟩, fun i _ => ?_, fun c _ => ⟨?_, ?_, ?_, ?_⟩, fun k _ => ⟨?_, ?_⟩⟩
    · exact congrFun (hrw 54 (by omega)) i
    · exact congrFun (hrw 55 (by omega)) c
    · exact congrFun (hrw 56 (by omega)) c
    · exact congrFun (hrw 57 (by omega)) c
    · exact congrFun (hrw 58 (by omega)) c
    · exact congrFun (hrw 59 (by omega)) k
    · exact congrFun (hrw 60 (by omega)) k
  refine ⟨⟨⟨hX, x1.2.1, hTX, x1.2.2.2.1.rows (fun r hr => hrw (1 + r) (by omega)), x1.2.2.2.2.1, x1.2.2.2.2.2.1, by omega⟩, x2.keep (fun a p q => hrw a (by omega)), hXP, h07, fun z => ?_⟩, ⟨hMS, hmo.tr m2, m3.rows (hrw 65 (by omega)) (hrw 66 (by omega)) (hrw 67 (by omega)), hMP, h15, hML, fun k hk c hc => by rw [hrw 69 (by omega)]; exact m7 k hk c hc, fun z => ?_⟩, ?_, hG, by omega, h62, hS, fun v hv => by (cases hv), hl2, fun z => ?_⟩
  · rw [h03] at z
    exact (x8 z).rows (fun r hr => hrw (17 + r) (by omega))
  · rw [f 17 (by omega)] at z
    exact (m8 z).of (fun k p q => f k (by omega)) (hrw 64 (by omega))
  · rw [h03, f 17 (by omega)]; exact hfl
  · rw [f 17 (by omega)] at z
    obtain ⟨k1, k2, k3, k4⟩ := hK z
    exact ⟨k1, by omega, k3, k4⟩
theorem RL.t0 {T : List (Nat × Nat)} {rf : Nat → Nat → Option Nat} {g : Nat → Nat → Int32} {g2 : Nat → Nat → Int32} {g3 : Nat → Nat → Int32} {o : OV} {nc : Nat} {t : Nat} {tc : Nat} {css : Nat → Nat → List Int32} {sh : Nat → Nat → Int32} {tp : List Int32} {ko : OV} {kn : Nat} {kt : Nat} {la : Nat} (h : RLg T rf g o nc t tc css sh tp ko kn kt) (hlT : T.length = la) (hla : 77 ≤ la) (hv : TXF la g g2) (hXP : XP_ g2 []) (h7 : g2 0 7 = nI tc) (hq : MTx tc g2 g3) (hMP : MTp g3 []) (h15 : g3 53 15 = nI tc) : RLg T rf g3 o nc t tc css sh [] ko kn kt := by
  obtain ⟨⟨x1, x2, x3, x7, x8⟩, ⟨m1, m2, m3, m4, m5, m6, m7, m8⟩, hfl, hG, ht, h6, hS, hB, hl, hK⟩ := id h
  have e : ∀ a, a ≠ 0 → a ≠ 35 → a ≠ 53 → a ≠ 37 → a ≠ 38 → a ≠ 62 → a ≠ 63 → a ≠ 70 → a ≠ la + 1 → a ≠ la + 2 → g3 a = g a := fun a a0 a1 a2 a3 a4 a5 a6 a7 a8 a9 => (hq.1 a a2 a5 a6 a7).trans (hv.1 a a0 a1 a3 a4 a8 a9)
  have f : ∀ k, (k < 12 ∨ (15 < k ∧ k < 28)) → g3 53 k = g 53 k := fun k hk => (hq.2.1 k (by omega)).trans (congrFun (hv.1 53 (by omega) (by omega) (by omega) (by omega) (by omega) (by omega)) k)
  have hXP3 : XP_ g3 [] := hXP.of (congrFun (hq.1 35 (by omega) (by omega) (by omega) (by omega)) 0) (hq.1 36 (by omega) (by omega) (by omega) (by omega))
  have h70 : ∀ k, g3 0 k = g2 0 k := fun k => congrFun (hq.1 0 (by omega) (by omega) (by omega) (by omega)) k
  refine RL.gen2 h x1.1 ?_ ((h70 7).trans h7) ((h70 3).trans (hv.2 3 (by omega))) (fun a p => e a (by omega) (by omega) (by omega) (by omega) (by omega) (by omega) (by omega) (by omega) (by omega) (by omega) ) f hXP3 hMP h15 (fun q hq2 => ((m6 q hq2).keep (hv.1 62 (by omega) (by omega) (by omega) (by omega) (by omega) (by omega)) (hv.1 63 (by omega) (by omega) (by omega) (by omega) (by omega) (by omega))).tx hq2 hq) m1 (Nat.le_refl _) h6 hl
  obtain ⟨t1, t2⟩ := x1.2.2.1
  refine ⟨t1, fun q hq2 => ?_⟩
  obtain ⟨lb, n, b1, b2, b3, b4, b5, b6, b7⟩ := t2 q hq2
  have hb : lb + 3 < la := by
    have := (List.getElem?_eq_some_iff.mp b2.2.2.2.1).1
    omega
  exact ⟨lb, n, b1, b2, b3, b4, b5, b6, b7.keep (e _ (by omega) (by omega) (by omega) (by omega) (by omega) (by omega) (by omega) (by omega) (by omega) (by omega) ) (e _ (by omega) (by omega) (by omega) (by omega) (by omega) (by omega) (by omega) (by omega) (by omega) (by omega) )⟩
theorem RL.t1 {T : List (Nat × Nat)} {rf : Nat → Nat → Option Nat} {rf2 : Nat → Nat → Option Nat} {g : Nat → Nat → Int32} {g2 : Nat → Nat → Int32} {g3 : Nat → Nat → Int32} {o : OV} {nc : Nat} {t : Nat} {tc : Nat} {css : Nat → Nat → List Int32} {sh : Nat → Nat → Int32} {tp : List Int32} {ko : OV} {kn : Nat} {kt : Nat} {la n9 : Nat} {cz : List (List Int32)} (h : RLg T rf g o nc t tc css sh tp ko kn kt) (hlT : T.length = la) (hla : 77 ≤ la) (hv : TXF la g g2) (hXP : XP_ g2 []) (h7 : g2 0 7 = nI (tc + 1)) (hX2 : XS (T ++ [(4, 0)] ++ [(20, 4)] ++ [(20, n9)] ++ [(20, n9)]) rf2) (hr2 : ∀ a, a ≠ la → a ≠ 39 → rf2 a = rf a) (hTX : TX (T ++ [(4, 0)] ++ [(20, 4)] ++ [(20, n9)] ++ [(20, n9)]) rf2 g2 (tc + 1) (upL (fun q => lwM (css q)) tc (lwC cz))) (h16 : tc < 6) (hq : MTx tc g2 g3) (hMP : MTp g3 []) (h15 : g3 53 15 = nI (tc + 1)) (hML : ML g3 tc (fun p => cz.getD p [])) : RLg (T ++ [(4, 0)] ++ [(20, 4)] ++ [(20, n9)] ++ [(20, n9)]) rf2 g3 o nc t (tc + 1) (fun q => if q = tc then (fun p => cz.getD p []) else css q) sh [] ko kn kt := by
  obtain ⟨⟨x1, x2, x3, x7, x8⟩, ⟨m1, m2, m3, m4, m5, m6, m7, m8⟩, hfl, hG, ht, h6, hS, hB, hl, hK⟩ := id h
  have e : ∀ a, a ≠ 0 → a ≠ 35 → a ≠ 53 → a ≠ 37 → a ≠ 38 → a ≠ 62 → a ≠ 63 → a ≠ 70 → a ≠ la + 1 → a ≠ la + 2 → g3 a = g a := fun a a0 a1 a2 a3 a4 a5 a6 a7 a8 a9 => (hq.1 a a2 a5 a6 a7).trans (hv.1 a a0 a1 a3 a4 a8 a9)
  have f : ∀ k, (k < 12 ∨ (15 < k ∧ k < 28)) → g3 53 k = g 53 k := fun k hk => (hq.2.1 k (by omega)).trans (congrFun (hv.1 53 (by omega) (by omega) (by omega) (by omega) (by omega) (by omega)) k)
  have hXP3 : XP_ g3 [] := hXP.of (congrFun (hq.1 35 (by omega) (by omega) (by omega) (by omega)) 0) (hq.1 36 (by omega) (by omega) (by omega) (by omega))
  have h70 : ∀ k, g3 0 k = g2 0 k := fun k => congrFun (hq.1 0 (by omega) (by omega) (by omega) (by omega)) k
  have hlw : upL (fun q => lwM (css q)) tc (lwC cz) = fun q => lwM ((fun q => if q = tc then (fun p => cz.getD p []) else css q) q) := by
    funext q
    unfold upL
    by_cases z : q = tc
    · rw [if_pos z]
      show _ = lwM (if q = tc then (fun p => cz.getD p []) else css q)
      rw [if_pos z]; rfl
    · rw [if_neg z]
      show _ = lwM (if q = tc then (fun p => cz.getD p []) else css q)
      rw [if_neg z]
  rw [hlw] at hTX
  refine RL.gen2 h hX2 (hTX.keep (fun _ _ => rfl) (fun a p q r => hq.1 a (by omega) (by omega) (by omega) (by omega))) ((h70 7).trans h7) ((h70 3).trans (hv.2 3 (by omega))) (fun a p => e a (by omega) (by omega) (by omega) (by omega) (by omega) (by omega) (by omega) (by omega) (by omega) (by omega) ) f hXP3 hMP h15 (fun q hq2 => ?_) ⟨fun a x hx => tA (tA (tA (tA (m1.1 a x hx)))), fun a k b hb => ?_⟩ (Nat.le_succ _) (by omega) (by rw [List.length_append, List.length_append, List.length_append, List.length_append, hl]; simp only [List.length_cons, List.length_nil]; omega)
  · by_cases z : q = tc
    · subst z
      show ML g3 q (if q = q then _ else _)
      rw [if_pos rfl]; exact hML
    · show ML g3 q (if q = tc then _ else _)
      rw [if_neg z]
      exact ((m6 q (by omega)).keep (hv.1 62 (by omega) (by omega) (by omega) (by omega) (by omega) (by omega)) (hv.1 63 (by omega) (by omega) (by omega) (by omega) (by omega) (by omega))).tx (by omega) hq
  · have ha : a = 53 := by
      rcases Nat.decEq a 53 with z | z
      · unfold MRf at hb
        rw [show Nat.beq a 53 = false from Bool.eq_false_iff.mpr (fun y => z (Nat.eq_of_beq_eq_true y))] at hb
        cases hb
      · exact z
    rw [hr2 a (by omega) (by omega)]
    exact m1.2 a k b hb
theorem lg_self (x : Int64) : lg_cmp x x = 0 := by
  unfold lg_cmp
  rw [if_neg (show ¬ x > x from Int64.lt_irrefl), if_pos rfl]
