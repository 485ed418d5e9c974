theorem bud1 {a b n m : Nat} (h : a + (b + n) ≤ m) : a + n ≤ m := by omega
theorem bud2 {a a2 b c n m : Nat} (h : a + (b + n) ≤ m) (h2 : a2 ≤ a + n) (hb : b = c) : a2 + c ≤ m := by subst hb; omega
theorem lp_L_law {d : Nat} {sc : Nat × (Nat → Int32)} {F : Int32 → AH → Prop} {mc ms : Nat} (hL9 : sc.1 ≤ 3584) (hF : ∀ h, F 1 h) : ∀ (k i : Nat) (x3 : Int32) {T : List (Nat × Nat)} {rf : Nat → Nat → Option Nat} {g : Nat → Nat → Int32} {o : OV} {nc t tc : Nat} {css : Nat → Nat → List Int32} {sh : Nat → Nat → Int32} {tp : List Int32} {ko : OV} {kn kt : Nat} {kc ks : Nat}, x3 = nI i → sc.1 ≤ i + 7 * k + 6 → kc + 4 * k ≤ mc → ks + 328 * k ≤ ms → i ≤ 3584 → RLg T rf g o nc t tc css sh tp ko kn kt → Wp (d + 68) mc ms sc kL_law (Qi F) 18 [some (.ref 1000200), some (.ref 0), some (.ref 53), some (.int x3)] [] (T, rf, g) kc ks := by
  intro k
  induction k with
  | zero =>
    intro i x3 T rf g o nc t tc css sh tp ko kn kt kc ks hx3 hi hkc hks hi9 hR
    subst hx3
    have hkb : Nat.ble kc mc = true := ble (by omega)
    have hsb : Nat.ble ks ms = true := ble (by omega)
    refine xL_law_18 ?_
    refine xL_law_19 ?_
    refine xL_law_20 rfl ?_
    refine xL_law_21 ?_
    refine xL_law_23 ?_
    refine xL_law_24_t (iLt.mpr (by rw [iSub (by rw [iT (by omega), show (7 : Int32).toInt = 7 from rfl]; omega) (by rw [iT (by omega), show (7 : Int32).toInt = 7 from rfl]; omega), iT (by omega), iT (by omega), show (7 : Int32).toInt = 7 from rfl]; omega)) ?_
    refine xL_law_1643 ?_
    refine xL_law_1644 (Or.inr rfl) hkb hsb ?_
    exact hF _
  | succ k ih =>
    intro i x3 T rf g o nc t tc css sh tp ko kn kt kc ks hx3 hi hkc hks hi9 hR
    subst hx3
    have hkb : Nat.ble kc mc = true := ble (by omega)
    have hsb : Nat.ble ks ms = true := ble (by omega)
    rw [Nat.mul_succ] at hkc hks
    obtain ⟨ka, hka⟩ : ∃ ka, ka = 4 * k := ⟨_, rfl⟩
    obtain ⟨kb, hkb_⟩ : ∃ kb, kb = 328 * k := ⟨_, rfl⟩
    rw [← hka] at hkc
    rw [← hkb_] at hks
    refine xL_law_18 ?_
    refine xL_law_19 ?_
    refine xL_law_20 rfl ?_
    refine xL_law_21 ?_
    refine xL_law_23 ?_
    refine xL_law_24 (fun c24 => ?_) (fun c24 => ?_)
    · refine xL_law_1643 ?_
      refine xL_law_1644 (Or.inr rfl) hkb hsb ?_
      exact hF _
    · have hi7 : i + 7 ≤ sc.1 := Nat.le_of_not_lt (fun z => c24 (iLt.mpr (by rw [iSub (by rw [iT (by omega), show (7 : Int32).toInt = 7 from rfl]; omega) (by rw [iT (by omega), show (7 : Int32).toInt = 7 from rfl]; omega), iT (by omega), iT (by omega), show (7 : Int32).toInt = 7 from rfl]; omega)))
      refine xL_law_27 ?_
      refine xL_law_28 ?_
      refine xL_law_29 (j := i) rfl (by omega) (by omega) rfl ?_
      refine xL_law_30 ?_
      refine xL_law_32 ?_
      refine xL_law_33 (fun c33 => ?_) (fun c33 => ?_) (fun c33 => ?_) (fun c33 => ?_) (fun c33 => ?_) (fun c33 => ?_) (fun c33 => ?_) (fun c33 => ?_) (fun c33 => ?_) (fun c33 => ?_) (fun c33 => ?_) (fun c33 => ?_) (fun c33 => ?_) (fun c33 => ?_) (fun c33 => ?_) (fun c33 => ?_) (fun c33 => ?_) (fun c33 => ?_) (fun c33 => ?_) (fun c33 => ?_) (fun c33 => ?_) (fun c33 => ?_) (fun c33 => ?_) (fun c33 => ?_) (fun c33 => ?_) (fun c33 => ?_) (fun c33 => ?_) (fun c33 => ?_) (fun c33 => ?_) (fun c33 => ?_) (fun c33 => ?_) (fun c33 => ?_) (fun c33 => ?_) (fun c33 => ?_) (fun c33 => ?_) (fun c33 => ?_) (fun c33 => ?_) (fun c33 => ?_) (fun c33 => ?_) (fun c33 => ?_) (fun c33 => ?_) (fun c33 => ?_) (fun c33 => ?_) (fun c33 => ?_) (fun c33 => ?_) (fun c33 => ?_)
      · exact st_count hL9 hi7 (bud1 hkc) (bud1 hks) hR (fun hR2 h1 h2 => ih (i + 7) _ rfl (by omega) (bud2 hkc h1 hka) (bud2 hks h2 hkb_) (by omega) hR2)
      · exact st_set hL9 hi7 (bud1 hkc) (bud1 hks) hR (fun hR2 h1 h2 => ih (i + 7) _ rfl (by omega) (bud2 hkc h1 hka) (bud2 hks h2 hkb_) (by omega) hR2)
      · exact st_hot hL9 hi7 (bud1 hkc) (bud1 hks) hR (fun hR2 h1 h2 => ih (i + 7) _ rfl (by omega) (bud2 hkc h1 hka) (bud2 hks h2 hkb_) (by omega) hR2)
      · exact st_spot hL9 hi7 (bud1 hkc) (bud1 hks) hR (fun hR2 h1 h2 => ih (i + 7) _ rfl (by omega) (bud2 hkc h1 hka) (bud2 hks h2 hkb_) (by omega) hR2)
      · exact st_feed hL9 hi7 (bud1 hkc) (bud1 hks) hR (fun hR2 h1 h2 => ih (i + 7) _ rfl (by omega) (bud2 hkc h1 hka) (bud2 hks h2 hkb_) (by omega) hR2)
      · exact st_text hL9 hi7 (bud1 hkc) (bud1 hks) hR (fun hR2 h1 h2 => ih (i + 7) _ rfl (by omega) (bud2 hkc h1 hka) (bud2 hks h2 hkb_) (by omega) hR2)
      · exact st_force hL9 hi7 (bud1 hkc) (bud1 hks) hR (fun hR2 h1 h2 => ih (i + 7) _ rfl (by omega) (bud2 hkc h1 hka) (bud2 hks h2 hkb_) (by omega) hR2)
      · exact st_asks hL9 hi7 (bud1 hkc) (bud1 hks) hR (fun hR2 h1 h2 => ih (i + 7) _ rfl (by omega) (bud2 hkc h1 hka) (bud2 hks h2 hkb_) (by omega) hR2)
      · exact st_cake hL9 hi7 (bud1 hkc) (bud1 hks) hR (fun hR2 h1 h2 => ih (i + 7) _ rfl (by omega) (bud2 hkc h1 hka) (bud2 hks h2 hkb_) (by omega) hR2)
      · exact st_move hL9 hi7 (bud1 hkc) (bud1 hks) hR (fun hR2 h1 h2 => ih (i + 7) _ rfl (by omega) (bud2 hkc h1 hka) (bud2 hks h2 hkb_) (by omega) hR2)
      · exact st_told hL9 hi7 (bud1 hkc) (bud1 hks) hR (fun hR2 h1 h2 => ih (i + 7) _ rfl (by omega) (bud2 hkc h1 hka) (bud2 hks h2 hkb_) (by omega) hR2)
      · exact st_open hL9 hi7 (bud1 hkc) (bud1 hks) hR (fun hR2 h1 h2 => ih (i + 7) _ rfl (by omega) (bud2 hkc h1 hka) (bud2 hks h2 hkb_) (by omega) hR2)
      · exact st_opening hL9 hi7 (bud1 hkc) (bud1 hks) hR (fun hR2 h1 h2 => ih (i + 7) _ rfl (by omega) (bud2 hkc h1 hka) (bud2 hks h2 hkb_) (by omega) hR2)
      · exact st_shut hL9 hi7 (bud1 hkc) (bud1 hks) hR (fun hR2 h1 h2 => ih (i + 7) _ rfl (by omega) (bud2 hkc h1 hka) (bud2 hks h2 hkb_) (by omega) hR2)
      · exact st_at hL9 hi7 (bud1 hkc) (bud1 hks) hR (fun hR2 h1 h2 => ih (i + 7) _ rfl (by omega) (bud2 hkc h1 hka) (bud2 hks h2 hkb_) (by omega) hR2)
      · exact st_end hL9 hi7 (bud1 hkc) (bud1 hks) hR (fun hR2 h1 h2 => ih (i + 7) _ rfl (by omega) (bud2 hkc h1 hka) (bud2 hks h2 hkb_) (by omega) hR2)
      · exact st_off hL9 hi7 (bud1 hkc) (bud1 hks) hR (fun hR2 h1 h2 => ih (i + 7) _ rfl (by omega) (bud2 hkc h1 hka) (bud2 hks h2 hkb_) (by omega) hR2)
      · exact st_when hL9 hi7 (bud1 hkc) (bud1 hks) hR (fun hR2 h1 h2 => ih (i + 7) _ rfl (by omega) (bud2 hkc h1 hka) (bud2 hks h2 hkb_) (by omega) hR2)
      · exact st_twice hL9 hi7 (bud1 hkc) (bud1 hks) hR (fun hR2 h1 h2 => ih (i + 7) _ rfl (by omega) (bud2 hkc h1 hka) (bud2 hks h2 hkb_) (by omega) hR2)
      · exact st_until hL9 hi7 (bud1 hkc) (bud1 hks) hR (fun hR2 h1 h2 => ih (i + 7) _ rfl (by omega) (bud2 hkc h1 hka) (bud2 hks h2 hkb_) (by omega) hR2)
      · exact st_out hL9 hi7 (bud1 hkc) (bud1 hks) hR (fun hR2 h1 h2 => ih (i + 7) _ rfl (by omega) (bud2 hkc h1 hka) (bud2 hks h2 hkb_) (by omega) hR2)
      · exact st_singly hL9 hi7 (bud1 hkc) (bud1 hks) hR (fun hR2 h1 h2 => ih (i + 7) _ rfl (by omega) (bud2 hkc h1 hka) (bud2 hks h2 hkb_) (by omega) hR2)
      · exact st_soon hL9 hi7 (bud1 hkc) (bud1 hks) hR (fun hR2 h1 h2 => ih (i + 7) _ rfl (by omega) (bud2 hkc h1 hka) (bud2 hks h2 hkb_) (by omega) hR2)
      · exact st_few hL9 hi7 (bud1 hkc) (bud1 hks) hR (fun hR2 h1 h2 => ih (i + 7) _ rfl (by omega) (bud2 hkc h1 hka) (bud2 hks h2 hkb_) (by omega) hR2)
      · exact st_fan hL9 hi7 (bud1 hkc) (bud1 hks) hR (fun hR2 h1 h2 => ih (i + 7) _ rfl (by omega) (bud2 hkc h1 hka) (bud2 hks h2 hkb_) (by omega) hR2)
      · exact st_cost hL9 hi7 (bud1 hkc) (bud1 hks) hR (fun hR2 h1 h2 => ih (i + 7) _ rfl (by omega) (bud2 hkc h1 hka) (bud2 hks h2 hkb_) (by omega) hR2)
      · exact st_lay hL9 hi7 (bud1 hkc) (bud1 hks) hR (fun hR2 h1 h2 => ih (i + 7) _ rfl (by omega) (bud2 hkc h1 hka) (bud2 hks h2 hkb_) (by omega) hR2)
      · exact st_swap hL9 hi7 (bud1 hkc) (bud1 hks) hR (fun hR2 h1 h2 => ih (i + 7) _ rfl (by omega) (bud2 hkc h1 hka) (bud2 hks h2 hkb_) (by omega) hR2)
      · exact st_which hL9 hi7 (bud1 hkc) (bud1 hks) hR (fun hR2 h1 h2 => ih (i + 7) _ rfl (by omega) (bud2 hkc h1 hka) (bud2 hks h2 hkb_) (by omega) hR2)
      · exact st_judge hL9 hi7 (bud1 hkc) (bud1 hks) hR (fun hR2 h1 h2 => ih (i + 7) _ rfl (by omega) (bud2 hkc h1 hka) (bud2 hks h2 hkb_) (by omega) hR2)
      · exact st_how hL9 hi7 (bud1 hkc) (bud1 hks) hR (fun hR2 h1 h2 => ih (i + 7) _ rfl (by omega) (bud2 hkc h1 hka) (bud2 hks h2 hkb_) (by omega) hR2)
      · exact st_kinds hL9 hi7 (bud1 hkc) (bud1 hks) hR (fun hR2 h1 h2 => ih (i + 7) _ rfl (by omega) (bud2 hkc h1 hka) (bud2 hks h2 hkb_) (by omega) hR2)
      · exact st_heats hL9 hi7 (bud1 hkc) (bud1 hks) hR (fun hR2 h1 h2 => ih (i + 7) _ rfl (by omega) (bud2 hkc h1 hka) (bud2 hks h2 hkb_) (by omega) hR2)
      · exact st_turned hL9 hi7 (bud1 hkc) (bud1 hks) hR (fun hR2 h1 h2 => ih (i + 7) _ rfl (by omega) (bud2 hkc h1 hka) (bud2 hks h2 hkb_) (by omega) hR2)
      · exact st_laws hL9 hi7 (bud1 hkc) (bud1 hks) hR (fun hR2 h1 h2 => ih (i + 7) _ rfl (by omega) (bud2 hkc h1 hka) (bud2 hks h2 hkb_) (by omega) hR2)
      · exact st_film hL9 hi7 (bud1 hkc) (bud1 hks) hR (fun hR2 h1 h2 => ih (i + 7) _ rfl (by omega) (bud2 hkc h1 hka) (bud2 hks h2 hkb_) (by omega) hR2)
      · exact st_drawn hL9 hi7 (bud1 hkc) (bud1 hks) hR (fun hR2 h1 h2 => ih (i + 7) _ rfl (by omega) (bud2 hkc h1 hka) (bud2 hks h2 hkb_) (by omega) hR2)
      · exact st_odds hL9 hi7 (bud1 hkc) (bud1 hks) hR (fun hR2 h1 h2 => ih (i + 7) _ rfl (by omega) (bud2 hkc h1 hka) (bud2 hks h2 hkb_) (by omega) hR2)
      · exact st_image hL9 hi7 (bud1 hkc) (bud1 hks) hR (fun hR2 h1 h2 => ih (i + 7) _ rfl (by omega) (bud2 hkc h1 hka) (bud2 hks h2 hkb_) (by omega) hR2)
      · exact st_back hL9 hi7 (bud1 hkc) (bud1 hks) hR (fun hR2 h1 h2 => ih (i + 7) _ rfl (by omega) (bud2 hkc h1 hka) (bud2 hks h2 hkb_) (by omega) hR2)
      · exact st_sheet hL9 hi7 (bud1 hkc) (bud1 hks) hR (fun hR2 h1 h2 => ih (i + 7) _ rfl (by omega) (bud2 hkc h1 hka) (bud2 hks h2 hkb_) (by omega) hR2)
      · exact st_cell hL9 hi7 (bud1 hkc) (bud1 hks) hR (fun hR2 h1 h2 => ih (i + 7) _ rfl (by omega) (bud2 hkc h1 hka) (bud2 hks h2 hkb_) (by omega) hR2)
      · exact st_copy hL9 hi7 (bud1 hkc) (bud1 hks) hR (fun hR2 h1 h2 => ih (i + 7) _ rfl (by omega) (bud2 hkc h1 hka) (bud2 hks h2 hkb_) (by omega) hR2)
      · exact st_cakesBy hL9 hi7 (bud1 hkc) (bud1 hks) hR (fun hR2 h1 h2 => ih (i + 7) _ rfl (by omega) (bud2 hkc h1 hka) (bud2 hks h2 hkb_) (by omega) hR2)
      · exact st_taken hL9 hi7 (bud1 hkc) (bud1 hks) hR (fun hR2 h1 h2 => ih (i + 7) _ rfl (by omega) (bud2 hkc h1 hka) (bud2 hks h2 hkb_) (by omega) hR2)
      · refine xL_law_1637 rfl (nI_add i 7) ?_
        refine xL_law_1640 ?_
        exact ih (i + 7) _ rfl (by omega) (bud2 hkc (Nat.le_add_right _ _) hka) (bud2 hks (Nat.le_add_right _ _) hkb_) (by omega) hR
theorem o0_V : OVk o0 0 := ⟨rfl, by omega, ⟨0, by omega, rfl, (fun c h => absurd h (Nat.not_lt_zero c)), (fun c h => absurd h (Nat.not_lt_zero c))⟩, ⟨20, by omega, by omega, rfl⟩, ⟨0, by omega, rfl⟩, (fun c h => absurd h (Nat.not_lt_zero c)), (fun c h => absurd h (Nat.not_lt_zero c)), (fun c h => absurd h (Nat.not_lt_zero c)), (fun c h => absurd h (Nat.not_lt_zero c)), fun i _ => ⟨10, by omega, rfl⟩⟩
theorem o0_G : Gd o0 0 0 := ⟨o0_V, rfl, fun i j _ hj => absurd hj (by rw [show nN (o0 0 8) = 0 by decide]; exact Nat.not_lt_zero j), fun a b ha => absurd ha (Nat.not_lt_zero a)⟩
theorem T76_l : T76.length = 77 := rfl
theorem s_L_law {d : Nat} {sc : Nat × (Nat → Int32)} {rf : Nat → Nat → Option Nat} {g : Nat → Nat → Int32} {F : Int32 → AH → Prop} (hL9 : sc.1 ≤ 3584) (hF : ∀ h, F 1 h) : Wp (d + 68) 2200 172000 sc kL_law (Qi F) 0 [some (.ref 1000200), none, none, none] [] ([], rf, g) 0 0 := by
  refine xL_law_0 (n := 0) (kc1 := 1) (ks1 := 12) rfl rfl rfl rfl rfl rfl (fun hr0 hg0 => ?_)
  refine xL_law_3 rfl ?_
  refine xL_law_4A (mc1 := 52) (ms1 := 1089) (kc1 := 53) (ks1 := 1101) rfl rfl rfl rfl rfl (s_X11_init hg0 (fun rfX gX hx1 hw0 hE hH hP h7 h3 hTX => ?_))
  refine xL_law_7 rfl ?_
  refine xL_law_8 (n := 53) (kc1 := 54) (ks1 := 1146) T53_l rfl rfl rfl rfl rfl (fun hr53 hg53 => ?_)
  refine xL_law_11 rfl ?_
  refine xL_law_12A (mc1 := 23) (ms1 := 2559) (kc1 := 77) (ks1 := 3705) rfl rfl rfl rfl rfl (s_X12_init rfl hg53 hw0 (fun rfM gM hm1 q1 q2 hW hH2 hP2 h15 h17 hE2 hML => ?_))
  refine xL_law_15 rfl ?_
  refine xL_law_16 ?_
  refine xL_law_17 rfl ?_
  have hXS : XS T76 rfM := ⟨fun a x hx => (tA (tA (tA (tA (tA (tA (tA (tA (tA (tA (tA (tA (tA (tA (tA (tA (tA (tA (tA (tA (tA (tA (tA (tA (hx1.1 a x hx))))))))))))))))))))))))), fun a k b hb => by
    rcases Nat.decEq a 53 with z | z
    · rw [q1 a z]; exact hx1.2 a k b hb
    · subst z
      have hb : (none : Option Nat) = some b := hb
      cases hb⟩
  have hTX2 : TX T76 rfM gM 1 (fun q => lwM ((fun (_ : Nat) p => css0.getD p []) q)) := by
    refine ⟨by omega, fun t ht => ?_⟩
    have et : t = 0 := by omega
    subst et
    obtain ⟨la, n, b1, b2, b3, b4, b5, b6, b7⟩ := hTX.2 0 (by omega)
    have hla := (List.getElem?_eq_some_iff.mp b2.2.2.2.1).1
    rw [T53_l] at hla
    have b7 : LawG gX la n (lwC css0) := b7
    obtain ⟨c1, c2, c3, c4, c5, c6, c7⟩ := b2
    refine ⟨la, n, by rw [q1 39 (by omega)]; exact b1, ⟨(tA (tA (tA (tA (tA (tA (tA (tA (tA (tA (tA (tA (tA (tA (tA (tA (tA (tA (tA (tA (tA (tA (tA (tA c1)))))))))))))))))))))))), (tA (tA (tA (tA (tA (tA (tA (tA (tA (tA (tA (tA (tA (tA (tA (tA (tA (tA (tA (tA (tA (tA (tA (tA c2)))))))))))))))))))))))), (tA (tA (tA (tA (tA (tA (tA (tA (tA (tA (tA (tA (tA (tA (tA (tA (tA (tA (tA (tA (tA (tA (tA (tA c3)))))))))))))))))))))))), (tA (tA (tA (tA (tA (tA (tA (tA (tA (tA (tA (tA (tA (tA (tA (tA (tA (tA (tA (tA (tA (tA (tA (tA c4)))))))))))))))))))))))), by rw [q1 la (by omega)]; exact c5, by rw [q1 la (by omega)]; exact c6, by rw [q1 la (by omega)]; exact c7⟩, b3, b4, b5, b6, ?_⟩
    exact b7.keep (q2 _ (by omega)) (q2 _ (by omega))
  have hR : RLg T76 rfM gM o0 0 0 1 (fun _ p => css0.getD p []) sh0 [] o0 0 0 := by
    refine ⟨⟨⟨hXS, Or.inl rfl, hTX2, hE.rows (fun r hr => q2 (1 + r) (by omega)), o0_V, rfl, by omega⟩, hH.keep (fun a p q => q2 a (by omega)), hP.of (congrFun (q2 35 (by omega)) 0) (q2 36 (by omega)), (congrFun (q2 0 (by omega)) 7).trans h7, fun z => absurd ((congrFun (q2 0 (by omega)) 3).trans h3) z⟩, ⟨hm1, hE2, hH2, hP2, h15, fun q hq => ?_, hW, fun z => absurd h17 z⟩, ?_, o0_G, by omega, by omega, fun a _ => ⟨0, by omega, rfl⟩, fun v hv => (by cases hv), T76_l, fun z => absurd h17 z⟩
    · have e : q = 0 := by omega
      subst e; exact hML
    · rw [(congrFun (q2 0 (by omega)) 3).trans h3, h17]
  exact lp_L_law hL9 hF 512 0 _ rfl (by omega) (by omega) (by omega) (by omega) hR
