theorem nI_mulN {a b : Nat} (h : a * b < 2147483648) (ha : a < 2147483648) (hb : b < 2147483648) : nI a * nI b = nI (a * b) := by
  apply Int32.toInt_inj.mp
  rw [Int32.toInt_mul, iT ha, iT hb, iT h, ← Int.natCast_mul]
  generalize a * b = q at h
  exact iBm (by omega) (by omega)
theorem nI_divN {a b : Nat} (ha : a < 2147483648) (hb : b < 2147483648) : nI a / nI b = nI (a / b) := by
  have h0 := Nat.div_le_self a b
  apply Int32.toInt_inj.mp
  rw [Int32.toInt_div, iT ha, iT hb, ← Int.ofNat_tdiv]
  generalize a / b = q at h0
  rw [iT (by omega)]
  exact iBm (by omega) (by omega)
theorem mx0_nat {x : Int32} : 0 ≤ (mx0 x).toInt ∧ (mx0 x).toInt = max 0 x.toInt := by
  unfold mx0
  split
  · rename_i h
    have := iLt.mp h
    have : 0 < x.toInt := this
    omega
  · rename_i h
    have : ¬ (0 < x.toInt) := fun q => h (iLt.mpr q)
    show 0 ≤ (0 : Int) ∧ (0 : Int) = max 0 x.toInt
    omega
theorem evL_nat (lw : Nat → List Int32) (p : Nat) (nm : Nat → Int32) : ∃ s, s ≤ 99 ∧ evL lw p nm = nI s := by
  unfold evL clX
  generalize hd0 (evX nm (lw p) []) = x
  have h := mx0_nat (x := if x < 99 then x else 99)
  have h2 : (if x < 99 then x else (99 : Int32)).toInt ≤ 99 := by
    split
    · rename_i q
      have := iLt.mp q
      have : x.toInt < 99 := this
      omega
    · exact Int.le_refl _
  exact ⟨(mx0 (if x < 99 then x else 99)).toInt.toNat, by omega, iN h.1⟩
theorem kGains_nat {k s b m : Nat} (hk : k < 6) (hs : s ≤ 99) (hb : b ≤ 999) (hm : m < 10) : ∃ q, q ≤ 400 ∧ kGains (nI k) (nI s) (nI b) (nI m) = nI q := by
  have e1 : nI s * 2 / 3 = nI (s * 2 / 3) := by
    rw [show (2 : Int32) = nI 2 from rfl, show (3 : Int32) = nI 3 from rfl, nI_mulN (by omega) (by omega) (by omega), nI_divN (by omega) (by omega)]
  have e2 : nI s + nI m / 2 = nI (s + m / 2) := by
    rw [show (2 : Int32) = nI 2 from rfl, nI_divN (by omega) (by omega), nI_add]
  have e3 : 3 * nI (s + m / 2) = nI (3 * (s + m / 2)) := by
    rw [show (3 : Int32) = nI 3 from rfl, nI_mulN (by omega) (by omega) (by omega)]
  rcases (by omega : k = 0 ∨ k = 1 ∨ k = 2 ∨ k = 3 ∨ k = 4 ∨ k = 5) with rfl | rfl | rfl | rfl | rfl | rfl
  · exact ⟨s, by omega, kG0 _ _ _⟩
  · exact ⟨s * 2 / 3, by omega, (kG1 _ _ _).trans e1⟩
  · exact ⟨s + m / 2, by omega, (kG2 _ _ _).trans e2⟩
  · exact ⟨s * 2 / 3, by omega, (kG3 _ _ _).trans e1⟩
  · rw [kG4, e2, e3]
    split
    · exact ⟨_, by omega, rfl⟩
    · exact ⟨_, by omega, rfl⟩
  · exact ⟨s, by omega, kG5 _ _ _⟩
theorem brS_nat {o : OV} {nc : Nat} {lw : Nat → List Int32} (h : OVk o nc) {c : Nat} (hc : c < nc) : ∀ m, ∃ b, b ≤ 999 ∧ brS o (evL lw) c m = nI b := by
  obtain ⟨-, -, -, -, -, h6, h7, -, -, -⟩ := h
  obtain ⟨k, hk, ek⟩ := h6 c hc
  obtain ⟨mo, hmo, emo⟩ := h7 c hc
  intro m
  induction m with
  | zero => exact ⟨0, by omega, rfl⟩
  | succ m ih =>
    obtain ⟨b, hb, eb⟩ := ih
    show ∃ x, x ≤ 999 ∧ bk1 o (evL lw) c m _ _ (brS o (evL lw) c m) = nI x
    rw [eb]
    unfold bk1
    split
    · exact ⟨b, hb, rfl⟩
    · rw [ek, emo]
      obtain ⟨s, hs, es⟩ := evL_nat lw 0 (nm6 (heat1 o (evL lw) c m (opn o (m + 1)).1 (opn o (m + 1)).2.1 (nI b)) (nI m) (nI b) (nI mo) (nI (sinceN m (opn o (m + 1)).2.1)) (o 0 8))
      obtain ⟨q, hq, eq⟩ := kGains_nat hk hs hb hmo
      rw [es, eq]
      have e0 : mx0 (nI q) = nI q := by
        apply Int32.toInt_inj.mp
        have := (mx0_nat (x := nI q)).2
        rw [iT (by omega)] at this ⊢
        omega
      rw [e0, nI_add]
      unfold mn999
      split
      · rename_i z
        have z2 := iLt.mp z
        rw [iT (by omega)] at z2
        have z2 : ((b + q : Nat) : Int) < 999 := z2
        exact ⟨b + q, by omega, rfl⟩
      · exact ⟨999, by omega, rfl⟩
theorem put1 {b : Nat} (h : b ≤ 999) : putV 1 (nI b) = nI b := by
  show (nI b).toInt16.toInt32 = nI b
  apply Int32.toInt_inj.mp
  rw [Int16.toInt_toInt32, Int32.toInt_toInt16, iT (by omega)]
  apply Int.bmod_eq_of_le <;> omega
def filmS (sh : Nat → Nat → Int32) (o : OV) (nc : Nat) (ev : EV) (s m n : Nat) : Nat → Nat → Int32 := fun i k => if i = s then (if k = 0 then 1 else if k = 1 then nI nc else if k - 2 < n then brS o ev (k - 2) m else 0) else sh i k
theorem film_0 {sh : Nat → Nat → Int32} {o : OV} {nc s m : Nat} {ev : EV} : clr sh s 1 (nI nc) = filmS sh o nc ev s m 0 := by
  funext i k
  unfold clr filmS
  split
  · split
    · rfl
    · split
      · rfl
      · rw [if_neg (by omega)]
  · rfl
theorem film_s {sh : Nat → Nat → Int32} {o : OV} {nc s m j : Nat} {ev : EV} : stC (filmS sh o nc ev s m j) s j (brS o ev j m) = filmS sh o nc ev s m (j + 1) := by
  funext i k
  unfold stC filmS
  by_cases q : i = s
  · by_cases q2 : k = 2 + j
    · rw [if_pos ⟨q, q2⟩, if_pos q, if_neg (by omega), if_neg (by omega), if_pos (by omega), show k - 2 = j by omega]
    · rw [if_neg (fun z => q2 z.2), if_pos q, if_pos q]
      by_cases q3 : k = 0
      · rw [if_pos q3, if_pos q3]
      · rw [if_neg q3, if_neg q3]
        by_cases q4 : k = 1
        · rw [if_pos q4, if_pos q4]
        · rw [if_neg q4, if_neg q4]
          by_cases q5 : k - 2 < j
          · rw [if_pos q5, if_pos (by omega)]
          · rw [if_neg q5, if_neg (by omega)]
  · rw [if_neg (fun z => q z.1), if_neg q, if_neg q]
def filmP (o : OV) (nc : Nat) (s m : Int32) : Int32 := if 0 ≤ s ∧ s ≤ 3 then (if 0 ≤ m ∧ m ≤ o 0 9 then nI nc else -2) else -2
def filmX (sh : Nat → Nat → Int32) (o : OV) (nc : Nat) (ev : EV) (s m : Int32) : Nat → Nat → Int32 := if 0 ≤ s ∧ s ≤ 3 then (if 0 ≤ m ∧ m ≤ o 0 9 then filmS sh o nc ev (nN s) (nN m) nc else sh) else sh

