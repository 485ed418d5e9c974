theorem OVk_ck {o : OV} {nc a b w p : Nat} (h : OVk o nc) (h8 : nc < 8) (ha : a < 6) (hb : b < 10) (hw : w < 1000) (hp : p < 16) : OVk (ck o nc (nI a) (nI b) (nI w) (nI p)) (nc + 1) := by
  obtain ⟨h1, h2, ⟨no, h3, h31, h32, h33⟩, h4, h5, h6, h7, h8', h9, h10⟩ := h
  unfold ck
  refine ⟨up_same _ _ _ _, by omega, ⟨no, h3, by rw [up_ne (by omega), up_ne (by omega), up_ne (by omega), up_ne (by omega), up_ne (by omega)]; exact h31, fun i hi => by rw [up_ne (by omega), up_ne (by omega), up_ne (by omega), up_ne (by omega), up_ne (by omega)]; exact h32 i hi, fun i hi => by rw [up_ne (by omega), up_ne (by omega), up_ne (by omega), up_ne (by omega), up_ne (by omega)]; exact h33 i hi⟩, by rw [up_ne (by omega), up_ne (by omega), up_ne (by omega), up_ne (by omega), up_ne (by omega)]; exact h4, by rw [up_ne (by omega), up_ne (by omega), up_ne (by omega), up_ne (by omega), up_ne (by omega)]; exact h5, fun i hi => ?_, fun i hi => ?_, fun i hi => ?_, fun i hi => ?_, fun i hi => by rw [up_ne (by omega), up_ne (by omega), up_ne (by omega), up_ne (by omega), up_ne (by omega)]; exact h10 i hi⟩
  · rw [up_ne (by omega), up_ne (by omega), up_ne (by omega), up_ne (by omega)]
    by_cases q : i = nc
    · subst q; exact ⟨a, ha, up_same _ _ _ _⟩
    · rw [up_ne (fun z => q z.2)]; exact h6 i (by omega)
  · rw [up_ne (by omega), up_ne (by omega), up_ne (by omega)]
    by_cases q : i = nc
    · subst q; exact ⟨b, hb, up_same _ _ _ _⟩
    · rw [up_ne (fun z => q z.2), up_ne (by omega)]; exact h7 i (by omega)
  · rw [up_ne (by omega), up_ne (by omega)]
    by_cases q : i = nc
    · subst q; exact ⟨w, hw, up_same _ _ _ _⟩
    · rw [up_ne (fun z => q z.2), up_ne (by omega), up_ne (by omega)]; exact h8' i (by omega)
  · rw [up_ne (by omega)]
    by_cases q : i = nc
    · subst q; exact ⟨p, hp, up_same _ _ _ _⟩
    · rw [up_ne (fun z => q z.2), up_ne (by omega), up_ne (by omega), up_ne (by omega)]; exact h9 i (by omega)
theorem remI_nat {a m : Nat} (ha : a < 2147483648) (hm : m < 2147483648) : remI (nI a) (nI m) = nI (a % m) := by
  have hmul : a / m * m + a % m = a := Nat.div_add_mod' a m
  unfold remI
  rw [nI_divN ha hm]
  have h0 := Nat.div_le_self a m
  rw [nI_mulN (by omega) (by omega) hm]
  apply Int32.toInt_inj.mp
  generalize a / m * m = q at hmul ⊢
  generalize a % m = r at hmul ⊢
  rw [iSub (by rw [iT (by omega), iT (by omega)]; omega) (by rw [iT (by omega), iT (by omega)]; omega), iT (by omega), iT (by omega), iT (by omega)]
  omega
theorem OVk_cakeX {o o2 : OV} {nc n2 : Nat} {km w p : Int32} (h : OVk o nc) (hx : cakeX o nc km w p o2 n2) : OVk o2 n2 := by
  rcases hx with ⟨⟨c1, c2, c3, -, c5⟩, rfl, rfl⟩ | ⟨-, rfl, rfl⟩
  · have a1 := inN c1
    have a2 := inN c2
    have a3 := inN c3
    have b1 : nN km ≤ 59 := a1.2
    have b2 : nN w ≤ 999 := a2.2
    have b3 : nN p ≤ 15 := a3.2
    rw [a1.1, a2.1, a3.1, show (10 : Int32) = nI 10 from rfl, nI_divN (by omega) (by omega), remI_nat (by omega) (by omega)]
    exact OVk_ck h c5 (by omega) (by omega) (by omega) (by omega)
  · exact h
theorem cakeX_lw {o o2 : OV} {nc n2 : Nat} {km w p : Int32} (hx : cakeX o nc km w p o2 n2) : o2 0 11 = o 0 11 := by
  rcases hx with ⟨-, rfl, -⟩ | ⟨-, rfl, -⟩
  · unfold ck
    rw [up_ne (by omega), up_ne (by omega), up_ne (by omega), up_ne (by omega), up_ne (by omega)]
  · rfl
theorem cakeX_det {o o2 o3 : OV} {nc n2 n3 : Nat} {km w p : Int32} (h : cakeX o nc km w p o2 n2) (h' : cakeX o nc km w p o3 n3) : o2 = o3 ∧ n2 = n3 := by
  rcases h with ⟨c, rfl, rfl⟩ | ⟨c, rfl, rfl⟩ <;> rcases h' with ⟨c', rfl, rfl⟩ | ⟨c', rfl, rfl⟩
  · exact ⟨rfl, rfl⟩
  · exact absurd c c'
  · exact absurd c' c
  · exact ⟨rfl, rfl⟩

