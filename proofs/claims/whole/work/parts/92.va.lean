-- ===== what stays good =====
def Gd (o : OV) (nc t : Nat) : Prop := OVk o nc ∧ o 0 11 = nI t ∧ PI o ∧ PD o nc
/-- the first cakes are those of an image -/
def KC (o ko : OV) (kn : Nat) : Prop := ∀ c, c < kn → o 2 c = ko 2 c ∧ o 3 c = ko 3 c ∧ o 4 c = ko 4 c
theorem KC.u {o ko : OV} {kn r k : Nat} {v : Int32} (h : KC o ko kn) (hr : r ≠ 2 ∧ r ≠ 3 ∧ r ≠ 4) : KC (up o r k v) ko kn := fun c hc => by
  rw [up_row (by omega), up_row (by omega), up_row (by omega)]; exact h c hc
theorem PD_u {o : OV} {nc r k : Nat} {v : Int32} (h : PD o nc) (hr : r ≠ 5) : PD (up o r k v) nc := fun a b ha hb he => by
  rw [up_row (by omega)] at he; exact h a b ha hb he
theorem scan_m1 {p : Nat → Prop} [DecidablePred p] : ∀ (k j : Nat), j + k < 100 → scan p k j = -1 → ∀ i, j ≤ i → i < j + k → ¬ p i := by
  intro k
  induction k with
  | zero => intro j _ _ i h1 h2; omega
  | succ k ih =>
    intro j hj h i h1 h2 hp
    by_cases q : p j
    · rw [scan_yes q] at h; exact nIm1 (by omega) h
    · rw [scan_no q] at h
      rcases Nat.lt_or_ge j i with y | y
      · exact ih (j + 1) (by omega) h i (by omega) (by omega) hp
      · have : i = j := by omega
        subst this; exact q hp
theorem on_free {o : OV} {nc : Nat} {p : Int32} (h : onP o nc p = -1) (h8 : nc ≤ 8) : ∀ c, c < nc → o 5 c ≠ p := fun c hc => scan_m1 (p := fun c => o 5 c = p) nc 0 (by omega) h c (by omega) (by omega)
theorem on_only {o : OV} {nc c : Nat} {p : Int32} (hp : PD o nc) (h : onP o nc p = nI c) (h8 : nc ≤ 8) (hc : c < nc) : ∀ a, a < nc → a ≠ c → o 5 a ≠ p := by
  intro a ha hne he
  rcases scan_in (p := fun c => o 5 c = p) nc 0 with z | ⟨i, h1, h2, h3, h4⟩
  · have h : scan (fun c => o 5 c = p) nc 0 = nI c := h
    rw [h] at z
    exact nIm1 (by omega) z
  · have h : scan (fun c => o 5 c = p) nc 0 = nI c := h
    rw [h] at h4
    have e := nIinj (by omega) (by omega) h4
    subst e
    exact hne (hp a c ha hc (he.trans h3.symm))
theorem Gd_set {o : OV} {nc t : Nat} {w f v : Int32} (h : Gd o nc t) : Gd (setO o w f v) nc t ∧ (∀ {ko : OV} {kn : Nat}, KC o ko kn → KC (setO o w f v) ko kn) := by
  obtain ⟨h1, h2, h3, h4⟩ := h
  unfold setO
  split
  · split
    · split
      · next a b =>
        obtain ⟨e, hl⟩ := inN b
        have hl : nN v ≤ 99 := hl
        exact ⟨⟨by rw [e]; exact OVk_ho (by omega) h1, (up_ne (by omega)).trans h2, PI_up h3 (by omega) (by omega), PD_u h4 (by omega)⟩, fun hk => hk.u (by omega)⟩
      · exact ⟨⟨h1, h2, h3, h4⟩, id⟩
    · exact ⟨⟨h1, h2, h3, h4⟩, id⟩
  · split
    · split
      · next b =>
        obtain ⟨j, hj, e⟩ := iIn (N := 40) (M := 40) rfl (by exact Int32.le_trans (by decide) b.1) b.2
        subst e
        have hj1 : 1 ≤ j := by
          rcases Nat.eq_zero_or_pos j with y | y
          · subst y; exact absurd b.1 (by decide)
          · exact y
        exact ⟨⟨OVk_tm ⟨hj1, hj⟩ h1, (up_ne (by omega)).trans h2, PI_up h3 (by omega) (by omega), PD_u h4 (by omega)⟩, fun hk => hk.u (by omega)⟩
      · exact ⟨⟨h1, h2, h3, h4⟩, id⟩
    · split
      · split
        · next b =>
          obtain ⟨e, hl⟩ := inN b
          have hl : nN v ≤ 3 := hl
          exact ⟨⟨by rw [e]; exact OVk_li (by omega) h1, (up_ne (by omega)).trans h2, PI_up h3 (by omega) (by omega), PD_u h4 (by omega)⟩, fun hk => hk.u (by omega)⟩
        · exact ⟨⟨h1, h2, h3, h4⟩, id⟩
      · exact ⟨⟨h1, h2, h3, h4⟩, id⟩
theorem nI_m1 {tc : Nat} (h : 1 ≤ tc) : nI tc - 1 = nI (tc - 1) := by
  obtain ⟨z, rfl⟩ : ∃ z, tc = z + 1 := ⟨tc - 1, by omega⟩
  exact nI_pred z
theorem Gd_force {o : OV} {nc t tc : Nat} {v : Int32} (h : Gd o nc t) (ht : t < tc) (h6 : tc ≤ 6) : (∃ t', t' < tc ∧ Gd (forceO o tc v) nc t') ∧ (∀ {ko : OV} {kn : Nat}, KC o ko kn → KC (forceO o tc v) ko kn) := by
  unfold forceO
  split
  · next b =>
    rw [nI_m1 (by omega)] at b
    obtain ⟨e, hl⟩ := inN b
    rw [nN_nI (by omega)] at hl
    obtain ⟨h1, h2, h3, h4⟩ := h
    exact ⟨⟨nN v, by omega, OVk_lw h1, (up_same _ _ _ _).trans e, PI_up h3 (by omega) (by omega), PD_u h4 (by omega)⟩, fun hk => hk.u (by omega)⟩
  · exact ⟨⟨t, ht, h⟩, id⟩
theorem Gd_cake {o o2 : OV} {nc n2 t : Nat} {km w p : Int32} (h : Gd o nc t) (hx : cakeX o nc km w p o2 n2) : Gd o2 n2 t ∧ nc ≤ n2 ∧ (∀ {ko : OV} {kn : Nat}, kn ≤ nc → KC o ko kn → KC o2 ko kn) := by
  obtain ⟨h1, h2, h3, h4⟩ := h
  have hv := OVk_cakeX h1 hx
  have hp := PI_cakeX h3 hx
  rcases hx with ⟨hc, rfl, rfl⟩ | ⟨-, rfl, rfl⟩
  · refine ⟨⟨hv, ?_, hp, ?_⟩, by omega, fun {ko kn} hk hK c hc2 => ?_⟩
    · unfold ck
      rw [up_ne (by omega), up_ne (by omega), up_ne (by omega), up_ne (by omega), up_ne (by omega)]; exact h2
    · have hf := on_free hc.2.2.2.1 h1.2.1
      have e5 : ∀ a, ck o nc (km / 10) (remI km 10) w p 5 a = if a = nc then p else o 5 a := fun a => by
        unfold ck
        rw [up_row (by omega)]
        by_cases z : a = nc
        · subst z; rw [up_same, if_pos rfl]
        · rw [up_ne (fun y => z y.2), up_row (by omega), up_row (by omega), up_row (by omega), if_neg z]
      intro a b ha hb he
      rw [e5, e5] at he
      by_cases za : a = nc
      · rw [if_pos za] at he
        by_cases zb : b = nc
        · omega
        · rw [if_neg zb] at he
          exact absurd he.symm (hf b (by omega))
      · rw [if_neg za] at he
        by_cases zb : b = nc
        · rw [if_pos zb] at he
          exact absurd he (hf a (by omega))
        · rw [if_neg zb] at he
          exact h4 a b (by omega) (by omega) he
    · unfold ck
      rw [up_row (by omega), up_row (by omega), up_row (by omega), up_row (by omega), up_ne (by omega), up_row (by omega), up_row (by omega), up_row (by omega), up_ne (by omega), up_row (by omega), up_row (by omega), up_row (by omega), up_ne (by omega), up_row (by omega)]
      exact hK c hc2
  · exact ⟨⟨h1, h2, h3, h4⟩, Nat.le_refl _, fun _ hK => hK⟩
theorem Gd_cby {sh : Nat → Nat → Int32} {s : Nat} {at_ : Int32} : ∀ (k j : Nat) {o o2 : OV} {nc n2 t : Nat} {c r : Int32}, Gd o nc t → cbyR sh s at_ k j o nc c o2 n2 r → Gd o2 n2 t ∧ nc ≤ n2 ∧ (∀ {ko : OV} {kn : Nat}, kn ≤ nc → KC o ko kn → KC o2 ko kn) := by
  intro k
  induction k with
  | zero =>
    rintro j o o2 nc n2 t c r h ⟨rfl, rfl, -⟩
    exact ⟨h, Nat.le_refl _, fun _ hK => hK⟩
  | succ k ih =>
    rintro j o o2 nc n2 t c r h (⟨-, rfl, rfl, -⟩ | ⟨-, o1, n1, hx, hr⟩)
    · exact ⟨h, Nat.le_refl _, fun _ hK => hK⟩
    · obtain ⟨a1, a2, a3⟩ := Gd_cake h hx
      obtain ⟨b1, b2, b3⟩ := ih (j + 1) a1 hr
      exact ⟨b1, by omega, fun hk hK => b3 (by omega) (a3 hk hK)⟩
theorem Gd_cbyX {sh : Nat → Nat → Int32} {s so at_ n r : Int32} {o o2 : OV} {nc n2 t : Nat} (h : Gd o nc t) (hx : cbyX sh o nc s so at_ n o2 n2 r) : Gd o2 n2 t ∧ nc ≤ n2 ∧ (∀ {ko : OV} {kn : Nat}, kn ≤ nc → KC o ko kn → KC o2 ko kn) := by
  rcases hx with ⟨-, rfl, rfl, -⟩ | ⟨-, -, rfl, rfl, -⟩ | ⟨-, -, -, rfl, rfl, -⟩ | ⟨-, -, -, hr⟩
  · exact ⟨h, Nat.le_refl _, fun _ hK => hK⟩
  · exact ⟨h, Nat.le_refl _, fun _ hK => hK⟩
  · exact ⟨h, Nat.le_refl _, fun _ hK => hK⟩
  · exact Gd_cby _ _ h hr
theorem cbyR_det {sh : Nat → Nat → Int32} {s : Nat} {at_ : Int32} : ∀ (k j : Nat) {o o2 o3 : OV} {nc n2 n3 : Nat} {c r r3 : Int32}, cbyR sh s at_ k j o nc c o2 n2 r → cbyR sh s at_ k j o nc c o3 n3 r3 → o2 = o3 ∧ n2 = n3 ∧ r = r3 := by
  intro k
  induction k with
  | zero =>
    rintro j o o2 o3 nc n2 n3 c r r3 ⟨rfl, rfl, rfl⟩ ⟨rfl, rfl, rfl⟩
    exact ⟨rfl, rfl, rfl⟩
  | succ k ih =>
    rintro j o o2 o3 nc n2 n3 c r r3 (⟨a, rfl, rfl, rfl⟩ | ⟨a, o1, n1, hx, hr⟩) (⟨b, rfl, rfl, rfl⟩ | ⟨b, p1, m1, hy, hs⟩)
    · exact ⟨rfl, rfl, rfl⟩
    · exact absurd a b
    · exact absurd b a
    · obtain ⟨rfl, rfl⟩ := cakeX_det hx hy
      exact ih (j + 1) hr hs
theorem cbyX_det {sh : Nat → Nat → Int32} {s so at_ n r r3 : Int32} {o o2 o3 : OV} {nc n2 n3 : Nat} (h : cbyX sh o nc s so at_ n o2 n2 r) (h' : cbyX sh o nc s so at_ n o3 n3 r3) : o2 = o3 ∧ n2 = n3 ∧ r = r3 := by
  rcases h with ⟨a, rfl, rfl, rfl⟩ | ⟨a, a1, rfl, rfl, rfl⟩ | ⟨a, a1, a2, rfl, rfl, rfl⟩ | ⟨a, a1, a2, hr⟩ <;> rcases h' with ⟨b, rfl, rfl, rfl⟩ | ⟨b, b1, rfl, rfl, rfl⟩ | ⟨b, b1, b2, rfl, rfl, rfl⟩ | ⟨b, b1, b2, hs⟩
  all_goals first | exact ⟨rfl, rfl, rfl⟩ | exact absurd a b | exact absurd b a | exact absurd a1 b1 | exact absurd b1 a1 | exact absurd a2 b2 | exact absurd b2 a2 | exact cbyR_det _ _ hr hs
theorem Gd_move {o : OV} {nc t : Nat} {c p : Int32} (h : Gd o nc t) : Gd (moveO o nc c p) nc t ∧ (∀ {ko : OV} {kn : Nat}, KC o ko kn → KC (moveO o nc c p) ko kn) := by
  unfold moveO
  split
  · next hc =>
    split
    · next hp =>
      split
      · next ho =>
        obtain ⟨h1, h2, h3, h4⟩ := h
        have h8 := h1.2.1
        rcases Nat.eq_zero_or_pos nc with z0 | z0
        · subst z0
          exact absurd (Int32.le_trans hc.1 hc.2) (by decide)
        rw [nI_m1 z0] at hc
        obtain ⟨ec, hcl⟩ := inN hc
        rw [nN_nI (by omega)] at hcl
        obtain ⟨ep, hpl⟩ := inN hp
        have hpl : nN p ≤ 15 := hpl
        have hfree : ∀ a, a < nc → a ≠ nN c → o 5 a ≠ p := by
          rcases ho with z | z
          · exact fun a ha _ => on_free z h8 a ha
          · exact on_only h4 (z.trans ec) h8 (by omega)
        refine ⟨⟨?_, (up_ne (by omega)).trans h2, PI_up h3 (by omega) (by omega), fun a b ha hb he => ?_⟩, fun hk => hk.u (by omega)⟩
        · rw [show up o 5 (nN c) p = up o 5 (nN c) (nI (nN p)) by rw [← ep]]
          exact OVk_pc (by omega) h1
        · by_cases za : a = nN c
          · by_cases zb : b = nN c
            · omega
            · rw [za, up_same, up_ne (fun y => zb y.2)] at he
              exact absurd he.symm (hfree b hb zb)
          · by_cases zb : b = nN c
            · rw [zb, up_same, up_ne (fun y => za y.2)] at he
              exact absurd he (hfree a ha za)
            · rw [up_ne (fun y => za y.2), up_ne (fun y => zb y.2)] at he
              exact h4 a b ha hb he
      · exact ⟨h, id⟩
    · exact ⟨h, id⟩
  · exact ⟨h, id⟩
theorem Gd_shut {o : OV} {nc t : Nat} (h : Gd o nc t) : Gd (up o 0 8 0) nc t ∧ (∀ {ko : OV} {kn : Nat}, KC o ko kn → KC (up o 0 8 0) ko kn) := by
  obtain ⟨h1, h2, h3, h4⟩ := h
  have h6 : nN (o 0 8) ≤ 6 := by
    obtain ⟨-, -, ⟨no, h5, h51, -, -⟩, -⟩ := h1
    rw [h51, nN_nI (by omega)]; exact h5
  exact ⟨⟨OVk_op (n := 0) (Nat.zero_le _) h1, (up_ne (by omega)).trans h2, PI_op (n := 0) h3 (Nat.zero_le _) h6, PD_u h4 (by omega)⟩, fun hk => hk.u (by omega)⟩
theorem Gd_open {o : OV} {nc t : Nat} {m q : Int32} (h : Gd o nc t) : Gd (openO o m q) nc t ∧ (∀ {ko : OV} {kn : Nat}, KC o ko kn → KC (openO o m q) ko kn) := by
  unfold openO
  split
  · next hm =>
    split
    · next hq =>
      split
      · exact ⟨h, id⟩
      · next hn =>
        split
        · next h6 =>
          obtain ⟨h1, h2, h3, h4⟩ := h
          obtain ⟨em, hml⟩ := inN hm
          have hml : nN m ≤ 39 := hml
          obtain ⟨eq, hql⟩ := inN hq
          have hql : nN q ≤ 3 := hql
          obtain ⟨no, hno⟩ : ∃ no, no = nN (o 0 8) := ⟨_, rfl⟩
          rw [← hno] at hn h6 ⊢
          have eo : o 0 8 = nI no := by
            obtain ⟨-, -, ⟨n9, h5, h51, -, -⟩, -⟩ := h1
            rw [h51, nN_nI (by omega)] at hno
            rw [h51, hno]
          have e0 : ∀ k, k ≠ 8 → pl o no m q 0 k = o 0 k := fun k hk => by
            unfold pl
            rw [up_ne (fun z => hk z.2), up_row (by omega), up_row (by omega)]
          have e8 : pl o no m q 0 8 = nI (no + 1) := by
            unfold pl
            rw [up_same]; exact nI_1 no
          have e6 : ∀ k, pl o no m q 6 k = if k = no then m else o 6 k := fun k => by
            unfold pl
            rw [up_row (by omega), up_row (by omega)]
            by_cases z : k = no
            · rw [z, up_same, if_pos rfl]
            · rw [up_ne (fun y => z y.2), if_neg z]
          have e7 : ∀ k, pl o no m q 7 k = if k = no then q else o 7 k := fun k => by
            unfold pl
            rw [up_row (by omega)]
            by_cases z : k = no
            · rw [z, up_same, if_pos rfl]
            · rw [up_ne (fun y => z y.2), if_neg z, up_row (by omega)]
          have er : ∀ r, r ≠ 0 → r ≠ 6 → r ≠ 7 → pl o no m q r = o r := fun r a b c => by
            unfold pl
            rw [up_row a, up_row c, up_row b]
          refine ⟨⟨?_, (e0 11 (by omega)).trans h2, ?_, ?_⟩, fun hk c hc => by rw [er 2 (by omega) (by omega) (by omega), er 3 (by omega) (by omega) (by omega), er 4 (by omega) (by omega) (by omega)]; exact hk c hc⟩
          · obtain ⟨a1, a2, ⟨n9, a3, a31, a32, a33⟩, a4, a5, a6, a7, a8, a9, a10⟩ := h1
            have : n9 = no := by rw [hno, a31, nN_nI (by omega)]
            subst this
            refine ⟨(e0 5 (by omega)).trans a1, a2, ⟨n9 + 1, by omega, e8, fun k hk => ?_, fun k hk => ?_⟩, ?_, ?_, fun c hc => ?_, fun c hc => ?_, fun c hc => ?_, fun c hc => ?_, fun c hc => ?_⟩
            · rw [e6]
              by_cases z : k = n9
              · rw [if_pos z]; exact ⟨nN m, by omega, em⟩
              · rw [if_neg z]; exact a32 k (by omega)
            · rw [e7]
              by_cases z : k = n9
              · rw [if_pos z]; exact ⟨nN q, by omega, eq⟩
              · rw [if_neg z]; exact a33 k (by omega)
            · rw [e0 9 (by omega)]; exact a4
            · rw [e0 10 (by omega)]; exact a5
            · rw [er 2 (by omega) (by omega) (by omega)]; exact a6 c hc
            · rw [er 3 (by omega) (by omega) (by omega)]; exact a7 c hc
            · rw [er 4 (by omega) (by omega) (by omega)]; exact a8 c hc
            · rw [er 5 (by omega) (by omega) (by omega)]; exact a9 c hc
            · rw [er 1 (by omega) (by omega) (by omega)]; exact a10 c hc
          · intro i j hij hj
            rw [e8, nN_nI (by omega)] at hj
            rw [e6, e6]
            by_cases z : j = no
            · rw [if_pos z, if_neg (show ¬ i = no by omega)]
              have hpos : 0 < o 0 8 := by rw [eo]; exact nI_lt (a := 0) (by omega) (by omega)
              have hlast : ¬ m ≤ o 6 (no - 1) := fun y => hn ⟨hpos, y⟩
              have hmi : ∀ k, k < no → nN (o 6 k) < 40 ∧ o 6 k = nI (nN (o 6 k)) := fun k hk => h1.mi (by omega)
              have hl2 : nN (o 6 (no - 1)) < nN m := by
                rcases Nat.lt_or_ge (nN (o 6 (no - 1))) (nN m) with y | y
                · exact y
                · exfalso
                  apply hlast
                  rw [em, (hmi (no - 1) (by omega)).2]
                  exact nI_le y (by have := (hmi (no - 1) (by omega)).1; omega)
              rcases (by omega : i = no - 1 ∨ i < no - 1) with y | y
              · rw [y]; exact hl2
              · have := h3 i (no - 1) y (by omega)
                omega
            · rw [if_neg z, if_neg (show ¬ i = no by omega)]
              exact h3 i j hij (by omega)
          · intro a b ha hb he
            rw [er 5 (by omega) (by omega) (by omega)] at he
            exact h4 a b ha hb he
        · exact ⟨h, id⟩
    · exact ⟨h, id⟩
  · exact ⟨h, id⟩
/-- the sheets' sizes -/
def Sz (sh : Nat → Nat → Int32) : Prop := ∀ a, a < 4 → ∃ n, n ≤ 40 ∧ sh a 1 = nI n
theorem Sz_clr {sh : Nat → Nat → Int32} {s : Nat} {x y : Int32} (h : Sz sh) (hy : ∃ n, n ≤ 40 ∧ y = nI n) : Sz (clr sh s x y) := fun a ha => by
  by_cases z : a = s
  · obtain ⟨n, h1, h2⟩ := hy
    exact ⟨n, h1, by unfold clr; rw [if_pos z, if_neg (by omega), if_pos rfl]; exact h2⟩
  · obtain ⟨n, h1, h2⟩ := h a ha
    exact ⟨n, h1, by unfold clr; rw [if_neg z]; exact h2⟩
theorem Sz_sheet {sh : Nat → Nat → Int32} {s so n : Int32} (h : Sz sh) : Sz (sheetS sh s so n) := by
  unfold sheetS
  split
  · split
    · split
      · exact Sz_clr h ⟨0, by omega, rfl⟩
      · split
        · exact h
        · split
          · exact h
          · next a b =>
            obtain ⟨j, hj, e⟩ := iIn (N := 40) (M := 40) rfl (Int32.not_lt.mp b) (Int32.not_lt.mp a)
            exact Sz_clr h ⟨j, hj, e⟩
    · exact h
  · exact h
theorem Sz_cell {sh : Nat → Nat → Int32} {s i v : Int32} (h : Sz sh) : Sz (cellS sh s i v) := by
  unfold cellS
  split
  · split
    · exact h
    · split
      · intro a ha
        obtain ⟨n, h1, h2⟩ := h a ha
        exact ⟨n, h1, by unfold stC; rw [if_neg (by omega)]; exact h2⟩
      · exact h
  · exact h
theorem Sz_copy {sh : Nat → Nat → Int32} {s i q j n : Int32} (h : Sz sh) : Sz (copyX sh s i q j n).2 := by
  unfold copyX
  repeat' split
  all_goals first | exact h | skip
  intro a ha
  obtain ⟨m, h1, h2⟩ := h a ha
  refine ⟨m, h1, ?_⟩
  show cpS sh (nN s) (nN i) (nN q) (nN j) (nN n) a 1 = _
  unfold cpS
  rw [if_neg (by omega)]
  exact h2
theorem Sz_film {sh : Nat → Nat → Int32} {o : OV} {nc : Nat} {ev : EV} {s m : Int32} (h : Sz sh) (h8 : nc ≤ 8) : Sz (filmX sh o nc ev s m) := by
  unfold filmX
  split
  · split
    · intro a ha
      unfold filmS
      by_cases z : a = nN s
      · exact ⟨nc, by omega, by rw [if_pos z, if_neg (by omega), if_pos rfl]⟩
      · obtain ⟨n, h1, h2⟩ := h a ha
        exact ⟨n, h1, by rw [if_neg z]; exact h2⟩
    · exact h
  · exact h
theorem TB_feed {tp tp2 : List Int32} {n a b c d e r : Int32} (h : TB tp) (hx : feedX tp n a b c d e r tp2) : TB tp2 := by
  rcases hx with ⟨-, -, rfl⟩ | ⟨-, -, -, rfl⟩ | ⟨hc, -, -, rfl⟩
  · exact h
  · exact h
  · intro v hv
    rcases List.mem_append.mp hv with z | z
    · exact h v z
    · have z := List.mem_of_mem_take z
      obtain ⟨-, c1, c2, c3, c4, c5⟩ := hc
      simp only [List.mem_cons, List.not_mem_nil, or_false] at z
      rcases z with rfl | rfl | rfl | rfl | rfl
      · exact c1
      · exact c2
      · exact c3
      · exact c4
      · exact c5
theorem feed_det {tp tp2 tp3 : List Int32} {n a b c d e r r3 : Int32} (h : feedX tp n a b c d e r tp2) (h' : feedX tp n a b c d e r3 tp3) : r = r3 ∧ tp2 = tp3 := by
  rcases h with ⟨x, rfl, rfl⟩ | ⟨x, y, rfl, rfl⟩ | ⟨x, y, rfl, rfl⟩ <;> rcases h' with ⟨x', rfl, rfl⟩ | ⟨x', y', rfl, rfl⟩ | ⟨x', y', rfl, rfl⟩
  all_goals first | exact ⟨rfl, rfl⟩ | exact absurd x x' | exact absurd x' x | exact absurd y y' | exact absurd y' y
