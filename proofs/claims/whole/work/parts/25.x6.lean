-- ===== ovens that are alike =====
def OEq (o o' : OV) (nc : Nat) : Prop := (o 0 5 = o' 0 5 ∧ o 0 8 = o' 0 8 ∧ o 0 9 = o' 0 9 ∧ o 0 10 = o' 0 10 ∧ o 0 11 = o' 0 11) ∧ (∀ i, i < 16 → o 1 i = o' 1 i) ∧ (∀ c, c < nc → o 2 c = o' 2 c ∧ o 3 c = o' 3 c ∧ o 4 c = o' 4 c ∧ o 5 c = o' 5 c) ∧ ∀ k, k < 6 → o 6 k = o' 6 k ∧ o 7 k = o' 7 k
theorem OEq.rf {o : OV} {nc : Nat} : OEq o o nc := ⟨⟨rfl, rfl, rfl, rfl, rfl⟩, fun _ _ => rfl, fun _ _ => ⟨rfl, rfl, rfl, rfl⟩, fun _ _ => ⟨rfl, rfl⟩⟩
theorem OEq.sy {o o' : OV} {nc : Nat} (h : OEq o o' nc) : OEq o' o nc := by
  obtain ⟨⟨a1, a2, a3, a4, a5⟩, b, c, d⟩ := h
  exact ⟨⟨a1.symm, a2.symm, a3.symm, a4.symm, a5.symm⟩, fun i hi => (b i hi).symm, fun i hi => ⟨(c i hi).1.symm, (c i hi).2.1.symm, (c i hi).2.2.1.symm, (c i hi).2.2.2.symm⟩, fun k hk => ⟨(d k hk).1.symm, (d k hk).2.symm⟩⟩
theorem OEq.tr {o o1 o2 : OV} {nc : Nat} (h : OEq o o1 nc) (h' : OEq o1 o2 nc) : OEq o o2 nc := by
  obtain ⟨⟨a1, a2, a3, a4, a5⟩, b, c, d⟩ := h
  obtain ⟨⟨a1', a2', a3', a4', a5'⟩, b', c', d'⟩ := h'
  exact ⟨⟨a1.trans a1', a2.trans a2', a3.trans a3', a4.trans a4', a5.trans a5'⟩, fun i hi => (b i hi).trans (b' i hi), fun i hi => ⟨(c i hi).1.trans (c' i hi).1, (c i hi).2.1.trans (c' i hi).2.1, (c i hi).2.2.1.trans (c' i hi).2.2.1, (c i hi).2.2.2.trans (c' i hi).2.2.2⟩, fun k hk => ⟨(d k hk).1.trans (d' k hk).1, (d k hk).2.trans (d' k hk).2⟩⟩
theorem OEq.le {o o' : OV} {nc n : Nat} (h : OEq o o' nc) (hn : n ≤ nc) : OEq o o' n := ⟨h.1, h.2.1, fun c hc => h.2.2.1 c (by omega), h.2.2.2⟩
theorem OVk.eq {o o' : OV} {nc : Nat} (h : OVk o nc) (e : OEq o' o nc) : OVk o' nc := by
  obtain ⟨h1, h2, ⟨no, h3, h31, h32, h33⟩, h4, h5, h6, h7, h8, h9, h10⟩ := h
  obtain ⟨⟨a1, a2, a3, a4, a5⟩, b, c, d⟩ := e
  exact ⟨a1.trans h1, h2, ⟨no, h3, a2.trans h31, fun k hk => by rw [(d k (by omega)).1]; exact h32 k hk, fun k hk => by rw [(d k (by omega)).2]; exact h33 k hk⟩, by rw [a3]; exact h4, by rw [a4]; exact h5, fun i hi => by rw [(c i hi).1]; exact h6 i hi, fun i hi => by rw [(c i hi).2.1]; exact h7 i hi, fun i hi => by rw [(c i hi).2.2.1]; exact h8 i hi, fun i hi => by rw [(c i hi).2.2.2]; exact h9 i hi, fun i hi => by rw [b i hi]; exact h10 i hi⟩
theorem OVk.no {o : OV} {nc : Nat} (h : OVk o nc) : nN (o 0 8) ≤ 6 := by
  obtain ⟨-, -, ⟨no, h3, h31, -⟩, -⟩ := h
  rw [h31, nN_nI (by omega)]; exact h3
theorem opn_eq {o o' : OV} {nc : Nat} (e : OEq o o' nc) (h6 : nN (o 0 8) ≤ 6) (m : Nat) : opn o m = opn o' m := by
  induction m with
  | zero => show (nN (o 0 10), none, 0) = (nN (o' 0 10), none, 0); rw [e.1.2.2.2.1]
  | succ m ih =>
    have e8 := e.1.2.1
    by_cases q : (opn o m).2.2 < nN (o 0 8)
    · have e6 := e.2.2.2 (opn o m).2.2 (by omega)
      by_cases q2 : nN (o 6 (opn o m).2.2) = m
      · rw [opn_yes q q2, opn_yes (by rw [← ih, ← e8]; exact q) (by rw [← ih, ← e6.1]; exact q2), ← ih, e6.2]
      · rw [opn_no (fun z => q2 z.2), opn_no (fun z => q2 (by rw [e6.1, ih]; exact z.2)), ih]
    · rw [opn_no (fun z => q z.1), opn_no (fun z => q (by rw [e8, ih]; exact z.1)), ih]
theorem bk1_eq {o o' : OV} {ev : EV} {nc c m l : Nat} {last : Option Nat} {b : Int32} (e : OEq o o' nc) (hc : c < nc) (hp : nN (o 5 c) < 16) : bk1 o ev c m l last b = bk1 o' ev c m l last b := by
  obtain ⟨c2, c3, -, c5⟩ := e.2.2.1 c hc
  have e1 := e.2.1 _ (rot_lt hp l)
  have e8 := e.1.2.1
  have eh : heat1 o ev c m l last b = heat1 o' ev c m l last b := by
    cases last with
    | none => show o 1 _ = o' 1 _; rw [e1, c5]
    | some a => show mx0 (o 1 _ - ev 1 (nm6 (o 1 _) _ _ _ _ _)) = mx0 (o' 1 _ - ev 1 (nm6 (o' 1 _) _ _ _ _ _)); rw [e1, c5, c3, e8]
  unfold bk1
  rw [eh, c2, c3, e8]
theorem OVk.pl {o : OV} {nc c : Nat} (h : OVk o nc) (hc : c < nc) : nN (o 5 c) < 16 := by
  obtain ⟨-, -, -, -, -, -, -, -, h9, -⟩ := h
  obtain ⟨k, hk, e⟩ := h9 c hc
  rw [e, nN_nI (by omega)]; exact hk
theorem brS_eq {o o' : OV} {ev : EV} {nc : Nat} (e : OEq o o' nc) (h : OVk o nc) {c : Nat} (hc : c < nc) (m : Nat) : brS o ev c m = brS o' ev c m := by
  induction m with
  | zero => rfl
  | succ m ih =>
    show bk1 o ev c m (opn o (m + 1)).1 (opn o (m + 1)).2.1 (brS o ev c m) = bk1 o' ev c m (opn o' (m + 1)).1 (opn o' (m + 1)).2.1 (brS o' ev c m)
    rw [ih, opn_eq e h.no, bk1_eq e hc (h.pl hc)]
theorem badAll_eq {o o' : OV} {ev : EV} {nc : Nat} {br br' : Nat → Int32} (e : OEq o o' nc) : ∀ n, n ≤ nc → (∀ c, c < n → br c = br' c) → badAll o ev br n = badAll o' ev br' n := by
  intro n
  induction n with
  | zero => intro _ _; rfl
  | succ n ih =>
    intro hn hb
    obtain ⟨c2, c3, c4, c5⟩ := e.2.2.1 n (by omega)
    show badAll o ev br n + badX o ev n (br n) = badAll o' ev br' n + badX o' ev n (br' n)
    rw [ih (by omega) (fun c hc => hb c (by omega)), hb n (by omega)]
    unfold badX
    rw [c2, c3, c4, e.1.2.1]
theorem badX_eq {o o' : OV} {ev : EV} {nc c : Nat} {b : Int32} (e : OEq o o' nc) (hc : c < nc) : badX o ev c b = badX o' ev c b := by
  obtain ⟨c2, c3, c4, c5⟩ := e.2.2.1 c hc
  unfold badX
  rw [c2, c3, c4, e.1.2.1]
theorem rightX_eq {o o' : OV} {nc : Nat} {br br' : Nat → Int32} (e : OEq o o' nc) : ∀ n, n ≤ nc → (∀ c, c < n → br c = br' c) → rightX o br n = rightX o' br' n := by
  intro n
  induction n with
  | zero => intro _ _; rfl
  | succ n ih =>
    intro hn hb
    obtain ⟨c2, c3, c4, c5⟩ := e.2.2.1 n (by omega)
    show rightX o br n + (if kAway (o 2 n) (br n) (o 4 n) = 0 then 1 else 0) = rightX o' br' n + (if kAway (o' 2 n) (br' n) (o' 4 n) = 0 then 1 else 0)
    rw [ih (by omega) (fun c hc => hb c (by omega)), hb n (by omega), c2, c4]
theorem mostI_eq {br br' : Nat → Int32} : ∀ n, (∀ c, c < n → br c = br' c) → mostI br n = mostI br' n := by
  intro n
  induction n with
  | zero => intro _; rfl
  | succ n ih =>
    intro hb
    have hi := ih (fun c hc => hb c (by omega))
    show (if mostI br n = -1 ∨ br (nN (mostI br n)) < br n then nI n else mostI br n) = (if mostI br' n = -1 ∨ br' (nN (mostI br' n)) < br' n then nI n else mostI br' n)
    rw [← hi, hb n (by omega)]
    rcases mostI_in br n with ⟨-, q⟩ | ⟨k, hk, q⟩
    · simp only [q, true_or, if_true]
    · by_cases hk2 : k < 2147483648
      · rw [q, nN_nI hk2, hb k (by omega)]
      · rw [hb (nN (mostI br n)) (by rw [q]; unfold nN; have := (iR (nI k)).2; omega)]
theorem leastI_eq {br br' : Nat → Int32} : ∀ n, (∀ c, c < n → br c = br' c) → leastI br n = leastI br' n := by
  intro n
  induction n with
  | zero => intro _; rfl
  | succ n ih =>
    intro hb
    have hi := ih (fun c hc => hb c (by omega))
    show (if leastI br n = -1 ∨ br n < br (nN (leastI br n)) then nI n else leastI br n) = (if leastI br' n = -1 ∨ br' n < br' (nN (leastI br' n)) then nI n else leastI br' n)
    rw [← hi, hb n (by omega)]
    rcases leastI_in br n with ⟨-, q⟩ | ⟨k, hk, q⟩
    · simp only [q, true_or, if_true]
    · by_cases hk2 : k < 2147483648
      · rw [q, nN_nI hk2, hb k (by omega)]
      · rw [hb (nN (leastI br n)) (by rw [q]; unfold nN; have := (iR (nI k)).2; omega)]
theorem apX_eq {br br' : Nat → Int32} {n : Nat} (hn : n ≤ 8) (hb : ∀ c, c < n → br c = br' c) : apX br n = apX br' n := by
  unfold apX
  rw [← mostI_eq n hb, ← leastI_eq n hb]
  by_cases z : n = 0
  · rw [if_pos z, if_pos z]
  · rw [if_neg z, if_neg z]
    rcases mostI_in br n with ⟨q, -⟩ | ⟨k, hk, q⟩
    · exact absurd q z
    · rcases leastI_in br n with ⟨q', -⟩ | ⟨k', hk', q'⟩
      · exact absurd q' z
      · rw [q, q', nN_nI (by omega), nN_nI (by omega), hb k hk, hb k' hk']
/-- how brown all end -/
def endB (o : OV) (ev : EV) : Nat → Int32 := fun c => brS o ev c (nN (o 0 9))
def badP (o : OV) (ev : EV) (nc : Nat) : Int32 := badAll o ev (endB o ev) nc
def apP (o : OV) (ev : EV) (nc : Nat) : Int32 := apX (endB o ev) nc
-- ===== the class's oven at b, its laws =====
def XO (g : Nat → Nat → Int32) (b : Nat) : OV := fun r => g (b + r)
def TX (T : List (Nat × Nat)) (rf : Nat → Nat → Option Nat) (g : Nat → Nat → Int32) (tc : Nat) (lws : Nat → Nat → List Int32) : Prop := tc ≤ 6 ∧ ∀ t, t < tc → ∃ la n, rf 39 t = some la ∧ LawAt T rf la n ∧ Nat.ble n 2000 = true ∧ 49 ≤ la ∧ (la ≤ 49 ∨ 77 ≤ la) ∧ la % 4 = 1 ∧ LawG g la n (lws t)
/-- what a baking leaves as it was -/
def ZF (g g' : Nat → Nat → Int32) : Prop := ∀ a, a ≠ 25 → a ≠ 26 → a ≠ 34 → (a < 49 ∨ (53 ≤ a ∧ a < 77) ∨ a % 4 = 2 ∨ a % 4 = 3) → g' a = g a
theorem ZF.rf {g : Nat → Nat → Int32} : ZF g g := fun _ _ _ _ _ => rfl
theorem ZF.tr {g1 g2 g3 : Nat → Nat → Int32} (h1 : ZF g1 g2) (h2 : ZF g2 g3) : ZF g1 g3 := fun a p q r s => (h2 a p q r s).trans (h1 a p q r s)
theorem BF.zf {la : Nat} {g g' : Nat → Nat → Int32} (h : BF la g g') (h1 : 49 ≤ la) (h2 : la ≤ 49 ∨ 77 ≤ la) (h3 : la % 4 = 1) : ZF g g' := fun a p q r s => h a p q r (by omega) (by omega)
/-- the references beside the baking's own two -/
def ZR (T : List (Nat × Nat)) (rf rf' : Nat → Nat → Option Nat) : Prop := XS T rf' ∧ ∀ a, a ≠ 25 → rf' a = rf a
theorem ZR.rb {T : List (Nat × Nat)} {rf : Nat → Nat → Option Nat} {b la : Nat} (h : XS T rf) : ZR T rf (RB rf b la) := ⟨h.rb, fun a q => by unfold RB; rw [ur_row q, ur_row q]⟩
theorem ZR.tr {T : List (Nat × Nat)} {r1 r2 r3 : Nat → Nat → Option Nat} (h1 : ZR T r1 r2) (h2 : ZR T r2 r3) : ZR T r1 r3 := ⟨h2.1, fun a q => (h2.2 a q).trans (h1.2 a q)⟩
theorem LawAt.zr {T : List (Nat × Nat)} {rf rf' : Nat → Nat → Option Nat} {la n : Nat} (h : LawAt T rf la n) (hr : ∀ a, a ≠ 25 → rf' a = rf a) (hla : 49 ≤ la) : LawAt T rf' la n := by
  obtain ⟨h1, h2, h3, h4, h5, h6, h7⟩ := h
  have e := hr la (by omega)
  exact ⟨h1, h2, h3, h4, by rw [e]; exact h5, by rw [e]; exact h6, by rw [e]; exact h7⟩
theorem TX.keep {T : List (Nat × Nat)} {rf rf' : Nat → Nat → Option Nat} {g g' : Nat → Nat → Int32} {tc : Nat} {lws : Nat → Nat → List Int32} (h : TX T rf g tc lws) (hr : ∀ a, a ≠ 25 → rf' a = rf a) (hf : ∀ a, 49 ≤ a → (a < 53 ∨ 77 ≤ a) → (a % 4 = 2 ∨ a % 4 = 3) → g' a = g a) : TX T rf' g' tc lws := by
  refine ⟨h.1, fun t ht => ?_⟩
  obtain ⟨la, n, a1, a2, a3, a4, a5, a6, a7⟩ := h.2 t ht
  exact ⟨la, n, by rw [hr 39 (by omega)]; exact a1, a2.zr hr a4, a3, a4, a5, a6, a7.keep (hf _ (by omega) (by omega) (by omega)) (hf _ (by omega) (by omega) (by omega))⟩
theorem TX.zf {T : List (Nat × Nat)} {rf rf' : Nat → Nat → Option Nat} {g g' : Nat → Nat → Int32} {tc : Nat} {lws : Nat → Nat → List Int32} (h : TX T rf g tc lws) (hr : ZR T rf rf') (hf : ZF g g') : TX T rf' g' tc lws := h.keep hr.2 (fun a h1 h2 h3 => hf a (by omega) (by omega) (by omega) (by omega))
/-- an oven that can be baked: at b, it is as o says; its text is the t-th -/
def OB (T : List (Nat × Nat)) (rf : Nat → Nat → Option Nat) (g : Nat → Nat → Int32) (b : Nat) (o : OV) (nc tc : Nat) (lws : Nat → Nat → List Int32) (t : Nat) : Prop := XS T rf ∧ (b = 1 ∨ b = 9 ∨ b = 17) ∧ TX T rf g tc lws ∧ OEq (XO g b) o nc ∧ OVk o nc ∧ o 0 11 = nI t ∧ t < tc
/-- it is being baked, at the minute m -/
def BAK (T : List (Nat × Nat)) (rf : Nat → Nat → Option Nat) (g : Nat → Nat → Int32) (b : Nat) (o : OV) (nc m : Nat) (lw : Nat → List Int32) : Prop := ∃ la n, BS T rf b la n ∧ BG g b la n lw (XO g b) ∧ OEq (XO g b) o nc ∧ OVk o nc ∧ BK g (XO g b) (evL lw) nc m ∧ (la ≤ 49 ∨ 77 ≤ la) ∧ la % 4 = 1
theorem XO.zf {g g' : Nat → Nat → Int32} {b : Nat} (h : ZF g g') (hb : b = 1 ∨ b = 9 ∨ b = 17) : ∀ r, r < 8 → XO g' b r = XO g b r := fun r hr => h (b + r) (by omega) (by omega) (by omega) (by omega)
theorem OEq.rows {o1 o2 o : OV} {nc : Nat} (h : OEq o1 o nc) (e : ∀ r, r < 8 → o2 r = o1 r) : OEq o2 o nc := by
  obtain ⟨a, b, c, d⟩ := h
  unfold OEq
  rw [e 0 (by omega), e 1 (by omega), e 2 (by omega), e 3 (by omega), e 4 (by omega), e 5 (by omega), e 6 (by omega), e 7 (by omega)]
  exact ⟨a, b, c, d⟩
theorem OB.keep {T : List (Nat × Nat)} {rf rf' : Nat → Nat → Option Nat} {g g' : Nat → Nat → Int32} {b nc tc t : Nat} {o : OV} {lws : Nat → Nat → List Int32} (h : OB T rf g b o nc tc lws t) (hr : ZR T rf rf') (hf : ZF g g') : OB T rf' g' b o nc tc lws t := by
  obtain ⟨h1, h2, h3, h4, h5, h6, h7⟩ := h
  exact ⟨hr.1, h2, h3.zf hr hf, h4.rows (XO.zf hf h2), h5, h6, h7⟩
theorem BAK.br {T : List (Nat × Nat)} {rf : Nat → Nat → Option Nat} {g : Nat → Nat → Int32} {b nc m : Nat} {o : OV} {lw : Nat → List Int32} (h : BAK T rf g b o nc m lw) {c : Nat} (hc : c < nc) : g 26 c = brS o (evL lw) c m := by
  obtain ⟨la, n, hB, hG, hE, hV, hK, -⟩ := h
  rw [hK.2.2.2.2 c hc, brS_eq hE (hV.eq hE) hc]
theorem brS_rows {o o' : OV} {ev : EV} (e : ∀ r, r < 8 → o r = o' r) (c m : Nat) : brS o ev c m = brS o' ev c m ∧ opn o m = opn o' m := by
  have e0 := e 0 (by omega)
  have e1 := e 1 (by omega)
  have e2 := e 2 (by omega)
  have e3 := e 3 (by omega)
  have e5 := e 5 (by omega)
  have e6 := e 6 (by omega)
  have e7 := e 7 (by omega)
  have ho : ∀ m, opn o m = opn o' m := by
    intro m
    induction m with
    | zero => show (nN (o 0 10), none, 0) = (nN (o' 0 10), none, 0); rw [e0]
    | succ m ih => simp only [opn, ih, e0, e6, e7]
  refine ⟨?_, ho m⟩
  induction m with
  | zero => rfl
  | succ m ih =>
    show bk1 o ev c m _ _ _ = bk1 o' ev c m _ _ _
    rw [ih, ho]
    have hh : ∀ l last b, heat1 o ev c m l last b = heat1 o' ev c m l last b := by
      intro l last b
      cases last <;> simp only [heat1, e0, e1, e3, e5]
    unfold bk1
    rw [hh, e0, e2, e3]
theorem BAK.keep {T : List (Nat × Nat)} {rf : Nat → Nat → Option Nat} {g g' : Nat → Nat → Int32} {b nc m' : Nat} {o : OV} {lw : Nat → List Int32} {la n : Nat} (hB : BS T rf b la n) (hG : BG g b la n lw (XO g b)) (hE : OEq (XO g b) o nc) (hV : OVk o nc) (h1 : la ≤ 49 ∨ 77 ≤ la) (h2 : la % 4 = 1) (hf : BF la g g') (hK : BK g' (XO g b) (evL lw) nc m') : BAK T rf g' b o nc m' lw := by
  have hz := hf.zf hB.2.2.2.2.2.2 h1 h2
  have hr := XO.zf hz hB.2.1
  refine ⟨la, n, hB, ?_, hE.rows hr, hV, ?_, h1, h2⟩
  · exact ⟨hf.lw hB.2.2.2.2.2.2 hG.1, rfl, rfl, rfl, rfl, rfl, rfl, rfl, rfl⟩
  · have ho := (brS_rows (ev := evL lw) hr 0 m').2
    unfold BK at hK ⊢
    rw [ho]
    exact ⟨hK.1, hK.2.1, hK.2.2.1, hK.2.2.2.1, fun c hc => by rw [(brS_rows (ev := evL lw) hr c m').1]; exact hK.2.2.2.2 c hc⟩

theorem t_X0_step {d : Nat} {sc : Nat × (Nat → Int32)} {T : List (Nat × Nat)} {rf : Nat → Nat → Option Nat} {g : Nat → Nat → Int32} {b nc m : Nat} {o : OV} {lw : Nat → List Int32} {F : AH → Prop} (hK : BAK T rf g b o nc m lw) (hm : m < 90) (hQ : ∀ g2, BAK T rf g2 b o nc (m + 1) lw → ZF g g2 → F (T, rf, g2)) : Mok (d + 4) 0 0 sc kX0_step [.ref 25] (T, rf, g) (Qv F) := by
  obtain ⟨la, n, hB, hG, hE, hV, hk, h1, h2⟩ := id hK
  have hV' := hV.eq hE
  exact s_X0_step hB hG hV' hm hk (fun g2 hf hk2 => hQ g2 (BAK.keep hB hG hE hV h1 h2 hf hk2) (hf.zf hB.2.2.2.2.2.2 h1 h2))
theorem t_X0_badness {d : Nat} {sc : Nat × (Nat → Int32)} {T : List (Nat × Nat)} {rf : Nat → Nat → Option Nat} {g : Nat → Nat → Int32} {b nc m : Nat} {o : OV} {lw : Nat → List Int32} {F : Int32 → AH → Prop} (hK : BAK T rf g b o nc m lw) (hQ : ∀ g2, BAK T rf g2 b o nc m lw → ZF g g2 → F (badAll o (evL lw) (fun c => brS o (evL lw) c m) nc) (T, rf, g2)) : Mok (d + 4) 0 0 sc kX0_badness [.ref 25] (T, rf, g) (Qi F) := by
  obtain ⟨la, n, hB, hG, hE, hV, hk, h1, h2⟩ := id hK
  have hV' := hV.eq hE
  refine s_X0_badness hB hG hV' (fun g2 hf => ?_)
  rw [badAll_eq hE nc (Nat.le_refl _) (fun c hc => hK.br hc)]
  exact hQ g2 (BAK.keep hB hG hE hV h1 h2 hf.bf (hf.bk hB.2.2.2.2.2.2 hk)) (hf.bf.zf hB.2.2.2.2.2.2 h1 h2)
theorem t_X0_badnessOf {d : Nat} {sc : Nat × (Nat → Int32)} {T : List (Nat × Nat)} {rf : Nat → Nat → Option Nat} {g : Nat → Nat → Int32} {b nc m : Nat} {o : OV} {lw : Nat → List Int32} {F : Int32 → AH → Prop} {x0 : Int32} {cN : Nat} (hK : BAK T rf g b o nc m lw) (hc : x0 = nI cN) (hcn : cN < nc) (hQ : ∀ g2, BAK T rf g2 b o nc m lw → ZF g g2 → F (badX o (evL lw) cN (brS o (evL lw) cN m)) (T, rf, g2)) : Mok (d + 3) 0 0 sc kX0_badnessOf [.ref 25, .int x0] (T, rf, g) (Qi F) := by
  obtain ⟨la, n, hB, hG, hE, hV, hk, h1, h2⟩ := id hK
  have hV' := hV.eq hE
  refine s_X0_badnessOf hB hG hV' hc hcn (fun g2 hf => ?_)
  rw [badX_eq hE hcn, hK.br hcn]
  exact hQ g2 (BAK.keep hB hG hE hV h1 h2 hf.bf (hf.bk hB.2.2.2.2.2.2 hk)) (hf.bf.zf hB.2.2.2.2.2.2 h1 h2)
theorem t_X0_away {d : Nat} {sc : Nat × (Nat → Int32)} {T : List (Nat × Nat)} {rf : Nat → Nat → Option Nat} {g : Nat → Nat → Int32} {b nc m : Nat} {o : OV} {lw : Nat → List Int32} {F : Int32 → AH → Prop} {x0 : Int32} {cN : Nat} (hK : BAK T rf g b o nc m lw) (hc : x0 = nI cN) (hcn : cN < nc) (hQ : F (kAway (o 2 cN) (brS o (evL lw) cN m) (o 4 cN)) (T, rf, g)) : Mok (d + 2) 0 0 sc kX0_away [.ref 25, .int x0] (T, rf, g) (Qi F) := by
  obtain ⟨la, n, hB, hG, hE, hV, hk, h1, h2⟩ := id hK
  have hV' := hV.eq hE
  refine s_X0_away hB hG hV' hc hcn ?_
  rw [(hE.2.2.1 cN hcn).1, (hE.2.2.1 cN hcn).2.2.1, hK.br hcn]
  exact hQ
theorem t_X0_right {d : Nat} {sc : Nat × (Nat → Int32)} {T : List (Nat × Nat)} {rf : Nat → Nat → Option Nat} {g : Nat → Nat → Int32} {b nc m : Nat} {o : OV} {lw : Nat → List Int32} {F : Int32 → AH → Prop} (hK : BAK T rf g b o nc m lw) (hQ : F (rightX o (fun c => brS o (evL lw) c m) nc) (T, rf, g)) : Mok (d + 3) 0 0 sc kX0_right [.ref 25] (T, rf, g) (Qi F) := by
  obtain ⟨la, n, hB, hG, hE, hV, hk, h1, h2⟩ := id hK
  have hV' := hV.eq hE
  refine s_X0_right hB hG hV' ?_
  rw [rightX_eq hE nc (Nat.le_refl _) (fun c hc => hK.br hc)]
  exact hQ
theorem t_X0_brownest {d : Nat} {sc : Nat × (Nat → Int32)} {T : List (Nat × Nat)} {rf : Nat → Nat → Option Nat} {g : Nat → Nat → Int32} {b nc m : Nat} {o : OV} {lw : Nat → List Int32} {F : Int32 → AH → Prop} (hK : BAK T rf g b o nc m lw) (hQ : F (mostI (fun c => brS o (evL lw) c m) nc) (T, rf, g)) : Mok (d + 1) 0 0 sc kX0_brownest [.ref 25] (T, rf, g) (Qi F) := by
  obtain ⟨la, n, hB, hG, hE, hV, hk, h1, h2⟩ := id hK
  have hV' := hV.eq hE
  refine s_X0_brownest hB hG hV' ?_
  rw [mostI_eq nc (fun c hc => hK.br hc)]
  exact hQ
theorem t_X0_palest {d : Nat} {sc : Nat × (Nat → Int32)} {T : List (Nat × Nat)} {rf : Nat → Nat → Option Nat} {g : Nat → Nat → Int32} {b nc m : Nat} {o : OV} {lw : Nat → List Int32} {F : Int32 → AH → Prop} (hK : BAK T rf g b o nc m lw) (hQ : F (leastI (fun c => brS o (evL lw) c m) nc) (T, rf, g)) : Mok (d + 1) 0 0 sc kX0_palest [.ref 25] (T, rf, g) (Qi F) := by
  obtain ⟨la, n, hB, hG, hE, hV, hk, h1, h2⟩ := id hK
  have hV' := hV.eq hE
  refine s_X0_palest hB hG hV' ?_
  rw [leastI_eq nc (fun c hc => hK.br hc)]
  exact hQ
theorem t_X0_apart {d : Nat} {sc : Nat × (Nat → Int32)} {T : List (Nat × Nat)} {rf : Nat → Nat → Option Nat} {g : Nat → Nat → Int32} {b nc m : Nat} {o : OV} {lw : Nat → List Int32} {F : Int32 → AH → Prop} (hK : BAK T rf g b o nc m lw) (hQ : F (apX (fun c => brS o (evL lw) c m) nc) (T, rf, g)) : Mok (d + 2) 0 0 sc kX0_apart [.ref 25] (T, rf, g) (Qi F) := by
  obtain ⟨la, n, hB, hG, hE, hV, hk, h1, h2⟩ := id hK
  have hV' := hV.eq hE
  refine s_X0_apart hB hG hV' ?_
  rw [apX_eq hV.2.1 (fun c hc => hK.br hc)]
  exact hQ
