theorem OVk_li {o : OV} {nc : Nat} {q : Nat} (hq : q < 4) (h : OVk o nc) : OVk (up o 0 10 (nI q)) nc := by
  obtain ⟨h1, h2, ⟨no, h3, h31, h32, h33⟩, h4, h5, h6, h7, h8, h9, h10⟩ := h
  exact ⟨by rw [up_ne (by omega)]; exact h1, h2, ⟨no, h3, by rw [up_ne (by omega)]; exact h31, fun i hi => by rw [up_ne (by omega)]; exact h32 i hi, fun i hi => by rw [up_ne (by omega)]; exact h33 i hi⟩, by rw [up_ne (by omega)]; exact h4, ⟨q, hq, up_same _ _ _ _⟩, fun i hi => by rw [up_ne (by omega)]; exact h6 i hi, fun i hi => by rw [up_ne (by omega)]; exact h7 i hi, fun i hi => by rw [up_ne (by omega)]; exact h8 i hi, fun i hi => by rw [up_ne (by omega)]; exact h9 i hi, fun i hi => by rw [up_ne (by omega)]; exact h10 i hi⟩
theorem OVk_tm {o : OV} {nc : Nat} {q : Nat} (hq : 1 ≤ q ∧ q ≤ 40) (h : OVk o nc) : OVk (up o 0 9 (nI q)) nc := by
  obtain ⟨h1, h2, ⟨no, h3, h31, h32, h33⟩, h4, h5, h6, h7, h8, h9, h10⟩ := h
  exact ⟨by rw [up_ne (by omega)]; exact h1, h2, ⟨no, h3, by rw [up_ne (by omega)]; exact h31, fun i hi => by rw [up_ne (by omega)]; exact h32 i hi, fun i hi => by rw [up_ne (by omega)]; exact h33 i hi⟩, ⟨q, hq.1, hq.2, up_same _ _ _ _⟩, by rw [up_ne (by omega)]; exact h5, fun i hi => by rw [up_ne (by omega)]; exact h6 i hi, fun i hi => by rw [up_ne (by omega)]; exact h7 i hi, fun i hi => by rw [up_ne (by omega)]; exact h8 i hi, fun i hi => by rw [up_ne (by omega)]; exact h9 i hi, fun i hi => by rw [up_ne (by omega)]; exact h10 i hi⟩
theorem OVk_op {o : OV} {nc : Nat} {n : Nat} (hn : n ≤ nN (o 0 8)) (h : OVk o nc) : OVk (up o 0 8 (nI n)) nc := by
  obtain ⟨h1, h2, ⟨no, h3, h31, h32, h33⟩, h4, h5, h6, h7, h8, h9, h10⟩ := h
  exact ⟨by rw [up_ne (by omega)]; exact h1, h2, by
    rw [h31, nN_nI (by omega)] at hn
    exact ⟨n, by omega, up_same _ _ _ _, fun i hi => by rw [up_ne (by omega)]; exact h32 i (by omega), fun i hi => by rw [up_ne (by omega)]; exact h33 i (by omega)⟩, by rw [up_ne (by omega)]; exact h4, by rw [up_ne (by omega)]; exact h5, fun i hi => by rw [up_ne (by omega)]; exact h6 i hi, fun i hi => by rw [up_ne (by omega)]; exact h7 i hi, fun i hi => by rw [up_ne (by omega)]; exact h8 i hi, fun i hi => by rw [up_ne (by omega)]; exact h9 i hi, fun i hi => by rw [up_ne (by omega)]; exact h10 i hi⟩
theorem OVk_lw {o : OV} {nc : Nat} {v : Int32} (h : OVk o nc) : OVk (up o 0 11 v) nc := by
  obtain ⟨h1, h2, ⟨no, h3, h31, h32, h33⟩, h4, h5, h6, h7, h8, h9, h10⟩ := h
  exact ⟨by rw [up_ne (by omega)]; exact h1, h2, ⟨no, h3, by rw [up_ne (by omega)]; exact h31, fun i hi => by rw [up_ne (by omega)]; exact h32 i hi, fun i hi => by rw [up_ne (by omega)]; exact h33 i hi⟩, by rw [up_ne (by omega)]; exact h4, by rw [up_ne (by omega)]; exact h5, fun i hi => by rw [up_ne (by omega)]; exact h6 i hi, fun i hi => by rw [up_ne (by omega)]; exact h7 i hi, fun i hi => by rw [up_ne (by omega)]; exact h8 i hi, fun i hi => by rw [up_ne (by omega)]; exact h9 i hi, fun i hi => by rw [up_ne (by omega)]; exact h10 i hi⟩
theorem OVk_ho {o : OV} {nc : Nat} {c v : Nat} (hv : v < 100) (h : OVk o nc) : OVk (up o 1 c (nI v)) nc := by
  obtain ⟨h1, h2, ⟨no, h3, h31, h32, h33⟩, h4, h5, h6, h7, h8, h9, h10⟩ := h
  exact ⟨by rw [up_ne (by omega)]; exact h1, h2, ⟨no, h3, by rw [up_ne (by omega)]; exact h31, fun i hi => by rw [up_ne (by omega)]; exact h32 i hi, fun i hi => by rw [up_ne (by omega)]; exact h33 i hi⟩, by rw [up_ne (by omega)]; exact h4, by rw [up_ne (by omega)]; exact h5, fun i hi => by rw [up_ne (by omega)]; exact h6 i hi, fun i hi => by rw [up_ne (by omega)]; exact h7 i hi, fun i hi => by rw [up_ne (by omega)]; exact h8 i hi, fun i hi => by rw [up_ne (by omega)]; exact h9 i hi, fun i hi => by
    by_cases q : i = c
    · subst q; exact ⟨v, hv, up_same _ _ _ _⟩
    · rw [up_ne (fun z => q z.2)]; exact h10 i hi⟩
theorem OVk_ki {o : OV} {nc : Nat} {c v : Nat} (hv : v < 6) (h : OVk o nc) : OVk (up o 2 c (nI v)) nc := by
  obtain ⟨h1, h2, ⟨no, h3, h31, h32, h33⟩, h4, h5, h6, h7, h8, h9, h10⟩ := h
  exact ⟨by rw [up_ne (by omega)]; exact h1, h2, ⟨no, h3, by rw [up_ne (by omega)]; exact h31, fun i hi => by rw [up_ne (by omega)]; exact h32 i hi, fun i hi => by rw [up_ne (by omega)]; exact h33 i hi⟩, by rw [up_ne (by omega)]; exact h4, by rw [up_ne (by omega)]; exact h5, fun i hi => by
    by_cases q : i = c
    · subst q; exact ⟨v, hv, up_same _ _ _ _⟩
    · rw [up_ne (fun z => q z.2)]; exact h6 i hi, fun i hi => by rw [up_ne (by omega)]; exact h7 i hi, fun i hi => by rw [up_ne (by omega)]; exact h8 i hi, fun i hi => by rw [up_ne (by omega)]; exact h9 i hi, fun i hi => by rw [up_ne (by omega)]; exact h10 i hi⟩
theorem OVk_mo {o : OV} {nc : Nat} {c v : Nat} (hv : v < 10) (h : OVk o nc) : OVk (up o 3 c (nI v)) nc := by
  obtain ⟨h1, h2, ⟨no, h3, h31, h32, h33⟩, h4, h5, h6, h7, h8, h9, h10⟩ := h
  exact ⟨by rw [up_ne (by omega)]; exact h1, h2, ⟨no, h3, by rw [up_ne (by omega)]; exact h31, fun i hi => by rw [up_ne (by omega)]; exact h32 i hi, fun i hi => by rw [up_ne (by omega)]; exact h33 i hi⟩, by rw [up_ne (by omega)]; exact h4, by rw [up_ne (by omega)]; exact h5, fun i hi => by rw [up_ne (by omega)]; exact h6 i hi, fun i hi => by
    by_cases q : i = c
    · subst q; exact ⟨v, hv, up_same _ _ _ _⟩
    · rw [up_ne (fun z => q z.2)]; exact h7 i hi, fun i hi => by rw [up_ne (by omega)]; exact h8 i hi, fun i hi => by rw [up_ne (by omega)]; exact h9 i hi, fun i hi => by rw [up_ne (by omega)]; exact h10 i hi⟩
theorem OVk_wi {o : OV} {nc : Nat} {c v : Nat} (hv : v < 1000) (h : OVk o nc) : OVk (up o 4 c (nI v)) nc := by
  obtain ⟨h1, h2, ⟨no, h3, h31, h32, h33⟩, h4, h5, h6, h7, h8, h9, h10⟩ := h
  exact ⟨by rw [up_ne (by omega)]; exact h1, h2, ⟨no, h3, by rw [up_ne (by omega)]; exact h31, fun i hi => by rw [up_ne (by omega)]; exact h32 i hi, fun i hi => by rw [up_ne (by omega)]; exact h33 i hi⟩, by rw [up_ne (by omega)]; exact h4, by rw [up_ne (by omega)]; exact h5, fun i hi => by rw [up_ne (by omega)]; exact h6 i hi, fun i hi => by rw [up_ne (by omega)]; exact h7 i hi, fun i hi => by
    by_cases q : i = c
    · subst q; exact ⟨v, hv, up_same _ _ _ _⟩
    · rw [up_ne (fun z => q z.2)]; exact h8 i hi, fun i hi => by rw [up_ne (by omega)]; exact h9 i hi, fun i hi => by rw [up_ne (by omega)]; exact h10 i hi⟩
theorem OVk_pc {o : OV} {nc : Nat} {c v : Nat} (hv : v < 16) (h : OVk o nc) : OVk (up o 5 c (nI v)) nc := by
  obtain ⟨h1, h2, ⟨no, h3, h31, h32, h33⟩, h4, h5, h6, h7, h8, h9, h10⟩ := h
  exact ⟨by rw [up_ne (by omega)]; exact h1, h2, ⟨no, h3, by rw [up_ne (by omega)]; exact h31, fun i hi => by rw [up_ne (by omega)]; exact h32 i hi, fun i hi => by rw [up_ne (by omega)]; exact h33 i hi⟩, by rw [up_ne (by omega)]; exact h4, by rw [up_ne (by omega)]; exact h5, fun i hi => by rw [up_ne (by omega)]; exact h6 i hi, fun i hi => by rw [up_ne (by omega)]; exact h7 i hi, fun i hi => by rw [up_ne (by omega)]; exact h8 i hi, fun i hi => by
    by_cases q : i = c
    · subst q; exact ⟨v, hv, up_same _ _ _ _⟩
    · rw [up_ne (fun z => q z.2)]; exact h9 i hi, fun i hi => by rw [up_ne (by omega)]; exact h10 i hi⟩
theorem up_up {x : Nat → Nat → Int32} {r k : Nat} {v w : Int32} : up (up x r k w) r k v = up x r k v := by
  funext a c
  unfold up
  split <;> rfl
theorem OVk_pl {o : OV} {nc m q : Nat} (h : OVk o nc) (hm : m < 40) (hq : q < 4) : OVk (pl o 0 (nI m) (nI q)) nc := by
  obtain ⟨h1, h2, ⟨no, h3, h31, h32, h33⟩, h4, h5, h6, h7, h8, h9, h10⟩ := h
  refine ⟨?_, h2, ⟨1, by omega, up_same _ _ _ _, fun i hi => ?_, fun i hi => ?_⟩, ?_, ?_, fun i hi => ?_, fun i hi => ?_, fun i hi => ?_, fun i hi => ?_, fun i hi => ?_⟩
  · unfold pl; rw [up_ne (by omega), up_ne (by omega), up_ne (by omega)]; exact h1
  · have : i = 0 := by omega
    subst this
    exact ⟨m, hm, by unfold pl; rw [up_ne (by omega), up_ne (by omega), up_same]⟩
  · have : i = 0 := by omega
    subst this
    exact ⟨q, hq, by unfold pl; rw [up_ne (by omega), up_same]⟩
  · unfold pl; rw [up_ne (by omega), up_ne (by omega), up_ne (by omega)]; exact h4
  · unfold pl; rw [up_ne (by omega), up_ne (by omega), up_ne (by omega)]; exact h5
  · unfold pl; rw [up_ne (by omega), up_ne (by omega), up_ne (by omega)]; exact h6 i hi
  · unfold pl; rw [up_ne (by omega), up_ne (by omega), up_ne (by omega)]; exact h7 i hi
  · unfold pl; rw [up_ne (by omega), up_ne (by omega), up_ne (by omega)]; exact h8 i hi
  · unfold pl; rw [up_ne (by omega), up_ne (by omega), up_ne (by omega)]; exact h9 i hi
  · unfold pl; rw [up_ne (by omega), up_ne (by omega), up_ne (by omega)]; exact h10 i hi
theorem OVk_pl2 {o : OV} {nc m q m2 q2 : Nat} (h : OVk o nc) (hm : m < 40) (hq : q < 4) (hm2 : m2 < 40) (hq2 : q2 < 4) : OVk (pl (pl o 0 (nI m) (nI q)) 1 (nI m2) (nI q2)) nc := by
  have hh := OVk_pl h hm hq
  obtain ⟨h1, h2, ⟨no, h3, h31, h32, h33⟩, h4, h5, h6, h7, h8, h9, h10⟩ := hh
  have e : no = 1 := by
    have e2 : pl o 0 (nI m) (nI q) 0 8 = nI 1 := up_same _ _ _ _
    exact nIinj (by omega) (by omega) (h31.symm.trans e2)
  subst e
  refine ⟨?_, h2, ⟨2, by omega, up_same _ _ _ _, fun i hi => ?_, fun i hi => ?_⟩, ?_, ?_, fun i hi => ?_, fun i hi => ?_, fun i hi => ?_, fun i hi => ?_, fun i hi => ?_⟩
  · rw [pl, up_ne (by omega), up_ne (by omega), up_ne (by omega)]; exact h1
  · rcases (by omega : i = 0 ∨ i = 1) with rfl | rfl
    · rw [pl, up_ne (by omega), up_ne (by omega), up_ne (by omega)]; exact h32 0 (by omega)
    · exact ⟨m2, hm2, by rw [pl, up_ne (by omega), up_ne (by omega), up_same]⟩
  · rcases (by omega : i = 0 ∨ i = 1) with rfl | rfl
    · rw [pl, up_ne (by omega), up_ne (by omega), up_ne (by omega)]; exact h33 0 (by omega)
    · exact ⟨q2, hq2, by rw [pl, up_ne (by omega), up_same]⟩
  · rw [pl, up_ne (by omega), up_ne (by omega), up_ne (by omega)]; exact h4
  · rw [pl, up_ne (by omega), up_ne (by omega), up_ne (by omega)]; exact h5
  · rw [pl, up_ne (by omega), up_ne (by omega), up_ne (by omega)]; exact h6 i hi
  · rw [pl, up_ne (by omega), up_ne (by omega), up_ne (by omega)]; exact h7 i hi
  · rw [pl, up_ne (by omega), up_ne (by omega), up_ne (by omega)]; exact h8 i hi
  · rw [pl, up_ne (by omega), up_ne (by omega), up_ne (by omega)]; exact h9 i hi
  · rw [pl, up_ne (by omega), up_ne (by omega), up_ne (by omega)]; exact h10 i hi
theorem pl_pl {x : OV} {k : Nat} {a b a2 b2 : Int32} : pl (pl x k a2 b2) k a b = pl x k a b := by
  funext r c
  unfold pl up
  by_cases q1 : r = 0 ∧ c = 8
  · simp only [q1, and_self, if_true]
  · by_cases q2 : r = 7 ∧ c = k
    · simp only [if_neg q1, if_pos q2]
    · by_cases q3 : r = 6 ∧ c = k
      · simp only [if_neg q1, if_neg q2, if_pos q3]
      · simp only [if_neg q1, if_neg q2, if_neg q3]
-- what a call that thinks goes through: the thought rows stay
def TF (g g' : Nat → Nat → Int32) : Prop := VF g g' ∧ ∀ a, 9 ≤ a → a ≤ 16 → g' a = g a
theorem TF.rf {g : Nat → Nat → Int32} : TF g g := ⟨VF.rf, fun _ _ _ => rfl⟩
theorem TF.tr {g1 g2 g3 : Nat → Nat → Int32} (h1 : TF g1 g2) (h2 : TF g2 g3) : TF g1 g3 := ⟨h1.1.tr h2.1, fun a p q => (h2.2 a p q).trans (h1.2 a p q)⟩
theorem ZF.tf {g g' : Nat → Nat → Int32} (h : ZF g g') : TF g g' := ⟨h.vf, fun a p q => h a (by omega) (by omega) (by omega) (by omega)⟩
theorem R0.tf {g g' : Nat → Nat → Int32} (h : R0 g g') : TF g g' := ⟨h.vf, fun a p _ => h.1 a (by omega)⟩
theorem TF.x9 {g g' : Nat → Nat → Int32} (h : TF g g') : ∀ r, r < 8 → XO g' 9 r = XO g 9 r := fun r hr => h.2 (9 + r) (by omega) (by omega)
theorem VF.x1 {g g' : Nat → Nat → Int32} (h : VF g g') : ∀ r, r < 8 → XO g' 1 r = XO g 1 r := fun r hr => h.1 (1 + r) (by omega) (by omega) (by omega) (by omega) (by omega) (by omega)
theorem TX.vf {T : List (Nat × Nat)} {rf rf' : Nat → Nat → Option Nat} {g g' : Nat → Nat → Int32} {tc : Nat} {lws : Nat → Nat → List Int32} (h : TX T rf g tc lws) (hr : ZR T rf rf') (hf : VF g g') : TX T rf' g' tc lws := h.keep hr.2 (fun a h1 h2 h3 => hf.1 a (by omega) (by omega) (by omega) (by omega) (by omega) (by omega))
theorem OB.vf {T : List (Nat × Nat)} {rf rf' : Nat → Nat → Option Nat} {g g' : Nat → Nat → Int32} {nc tc t : Nat} {o : OV} {lws : Nat → Nat → List Int32} (h : OB T rf g 1 o nc tc lws t) (hr : ZR T rf rf') (hf : VF g g') : OB T rf' g' 1 o nc tc lws t := by
  obtain ⟨h1, h2, h3, h4, h5, h6, h7⟩ := h
  exact ⟨hr.1, h2, h3.vf hr hf, h4.rows hf.x1, h5, h6, h7⟩
theorem OB.tf {T : List (Nat × Nat)} {rf rf' : Nat → Nat → Option Nat} {g g' : Nat → Nat → Int32} {nc tc t : Nat} {o : OV} {lws : Nat → Nat → List Int32} (h : OB T rf g 9 o nc tc lws t) (hr : ZR T rf rf') (hf : TF g g') : OB T rf' g' 9 o nc tc lws t := by
  obtain ⟨h1, h2, h3, h4, h5, h6, h7⟩ := h
  exact ⟨hr.1, h2, h3.vf hr hf.1, h4.rows hf.x9, h5, h6, h7⟩
/-- the thought oven, as another than the one that is now -/
theorem OB.th {T : List (Nat × Nat)} {rf rf' : Nat → Nat → Option Nat} {g g' : Nat → Nat → Int32} {nc nc' tc t t' : Nat} {o o' : OV} {lws : Nat → Nat → List Int32} (h : OB T rf g 1 o nc tc lws t) (hr : ZR T rf rf') (hf : VF g g') (hE : OEq (XO g' 9) o' nc') (hV : OVk o' nc') (hl : o' 0 11 = nI t') (ht : t' < tc) : OB T rf' g' 9 o' nc' tc lws t' := by
  obtain ⟨h1, h2, h3, h4, h5, h6, h7⟩ := h
  exact ⟨hr.1, Or.inr (Or.inl rfl), h3.vf hr hf, hE, hV, hl, ht⟩
/-- the thought oven but for one cell -/
def OEu (g : Nat → Nat → Int32) (r k : Nat) (o : OV) (nc : Nat) : Prop := ∀ v, OEq (up (XO g 9) r k v) (up o r k v) nc
theorem OEu.of {g : Nat → Nat → Int32} {r k nc : Nat} {o : OV} (h : OEq (XO g 9) o nc) : OEu g r k o nc := fun _ => h.up
theorem OEu_up {g : Nat → Nat → Int32} {r k nc : Nat} {o : OV} {v : Int32} (h : OEu g r k o nc) : OEu (up g (9 + r) k v) r k o nc := fun w => by rw [XO_up, up_up]; exact h w
theorem OEu_eq {g : Nat → Nat → Int32} {r k nc : Nat} {o : OV} {v : Int32} (h : OEu g r k o nc) : OEq (XO (up g (9 + r) k v) 9) (up o r k v) nc := by rw [XO_up]; exact h v
theorem OEu.tf {g g' : Nat → Nat → Int32} {r k nc : Nat} {o : OV} (h : OEu g r k o nc) (hf : TF g g') : OEu g' r k o nc := fun v => (h v).rows (fun q hq => by funext c; exact up_in (congrFun (hf.x9 q hq) c))
/-- the thought oven but for its plan's opening k (and those behind it) -/
def OEp (g : Nat → Nat → Int32) (k : Nat) (o : OV) (nc : Nat) : Prop := ∀ a b, OEq (pl (XO g 9) k a b) (pl o k a b) nc
theorem OEp.of {g : Nat → Nat → Int32} {k nc : Nat} {o : OV} (h : OEq (XO g 9) o nc) : OEp g k o nc := fun _ _ => h.pl
theorem OEp_pl {g g' : Nat → Nat → Int32} {k nc : Nat} {o : OV} {a b : Int32} (h : OEp g k o nc) (e : XO g' 9 = pl (XO g 9) k a b) : OEp g' k o nc := fun x y => by rw [e, pl_pl]; exact h x y
theorem OEp.tf {g g' : Nat → Nat → Int32} {k nc : Nat} {o : OV} (h : OEp g k o nc) (hf : TF g g') : OEp g' k o nc := fun a b => (h a b).rows (fun q hq => by funext c; exact up_in (up_in (up_in (congrFun (hf.x9 q hq) c))))
-- folds
def wff (f : Nat → Int32 × Int32) : Nat → Nat → Option (Int32 × Int32) → Option (Int32 × Int32)
  | 0, _, s => s
  | k + 1, j, s => wff f k (j + 1) (wgh s (f j).1 (f j).2)
def bff (f : Nat → Int32) : Nat → Nat → Int32 → Int32
  | 0, _, b => b
  | k + 1, j, b => bff f k (j + 1) (b ||| (if f j = -1 then (1 : Int32) <<< (nI j &&& 31) else 0))
def bfl (f : Nat → Int32) : Nat → Nat → Int64 → Int64
  | 0, _, b => b
  | k + 1, j, b => bfl f k (j + 1) (b ||| (if f j = -1 then (1 : Int64) <<< ((nI j).toInt64 &&& 63) else 0))

