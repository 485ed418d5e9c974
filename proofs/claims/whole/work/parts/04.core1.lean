def fR : List (List Nat) := [[2, 2, 2, 2, 2, 0, 0, 0, 0], [], [], [], [2, 2, 2, 0], [2, 2, 2, 2, 2, 0, 2, 2, 0, 0, 0, 0], [0, 0, 2, 2, 2, 0, 0, 0, 0, 0], [2, 0, 0], [], [], [], [2, 2, 2, 1, 2, 2, 2, 0, 2, 0, 0, 1], [2, 0, 0, 0, 2, 2, 2, 2, 2, 2, 0, 2, 0, 2, 2, 0, 0, 1, 0, 0, 0, 0, 0, 2, 2, 2, 2, 2, 0, 0, 0, 0, 2, 2, 0, 0, 0, 2, 2, 2, 2, 2, 0, 0, 2]]
def fT (c k : Nat) : Nat := (fR.getD c []).getD k 0
def nF (c : Nat) : Nat := (fR.getD c []).length
def Rn (c : Nat) : String := (vwCl.getD c ("", fun _ => ("", "", "", false), 0)).1
def Tt (c : Nat) : u_T := (vwCl.getD c ("", fun _ => ("", "", "", false), 0)).2.1
def tyC (c : Nat) : Nat → FieldType := match c with
  | 0 => tyX0
  | 1 => tyX1
  | 2 => tyX2
  | 3 => tyX3
  | 4 => tyX4
  | 5 => tyX5
  | 6 => tyX6
  | 7 => tyX7
  | 8 => tyX8
  | 9 => tyX9
  | 10 => tyX10
  | 11 => tyX11
  | _ => tyX12
theorem c13 {P : Nat → Prop} (h0 : P 0) (h1 : P 1) (h2 : P 2) (h3 : P 3) (h4 : P 4) (h5 : P 5) (h6 : P 6) (h7 : P 7) (h8 : P 8) (h9 : P 9) (h10 : P 10) (h11 : P 11) (h12 : P 12) : ∀ c, c < 13 → P c := by
  intro c hc
  rcases (by omega : c = 0 ∨ c = 1 ∨ c = 2 ∨ c = 3 ∨ c = 4 ∨ c = 5 ∨ c = 6 ∨ c = 7 ∨ c = 8 ∨ c = 9 ∨ c = 10 ∨ c = 11 ∨ c = 12) with rfl | rfl | rfl | rfl | rfl | rfl | rfl | rfl | rfl | rfl | rfl | rfl | rfl
  · exact h0
  · exact h1
  · exact h2
  · exact h3
  · exact h4
  · exact h5
  · exact h6
  · exact h7
  · exact h8
  · exact h9
  · exact h10
  · exact h11
  · exact h12
theorem vwCl_get : ∀ c, c < 13 → vwCl[c]? = some (Rn c, Tt c, nF c) := c13 rfl rfl rfl rfl rfl rfl rfl rfl rfl rfl rfl rfl rfl
theorem iX0 : ∀ w ∈ u_ws RX0 TX0 9, w ∈ gt := by decide +kernel
theorem iX1 : ∀ w ∈ u_ws RX1 TX1 0, w ∈ gt := by decide +kernel
theorem iX2 : ∀ w ∈ u_ws RX2 TX2 0, w ∈ gt := by decide +kernel
theorem iX3 : ∀ w ∈ u_ws RX3 TX3 0, w ∈ gt := by decide +kernel
theorem iX4 : ∀ w ∈ u_ws RX4 TX4 4, w ∈ gt := by decide +kernel
theorem iX5 : ∀ w ∈ u_ws RX5 TX5 12, w ∈ gt := by decide +kernel
theorem iX6 : ∀ w ∈ u_ws RX6 TX6 10, w ∈ gt := by decide +kernel
theorem iX7 : ∀ w ∈ u_ws RX7 TX7 3, w ∈ gt := by decide +kernel
theorem iX8 : ∀ w ∈ u_ws RX8 TX8 0, w ∈ gt := by decide +kernel
theorem iX9 : ∀ w ∈ u_ws RX9 TX9 0, w ∈ gt := by decide +kernel
theorem iX10 : ∀ w ∈ u_ws RX10 TX10 0, w ∈ gt := by decide +kernel
theorem iX11 : ∀ w ∈ u_ws RX11 TX11 12, w ∈ gt := by decide +kernel
theorem iX12 : ∀ w ∈ u_ws RX12 TX12 45, w ∈ gt := by decide +kernel
theorem hU_all : ∀ c, c < 13 → ∀ w ∈ u_ws (Rn c) (Tt c) (nF c), w ∈ gt := c13 iX0 iX1 iX2 iX3 iX4 iX5 iX6 iX7 iX8 iX9 iX10 iX11 iX12
theorem hTy_all : ∀ c, c < 13 → ∀ k, k < nF c → parseFieldDescriptor (Tt c k).2.2.1 = some (tyC c k) := c13 tyX0_ok tyX1_ok tyX2_ok tyX3_ok tyX4_ok tyX5_ok tyX6_ok tyX7_ok tyX8_ok tyX9_ok tyX10_ok tyX11_ok tyX12_ok
theorem hNm_all : ∀ c, c < 13 → ∀ a, a < nF c → ∀ b, b < nF c → a ≠ b → (Tt c a).2.1 ≠ (Tt c b).2.1 := c13 nmX0 nmX1 nmX2 nmX3 nmX4 nmX5 nmX6 nmX7 nmX8 nmX9 nmX10 nmX11 nmX12
def isRefTy : FieldType → Bool
  | .object _ => true
  | .array _ => true
  | _ => false
theorem hFt_all : ∀ c, c < 13 → ∀ k, k < nF c → (fT c k = 0 → tyC c k = .int) ∧ (fT c k = 1 → tyC c k = .boolean) ∧ (fT c k = 2 → isRefTy (tyC c k) = true) ∧ fT c k ≤ 2 := c13 (by decide +kernel) (by decide +kernel) (by decide +kernel) (by decide +kernel) (by decide +kernel) (by decide +kernel) (by decide +kernel) (by decide +kernel) (by decide +kernel) (by decide +kernel) (by decide +kernel) (by decide +kernel) (by decide +kernel)
-- ===== the abstract heap: types (kind, length), references, ints =====
abbrev AH : Type := List (Nat × Nat) × (Nat → Nat → Option Nat) × (Nat → Nat → Int32)
def up (g : Nat → Nat → Int32) (a k : Nat) (v : Int32) : Nat → Nat → Int32 := fun a' k' => if a' = a ∧ k' = k then v else g a' k'
def ur (r : Nat → Nat → Option Nat) (a k : Nat) (v : Option Nat) : Nat → Nat → Option Nat := fun a' k' => if a' = a ∧ k' = k then v else r a' k'
theorem up_same (g : Nat → Nat → Int32) (a k : Nat) (v : Int32) : up g a k v a k = v := by simp [up]
theorem up_ne {g : Nat → Nat → Int32} {a k a' k' : Nat} {v : Int32} (h : ¬ (a' = a ∧ k' = k)) : up g a k v a' k' = g a' k' := by simp only [up, if_neg h]
theorem up_row {g : Nat → Nat → Int32} {a k a' : Nat} {v : Int32} (h : a' ≠ a) : up g a k v a' = g a' := by funext k'; exact up_ne (fun q => h q.1)
theorem up_own (g : Nat → Nat → Int32) (a k : Nat) (v : Int32) : up g a k v a = upd (g a) k v := by
  funext k'
  by_cases h : k' = k
  · subst h; simp [up, upd]
  · simp [up, upd, h]
theorem ur_same (g : Nat → Nat → Option Nat) (a k : Nat) (v : Option Nat) : ur g a k v a k = v := by simp [ur]
theorem ur_ne {g : Nat → Nat → Option Nat} {a k a' k' : Nat} {v : Option Nat} (h : ¬ (a' = a ∧ k' = k)) : ur g a k v a' k' = g a' k' := by simp only [ur, if_neg h]
theorem ur_row {g : Nat → Nat → Option Nat} {a k a' : Nat} {v : Option Nat} (h : a' ≠ a) : ur g a k v a' = g a' := by funext k'; exact ur_ne (fun q => h q.1)
theorem ur_own (g : Nat → Nat → Option Nat) (a k : Nat) (v : Option Nat) : ur g a k v a = va_up (g a) k v := by
  funext k'
  by_cases h : k' = k
  · subst h; simp [ur, va_up]
  · simp [ur, va_up, h]
-- ===== its picture in the machine's heap =====
def cv (ad : Nat → Nat) : Value → Value
  | .ref a => .ref (ad a)
  | v => v
def fv (ad : Nat → Nat) (c : Nat) (r : Nat → Option Nat) (g : Nat → Int32) (k : Nat) : Value := if fT c k = 2 then va_rf ((r k).map ad) else .int (g k)
def ccell (dA : Nat → ClassId) (ad : Nat → Nat) (t : Nat × Nat) (r : Nat → Option Nat) (g : Nat → Int32) : va_E :=
  if t.1 < 13 then .inr (t.1, (List.range (nF t.1)).map (fv ad t.1 r g))
  else if t.1 = 20 then .inl (dA 0, t.2, .inl g)
  else .inl (dA (t.1 - 20), t.2, .inr (.inr (.inr (.inr (fun i => (r i).map ad)))))
def cws (dA : Nat → ClassId) (ad : Nat → Nat) (h : AH) : va_W := (List.range h.1.length).map (fun a => (ad a, ccell dA ad (h.1.getD a (99, 0)) (h.2.1 a) (h.2.2 a)))
abbrev tysL (dA : Nat → ClassId) : List (ClassId × FieldType) := [(dA 0, .int), (dA 1, .object "HotCorner$Law"), (dA 2, .object "HotCorner$Sheet"), (dA 3, .object "HotCorner$Kind")]
theorem cws_len {dA : Nat → ClassId} {ad : Nat → Nat} {h : AH} : (cws dA ad h).length = h.1.length := by simp [cws]
theorem cws_get {dA : Nat → ClassId} {ad : Nat → Nat} {h : AH} {a : Nat} {t : Nat × Nat} (ht : h.1[a]? = some t) : (cws dA ad h)[a]? = some (ad a, ccell dA ad t (h.2.1 a) (h.2.2 a)) := by
  obtain ⟨hl, e⟩ := List.getElem?_eq_some_iff.mp ht
  simp [cws, hl, ht, e]
theorem cws_get_inv {dA : Nat → ClassId} {ad : Nat → Nat} {h : AH} {a : Nat} {q : Nat × va_E} (hq : (cws dA ad h)[a]? = some q) : a < h.1.length ∧ q.1 = ad a := by
  have hl : a < h.1.length := by
    have := (List.getElem?_eq_some_iff.mp hq).1
    rwa [cws_len] at this
  refine ⟨hl, ?_⟩
  have h2 := cws_get (dA := dA) (ad := ad) (h := h) (a := a) (List.getElem?_eq_getElem hl)
  rw [h2] at hq
  cases hq
  rfl
theorem cws_none {dA : Nat → ClassId} {ad : Nat → Nat} {h : AH} {a : Nat} (hl : h.1.length ≤ a) : (cws dA ad h)[a]? = none := by
  rw [List.getElem?_eq_none_iff, cws_len]; exact hl
/-- one cell anew -/
theorem cws_set {dA : Nat → ClassId} {ad : Nat → Nat} {T : List (Nat × Nat)} {r r' : Nat → Nat → Option Nat} {g g' : Nat → Nat → Int32} {a : Nat} {t : Nat × Nat} (ht : T[a]? = some t) (hr : ∀ b, b ≠ a → r' b = r b) (hg : ∀ b, b ≠ a → g' b = g b) :
    (cws dA ad (T, r, g)).set a (ad a, ccell dA ad t (r' a) (g' a)) = cws dA ad (T, r', g') := by
  obtain ⟨hl, e⟩ := List.getElem?_eq_some_iff.mp ht
  apply List.ext_getElem?
  intro i
  by_cases hi : i = a
  · subst hi
    rw [List.getElem?_set_self (by rw [cws_len]; exact hl), cws_get (h := (T, r', g')) ht]
  · rw [List.getElem?_set_ne (Ne.symm hi)]
    by_cases hil : i < T.length
    · have h2 : T[i]? = some T[i] := List.getElem?_eq_getElem hil
      rw [cws_get (h := (T, r, g)) h2, cws_get (h := (T, r', g')) h2]
      show some (ad i, ccell dA ad T[i] (r i) (g i)) = some (ad i, ccell dA ad T[i] (r' i) (g' i))
      rw [hr i hi, hg i hi]
    · rw [cws_none (h := (T, r, g)) (Nat.not_lt.mp hil), cws_none (h := (T, r', g')) (Nat.not_lt.mp hil)]
/-- the fields of an object -/
theorem fv_get {ad : Nat → Nat} {c : Nat} {r : Nat → Option Nat} {g : Nat → Int32} {k : Nat} (hk : k < nF c) : ((List.range (nF c)).map (fv ad c r g))[k]? = some (fv ad c r g k) := by
  simp [hk]
theorem fv_set {ad : Nat → Nat} {c : Nat} {r r' : Nat → Option Nat} {g g' : Nat → Int32} {k : Nat} {v : Value} (hk : k < nF c) (hv : fv ad c r' g' k = v) (hr : ∀ j, j ≠ k → r' j = r j) (hg : ∀ j, j ≠ k → g' j = g j) :
    ((List.range (nF c)).map (fv ad c r g)).set k v = (List.range (nF c)).map (fv ad c r' g') := by
  apply List.ext_getElem?
  intro i
  by_cases hi : i = k
  · subst hi
    rw [List.getElem?_set_self (by simpa using hk), fv_get hk, hv]
  · rw [List.getElem?_set_ne (Ne.symm hi)]
    by_cases hil : i < nF c
    · rw [fv_get hil, fv_get hil]
      unfold fv
      rw [hr i hi, hg i hi]
    · simp [hil]
-- ===== what is well made =====
def vok (n : Nat) (v : Value) : Prop := ∀ r, v = .ref r → r < n ∨ 1000000 ≤ r
def wfh (h : AH) : Prop := h.1.length ≤ 1000 ∧ (∀ a k r, h.2.1 a k = some r → r < h.1.length) ∧ (∀ a, h.1.length ≤ a → ∀ k, h.2.1 a k = none ∧ h.2.2 a k = 0)
theorem vok_int (n : Nat) (x : Int32) : vok n (.int x) := fun r h => by cases h
theorem vok_long (n : Nat) (x : Int64) : vok n (.long x) := fun r h => by cases h
theorem vok_null (n : Nat) : vok n .null := fun r h => by cases h
theorem vok_ref {n r : Nat} (h : r < n ∨ 1000000 ≤ r) : vok n (.ref r) := fun r' q => by cases q; exact h
theorem vok_rf {n : Nat} {o : Option Nat} (h : ∀ r, o = some r → r < n) : vok n (va_rf o) := by
  intro r q
  cases o with
  | none => cases q
  | some x => cases q; exact Or.inl (h _ rfl)
theorem vok_mono {n m : Nat} {v : Value} (h : vok n v) (hm : n ≤ m) : vok m v := fun r q => (h r q).imp (fun z => Nat.lt_of_lt_of_le z hm) id
theorem cv_rf (ad : Nat → Nat) (o : Option Nat) : cv ad (va_rf o) = va_rf (o.map ad) := by cases o <;> rfl
theorem cv_cat (ad : Nat → Nat) (v : Value) : (cv ad v).category = v.category := by cases v <;> rfl
theorem cv_agree {ad ad' : Nat → Nat} {n : Nat} {v : Value} (hv : vok n v) (h : ∀ k, (k < n ∨ 1000000 ≤ k) → ad' k = ad k) : cv ad' v = cv ad v := by
  cases v <;> try rfl
  rename_i a
  show Value.ref (ad' a) = Value.ref (ad a)
  rw [h a (hv a rfl)]
theorem cvs_agree {ad ad' : Nat → Nat} {n : Nat} {S : List Value} (hv : ∀ v ∈ S, vok n v) (h : ∀ k, (k < n ∨ 1000000 ≤ k) → ad' k = ad k) : S.map (cv ad') = S.map (cv ad) := List.map_congr_left fun v hm => cv_agree (hv v hm) h

