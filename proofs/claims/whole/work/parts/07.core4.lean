-- ===== rows that read and write the heap =====
theorem ccell_obj {dA : Nat → ClassId} {ad : Nat → Nat} {c n : Nat} {r : Nat → Option Nat} {g : Nat → Int32} (hc : c < 13) : ccell dA ad (c, n) r g = .inr (c, (List.range (nF c)).map (fv ad c r g)) := by
  unfold ccell; exact if_pos hc
theorem ccell_int {dA : Nat → ClassId} {ad : Nat → Nat} {n : Nat} {r : Nat → Option Nat} {g : Nat → Int32} : ccell dA ad (20, n) r g = .inl (dA 0, n, .inl g) := by
  unfold ccell; rw [if_neg (show ¬ 20 < 13 by decide), if_pos rfl]
theorem ccell_ref {dA : Nat → ClassId} {ad : Nat → Nat} {t n : Nat} {r : Nat → Option Nat} {g : Nat → Int32} (ht : 20 < t) : ccell dA ad (t, n) r g = .inl (dA (t - 20), n, .inr (.inr (.inr (.inr (fun i => (r i).map ad))))) := by
  unfold ccell; rw [if_neg (by show ¬ t < 13; omega), if_neg (by show ¬ t = 20; omega)]
/-- a field's link: the class (by its number) and the place of the field in it -/
def FL (own : String) (idx c k : Nat) : Prop := c < 13 ∧ k < nF c ∧ Cond.fieldLink own idx (Tt c k).1 (Tt c k).2.1 (Tt c k).2.2.1 ∈ gt
theorem gt_in {w : Cond} {i : Nat} (h : tables_1[i]? = some w) (hg : goodWord w = true) : w ∈ gt := List.mem_filter.mpr ⟨List.mem_append_right _ (List.mem_of_getElem? h), hg⟩
theorem gt_sel {q : MethodName × Nat} {i : Nat} (h : lw_privs[i]? = some q) : Cond.selects q.1.cls q.1 q.1 ∈ gt := List.mem_filter.mpr ⟨List.mem_append_left _ (List.mem_map.mpr ⟨q, List.mem_of_getElem? h, rfl⟩), rfl⟩
theorem gt_good {w : Cond} (h : w ∈ gt) : (w.onTables && w.keeps) = true ∨ ∃ ty, w = .arrayClass ty := good_of_word (List.mem_filter.mp h).2
theorem narrow_ref {ty : FieldType} (h : isRefTy ty = true) : (∀ a, narrow ty (.ref a) = .ref a ∧ fits ty (.ref a) = true) ∧ narrow ty .null = .null ∧ fits ty .null = true := by
  cases ty <;> first | (exact ⟨fun a => ⟨rfl, rfl⟩, rfl, rfl⟩) | cases h
section WPC
variable {d mc ms : Nat} {sc : Nat × (Nat → Int32)} {μ : MI} {Q : Option Value → AH → Prop} {pc : Nat} {L : List (Option Value)} {S : List Value} {T : List (Nat × Nat)} {rf : Nat → Nat → Option Nat} {g : Nat → Nat → Int32} {kc ks : Nat}
theorem wp_getI {idx c k a n : Nat} (hd : decode μ.2.1 pc = .ok (.getfield idx, 3)) (hf : FL μ.1.cls idx c k) (ht : Nat.blt (fT c k) 2 = true) (hT : T[a]? = some (c, n)) (kk : Wp d mc ms sc μ Q (pc + 3) L (.int (g a k) :: S) (T, rf, g) kc ks) : Wp d mc ms sc μ Q pc L (.ref a :: S) (T, rf, g) kc ks := by
  intro p l e R s m args below meth cd dC dI dA A n0 ad0 Qt C hEx ad H locs ls hs hl hL hS
  obtain ⟨hx, hb, hml, hown, hts, hnm, hR, hK, hA, hAm⟩ := id C
  obtain ⟨hP, hD, hSS, hwf, hn0, hag⟩ := id hs
  obtain ⟨hc, hk, hlk⟩ := hf
  have ht' : ¬ fT c k = 2 := by have : fT c k < 2 := by simpa using ht
                                omega
  refine va_get (D := (dC, dI)) hx hb hts (hU_all c hc) hown hK hP a ((cws_get hT).trans (by rw [ccell_obj hc])) (vwCl_get c hc) k hk (hts _ hlk) (fun _ z => z) (v := .int (g a k)) (by rw [fv_get hk]; unfold fv; rw [if_neg ht']) hd ?_
  exact kk p l e R s m args below meth cd dC dI dA A n0 ad0 Qt C hEx ad H locs ls hs hl hL (vk_i (vk_t hS))
theorem wp_getV {idx c k a n : Nat} {v : Value} (hd : decode μ.2.1 pc = .ok (.getfield idx, 3)) (hf : FL μ.1.cls idx c k) (ht : fT c k = 2) (hT : T[a]? = some (c, n)) (hv : va_rf (rf a k) = v) (kk : Wp d mc ms sc μ Q (pc + 3) L (v :: S) (T, rf, g) kc ks) : Wp d mc ms sc μ Q pc L (.ref a :: S) (T, rf, g) kc ks := by
  intro p l e R s m args below meth cd dC dI dA A n0 ad0 Qt C hEx ad H locs ls hs hl hL hS
  obtain ⟨hx, hb, hml, hown, hts, hnm, hR, hK, hA, hAm⟩ := id C
  obtain ⟨hP, hD, hSS, hwf, hn0, hag⟩ := id hs
  obtain ⟨hc, hk, hlk⟩ := hf
  subst hv
  refine va_get (D := (dC, dI)) hx hb hts (hU_all c hc) hown hK hP a ((cws_get hT).trans (by rw [ccell_obj hc])) (vwCl_get c hc) k hk (hts _ hlk) (fun _ z => z) (v := cv ad (va_rf (rf a k))) (by rw [fv_get hk]; unfold fv; rw [if_pos ht, cv_rf]) hd ?_
  exact kk p l e R s m args below meth cd dC dI dA A n0 ad0 Qt C hEx ad H locs ls hs hl hL (vk_c (vok_rf (fun r hr => hwf.2.1 a k r hr)) (vk_t hS))
theorem wp_getR {idx c k a n b : Nat} (hd : decode μ.2.1 pc = .ok (.getfield idx, 3)) (hf : FL μ.1.cls idx c k) (ht : fT c k = 2) (hT : T[a]? = some (c, n)) (hr : rf a k = some b) (kk : Wp d mc ms sc μ Q (pc + 3) L (.ref b :: S) (T, rf, g) kc ks) : Wp d mc ms sc μ Q pc L (.ref a :: S) (T, rf, g) kc ks :=
  wp_getV hd hf ht hT (by rw [hr]; rfl) kk
theorem put_eq {dA : Nat → ClassId} {ad : Nat → Nat} {rf' : Nat → Nat → Option Nat} {g' : Nat → Nat → Int32} {c k a n : Nat} {v : Value} (hc : c < 13) (hk : k < nF c) (hT : T[a]? = some (c, n)) (hv : fv ad c (rf' a) (g' a) k = v) (hr : ∀ j, j ≠ k → rf' a j = rf a j) (hg : ∀ j, j ≠ k → g' a j = g a j) (hr2 : ∀ b, b ≠ a → rf' b = rf b) (hg2 : ∀ b, b ≠ a → g' b = g b) :
    (cws dA ad (T, rf, g)).set a (ad a, .inr (c, ((List.range (nF c)).map (fv ad c (rf a) (g a))).set k v)) = cws dA ad (T, rf', g') := by
  rw [fv_set hk hv hr hg, ← ccell_obj (dA := dA) (n := n) hc]
  exact cws_set hT hr2 hg2
theorem wfh_up {a k : Nat} {t : Nat × Nat} {v : Int32} (hT : T[a]? = some t) (hwf : wfh (T, rf, g)) : wfh (T, rf, up g a k v) := by
  have hl := (List.getElem?_eq_some_iff.mp hT).1
  refine ⟨hwf.1, hwf.2.1, fun b hb j => ⟨(hwf.2.2 b hb j).1, ?_⟩⟩
  show up g a k v b j = 0
  rw [up_ne (fun q => by have hb : T.length ≤ b := hb; omega)]
  exact (hwf.2.2 b hb j).2
theorem wfh_ur {a k : Nat} {t : Nat × Nat} {o : Option Nat} (hT : T[a]? = some t) (ho : ∀ b, o = some b → b < T.length) (hwf : wfh (T, rf, g)) : wfh (T, ur rf a k o, g) := by
  have hl := (List.getElem?_eq_some_iff.mp hT).1
  refine ⟨hwf.1, fun b j r hr => ?_, fun b hb j => ⟨?_, (hwf.2.2 b hb j).2⟩⟩
  · have hr : ur rf a k o b j = some r := hr
    by_cases q : b = a ∧ j = k
    · rw [q.1, q.2, ur_same] at hr; exact ho r hr
    · rw [ur_ne q] at hr; exact hwf.2.1 b j r hr
  · show ur rf a k o b j = none
    rw [ur_ne (fun q => by have hb : T.length ≤ b := hb; omega)]
    exact (hwf.2.2 b hb j).1
/-- an int field is written; a boolean one with 0 or 1 -/
theorem wp_putI {idx c k a n : Nat} {x : Int32} (hd : decode μ.2.1 pc = .ok (.putfield idx, 3)) (hf : FL μ.1.cls idx c k) (ht : fT c k = 0) (hfin : (Tt c k).2.2.2 = false) (hT : T[a]? = some (c, n)) (kk : Wp d mc ms sc μ Q (pc + 3) L S (T, rf, up g a k x) kc ks) : Wp d mc ms sc μ Q pc L (.int x :: .ref a :: S) (T, rf, g) kc ks := by
  intro p l e R s m args below meth cd dC dI dA A n0 ad0 Qt C hEx ad H locs ls hs hl hL hS
  obtain ⟨hx, hb, hml, hown, hts, hnm, hR, hK, hA, hAm⟩ := id C
  obtain ⟨hP, hD, hSS, hwf, hn0, hag⟩ := id hs
  obtain ⟨hc, hk, hlk⟩ := hf
  have ht' : ¬ fT c k = 2 := by omega
  have hty := (hFt_all c hc k hk).1 ht
  refine va_put (D := (dC, dI)) (ty := .int) (v := .int x) hx hb hts (hU_all c hc) (tyC c) (hTy_all c hc) (hNm_all c hc) hown hK hP hD hSS a ((cws_get hT).trans (by rw [ccell_obj hc])) (vwCl_get c hc) k hk (hts _ hlk) (fun _ z => z) hfin ((hTy_all c hc k hk).trans (by rw [hty])) rfl rfl (by simpa using hk) hd (fun H1 locs1 hP1 hD1 hS1 => ?_)
  rw [put_eq (rf' := rf) (g' := up g a k x) hc hk hT (by unfold fv; rw [if_neg ht', up_same]) (fun _ _ => rfl) (fun j hj => up_ne (fun q => hj q.2)) (fun _ _ => rfl) (fun b hb => up_row hb)] at hP1 hD1
  exact kk p l e R s m args below meth cd dC dI dA A n0 ad0 Qt C hEx ad H1 locs1 ls ⟨hP1, hD1, hS1, wfh_up hT hwf, hn0, hag⟩ hl hL (vk_t (vk_t hS))
theorem wp_putZ {idx c k a n : Nat} {x : Int32} (hd : decode μ.2.1 pc = .ok (.putfield idx, 3)) (hf : FL μ.1.cls idx c k) (ht : fT c k = 1) (hfin : (Tt c k).2.2.2 = false) (hx01 : x = 0 ∨ x = 1) (hT : T[a]? = some (c, n)) (kk : Wp d mc ms sc μ Q (pc + 3) L S (T, rf, up g a k x) kc ks) : Wp d mc ms sc μ Q pc L (.int x :: .ref a :: S) (T, rf, g) kc ks := by
  intro p l e R s m args below meth cd dC dI dA A n0 ad0 Qt C hEx ad H locs ls hs hl hL hS
  obtain ⟨hx, hb, hml, hown, hts, hnm, hR, hK, hA, hAm⟩ := id C
  obtain ⟨hP, hD, hSS, hwf, hn0, hag⟩ := id hs
  obtain ⟨hc, hk, hlk⟩ := hf
  have ht' : ¬ fT c k = 2 := by omega
  have hty := (hFt_all c hc k hk).2.1 ht
  refine va_put (D := (dC, dI)) (ty := .boolean) (v := .int x) hx hb hts (hU_all c hc) (tyC c) (hTy_all c hc) (hNm_all c hc) hown hK hP hD hSS a ((cws_get hT).trans (by rw [ccell_obj hc])) (vwCl_get c hc) k hk (hts _ hlk) (fun _ z => z) hfin ((hTy_all c hc k hk).trans (by rw [hty])) (by rcases hx01 with rfl | rfl <;> rfl) (by rcases hx01 with rfl | rfl <;> rfl) (by simpa using hk) hd (fun H1 locs1 hP1 hD1 hS1 => ?_)
  rw [put_eq (rf' := rf) (g' := up g a k x) hc hk hT (by unfold fv; rw [if_neg ht', up_same]) (fun _ _ => rfl) (fun j hj => up_ne (fun q => hj q.2)) (fun _ _ => rfl) (fun b hb => up_row hb)] at hP1 hD1
  exact kk p l e R s m args below meth cd dC dI dA A n0 ad0 Qt C hEx ad H1 locs1 ls ⟨hP1, hD1, hS1, wfh_up hT hwf, hn0, hag⟩ hl hL (vk_t (vk_t hS))
/-- a reference field is written; a final one in its own constructor -/
theorem wp_putV {idx c k a n : Nat} {o : Option Nat} (hd : decode μ.2.1 pc = .ok (.putfield idx, 3)) (hf : FL μ.1.cls idx c k) (ht : fT c k = 2) (hfin : (Tt c k).2.2.2 = false ∨ (μ.1.name = "<init>" ∧ (Tt c k).1 = μ.1.cls)) (hT : T[a]? = some (c, n)) (ho : ∀ b, o = some b → b < T.length) (kk : Wp d mc ms sc μ Q (pc + 3) L S (T, ur rf a k o, g) kc ks) : Wp d mc ms sc μ Q pc L (va_rf o :: .ref a :: S) (T, rf, g) kc ks := by
  intro p l e R s m args below meth cd dC dI dA A n0 ad0 Qt C hEx ad H locs ls hs hl hL hS
  obtain ⟨hx, hb, hml, hown, hts, hnm, hR, hK, hA, hAm⟩ := id C
  obtain ⟨hP, hD, hSS, hwf, hn0, hag⟩ := id hs
  obtain ⟨hc, hk, hlk⟩ := hf
  have hty := (hFt_all c hc k hk).2.2.1 ht
  obtain ⟨n1, n2, n3⟩ := narrow_ref hty
  have hn1 : narrow (tyC c k) (cv ad (va_rf o)) = cv ad (va_rf o) := by cases o with | none => exact n2 | some b => exact (n1 _).1
  have hn2 : fits (tyC c k) (cv ad (va_rf o)) = true := by cases o with | none => exact n3 | some b => exact (n1 _).2
  have fin : ∀ (H1 : Heap) (locs1 : List Loc), va_P (dC, dI) vwCl ((cws dA ad (T, rf, g)).set a (ad a, .inr (c, ((List.range (nF c)).map (fv ad c (rf a) (g a))).set k (cv ad (va_rf o))))) H1 → va_D A ((cws dA ad (T, rf, g)).set a (ad a, .inr (c, ((List.range (nF c)).map (fv ad c (rf a) (g a))).set k (cv ad (va_rf o))))) → va_S A s.heap H1 locs1 → W p l e R s m args below meth cd H1 locs1 kc ks Qt (F0 m (pc + 3) ls (S.map (cv ad))) := by
    intro H1 locs1 hP1 hD1 hS1
    rw [put_eq (rf' := ur rf a k o) (g' := g) hc hk hT (by unfold fv; rw [if_pos ht, ur_same, cv_rf]) (fun j hj => ur_ne (fun q => hj q.2)) (fun _ _ => rfl) (fun b hb => ur_row hb) (fun _ _ => rfl)] at hP1 hD1
    exact kk p l e R s m args below meth cd dC dI dA A n0 ad0 Qt C hEx ad H1 locs1 ls ⟨hP1, hD1, hS1, wfh_ur hT ho hwf, hn0, hag⟩ hl hL (vk_t (vk_t hS))
  cases hfin' : (Tt c k).2.2.2 with
  | false => exact va_put (D := (dC, dI)) (ty := tyC c k) (v := cv ad (va_rf o)) hx hb hts (hU_all c hc) (tyC c) (hTy_all c hc) (hNm_all c hc) hown hK hP hD hSS a ((cws_get hT).trans (by rw [ccell_obj hc])) (vwCl_get c hc) k hk (hts _ hlk) (fun _ z => z) hfin' (hTy_all c hc k hk) hn1 hn2 (by simpa using hk) hd fin
  | true =>
    rcases hfin with q | ⟨q1, q2⟩
    · rw [hfin'] at q; cases q
    · exact va_putF (D := (dC, dI)) (ty := tyC c k) (v := cv ad (va_rf o)) hx hb hts (hU_all c hc) (tyC c) (hTy_all c hc) (hNm_all c hc) hown hK hP hD hSS a ((cws_get hT).trans (by rw [ccell_obj hc])) (vwCl_get c hc) k hk (hts _ hlk) (fun _ z => z) hfin' (hnm.trans q1) q2 (hTy_all c hc k hk) hn1 hn2 (by simpa using hk) hd fin
theorem wp_putR {idx c k a n b : Nat} (hd : decode μ.2.1 pc = .ok (.putfield idx, 3)) (hf : FL μ.1.cls idx c k) (ht : fT c k = 2) (hfin : (Tt c k).2.2.2 = false ∨ (μ.1.name = "<init>" ∧ (Tt c k).1 = μ.1.cls)) (hT : T[a]? = some (c, n)) {t : Nat × Nat} (ho : T[b]? = some t) (kk : Wp d mc ms sc μ Q (pc + 3) L S (T, ur rf a k (some b), g) kc ks) : Wp d mc ms sc μ Q pc L (.ref b :: .ref a :: S) (T, rf, g) kc ks :=
  wp_putV (o := some b) hd hf ht hfin hT (fun b' e => by cases e; exact (List.getElem?_eq_some_iff.mp ho).1) kk
theorem wp_putN {idx c k a n : Nat} (hd : decode μ.2.1 pc = .ok (.putfield idx, 3)) (hf : FL μ.1.cls idx c k) (ht : fT c k = 2) (hfin : (Tt c k).2.2.2 = false ∨ (μ.1.name = "<init>" ∧ (Tt c k).1 = μ.1.cls)) (hT : T[a]? = some (c, n)) (kk : Wp d mc ms sc μ Q (pc + 3) L S (T, ur rf a k none, g) kc ks) : Wp d mc ms sc μ Q pc L (.null :: .ref a :: S) (T, rf, g) kc ks :=
  wp_putV (o := none) hd hf ht hfin hT (fun b' e => by cases e) kk
-- rows
theorem wp_iald {a n j : Nat} {i : Int32} (hd : decode μ.2.1 pc = .ok (.iaload, 1)) (hT : T[a]? = some (20, n)) (hi : i = nI j) (hj : j < n) (hn : Nat.ble n 2000 = true) (kk : Wp d mc ms sc μ Q (pc + 1) L (.int (g a j) :: S) (T, rf, g) kc ks) : Wp d mc ms sc μ Q pc L (.int i :: .ref a :: S) (T, rf, g) kc ks := by
  intro p l e R s m args below meth cd dC dI dA A n0 ad0 Qt C hEx ad H locs ls hs hl hL hS
  obtain ⟨hx, hb, hml, hown, hts, hnm, hR, hK, hA, hAm⟩ := id C
  obtain ⟨hP, hD, hSS, hwf, hn0, hag⟩ := id hs
  have hn' := Nat.le_of_ble_eq_true hn
  have e1 : i.toNatClampNeg = j := by rw [hi]; exact nI_clamp (by omega)
  refine va_iald hx hb hK hP a 0 ((cws_get hT).trans (by rw [ccell_int])) rfl (by rw [hi]; exact vp_in_nI hj (by omega)) hd ?_
  rw [e1]
  exact kk p l e R s m args below meth cd dC dI dA A n0 ad0 Qt C hEx ad H locs ls hs hl hL (vk_i (vk_t (vk_t hS)))
theorem wp_iast {a n j : Nat} {i x : Int32} (hd : decode μ.2.1 pc = .ok (.iastore, 1)) (hT : T[a]? = some (20, n)) (hi : i = nI j) (hj : j < n) (hn : Nat.ble n 2000 = true) (kk : Wp d mc ms sc μ Q (pc + 1) L S (T, rf, up g a j x) kc ks) : Wp d mc ms sc μ Q pc L (.int x :: .int i :: .ref a :: S) (T, rf, g) kc ks := by
  intro p l e R s m args below meth cd dC dI dA A n0 ad0 Qt C hEx ad H locs ls hs hl hL hS
  obtain ⟨hx, hb, hml, hown, hts, hnm, hR, hK, hA, hAm⟩ := id C
  obtain ⟨hP, hD, hSS, hwf, hn0, hag⟩ := id hs
  have hn' := Nat.le_of_ble_eq_true hn
  have e1 : i.toNatClampNeg = j := by rw [hi]; exact nI_clamp (by omega)
  refine va_iast hx hb hK hP hD hSS a 0 ((cws_get hT).trans (by rw [ccell_int])) rfl (by rw [hi]; exact vp_in_nI hj (by omega)) hd (fun H1 locs1 hP1 hD1 hS1 => ?_)
  have e2 : (cws dA ad (T, rf, g)).set a (ad a, .inl (dA 0, n, .inl (upd (g a) i.toNatClampNeg x))) = cws dA ad (T, rf, up g a j x) := by
    rw [e1, ← up_own, ← ccell_int (ad := ad) (r := rf a)]
    exact cws_set hT (fun _ _ => rfl) (fun b hb => up_row hb)
  have hP1 : va_P (dC, dI) vwCl ((cws dA ad (T, rf, g)).set a (ad a, .inl (dA 0, n, .inl (upd (g a) i.toNatClampNeg x)))) H1 := hP1
  have hD1 : va_D A ((cws dA ad (T, rf, g)).set a (ad a, .inl (dA 0, n, .inl (upd (g a) i.toNatClampNeg x)))) := hD1
  rw [e2] at hP1 hD1
  exact kk p l e R s m args below meth cd dC dI dA A n0 ad0 Qt C hEx ad H1 locs1 ls ⟨hP1, hD1, hS1, wfh_up hT hwf, hn0, hag⟩ hl hL (vk_t (vk_t (vk_t hS)))
theorem wp_alen {a n t : Nat} {v : Int32} (hd : decode μ.2.1 pc = .ok (.arraylength, 1)) (hT : T[a]? = some (t, n)) (ht : Nat.ble 20 t = true) (ht2 : Nat.ble t 23 = true) (hv : nI n = v) (kk : Wp d mc ms sc μ Q (pc + 1) L (.int v :: S) (T, rf, g) kc ks) : Wp d mc ms sc μ Q pc L (.ref a :: S) (T, rf, g) kc ks := by
  intro p l e R s m args below meth cd dC dI dA A n0 ad0 Qt C hEx ad H locs ls hs hl hL hS
  obtain ⟨hx, hb, hml, hown, hts, hnm, hR, hK, hA, hAm⟩ := id C
  obtain ⟨hP, hD, hSS, hwf, hn0, hag⟩ := id hs
  have ht' := Nat.le_of_ble_eq_true ht
  have ht2' := Nat.le_of_ble_eq_true ht2
  have fin := kk p l e R s m args below meth cd dC dI dA A n0 ad0 Qt C hEx ad H locs ls hs hl hL (vk_i (vk_t hS))
  rcases (by omega : t = 20 ∨ t = 21 ∨ t = 22 ∨ t = 23) with rfl | rfl | rfl | rfl
  · exact va_alen (x := (n, _)) hx hb hK hP a 0 ((cws_get hT).trans (by rw [ccell_int])) rfl hv hd fin
  · exact va_alen (x := (n, _)) hx hb hK hP a 1 ((cws_get hT).trans (by rw [ccell_ref (by decide)])) rfl hv hd fin
  · exact va_alen (x := (n, _)) hx hb hK hP a 2 ((cws_get hT).trans (by rw [ccell_ref (by decide)])) rfl hv hd fin
  · exact va_alen (x := (n, _)) hx hb hK hP a 3 ((cws_get hT).trans (by rw [ccell_ref (by decide)])) rfl hv hd fin
theorem wp_aald {a n t j b : Nat} {i : Int32} (hd : decode μ.2.1 pc = .ok (.aaload, 1)) (hT : T[a]? = some (t, n)) (ht : Nat.blt 20 t = true) (ht2 : Nat.ble t 23 = true) (hi : i = nI j) (hj : j < n) (hn : Nat.ble n 2000 = true) (hr : rf a j = some b) (kk : Wp d mc ms sc μ Q (pc + 1) L (.ref b :: S) (T, rf, g) kc ks) : Wp d mc ms sc μ Q pc L (.int i :: .ref a :: S) (T, rf, g) kc ks := by
  intro p l e R s m args below meth cd dC dI dA A n0 ad0 Qt C hEx ad H locs ls hs hl hL hS
  obtain ⟨hx, hb, hml, hown, hts, hnm, hR, hK, hA, hAm⟩ := id C
  obtain ⟨hP, hD, hSS, hwf, hn0, hag⟩ := id hs
  have hn' := Nat.le_of_ble_eq_true hn
  have ht' : 20 < t := by simpa using ht
  have ht2' := Nat.le_of_ble_eq_true ht2
  have e1 : i.toNatClampNeg = j := by rw [hi]; exact nI_clamp (by omega)
  have hin : vp_in i n := by rw [hi]; exact vp_in_nI hj (by omega)
  have fin := kk p l e R s m args below meth cd dC dI dA A n0 ad0 Qt C hEx ad H locs ls hs hl hL (vk_c (vok_ref (Or.inl (hwf.2.1 a j b hr))) (vk_t (vk_t hS)))
  have e2 : va_rf ((fun i => (rf a i).map ad) i.toNatClampNeg) = .ref (ad b) := by show va_rf ((rf a i.toNatClampNeg).map ad) = _; rw [e1, hr]; rfl
  rcases (by omega : t = 21 ∨ t = 22 ∨ t = 23) with rfl | rfl | rfl
  · exact va_aldq hx hb hK hP a 1 ((cws_get hT).trans (by rw [ccell_ref (by decide)])) rfl hin hd (by rw [e2]; exact fin)
  · exact va_aldq hx hb hK hP a 2 ((cws_get hT).trans (by rw [ccell_ref (by decide)])) rfl hin hd (by rw [e2]; exact fin)
  · exact va_aldq hx hb hK hP a 3 ((cws_get hT).trans (by rw [ccell_ref (by decide)])) rfl hin hd (by rw [e2]; exact fin)
/-- which class's objects go into which array -/
def stOK (t c : Nat) : Bool := (Nat.beq t 21 && Nat.beq c 4) || (Nat.beq t 22 && Nat.beq c 7) || (Nat.beq t 23 && (Nat.beq c 3 || Nat.beq c 1 || Nat.beq c 2 || Nat.beq c 8 || Nat.beq c 9 || Nat.beq c 10))
theorem wp_aast {a n t j b c nc : Nat} {i : Int32} (hd : decode μ.2.1 pc = .ok (.aastore, 1)) (hT : T[a]? = some (t, n)) (hTb : T[b]? = some (c, nc)) (hst : stOK t c = true) (hi : i = nI j) (hj : j < n) (hn : Nat.ble n 2000 = true) (kk : Wp d mc ms sc μ Q (pc + 1) L S (T, ur rf a j (some b), g) kc ks) : Wp d mc ms sc μ Q pc L (.ref b :: .int i :: .ref a :: S) (T, rf, g) kc ks := by
  intro p l e R s m args below meth cd dC dI dA A n0 ad0 Qt C hEx ad H locs ls hs hl hL hS
  obtain ⟨hx, hb, hml, hown, hts, hnm, hR, hK, hA, hAm⟩ := id C
  obtain ⟨hP, hD, hSS, hwf, hn0, hag⟩ := id hs
  have hn' := Nat.le_of_ble_eq_true hn
  have e1 : i.toNatClampNeg = j := by rw [hi]; exact nI_clamp (by omega)
  have hin : vp_in i n := by rw [hi]; exact vp_in_nI hj (by omega)
  have hbl := (List.getElem?_eq_some_iff.mp hTb).1
  have fin : 20 < t → ∀ (H1 : Heap) (locs1 : List Loc), va_P (dC, dI) vwCl ((cws dA ad (T, rf, g)).set a (ad a, .inl (dA (t - 20), n, .inr (.inr (.inr (.inr (va_up (fun i => (rf a i).map ad) i.toNatClampNeg (some (ad b))))))))) H1 → va_D A ((cws dA ad (T, rf, g)).set a (ad a, .inl (dA (t - 20), n, .inr (.inr (.inr (.inr (va_up (fun i => (rf a i).map ad) i.toNatClampNeg (some (ad b))))))))) → va_S A s.heap H1 locs1 → W p l e R s m args below meth cd H1 locs1 kc ks Qt (F0 m (pc + 1) ls (S.map (cv ad))) := by
    intro ht H1 locs1 hP1 hD1 hS1
    have e2 : (cws dA ad (T, rf, g)).set a (ad a, .inl (dA (t - 20), n, .inr (.inr (.inr (.inr (va_up (fun i => (rf a i).map ad) i.toNatClampNeg (some (ad b)))))))) = cws dA ad (T, ur rf a j (some b), g) := by
      have e3 : va_up (fun i => (rf a i).map ad) i.toNatClampNeg (some (ad b)) = fun i => (ur rf a j (some b) a i).map ad := by
        funext q
        rw [e1]
        by_cases hq : q = j
        · subst hq; simp [va_up, ur]
        · simp [va_up, ur, hq]
      rw [e3, ← ccell_ref (g := g a) ht]
      exact cws_set hT (fun b hb => ur_row hb) (fun _ _ => rfl)
    rw [e2] at hP1 hD1
    exact kk p l e R s m args below meth cd dC dI dA A n0 ad0 Qt C hEx ad H1 locs1 ls ⟨hP1, hD1, hS1, wfh_ur hT (fun b' e => by cases e; exact hbl) hwf, hn0, hag⟩ hl hL (vk_t (vk_t (vk_t hS)))
  have hbt : c < 13 → (cws dA ad (T, rf, g))[b]? = some (ad b, .inr (c, (List.range (nF c)).map (fv ad c (rf b) (g b)))) := fun hc => (cws_get hTb).trans (by rw [ccell_obj hc])
  have hcst : ∀ q ∈ castYW, va_Nw (.castable q.1 q.2) s := hAm.2.2.2.2.2.2.1
  simp only [stOK, Bool.or_eq_true, Bool.and_eq_true] at hst
  rcases hst with (⟨h1, h2⟩ | ⟨h1, h2⟩) | ⟨h1, h2⟩
  · have h1 := Nat.eq_of_beq_eq_true h1; have h2 := Nat.eq_of_beq_eq_true h2; subst h1; subst h2
    exact va_astq hx hb hK hP hD hSS a 1 b 4 ((cws_get hT).trans (by rw [ccell_ref (by decide)])) (r := (RX4, TX4, 4)) rfl (hbt (by decide)) rfl hin hd (fin (by decide))
  · have h1 := Nat.eq_of_beq_eq_true h1; have h2 := Nat.eq_of_beq_eq_true h2; subst h1; subst h2
    exact va_astq hx hb hK hP hD hSS a 2 b 7 ((cws_get hT).trans (by rw [ccell_ref (by decide)])) (r := (RX7, TX7, 3)) rfl (hbt (by decide)) rfl hin hd (fin (by decide))
  · have h1 := Nat.eq_of_beq_eq_true h1; subst h1
    rcases h2 with ((((h2 | h2) | h2) | h2) | h2) | h2 <;> (have h2 := Nat.eq_of_beq_eq_true h2; subst h2)
    · exact va_astq hx hb hK hP hD hSS a 3 b 3 ((cws_get hT).trans (by rw [ccell_ref (by decide)])) (r := (RX3, TX3, 0)) rfl (hbt (by decide)) rfl hin hd (fin (by decide))
    · exact va_astqO hx hb hK hP hD hSS a 3 b 1 ((cws_get hT).trans (by rw [ccell_ref (by decide)])) (r := (RX1, TX1, 0)) rfl (hcst ("HotCorner$Frozen", "HotCorner$Kind") (by decide)) (hbt (by decide)) rfl hin hd (fin (by decide))
    · exact va_astqO hx hb hK hP hD hSS a 3 b 2 ((cws_get hT).trans (by rw [ccell_ref (by decide)])) (r := (RX2, TX2, 0)) rfl (hcst ("HotCorner$Grandfathers", "HotCorner$Kind") (by decide)) (hbt (by decide)) rfl hin hd (fin (by decide))
    · exact va_astqO hx hb hK hP hD hSS a 3 b 8 ((cws_get hT).trans (by rw [ccell_ref (by decide)])) (r := (RX8, TX8, 0)) rfl (hcst ("HotCorner$Sugared", "HotCorner$Kind") (by decide)) (hbt (by decide)) rfl hin hd (fin (by decide))
    · exact va_astqO hx hb hK hP hD hSS a 3 b 9 ((cws_get hT).trans (by rw [ccell_ref (by decide)])) (r := (RX9, TX9, 0)) rfl (hcst ("HotCorner$Thick", "HotCorner$Kind") (by decide)) (hbt (by decide)) rfl hin hd (fin (by decide))
    · exact va_astqO hx hb hK hP hD hSS a 3 b 10 ((cws_get hT).trans (by rw [ccell_ref (by decide)])) (r := (RX10, TX10, 0)) rfl (hcst ("HotCorner$Thin", "HotCorner$Kind") (by decide)) (hbt (by decide)) rfl hin hd (fin (by decide))
end WPC
