-- ===== new cells =====
/-- the addresses, with one more -/
def adU (ad : Nat → Nat) (n q : Nat) : Nat → Nat := fun k => if k = n then q else ad k
theorem adU_ne {ad : Nat → Nat} {n q k : Nat} (h : k ≠ n) : adU ad n q k = ad k := if_neg h
theorem adU_eq {ad : Nat → Nat} {n q : Nat} : adU ad n q n = q := if_pos rfl
theorem locF_agree {ad ad' : Nat → Nat} : ∀ {L : List (Option Value)} {i : Nat}, (∀ v, some v ∈ L → cv ad' v = cv ad v) → locF ad' i L = locF ad i L := by
  intro L
  induction L with
  | nil => intro i _; rfl
  | cons o L ih =>
    intro i h
    cases o with
    | none => exact ih (fun v hv => h v (List.mem_cons_of_mem _ hv))
    | some w =>
      show (i, cv ad' w) :: locF ad' (i + 1) L = (i, cv ad w) :: locF ad (i + 1) L
      rw [h w List.mem_cons_self, ih (fun v hv => h v (List.mem_cons_of_mem _ hv))]
theorem ccell_agree {dA : Nat → ClassId} {ad ad' : Nat → Nat} {t : Nat × Nat} {r : Nat → Option Nat} {g : Nat → Int32} (h : ∀ k b, r k = some b → ad' b = ad b) : ccell dA ad' t r g = ccell dA ad t r g := by
  have e : ∀ k, (r k).map ad' = (r k).map ad := by
    intro k
    cases hr : r k with
    | none => rfl
    | some b => show some (ad' b) = some (ad b); rw [h k b hr]
  unfold ccell
  have e2 : fv ad' t.1 r g = fv ad t.1 r g := by funext k; unfold fv; rw [e]
  have e3 : (fun i => (r i).map ad') = fun i => (r i).map ad := funext e
  rw [e2, e3]
theorem cws_push {dA : Nat → ClassId} {ad : Nat → Nat} {T : List (Nat × Nat)} {rf : Nat → Nat → Option Nat} {g : Nat → Nat → Int32} {t : Nat × Nat} {q : Nat} (hwf : wfh (T, rf, g)) :
    cws dA (adU ad T.length q) (T ++ [t], rf, g) = cws dA ad (T, rf, g) ++ [(q, ccell dA (adU ad T.length q) t (rf T.length) (g T.length))] := by
  apply List.ext_getElem?
  intro i
  have hlt : ∀ a k b, rf a k = some b → b < T.length := hwf.2.1
  by_cases hi : i < T.length
  · have h1 : T[i]? = some T[i] := List.getElem?_eq_getElem hi
    have h2 : (T ++ [t])[i]? = some T[i] := by rw [List.getElem?_append_left hi]; exact h1
    rw [cws_get (h := (T ++ [t], rf, g)) h2, List.getElem?_append_left (by rw [cws_len]; exact hi), cws_get (h := (T, rf, g)) h1]
    show some (adU ad T.length q i, ccell dA (adU ad T.length q) T[i] (rf i) (g i)) = some (ad i, ccell dA ad T[i] (rf i) (g i))
    rw [adU_ne (by omega), ccell_agree (fun k b hb => adU_ne (by have := hlt i k b hb; omega))]
  · rw [List.getElem?_append_right (by rw [cws_len]; exact Nat.not_lt.mp hi), cws_len]
    by_cases hi2 : i = T.length
    · subst hi2
      have h2 : (T ++ [t])[T.length]? = some t := by simp
      rw [cws_get (h := (T ++ [t], rf, g)) h2]
      show some (adU ad T.length q T.length, _) = _
      rw [adU_eq]
      show _ = [_][T.length - T.length]?
      rw [Nat.sub_self]
      rfl
    · rw [cws_none (h := (T ++ [t], rf, g)) (by show (T ++ [t]).length ≤ i; simp; omega)]
      show none = [_][i - T.length]?
      rw [List.getElem?_eq_none_iff.mpr]
      simp; omega
def CLs (own : String) (idx c : Nat) : Prop := c < 13 ∧ Cond.classLink own idx (Rn c) ∈ gt ∧ Cond.instantiable (Rn c) (nF c) ∈ gt ∧ Cond.initialized (Rn c) ∈ gt
theorem wfh_push {T : List (Nat × Nat)} {rf : Nat → Nat → Option Nat} {g : Nat → Nat → Int32} {t : Nat × Nat} (hlen : T.length < 1000) (hwf : wfh (T, rf, g)) : wfh (T ++ [t], rf, g) := by
  refine ⟨by show (T ++ [t]).length ≤ 1000; simp; omega, fun a k r hr => ?_, fun a ha k => hwf.2.2 a ?_ k⟩
  · have := hwf.2.1 a k r hr
    show r < (T ++ [t]).length
    have h2 : r < T.length := this
    simp; omega
  · have ha : (T ++ [t]).length ≤ a := ha
    show T.length ≤ a
    simp at ha; omega
section WPD
variable {d mc ms : Nat} {sc : Nat × (Nat → Int32)} {μ : MI} {Q : Option Value → AH → Prop} {pc : Nat} {L : List (Option Value)} {S : List Value} {T : List (Nat × Nat)} {rf : Nat → Nat → Option Nat} {g : Nat → Nat → Int32} {kc ks : Nat}
/-- behind a new cell -/
theorem wp_pushed {pc' n kc' ks' : Nat} {t : Nat × Nat} {S0 : List Value} (hn : T.length = n) (hlen : Nat.blt n 1000 = true)
    {p : Program} {l : Launch} {e : Env} {R : Room} {s : State} {m : MethodId} {args : Array Value} {below : List Frame} {meth : Method} {cd : Code} {dC : Nat → ClassId} {dI : Nat → Nat → Nat} {dA : Nat → ClassId} {A : Nat → Prop} {n0 : Nat} {ad0 : Nat → Nat} {Qt : State → Prop}
    (C : Ctx d mc ms sc μ p R s m args meth cd dC dI dA A ad0)
    (hEx : ∀ (r : Option Value) (h' : AH) (ad' : Nat → Nat) (H' : Heap) (locs' : List Loc) (kc' ks' pc' : Nat) (ls' : Array Slot), retOK μ pc' r → Q r h' → Sit dC dI dA A n0 ad0 s.heap ad' h' H' locs' → (∀ v, r = some v → vok h'.1.length v) → kc' ≤ mc → ks' ≤ ms → W p l e R s m args below meth cd H' locs' kc' ks' Qt (F0 m pc' ls' (r.map (cv ad')).toList))
    {ad : Nat → Nat} {H : Heap} {locs : List Loc} {ls : Array Slot} (hs : Sit dC dI dA A n0 ad0 s.heap ad (T, rf, g) H locs) (hl : lv_has ls μ.2.2.1 (locL ad L)) (hL : ∀ v, some v ∈ L → vok T.length v) (hS : ∀ v ∈ S0, vok T.length v)
    (kk : Wp d mc ms sc μ Q pc' L (.ref n :: S0) (T ++ [t], rf, g) kc' ks') {q : Nat} {H1 : Heap}
    (hP1 : va_P (dC, dI) vwCl (cws dA ad (T, rf, g) ++ [(q, ccell dA (adU ad T.length q) t (rf T.length) (g T.length))]) H1) (hD1 : va_D A (cws dA ad (T, rf, g) ++ [(q, ccell dA (adU ad T.length q) t (rf T.length) (g T.length))])) (hS1 : va_S A s.heap H1 locs) :
    W p l e R s m args below meth cd H1 locs kc' ks' Qt (F0 m pc' ls (.ref q :: S0.map (cv ad))) := by
  subst hn
  obtain ⟨hP, hD, hSS, hwf, hn0, hag⟩ := hs
  have hlen : T.length < 1000 := by simpa using hlen
  have hn0 : n0 ≤ T.length := hn0
  rw [← cws_push hwf] at hP1 hD1
  have ag : ∀ k, (k < T.length ∨ 1000000 ≤ k) → adU ad T.length q k = ad k := fun k hk => adU_ne (by omega)
  have e1 : S0.map (cv (adU ad T.length q)) = S0.map (cv ad) := cvs_agree hS ag
  have e2 : locL (adU ad T.length q) L = locL ad L := locF_agree (fun v hv => cv_agree (hL v hv) ag)
  have hT' : (T ++ [t]).length = T.length + 1 := by simp
  have r := kk p l e R s m args below meth cd dC dI dA A n0 ad0 Qt C hEx (adU ad T.length q) H1 locs ls ⟨hP1, hD1, hS1, wfh_push hlen hwf, by show n0 ≤ (T ++ [t]).length; omega, fun k hk => by rw [ag k (by omega)]; exact hag k hk⟩ (by rw [e2]; exact hl) (fun v hv => vok_mono (hL v hv) (by show T.length ≤ (T ++ [t]).length; omega))
    (vk_c (vok_ref (Or.inl (by show T.length < (T ++ [t]).length; omega))) (fun v hv => vok_mono (hS v hv) (by show T.length ≤ (T ++ [t]).length; omega)))
  have e3 : (Value.ref T.length :: S0).map (cv (adU ad T.length q)) = .ref q :: S0.map (cv ad) := by
    show Value.ref (adU ad T.length q T.length) :: S0.map (cv (adU ad T.length q)) = _
    rw [adU_eq, e1]
  rw [e3] at r
  exact r
theorem wp_new {idx c n : Nat} (hd : decode μ.2.1 pc = .ok (.new idx, 3)) (hw : CLs μ.1.cls idx c) (hn : T.length = n) (hlen : Nat.blt n 1000 = true) (hkc : Nat.ble (kc + 1) mc = true) (hks : Nat.ble (ks + nF c) ms = true)
    (kk : (∀ k, rf n k = none) → (∀ k, g n k = 0) → Wp d mc ms sc μ Q (pc + 3) L (.ref n :: S) (T ++ [(c, 0)], rf, g) (kc + 1) (ks + nF c)) : Wp d mc ms sc μ Q pc L S (T, rf, g) kc ks := by
  intro p l e R s m args below meth cd dC dI dA A n0 ad0 Qt C hEx ad H locs ls hs hl hL hS
  obtain ⟨hx, hb, hml, hown, hts, hnm, hR, hK, hA, hAm⟩ := id C
  obtain ⟨hP, hD, hSS, hwf, hn0, hag⟩ := id hs
  obtain ⟨hc, w1, w2, w3⟩ := hw
  have z1 : ∀ k, rf n k = none := fun k => (hwf.2.2 n (Nat.le_of_eq hn) k).1
  have z2 : ∀ k, g n k = 0 := fun k => (hwf.2.2 n (Nat.le_of_eq hn) k).2
  have hfs : ∀ q, ∀ j, j < nF c → defaultValue (tyC c j) = vp_V ((List.range (nF c)).map (fv (adU ad T.length q) c (rf T.length) (g T.length))) j := by
    intro q j hj
    have e1 : vp_V ((List.range (nF c)).map (fv (adU ad T.length q) c (rf T.length) (g T.length))) j = fv (adU ad T.length q) c (rf T.length) (g T.length) j := by
      unfold vp_V; rw [List.getD_eq_getElem?_getD, fv_get hj]; rfl
    rw [e1, hn]
    obtain ⟨f0, f1, f2, f3⟩ := hFt_all c hc j hj
    unfold fv
    rw [z1, z2]
    rcases (by omega : fT c j = 0 ∨ fT c j = 1 ∨ fT c j = 2) with z | z | z
    · rw [f0 z, if_neg (by omega)]; rfl
    · rw [f1 z, if_neg (by omega)]; rfl
    · rw [if_pos z]
      have := f2 z
      cases hq : tyC c j <;> rw [hq] at this <;> first | rfl | cases this
  refine va_new (D := (dC, dI)) (fs := (List.range (nF c)).map (fv (adU ad T.length H.size) c (rf T.length) (g T.length))) hx hb hts (hU_all c hc) (tyC c) (hTy_all c hc) hown (hts _ w1) (hts _ w2) (hts _ w3) hK hP hD hSS hA (vwCl_get c hc) (hfs H.size) (Nat.le_trans (Nat.le_of_ble_eq_true hkc) hR.2.2.1) (Nat.le_trans (Nat.le_of_ble_eq_true hks) hR.2.2.2) hd (fun q H1 hP1 hD1 hS1 => ?_)
  have e : ∀ q', fv (adU ad T.length H.size) c (rf T.length) (g T.length) = fv (adU ad T.length q') c (rf T.length) (g T.length) := by
    intro q'
    funext k
    unfold fv
    rw [hn, z1]
    rfl
  rw [e q, ← ccell_obj (dA := dA) (n := 0) hc] at hP1 hD1
  exact wp_pushed hn hlen C hEx hs hl hL hS (kk z1 z2) hP1 hD1 hS1
theorem wp_newa {n N : Nat} {x : Int32} (hd : decode μ.2.1 pc = .ok (.newarray .int, 2)) (hw : Cond.arrayClass .int ∈ gt) (hN : x = nI N) (hN2 : Nat.ble N 2000 = true) (hn : T.length = n) (hlen : Nat.blt n 1000 = true) (hkc : Nat.ble (kc + 1) mc = true) (hks : Nat.ble (ks + N) ms = true)
    (kk : (∀ k, rf n k = none) → (∀ k, g n k = 0) → Wp d mc ms sc μ Q (pc + 2) L (.ref n :: S) (T ++ [(20, N)], rf, g) (kc + 1) (ks + N)) : Wp d mc ms sc μ Q pc L (.int x :: S) (T, rf, g) kc ks := by
  intro p l e R s m args below meth cd dC dI dA A n0 ad0 Qt C hEx ad H locs ls hs hl hL hS
  obtain ⟨hx, hb, hml, hown, hts, hnm, hR, hK, hA, hAm⟩ := id C
  obtain ⟨hP, hD, hSS, hwf, hn0, hag⟩ := id hs
  have z1 : ∀ k, rf n k = none := fun k => (hwf.2.2 n (Nat.le_of_eq hn) k).1
  have z2 : ∀ k, g n k = 0 := fun k => (hwf.2.2 n (Nat.le_of_eq hn) k).2
  have hN2' := Nat.le_of_ble_eq_true hN2
  refine va_newa (atype := .int) (D := (dC, dI)) (a0 := (N, .inl (fun _ => 0))) (N' := N) (ty := .int) hx hb (hts _ hw) rfl hK hP hD hSS hA (fun cA => rfl) (by rw [hN]; exact nI_pos (by omega)) (by rw [hN]; exact nI_clamp (by omega)) (by show N * 4 ≤ _; omega) (Nat.le_trans (Nat.le_of_ble_eq_true hkc) hR.2.2.1) (Nat.le_trans (Nat.le_of_ble_eq_true hks) hR.2.2.2) hd (fun q cA H1 hK1 hP1 hD1 hS1 => ?_)
  have hcA : cA = dA 0 := by
    have f1 : s.vm.findClass ("[" ++ (FieldType.int).toString) = some cA := (hK1.2 4 (cA, .int) rfl).2
    have f2 : s.vm.findClass ("[" ++ (FieldType.int).toString) = some (dA 0) := (hK.2 0 (dA 0, .int) rfl).2
    exact Option.some.inj (f1.symm.trans f2)
  have eg : (fun _ : Nat => (0 : Int32)) = g T.length := by rw [hn]; exact (funext z2).symm
  rw [hcA, eg, ← ccell_int (ad := adU ad T.length q) (r := rf T.length)] at hP1 hD1
  exact wp_pushed hn hlen C hEx hs hl hL (vk_t hS) (kk z1 z2) hP1 hD1 hS1
theorem wp_newq {idx n N t : Nat} {x : Int32} {C0 : String} (hd : decode μ.2.1 pc = .ok (.anewarray idx, 3)) (hw : Cond.classLink μ.1.cls idx C0 ∈ gt) (ht : aoW[t]? = some C0) (hN : x = nI N) (hN2 : Nat.ble N 2000 = true) (hn : T.length = n) (hlen : Nat.blt n 1000 = true) (hkc : Nat.ble (kc + 1) mc = true) (hks : Nat.ble (ks + N) ms = true)
    (kk : (∀ k, rf n k = none) → (∀ k, g n k = 0) → Wp d mc ms sc μ Q (pc + 3) L (.ref n :: S) (T ++ [(21 + t, N)], rf, g) (kc + 1) (ks + N)) : Wp d mc ms sc μ Q pc L (.int x :: S) (T, rf, g) kc ks := by
  intro p l e R s m args below meth cd dC dI dA A n0 ad0 Qt C hEx ad H locs ls hs hl hL hS
  obtain ⟨hx, hb, hml, hown, hts, hnm, hR, hK, hA, hAm⟩ := id C
  obtain ⟨hP, hD, hSS, hwf, hn0, hag⟩ := id hs
  have z1 : ∀ k, rf n k = none := fun k => (hwf.2.2 n (Nat.le_of_eq hn) k).1
  have z2 : ∀ k, g n k = 0 := fun k => (hwf.2.2 n (Nat.le_of_eq hn) k).2
  have hN2' := Nat.le_of_ble_eq_true hN2
  refine va_newq (D := (dC, dI)) (N' := N) hx hb hown (hts _ hw) (hAm.2.2.2.2.1 _ (List.mem_of_getElem? ht)) hK hP hD hSS hA (by rw [hN]; exact nI_pos (by omega)) (by rw [hN]; exact nI_clamp (by omega)) (by omega) (Nat.le_trans (Nat.le_of_ble_eq_true hkc) hR.2.2.1) (Nat.le_trans (Nat.le_of_ble_eq_true hks) hR.2.2.2) hd (fun q cA H1 hK1 hP1 hD1 hS1 => ?_)
  have hcA : cA = dA (21 + t - 20) := by
    obtain ⟨k1, c1, f0, f01, f02, f1⟩ := (hK1.2 4 (cA, .object C0) rfl).2
    have ht3 : t < 3 := (List.getElem?_eq_some_iff.mp ht).1
    rcases (by omega : t = 0 ∨ t = 1 ∨ t = 2) with rfl | rfl | rfl
    · cases ht
      obtain ⟨k2, c2, g0, g01, g02, f2⟩ := (hK.2 1 (dA 1, .object "HotCorner$Law") rfl).2
      exact Option.some.inj (f1.symm.trans f2)
    · cases ht
      obtain ⟨k2, c2, g0, g01, g02, f2⟩ := (hK.2 2 (dA 2, .object "HotCorner$Sheet") rfl).2
      exact Option.some.inj (f1.symm.trans f2)
    · cases ht
      obtain ⟨k2, c2, g0, g01, g02, f2⟩ := (hK.2 3 (dA 3, .object "HotCorner$Kind") rfl).2
      exact Option.some.inj (f1.symm.trans f2)
  have eg : (fun _ : Nat => (none : Option Nat)) = fun i => (rf T.length i).map (adU ad T.length q) := by rw [hn]; funext i; rw [z1]; rfl
  rw [hcA, eg, ← ccell_ref (ad := adU ad T.length q) (g := g T.length) (by omega)] at hP1 hD1
  exact wp_pushed hn hlen C hEx hs hl hL (vk_t hS) (kk z1 z2) hP1 hD1 hS1
end WPD
-- ===== calls =====
abbrev codeW (κ : MI) : Cond := Cond.code κ.1 κ.2.1 κ.2.2.1 κ.2.2.2
def NM (κ : MI) (n : Nat) : Prop := codeW κ ∈ gt ∧ Cond.initialized κ.1.cls ∈ gt ∧ (κ.1.cls ≠ "java/lang/invoke/MethodHandle" ∧ κ.1.cls ≠ "java/lang/invoke/VarHandle" ∧ (parseMethodDescriptor κ.1.desc).map (fun d => d.parameters.length) = some n) ∧ κ.2.2.1 ≤ 80
def MFs (κ : MI) (n : Nat) : Prop := NM κ n ∧ Cond.static κ.1 ∈ gt
def MFv (κ : MI) (n : Nat) : Prop := NM κ n ∧ Cond.instanceMethod κ.1 ∈ gt ∧ Cond.selects κ.1.cls κ.1 κ.1 ∈ gt
def MFi (κ : MI) (n : Nat) : Prop := NM κ n ∧ Cond.instanceMethod κ.1 ∈ gt ∧ κ.1.name = "<init>" ∧ κ.2.2.2 = none
def MFu (κ : MI) (n : Nat) : Prop := NM κ n ∧ Cond.instanceMethod κ.1 ∈ gt ∧ κ.1.name ≠ "<init>"
theorem goodIn_gt (ws : List Cond) (κ : MI) (h : ∀ w ∈ ws, w ∈ gt) (hc : codeW κ ∈ gt) : GoodIn gt (ws ++ (codeW κ :: gt)) := by
  intro w hw
  have hm : w ∈ gt := by
    rcases List.mem_append.mp hw with h1 | h1
    · exact h w h1
    · rcases List.mem_cons.mp h1 with rfl | h1
      · exact hc
      · exact h1
  exact ⟨hm, gt_good hm⟩
section WPE
variable {d mc ms : Nat} {sc : Nat × (Nat → Int32)} {μ : MI} {Q : Option Value → AH → Prop} {pc : Nat} {L : List (Option Value)} {S : List Value} {h : AH} {kc ks : Nat}
/-- behind a call -/
theorem wp_back {d' mc' ms' : Nat} {vs : List Value} {κ : MI} {Q' : Option Value → AH → Prop} (hcat : (S.map fun v => v.category).sum ≤ 8) (hkc : kc + mc' ≤ mc) (hks : ks + ms' ≤ ms) (hm : Mok d' mc' ms' sc κ vs h Q')
    (hrun : ∀ {p : Program} {l : Launch} {e : Env} {R : Room} {s : State} {m : MethodId} {args : Array Value} {below : List Frame} {meth : Method} {c : Code} {dC : Nat → ClassId} {dI : Nat → Nat → Nat} {dA : Nat → ClassId} {A : Nat → Prop} {n0 : Nat} {ad0 ad : Nat → Nat} {H : Heap} {locs : List Loc} {ls : Array Slot},
      Ctx d mc ms sc μ p R s m args meth c dC dI dA A ad0 → Sit dC dI dA A n0 ad0 s.heap ad h H locs → lv_has ls μ.2.2.1 (locL ad L) →
      Met l κ.1 (codeW κ :: gt) (rmD d' mc' ms') (va_Pc (vs.map (cv ad)) (PcB dC dI dA ad h H.size sc)) (QQ dC dI dA ad h.1.length (va_A (cws dA ad h) H.size) Q') mc' ms' (va_A (cws dA ad h) H.size) →
      (FrameBlind (va_Pc (vs.map (cv ad)) (PcB dC dI dA ad h H.size sc)) ∧ ∀ U : State, U.heap = H → s.WarmedH U.vm → va_Pc (vs.map (cv ad)) (PcB dC dI dA ad h H.size sc) (vs.map (cv ad)).toArray U) →
      2 * (F0 m pc ls ((vs.reverse ++ S).map (cv ad))).monitorRoom + ((S.map (cv ad)).map fun v => v.category).sum ≤ 8 → kc + mc' ≤ R.cells ∧ ks + ms' ≤ R.slots →
      va_Run p l e R s m args below meth c H locs kc ks mc' ms' (F0 m pc ls ((vs.reverse ++ S).map (cv ad))) (S.map (cv ad)) (QQ dC dI dA ad h.1.length (va_A (cws dA ad h) H.size) Q' (vs.map (cv ad)).toArray) (va_A (cws dA ad h) H.size))
    (kk : ∀ r h', Q' r h' → Wp d mc ms sc μ Q (pc + 3) L (r.toList ++ S) h' (kc + mc') (ks + ms')) : Wp d mc ms sc μ Q pc L (vs.reverse ++ S) h kc ks := by
  intro p l e R s m args below meth c dC dI dA A n0 ad0 Qt C hEx ad H locs ls hs hl hL hS
  obtain ⟨hx, hb, hml, hown, hts, hnm, hR, hK, hA, hAm⟩ := id C
  obtain ⟨hP, hD, hSS, hwf, hn0, hag⟩ := id hs
  have hA' : ∀ q, va_A (cws dA ad h) H.size q → A q := by
    intro q hq
    rcases hq with ⟨k, e, hk⟩ | hq
    · exact hD.2 k (q, e) hk
    · exact hA q (Nat.le_trans hSS.1 hq)
  have hvs : ∀ v ∈ vs, vok h.1.length v := fun v hv => hS v (List.mem_append_left _ (List.mem_reverse.mpr hv))
  have hS2 : ∀ v ∈ S, vok h.1.length v := fun v hv => hS v (List.mem_append_right _ hv)
  have hAm2 : Amb ad A sc s := hAm.agree (fun k hk => hag k (Or.inr hk))
  have hM := hm hwf hvs l dC dI dA ad H.size
  have hpre : ∀ U : State, U.heap = H → s.WarmedH U.vm → va_Pc (vs.map (cv ad)) (PcB dC dI dA ad h H.size sc) (vs.map (cv ad)).toArray U := fun U hU hW => ⟨rfl, by rw [hU], by rw [hU]; exact hP, va_K.moved hW.alike hK, hD.weaken (fun _ _ _ _ => trivial), hAm2.call hSS hA' hW hU⟩
  have hcat2 : ((S.map (cv ad)).map fun v => v.category).sum ≤ 8 := by
    rw [List.map_map]
    have : ((fun v : Value => v.category) ∘ cv ad) = fun v => v.category := funext fun v => cv_cat ad v
    rw [this]; exact hcat
  have hr := hrun (l := l) (e := e) (below := below) C hs hl hM ⟨PcB.blind, hpre⟩ (lv_room hcat2) ⟨Nat.le_trans hkc hR.2.2.1, Nat.le_trans hks hR.2.2.2⟩
  intro T hT X
  obtain ⟨v, st₀, t, T', Lx, h0, X', hLx, e1, e2, ⟨⟨r, h', ad', hv, hQ, hrok, hwf', hn', hag', hP', hD'⟩, hz, hk⟩, st⟩ := hr T hT X
  have hv : v = r.map (cv ad') := by cases hv; rfl
  subst hv
  rw [h0] at hz hk
  have hSS' : va_S A s.heap T'.heap (locs ++ Lx) := by
    refine ⟨Nat.le_trans hSS.1 (by rw [e1]; exact hz), fun q h1 h2 => ?_, fun q hq => ?_⟩
    · rw [e1, hk q (Nat.lt_of_lt_of_le h1 hSS.1) (fun z => h2 (hA' q z))]
      exact hSS.2.1 q h1 h2
    · rcases List.mem_append.mp hq with h | h
      · exact hSS.2.2 q h
      · exact hA' _ (hLx q h)
  have eS : S.map (cv ad') = S.map (cv ad) := cvs_agree hS2 hag'
  have eL : locL ad' L = locL ad L := locF_agree (fun v hv => cv_agree (hL v hv) hag')
  have hok : ∀ v ∈ r.toList ++ S, vok h'.1.length v := by
    intro w hw
    rcases List.mem_append.mp hw with hw | hw
    · cases r with
      | none => cases hw
      | some r0 => rcases List.mem_cons.mp hw with rfl | hw; exact hrok _ rfl; cases hw
    · exact vok_mono (hS2 w hw) hn'
  have fin := kk r h' hQ p l e R s m args below meth c dC dI dA A n0 ad0 Qt C hEx ad' T'.heap (locs ++ Lx) ls ⟨by rw [e1]; exact hP', hD'.weaken (fun _ q _ z => hA' q.1 z), hSS', hwf', Nat.le_trans hn0 hn', fun k hk => by rw [hag' k (by omega)]; exact hag k hk⟩ (by rw [eL]; exact hl) (fun v hv => vok_mono (hL v hv) hn') hok
  have eR : (r.toList ++ S).map (cv ad') = (r.map (cv ad')).toList ++ S.map (cv ad) := by
    rw [List.map_append, eS]; cases r <;> rfl
  rw [eR] at fin
  obtain ⟨t2, a1, b1⟩ := fin T' rfl X'
  exact ⟨t2, st t2 a1, b1⟩
theorem room_ok {R : Room} {d' mc' ms' n : Nat} (hd : d' + 1 ≤ d) (hR : d ≤ R.frames ∧ 100 * d ≤ R.locals ∧ mc ≤ R.cells ∧ ms ≤ R.slots) (hn : n ≤ 80) : (rmD d' mc' ms').frames + 1 ≤ R.frames ∧ 8 + (n + 11) + (rmD d' mc' ms').locals ≤ R.locals := by
  refine ⟨Nat.le_trans hd hR.1, ?_⟩
  show 8 + (n + 11) + 100 * d' ≤ R.locals
  have := hR.2.1
  omega
theorem stk_eq {ad : Nat → Nat} {vs : List Value} : (vs.reverse ++ S).map (cv ad) = (vs.map (cv ad)).reverse ++ S.map (cv ad) := by rw [List.map_append, List.map_reverse]
/-- a static method -/
theorem wp_S {d' mc' ms' idx n : Nat} {vs : List Value} {κ : MI} {Q' : Option Value → AH → Prop} (hd : decode μ.2.1 pc = .ok (.invokestatic idx, 3)) (hf : MFs κ n) (hlk : Cond.methodLink μ.1.cls idx κ.1 ∈ gt) (hn : vs.length = n) (hd' : d' + 1 ≤ d) (hcat : (S.map fun v => v.category).sum ≤ 8) (hkc : kc + mc' ≤ mc) (hks : ks + ms' ≤ ms) (hm : Mok d' mc' ms' sc κ vs h Q')
    (kk : ∀ r h', Q' r h' → Wp d mc ms sc μ Q (pc + 3) L (r.toList ++ S) h' (kc + mc') (ks + ms')) : Wp d mc ms sc μ Q pc L (vs.reverse ++ S) h kc ks :=
  wp_back hcat hkc hks hm (fun {p l e R s m args below meth c dC dI dA A n0 ad0 ad H locs ls} C hs hl hM hpre hroom hcells => by
    obtain ⟨hx, hb, hml, hown, hts, hnm, hR, hK, hA, hAm⟩ := C
    obtain ⟨⟨w1, w2, w3, w4⟩, w5⟩ := hf
    refine va_runS ⟨hx, hb, hml, hown, hts⟩ hM (va_cwS n hts (goodIn_gt _ κ (fun w hw => ?_) w1) rfl rfl rfl w3 (room_ok hd' hR w4)) hpre rfl (by rw [List.length_map]; exact hn) hl.1 stk_eq hroom hd hcells
    simp only [List.mem_cons, List.not_mem_nil, or_false] at hw
    rcases hw with rfl | rfl | rfl
    · exact hlk
    · exact w5
    · exact w2) kk
/-- a static method of a nest mate -/
theorem wp_SN {d' mc' ms' idx n : Nat} {vs : List Value} {κ : MI} {Q' : Option Value → AH → Prop} {host : String} (hd : decode μ.2.1 pc = .ok (.invokestatic idx, 3)) (hf : MFs κ n) (hlk : (μ.1.cls, idx, κ.1, host) ∈ nestW) (hn : vs.length = n) (hd' : d' + 1 ≤ d) (hcat : (S.map fun v => v.category).sum ≤ 8) (hkc : kc + mc' ≤ mc) (hks : ks + ms' ≤ ms) (hm : Mok d' mc' ms' sc κ vs h Q')
    (kk : ∀ r h', Q' r h' → Wp d mc ms sc μ Q (pc + 3) L (r.toList ++ S) h' (kc + mc') (ks + ms')) : Wp d mc ms sc μ Q pc L (vs.reverse ++ S) h kc ks :=
  wp_back hcat hkc hks hm (fun {p l e R s m args below meth c dC dI dA A n0 ad0 ad H locs ls} C hs hl hM hpre hroom hcells => by
    obtain ⟨hx, hb, hml, hown, hts, hnm, hR, hK, hA, hAm⟩ := C
    obtain ⟨⟨w1, w2, w3, w4⟩, w5⟩ := hf
    exact va_runSN ⟨hx, hb, hml, hown, hts⟩ hM ⟨va_cnB n hts (goodIn_gt [] κ (fun w hw => by cases hw) w1) rfl rfl rfl (hAm.2.2.2.2.2.1 _ hlk) (hts _ w2) w3 (room_ok hd' hR w4), hts _ w5, trivial⟩ hpre rfl (by rw [List.length_map]; exact hn) hl.1 stk_eq hroom hd hcells) kk
/-- an instance method, found at the receiver's own class -/
theorem wp_V {d' mc' ms' idx n a c0 nc : Nat} {vs : List Value} {κ : MI} {Q' : Option Value → AH → Prop} (hd : decode μ.2.1 pc = .ok (.invokevirtual idx, 3)) (hf : MFv κ n) (hlk : Cond.methodLink μ.1.cls idx κ.1 ∈ gt) (hT : h.1[a]? = some (c0, nc)) (hc : Nat.blt c0 13 = true) (hrc : Rn c0 = κ.1.cls) (hn : vs.length = n) (hd' : d' + 1 ≤ d) (hcat : (S.map fun v => v.category).sum ≤ 8) (hkc : kc + mc' ≤ mc) (hks : ks + ms' ≤ ms) (hm : Mok d' mc' ms' sc κ (.ref a :: vs) h Q')
    (kk : ∀ r h', Q' r h' → Wp d mc ms sc μ Q (pc + 3) L (r.toList ++ S) h' (kc + mc') (ks + ms')) : Wp d mc ms sc μ Q pc L ((Value.ref a :: vs).reverse ++ S) h kc ks :=
  wp_back hcat hkc hks hm (fun {p l e R s m args below meth c dC dI dA A n0 ad0 ad H locs ls} C hs hl hM hpre hroom hcells => by
    obtain ⟨hx, hb, hml, hown, hts, hnm, hR, hK, hA, hAm⟩ := C
    obtain ⟨hP, hD, hSS, hwf, hn0, hag⟩ := hs
    obtain ⟨⟨w1, w2, w3, w4⟩, w5, w6⟩ := hf
    have hc : c0 < 13 := by simpa using hc
    have hrec := va_recv hK hP (vwCl_get c0 hc) ((cws_get hT).trans (by rw [ccell_obj hc]))
    rw [hrc] at hrec
    refine va_runV (As := vs.map (cv ad)) (rest := S.map (cv ad)) ⟨hx, hb, hml, hown, hts⟩ hM (cwV n hts (goodIn_gt _ κ (fun w hw => ?_) w1) rfl rfl rfl ⟨rfl, w3⟩ (room_ok hd' hR w4)) ⟨hpre.1, hrec, hpre.2⟩ rfl (by rw [List.length_map]; exact hn) hl.1 (by rw [stk_eq, List.map_cons, List.reverse_cons, List.append_assoc]; rfl) hroom hd hcells
    simp only [List.mem_cons, List.not_mem_nil, or_false] at hw
    rcases hw with rfl | rfl | rfl | rfl
    · exact hlk
    · exact w5
    · exact w6
    · exact w2) kk
/-- an overriding method: the link names another class's -/
theorem wp_O {d' mc' ms' idx n a c0 nc : Nat} {vs : List Value} {κ κ0 : MI} {Q' : Option Value → AH → Prop} (hd : decode μ.2.1 pc = .ok (.invokevirtual idx, 3)) (hf : MFu κ n) (hf0 : NM κ0 n) (hin0 : Cond.instanceMethod κ0.1 ∈ gt) (hlk : Cond.methodLink μ.1.cls idx κ0.1 ∈ gt) (hsm : Cond.sameMethod κ0.1.cls κ0.1.cls κ0.1.name κ0.1.desc ∈ gt) (hse : Cond.selects (Rn c0) κ0.1 κ.1 ∈ gt) (hT : h.1[a]? = some (c0, nc)) (hc : Nat.blt c0 13 = true) (hn : vs.length = n) (hd' : d' + 1 ≤ d) (hcat : (S.map fun v => v.category).sum ≤ 8) (hkc : kc + mc' ≤ mc) (hks : ks + ms' ≤ ms) (hm : Mok d' mc' ms' sc κ (.ref a :: vs) h Q')
    (kk : ∀ r h', Q' r h' → Wp d mc ms sc μ Q (pc + 3) L (r.toList ++ S) h' (kc + mc') (ks + ms')) : Wp d mc ms sc μ Q pc L ((Value.ref a :: vs).reverse ++ S) h kc ks :=
  wp_back hcat hkc hks hm (fun {p l e R s m args below meth c dC dI dA A n0 ad0 ad H locs ls} C hs hl hM hpre hroom hcells => by
    obtain ⟨hx, hb, hml, hown, hts, hnm, hR, hK, hA, hAm⟩ := C
    obtain ⟨hP, hD, hSS, hwf, hn0, hag⟩ := hs
    obtain ⟨⟨w1, w2, w3, w4⟩, w5, w6⟩ := hf
    obtain ⟨v1, v2, v3, v4⟩ := hf0
    have hc : c0 < 13 := by simpa using hc
    have hrec := va_recv hK hP (vwCl_get c0 hc) ((cws_get hT).trans (by rw [ccell_obj hc]))
    refine va_runU (As := vs.map (cv ad)) (rest := S.map (cv ad)) ⟨hx, hb, hml, hown, hts⟩ hM (va_cwO (C := Rn c0) (x := κ0.1) (owner := κ0.1.cls) n hts (goodIn_gt _ κ (fun w hw => ?_) w1) rfl rfl rfl v1 v3 (room_ok hd' hR w4)) ⟨hpre.1, hrec, hpre.2⟩ rfl (by rw [List.length_map]; exact hn) hl.1 (by rw [stk_eq, List.map_cons, List.reverse_cons, List.append_assoc]; rfl) hroom hd hcells
    simp only [List.mem_cons, List.not_mem_nil, or_false] at hw
    rcases hw with rfl | rfl | rfl | rfl | rfl | rfl
    · exact hlk
    · exact hsm
    · exact hin0
    · exact hse
    · exact w5
    · exact w2) kk
/-- a constructor -/
theorem wp_I {d' mc' ms' idx n a : Nat} {vs : List Value} {κ : MI} {Q' : Option Value → AH → Prop} (hd : decode μ.2.1 pc = .ok (.invokespecial idx, 3)) (hf : MFi κ n) (hlk : Cond.methodLink μ.1.cls idx κ.1 ∈ gt) (hn : vs.length = n) (hd' : d' + 1 ≤ d) (hcat : (S.map fun v => v.category).sum ≤ 8) (hkc : kc + mc' ≤ mc) (hks : ks + ms' ≤ ms) (hm : Mok d' mc' ms' sc κ (.ref a :: vs) h Q')
    (kk : ∀ r h', Q' r h' → Wp d mc ms sc μ Q (pc + 3) L (r.toList ++ S) h' (kc + mc') (ks + ms')) : Wp d mc ms sc μ Q pc L ((Value.ref a :: vs).reverse ++ S) h kc ks :=
  wp_back hcat hkc hks hm (fun {p l e R s m args below meth c dC dI dA A n0 ad0 ad H locs ls} C hs hl hM hpre hroom hcells => by
    obtain ⟨hx, hb, hml, hown, hts, hnm, hR, hK, hA, hAm⟩ := C
    obtain ⟨⟨w1, w2, w3, w4⟩, w5, w6, w7⟩ := hf
    refine va_runI (As := vs.map (cv ad)) (rest := S.map (cv ad)) (bytes := κ.2.1) (maxL := κ.2.2.1) ⟨hx, hb, hml, hown, hts⟩ hM (cwI n hts (goodIn_gt [] κ (fun w hw => by cases hw) w1) (by show codeW κ :: gt = _; unfold codeW; rw [w7]) rfl rfl (hts _ w2) (hts _ hlk) (hts _ w5) w6 w3 (room_ok hd' hR w4)) ⟨hpre.1, hpre.2⟩ rfl (by rw [List.length_map]; exact hn) hl.1 (by rw [stk_eq, List.map_cons, List.reverse_cons, List.append_assoc]; rfl) hroom hd hcells) kk
/-- a private constructor of a nest mate -/
theorem wp_IN {d' mc' ms' idx n a : Nat} {vs : List Value} {κ : MI} {Q' : Option Value → AH → Prop} {host : String} (hd : decode μ.2.1 pc = .ok (.invokespecial idx, 3)) (hf : MFi κ n) (hlk : (μ.1.cls, idx, κ.1, host) ∈ nestW) (hn : vs.length = n) (hd' : d' + 1 ≤ d) (hcat : (S.map fun v => v.category).sum ≤ 8) (hkc : kc + mc' ≤ mc) (hks : ks + ms' ≤ ms) (hm : Mok d' mc' ms' sc κ (.ref a :: vs) h Q')
    (kk : ∀ r h', Q' r h' → Wp d mc ms sc μ Q (pc + 3) L (r.toList ++ S) h' (kc + mc') (ks + ms')) : Wp d mc ms sc μ Q pc L ((Value.ref a :: vs).reverse ++ S) h kc ks :=
  wp_back hcat hkc hks hm (fun {p l e R s m args below meth c dC dI dA A n0 ad0 ad H locs ls} C hs hl hM hpre hroom hcells => by
    obtain ⟨hx, hb, hml, hown, hts, hnm, hR, hK, hA, hAm⟩ := C
    obtain ⟨⟨w1, w2, w3, w4⟩, w5, w6, w7⟩ := hf
    refine va_runIN (As := vs.map (cv ad)) (rest := S.map (cv ad)) (bytes := κ.2.1) (maxL := κ.2.2.1) ⟨hx, hb, hml, hown, hts⟩ hM ⟨va_cnB n hts (goodIn_gt [] κ (fun w hw => by cases hw) w1) (by show codeW κ :: gt = _; unfold codeW; rw [w7]) rfl rfl (hAm.2.2.2.2.2.1 _ hlk) (hts _ w2) w3 (room_ok hd' hR w4), w6, hts _ w5⟩ ⟨hpre.1, hpre.2⟩ rfl (by rw [List.length_map]; exact hn) hl.1 (by rw [stk_eq, List.map_cons, List.reverse_cons, List.append_assoc]; rfl) hroom hd hcells) kk
/-- a method of the class above, by super -/
theorem wp_SU {d' mc' ms' idx n a c0 nc : Nat} {vs : List Value} {κ : MI} {Q' : Option Value → AH → Prop} (hd : decode μ.2.1 pc = .ok (.invokespecial idx, 3)) (hf : MFu κ n) (hlk : Cond.methodLink μ.1.cls idx κ.1 ∈ gt) (hsm : Cond.sameMethod κ.1.cls κ.1.cls κ.1.name κ.1.desc ∈ gt) (hsup : Cond.superclass μ.1.cls κ.1.cls ∈ gt) (hT : h.1[a]? = some (c0, nc)) (hc : Nat.blt c0 13 = true) (hn : vs.length = n) (hd' : d' + 1 ≤ d) (hcat : (S.map fun v => v.category).sum ≤ 8) (hkc : kc + mc' ≤ mc) (hks : ks + ms' ≤ ms) (hm : Mok d' mc' ms' sc κ (.ref a :: vs) h Q')
    (kk : ∀ r h', Q' r h' → Wp d mc ms sc μ Q (pc + 3) L (r.toList ++ S) h' (kc + mc') (ks + ms')) : Wp d mc ms sc μ Q pc L ((Value.ref a :: vs).reverse ++ S) h kc ks :=
  wp_back hcat hkc hks hm (fun {p l e R s m args below meth c dC dI dA A n0 ad0 ad H locs ls} C hs hl hM hpre hroom hcells => by
    obtain ⟨hx, hb, hml, hown, hts, hnm, hR, hK, hA, hAm⟩ := C
    obtain ⟨hP, hD, hSS, hwf, hn0, hag⟩ := hs
    obtain ⟨⟨w1, w2, w3, w4⟩, w5, w6⟩ := hf
    have hc : c0 < 13 := by simpa using hc
    have hrec := va_recv hK hP (vwCl_get c0 hc) ((cws_get hT).trans (by rw [ccell_obj hc]))
    have hat : ClassAt s (Rn c0) (dC c0) := (hK.1 c0 _ (vwCl_get c0 hc)).2
    refine va_runSU (As := vs.map (cv ad)) (rest := S.map (cv ad)) hat ⟨hx, hb, hml, hown, hts⟩ hM (va_cwSU n hts (goodIn_gt _ κ (fun w hw => ?_) w1) rfl rfl rfl ⟨w6, w3.2.2⟩ (room_ok hd' hR w4)) ⟨hpre.1, hrec, hpre.2⟩ rfl (by rw [List.length_map]; exact hn) hl.1 (by rw [stk_eq, List.map_cons, List.reverse_cons, List.append_assoc]; rfl) hroom hd hcells
    simp only [List.mem_cons, List.not_mem_nil, or_false] at hw
    rcases hw with rfl | rfl | rfl | rfl | rfl
    · exact hlk
    · exact hsm
    · exact hsup
    · exact w5
    · exact w2) kk
end WPE
