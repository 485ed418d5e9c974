-- ===== rows of their own: the JDK's, the constants, the script =====
def cpy (g : Nat → Nat → Int32) (a0 a sp dp n : Nat) : Nat → Nat → Int32 := fun a' k => if a' = a ∧ dp ≤ k ∧ k < dp + n then g a0 (sp + (k - dp)) else g a' k
theorem cpy_row {g : Nat → Nat → Int32} {a0 a sp dp n b : Nat} (h : b ≠ a) : cpy g a0 a sp dp n b = g b := by funext k; simp [cpy, h]
theorem cpy_own (g : Nat → Nat → Int32) (a0 a sp dp n : Nat) : cpy g a0 a sp dp n a = va_cpy (g a0) (g a) sp dp n := by funext k; simp [cpy, va_cpy]
theorem strCls : "java/lang/String" ≠ "" := by decide
section WPF
variable {d mc ms : Nat} {sc : Nat × (Nat → Int32)} {μ : MI} {Q : Option Value → AH → Prop} {pc : Nat} {L : List (Option Value)} {S : List Value} {T : List (Nat × Nat)} {rf : Nat → Nat → Option Nat} {g : Nat → Nat → Int32} {h : AH} {kc ks : Nat}
theorem cat_eq {ad : Nat → Nat} : ((S.map (cv ad)).map fun v => v.category).sum = (S.map fun v => v.category).sum := by
  rw [List.map_map]
  have : ((fun v : Value => v.category) ∘ cv ad) = fun v => v.category := funext fun v => cv_cat ad v
  rw [this]
theorem wp_obj {idx a : Nat} (hd : decode μ.2.1 pc = .ok (.invokespecial idx, 3)) (hlk : Cond.methodLink μ.1.cls idx Lib.objectInit ∈ gt) (hin : Cond.instanceMethod Lib.objectInit ∈ gt) (hco : Cond.code Lib.objectInit ⟨#[0xb1]⟩ 1 none ∈ gt) (hd' : 1 ≤ d) (hcat : (S.map fun v => v.category).sum ≤ 8) (kk : Wp d mc ms sc μ Q (pc + 3) L S h kc ks) : Wp d mc ms sc μ Q pc L (.ref a :: S) h kc ks := by
  intro p l e R s m args below meth c dC dI dA A n0 ad0 Qt C hEx ad H locs ls hs hl hL hS
  obtain ⟨hx, hb, hml, hown, hts, hnm, hR, hK, hA, hAm⟩ := id C
  refine W.objInit hx hb hown (hts _ hlk) (hts _ hin) (hts _ hco) rfl (by rw [hml]; exact hl.1) rfl hd (Nat.le_trans hd' hR.1) ?_ ?_
  · show 2 * 0 + ((S.map (cv ad)).map fun v => v.category).sum + 12 ≤ R.locals
    rw [cat_eq]
    have := hR.2.1
    omega
  · exact kk p l e R s m args below meth c dC dI dA A n0 ad0 Qt C hEx ad H locs ls hs hl hL (vk_t hS)
theorem wp_max {idx : Nat} {x y : Int32} (hd : decode μ.2.1 pc = .ok (.invokestatic idx, 3)) (hlk : Cond.methodLink μ.1.cls idx Lib.Math.max.name ∈ gt) (hst : Cond.static Lib.Math.max.name ∈ gt) (hini : Cond.initialized "java/lang/Math" ∈ gt) (hco : Cond.code Lib.Math.max.name Lib.Math.max.code 2 (some .int) ∈ gt) (hd' : 1 ≤ d) (hcat : (S.map fun v => v.category).sum ≤ 8) (hkc : kc ≤ mc) (hks : ks ≤ ms) (kk : Wp d mc ms sc μ Q (pc + 3) L (.int (if x < y then y else x) :: S) h kc ks) : Wp d mc ms sc μ Q pc L (.int y :: .int x :: S) h kc ks := by
  intro p l e R s m args below meth c dC dI dA A n0 ad0 Qt C hEx ad H locs ls hs hl hL hS
  obtain ⟨hx, hb, hml, hown, hts, hnm, hR, hK, hA, hAm⟩ := id C
  refine va_mmax hx hb (by rw [hml]; exact hl.1.symm) hown (hts _ hlk) (hts _ hst) (hts _ hini) (hts _ hco) (Nat.le_trans hd' hR.1) ?_ (Nat.le_trans hkc hR.2.2.1) (Nat.le_trans hks hR.2.2.2) hd ?_
  · show ((S.map (cv ad)).map fun v => v.category).sum + 13 ≤ R.locals
    rw [cat_eq]
    have := hR.2.1
    omega
  · exact kk p l e R s m args below meth c dC dI dA A n0 ad0 Qt C hEx ad H locs ls hs hl hL (vk_i (vk_t (vk_t hS)))
theorem wp_min {idx : Nat} {x y : Int32} (hd : decode μ.2.1 pc = .ok (.invokestatic idx, 3)) (hlk : Cond.methodLink μ.1.cls idx Lib.Math.min.name ∈ gt) (hst : Cond.static Lib.Math.min.name ∈ gt) (hini : Cond.initialized "java/lang/Math" ∈ gt) (hco : Cond.code Lib.Math.min.name Lib.Math.min.code 2 (some .int) ∈ gt) (hd' : 1 ≤ d) (hcat : (S.map fun v => v.category).sum ≤ 8) (hkc : kc ≤ mc) (hks : ks ≤ ms) (kk : Wp d mc ms sc μ Q (pc + 3) L (.int (if y < x then y else x) :: S) h kc ks) : Wp d mc ms sc μ Q pc L (.int y :: .int x :: S) h kc ks := by
  intro p l e R s m args below meth c dC dI dA A n0 ad0 Qt C hEx ad H locs ls hs hl hL hS
  obtain ⟨hx, hb, hml, hown, hts, hnm, hR, hK, hA, hAm⟩ := id C
  refine va_mmin hx hb (by rw [hml]; exact hl.1.symm) hown (hts _ hlk) (hts _ hst) (hts _ hini) (hts _ hco) (Nat.le_trans hd' hR.1) ?_ (Nat.le_trans hkc hR.2.2.1) (Nat.le_trans hks hR.2.2.2) hd ?_
  · show ((S.map (cv ad)).map fun v => v.category).sum + 13 ≤ R.locals
    rw [cat_eq]
    have := hR.2.1
    omega
  · exact kk p l e R s m args below meth c dC dI dA A n0 ad0 Qt C hEx ad H locs ls hs hl hL (vk_i (vk_t (vk_t hS)))
theorem wp_copy {idx a0 a n0' n1 isp idp im : Nat} {sp dp n : Int32} (hd : decode μ.2.1 pc = .ok (.invokestatic idx, 3)) (hlk : Cond.methodLink μ.1.cls idx arraycopyName ∈ gt) (hnat : Cond.native arraycopyName ∈ gt) (hst : Cond.static arraycopyName ∈ gt) (hini : Cond.initialized "java/lang/System" ∈ gt) (hT0 : T[a0]? = some (20, n0')) (hT : T[a]? = some (20, n1)) (h1 : sp = nI isp) (h2 : dp = nI idp) (h3 : n = nI im) (h4 : isp + im ≤ n0') (h5 : idp + im ≤ n1) (hn0 : Nat.ble n0' 2000 = true) (hn1 : Nat.ble n1 2000 = true) (hd' : 1 ≤ d) (hcat : (S.map fun v => v.category).sum ≤ 8)
    (kk : Wp d mc ms sc μ Q (pc + 3) L S (T, rf, cpy g a0 a isp idp im) kc ks) : Wp d mc ms sc μ Q pc L (.int n :: .int dp :: .ref a :: .int sp :: .ref a0 :: S) (T, rf, g) kc ks := by
  intro p l e R s m args below meth c dC dI dA A n0 ad0 Qt C hEx ad H locs ls hs hl hL hS
  obtain ⟨hx, hb, hml, hown, hts, hnm, hR, hK, hA, hAm⟩ := id C
  obtain ⟨hP, hD, hSS, hwf, hnn, hag⟩ := id hs
  have b0 := Nat.le_of_ble_eq_true hn0
  have b1 := Nat.le_of_ble_eq_true hn1
  have e1 : sp.toNatClampNeg = isp := by rw [h1]; exact nI_clamp (by omega)
  have e2 : dp.toNatClampNeg = idp := by rw [h2]; exact nI_clamp (by omega)
  have e3 : n.toNatClampNeg = im := by rw [h3]; exact nI_clamp (by omega)
  refine va_copyi hx hb (by rw [hml]; exact hl.1.symm) hown (hts _ hlk) (hts _ hnat) (hts _ hst) (hts _ hini) hK hP hD hSS a0 a 0 0 ((cws_get hT0).trans (by rw [ccell_int])) ((cws_get hT).trans (by rw [ccell_int])) (ty := .int) rfl rfl rfl (by rw [h1]; exact nI_pos (by omega)) (by rw [h2]; exact nI_pos (by omega)) (by rw [h3]; exact nI_pos (by omega)) (by rw [e1, e3]; exact h4) (by rw [e2, e3]; exact h5) (fun i hi => rfl) (Nat.le_trans hd' hR.1) ?_ hd (fun H1 locs1 hP1 hD1 hS1 => ?_)
  · show ((S.map (cv ad)).map fun v => v.category).sum + (nativeFrameWords "java/lang/System" "arraycopy" 5 + 11) ≤ R.locals
    rw [cat_eq]
    have := hR.2.1
    have : nativeFrameWords "java/lang/System" "arraycopy" 5 = 7 := by decide
    omega
  · have e4 : (cws dA ad (T, rf, g)).set a (ad a, .inl (dA 0, n1, .inl (va_cpy (g a0) (g a) sp.toNatClampNeg dp.toNatClampNeg n.toNatClampNeg))) = cws dA ad (T, rf, cpy g a0 a isp idp im) := by
      rw [e1, e2, e3, ← cpy_own, ← ccell_int (ad := ad) (r := rf a)]
      exact cws_set hT (fun _ _ => rfl) (fun b hb => cpy_row hb)
    have hP1 : va_P (dC, dI) vwCl ((cws dA ad (T, rf, g)).set a (ad a, .inl (dA 0, n1, .inl (va_cpy (g a0) (g a) sp.toNatClampNeg dp.toNatClampNeg n.toNatClampNeg)))) H1 := hP1
    have hD1 : va_D A ((cws dA ad (T, rf, g)).set a (ad a, .inl (dA 0, n1, .inl (va_cpy (g a0) (g a) sp.toNatClampNeg dp.toNatClampNeg n.toNatClampNeg)))) := hD1
    rw [e4] at hP1 hD1
    have hla := (List.getElem?_eq_some_iff.mp hT).1
    refine kk p l e R s m args below meth c dC dI dA A n0 ad0 Qt C hEx ad H1 locs1 ls ⟨hP1, hD1, hS1, ⟨hwf.1, hwf.2.1, fun b hb j => ⟨(hwf.2.2 b hb j).1, ?_⟩⟩, hnn, hag⟩ hl hL (vk_t (vk_t (vk_t (vk_t (vk_t hS)))))
    have hb : T.length ≤ b := hb
    show cpy g a0 a isp idp im b j = 0
    rw [cpy_row (by omega)]
    exact (hwf.2.2 b hb j).2
-- instanceof
theorem wp_inst {idx a c0 nc : Nat} {nm : String} (yes : Bool) (hd : decode μ.2.1 pc = .ok (.instanceof idx, 3)) (hlk : Cond.classLink μ.1.cls idx nm ∈ gt) (hT : h.1[a]? = some (c0, nc)) (hc : Nat.blt c0 13 = true)
    (hy : (yes = true ∧ (Rn c0 = nm ∨ (Rn c0, nm) ∈ castYW)) ∨ (yes = false ∧ (Rn c0, nm) ∈ castNW)) (kk : Wp d mc ms sc μ Q (pc + 3) L (.int (if yes then 1 else 0) :: S) h kc ks) : Wp d mc ms sc μ Q pc L (.ref a :: S) h kc ks := by
  intro p l e R s m args below meth c dC dI dA A n0 ad0 Qt C hEx ad H locs ls hs hl hL hS
  obtain ⟨hx, hb, hml, hown, hts, hnm, hR, hK, hA, hAm⟩ := id C
  obtain ⟨hP, hD, hSS, hwf, hn0, hag⟩ := id hs
  have hc : c0 < 13 := by simpa using hc
  have hrec := va_recv hK hP (vwCl_get c0 hc) ((cws_get hT).trans (by rw [ccell_obj hc]))
  have fin := kk p l e R s m args below meth c dC dI dA A n0 ad0 Qt C hEx ad H locs ls hs hl hL (vk_i (vk_t hS))
  rcases hy with ⟨rfl, hy | hy⟩ | ⟨rfl, hy⟩
  · subst hy
    exact va_instS hx hb hown (hts _ hlk) (hK.1 c0 _ (vwCl_get c0 hc)).2 hrec hd fin
  · exact va_instY hx hb hown (hts _ hlk) (hAm.2.2.2.2.2.2.1 _ hy) hrec hd fin
  · exact va_instNo hx hb hown (hts _ hlk) (hAm.2.2.2.2.2.2.2.1 _ hy) hrec hd fin
-- statics
theorem wp_compact {idx : Nat} (hd : decode μ.2.1 pc = .ok (.getstatic idx, 3)) (hlk : Cond.fieldLink μ.1.cls idx "java/lang/String" "COMPACT_STRINGS" "Z" ∈ gt) (kk : Wp d mc ms sc μ Q (pc + 3) L (.int 1 :: S) h kc ks) : Wp d mc ms sc μ Q pc L S h kc ks := by
  intro p l e R s m args below meth c dC dI dA A n0 ad0 Qt C hEx ad H locs ls hs hl hL hS
  obtain ⟨hx, hb, hml, hown, hts, hnm, hR, hK, hA, hAm⟩ := id C
  exact va_gets hx hb hAm.2.2.1 hs.2.2.1 hown (hts _ hlk) (fun _ z => z) hd (kk p l e R s m args below meth c dC dI dA A n0 ad0 Qt C hEx ad H locs ls hs hl hL (vk_i hS))
theorem wp_fmt {idx : Nat} (hd : decode μ.2.1 pc = .ok (.getstatic idx, 3)) (hlk : Cond.fieldLink μ.1.cls idx "jdk/internal/util/Preconditions" "SIOOBE_FORMATTER" "Ljava/util/function/BiFunction;" ∈ gt) (k1 : Wp d mc ms sc μ Q (pc + 3) L (.null :: S) h kc ks) (k2 : Wp d mc ms sc μ Q (pc + 3) L (.ref 1000300 :: S) h kc ks) : Wp d mc ms sc μ Q pc L S h kc ks := by
  intro p l e R s m args below meth c dC dI dA A n0 ad0 Qt C hEx ad H locs ls hs hl hL hS
  obtain ⟨hx, hb, hml, hown, hts, hnm, hR, hK, hA, hAm⟩ := id C
  have hAm2 : Amb ad A sc s := hAm.agree (fun k hk => hs.2.2.2.2.2 k (Or.inr hk))
  rcases hAm2.2.2.2.1 with z | z
  · exact va_gets hx hb z hs.2.2.1 hown (hts _ hlk) (fun _ z => z) hd (k1 p l e R s m args below meth c dC dI dA A n0 ad0 Qt C hEx ad H locs ls hs hl hL (vk_c (vok_null _) hS))
  · exact va_gets hx hb z hs.2.2.1 hown (hts _ hlk) (fun _ z => z) hd (k2 p l e R s m args below meth c dC dI dA A n0 ad0 Qt C hEx ad H locs ls hs hl hL (vk_c (vok_ref (Or.inr (by decide))) hS))
-- texts
theorem wp_ldcS {idx i q : Nat} {tx : String} (hd : decode μ.2.1 pc = .ok (.ldc idx, 2)) (hw : strW[i]? = some (μ.1.cls, idx, tx)) (hq : 1000000 + i = q) (kk : Wp d mc ms sc μ Q (pc + 2) L (.ref q :: S) h kc ks) : Wp d mc ms sc μ Q pc L S h kc ks := by
  intro p l e R s m args below meth c dC dI dA A n0 ad0 Qt C hEx ad H locs ls hs hl hL hS
  obtain ⟨hx, hb, hml, hown, hts, hnm, hR, hK, hA, hAm⟩ := id C
  have hAm2 : Amb ad A sc s := hAm.agree (fun k hk => hs.2.2.2.2.2 k (Or.inr hk))
  subst hq
  exact va_ldcS hx hb hown (hAm2.1 i _ hw) hd (kk p l e R s m args below meth c dC dI dA A n0 ad0 Qt C hEx ad H locs ls hs hl hL (vk_c (vok_ref (Or.inr (by omega))) hS))
theorem wp_strV {idx i q r : Nat} (hd : decode μ.2.1 pc = .ok (.getfield idx, 3)) (hlk : Cond.fieldLink μ.1.cls idx "java/lang/String" "value" "[B" ∈ gt) (hi : i < 13) (hq : q = 1000000 + i) (hr : r = 1000100 + i) (kk : Wp d mc ms sc μ Q (pc + 3) L (.ref r :: S) h kc ks) : Wp d mc ms sc μ Q pc L (.ref q :: S) h kc ks := by
  intro p l e R s m args below meth c dC dI dA A n0 ad0 Qt C hEx ad H locs ls hs hl hL hS
  obtain ⟨hx, hb, hml, hown, hts, hnm, hR, hK, hA, hAm⟩ := id C
  have hAm2 : Amb ad A sc s := hAm.agree (fun k hk => hs.2.2.2.2.2 k (Or.inr hk))
  subst hq
  subst hr
  exact vk_getf hx hb (hAm2.2.1.1 i hi).2.2.1 hs.2.2.1 hown (hts _ hlk) (fun _ z => z) hd (kk p l e R s m args below meth c dC dI dA A n0 ad0 Qt C hEx ad H locs ls hs hl hL (vk_c (vok_ref (Or.inr (by omega))) (vk_t hS)))
theorem wp_strC {idx i q : Nat} (hd : decode μ.2.1 pc = .ok (.getfield idx, 3)) (hlk : Cond.fieldLink μ.1.cls idx "java/lang/String" "coder" "B" ∈ gt) (hi : i < 13) (hq : q = 1000000 + i) (kk : Wp d mc ms sc μ Q (pc + 3) L (.int 0 :: S) h kc ks) : Wp d mc ms sc μ Q pc L (.ref q :: S) h kc ks := by
  intro p l e R s m args below meth c dC dI dA A n0 ad0 Qt C hEx ad H locs ls hs hl hL hS
  obtain ⟨hx, hb, hml, hown, hts, hnm, hR, hK, hA, hAm⟩ := id C
  have hAm2 : Amb ad A sc s := hAm.agree (fun k hk => hs.2.2.2.2.2 k (Or.inr hk))
  subst hq
  exact vk_getf hx hb (hAm2.2.1.1 i hi).2.1 hs.2.2.1 hown (hts _ hlk) (fun _ z => z) hd (kk p l e R s m args below meth c dC dI dA A n0 ad0 Qt C hEx ad H locs ls hs hl hL (vk_i (vk_t hS)))
theorem wp_strL {i q : Nat} {v : Int32} (hd : decode μ.2.1 pc = .ok (.arraylength, 1)) (hi : i < 13) (hq : q = 1000100 + i) (hv : nI (strLen.getD i 0) = v) (kk : Wp d mc ms sc μ Q (pc + 1) L (.int v :: S) h kc ks) : Wp d mc ms sc μ Q pc L (.ref q :: S) h kc ks := by
  intro p l e R s m args below meth c dC dI dA A n0 ad0 Qt C hEx ad H locs ls hs hl hL hS
  obtain ⟨hx, hb, hml, hown, hts, hnm, hR, hK, hA, hAm⟩ := id C
  have hAm2 : Amb ad A sc s := hAm.agree (fun k hk => hs.2.2.2.2.2 k (Or.inr hk))
  subst hq
  exact va_tlen hx hb (hAm2.2.1.1 i hi).2.2.2 hs.2.2.1 hv hd (kk p l e R s m args below meth c dC dI dA A n0 ad0 Qt C hEx ad H locs ls hs hl hL (vk_i (vk_t hS)))
theorem wp_strB {i q j : Nat} {x v : Int32} (hd : decode μ.2.1 pc = .ok (.baload, 1)) (hi : i < 13) (hq : q = 1000100 + i) (hx' : x = nI j) (hj : j < strLen.getD i 0) (hj2 : j < 1000) (hv : (strByt.getD i []).getD j 0 = v) (kk : Wp d mc ms sc μ Q (pc + 1) L (.int v :: S) h kc ks) : Wp d mc ms sc μ Q pc L (.int x :: .ref q :: S) h kc ks := by
  intro p l e R s m args below meth c dC dI dA A n0 ad0 Qt C hEx ad H locs ls hs hl hL hS
  obtain ⟨hx, hb, hml, hown, hts, hnm, hR, hK, hA, hAm⟩ := id C
  have hAm2 : Amb ad A sc s := hAm.agree (fun k hk => hs.2.2.2.2.2 k (Or.inr hk))
  subst hq
  have e1 : x.toNatClampNeg = j := by rw [hx']; exact nI_clamp (by omega)
  have hin : vp_in x (strLen.getD i 0) := by
    intro z
    rcases z with z | z
    · rw [hx'] at z; exact nI_pos (by omega) z
    · rw [e1] at z; omega
  exact va_tb hx hb (hAm2.2.1.1 i hi).2.2.2 hs.2.2.1 hin (v := .int v) (by rw [e1, hv]) hd (kk p l e R s m args below meth c dC dI dA A n0 ad0 Qt C hEx ad H locs ls hs hl hL (vk_i (vk_t (vk_t hS))))
/-- a method of String's, on a constant -/
theorem wp_VS {d' mc' ms' idx n i q : Nat} {vs : List Value} {κ : MI} {Q' : Option Value → AH → Prop} (hd : decode μ.2.1 pc = .ok (.invokevirtual idx, 3)) (hf : MFv κ n) (hlk : Cond.methodLink μ.1.cls idx κ.1 ∈ gt) (hi : i < 13) (hq : q = 1000000 + i) (hrc : κ.1.cls = "java/lang/String") (hn : vs.length = n) (hd' : d' + 1 ≤ d) (hcat : (S.map fun v => v.category).sum ≤ 8) (hkc : kc + mc' ≤ mc) (hks : ks + ms' ≤ ms) (hm : Mok d' mc' ms' sc κ (.ref q :: vs) h Q')
    (kk : ∀ r h', Q' r h' → Wp d mc ms sc μ Q (pc + 3) L (r.toList ++ S) h' (kc + mc') (ks + ms')) : Wp d mc ms sc μ Q pc L ((Value.ref q :: vs).reverse ++ S) h kc ks :=
  wp_back hcat hkc hks hm (fun {p l e R s m args below meth c dC dI dA A n0 ad0 ad H locs ls} C hs hl hM hpre hroom hcells => by
    obtain ⟨hx, hb, hml, hown, hts, hnm, hR, hK, hA, hAm⟩ := C
    have hAm2 : Amb ad A sc s := hAm.agree (fun k hk => hs.2.2.2.2.2 k (Or.inr hk))
    obtain ⟨hP, hD, hSS, hwf, hn0, hag⟩ := hs
    obtain ⟨⟨w1, w2, w3, w4⟩, w5, w6⟩ := hf
    subst hq
    have hrec := vk_recv hAm2.2.1 hi hSS
    rw [← hrc] at hrec
    refine va_runV (As := vs.map (cv ad)) (rest := S.map (cv ad)) ⟨hx, hb, hml, hown, hts⟩ hM (cwV n hts (goodIn_gt _ κ (fun w hw => ?_) w1) rfl rfl rfl ⟨rfl, w3⟩ (room_ok hd' hR w4)) ⟨hpre.1, hrec, hpre.2⟩ rfl (by rw [List.length_map]; exact hn) hl.1 (by rw [stk_eq, List.map_cons, List.reverse_cons, List.append_assoc]; rfl) hroom hd hcells
    simp only [List.mem_cons, List.not_mem_nil, or_false] at hw
    rcases hw with rfl | rfl | rfl | rfl
    · exact hlk
    · exact w5
    · exact w6
    · exact w2) kk
-- the script
theorem wp_scL {v : Int32} (hd : decode μ.2.1 pc = .ok (.arraylength, 1)) (hv : nI sc.1 = v) (kk : Wp d mc ms sc μ Q (pc + 1) L (.int v :: S) h kc ks) : Wp d mc ms sc μ Q pc L (.ref 1000200 :: S) h kc ks := by
  intro p l e R s m args below meth c dC dI dA A n0 ad0 Qt C hEx ad H locs ls hs hl hL hS
  obtain ⟨hx, hb, hml, hown, hts, hnm, hR, hK, hA, hAm⟩ := id C
  have hAm2 : Amb ad A sc s := hAm.agree (fun k hk => hs.2.2.2.2.2 k (Or.inr hk))
  subst hv
  exact va_slen hx hb hAm2.2.2.2.2.2.2.2.2.1 hAm2.2.2.2.2.2.2.2.2.2.1 hAm2.2.2.2.2.2.2.2.2.2.2 hs.2.2.1 hd (kk p l e R s m args below meth c dC dI dA A n0 ad0 Qt C hEx ad H locs ls hs hl hL (vk_i (vk_t hS)))
theorem wp_scA {j : Nat} {x v : Int32} (hd : decode μ.2.1 pc = .ok (.iaload, 1)) (hx' : x = nI j) (hj : j < sc.1) (hj2 : j < 100000) (hv : sc.2 j = v) (kk : Wp d mc ms sc μ Q (pc + 1) L (.int v :: S) h kc ks) : Wp d mc ms sc μ Q pc L (.int x :: .ref 1000200 :: S) h kc ks := by
  intro p l e R s m args below meth c dC dI dA A n0 ad0 Qt C hEx ad H locs ls hs hl hL hS
  obtain ⟨hx, hb, hml, hown, hts, hnm, hR, hK, hA, hAm⟩ := id C
  have hAm2 : Amb ad A sc s := hAm.agree (fun k hk => hs.2.2.2.2.2 k (Or.inr hk))
  have e1 : x.toNatClampNeg = j := by rw [hx']; exact nI_clamp (by omega)
  have hin : vp_in x sc.1 := by
    intro z
    rcases z with z | z
    · rw [hx'] at z; exact nI_pos (by omega) z
    · rw [e1] at z; omega
  refine va_sld hx hb hAm2.2.2.2.2.2.2.2.2.1 hAm2.2.2.2.2.2.2.2.2.2.1 hAm2.2.2.2.2.2.2.2.2.2.2 hs.2.2.1 hin hd ?_
  rw [e1, hv]
  exact kk p l e R s m args below meth c dC dI dA A n0 ad0 Qt C hEx ad H locs ls hs hl hL (vk_i (vk_t (vk_t hS)))
end WPF
