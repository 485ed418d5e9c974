/-! THE CLAIM OUT OF ONE WALK OF THE LAW'S BODY. Your part is whole_start (and what it stands on); all else here is the same for every law, but numbers. -/
def R_law : String := "HotCornerLaw"
def lw_P (b : Addr) (xs : List Int32) (args : Array Value) (s : State) : Prop := args = #[.ref b] ∧ s.IntsAt b xs ∧ xs.length ≤ 3584 ∧ (Jvm.Cond.and given_1 narrow_1).before args s = true
def lw_Q (_ : Array Value) (s : State) (o : Outcome) (t : State) : Prop := o = .returned (some (.int 1)) ∧ Framed s o t [] 600000 7302250
def lw_Z (below : List Frame) (a : Array Value) (s : State) : State → Prop := fun t => ∃ o, t.status = .running ∧ Ended t below o ∧ lw_Q a s o t
/-- the law's own end, with 1 on the stack, nothing written that was there before, its room as the claim has it -/
theorem lw_ret {p : Program} {l : Launch} {e : Env} {s : State} {m : MethodId} {below : List Frame} {meth : Method} {c : Code} {b : Nat} (hx : p.tables.exec = Jvm.exec) (hb : c.code = code) (hr : meth.sig.returnType = ret) (hlocks : meth.locks = false) {pc : Nat} {H : Heap} {ls : Array Slot} (hdg : decode code pc = .ok (.ireturn, 1)) : W p l e room_1 s m #[Value.ref b] below meth c H [] 600000 7302250 (lw_Z below #[Value.ref b] s) (F0 m pc ls [.int 1]) := by
  intro T hT X
  obtain ⟨fs, hret, hrun, hended, hW, hframe⟩ := X.leave (v := some (.int 1)) (hlocks := hlocks) (fun h => by rw [hr] at h; cases h)
  have hmeth' : T.vm.method? m = some meth := X.method'
  refine ⟨T.setFrames fs, ?_, .returned (some (.int 1)), hrun, hended, rfl, ⟨_, rfl⟩, hW, hframe⟩
  jvm_step X.here [X.here.top, hx, hb, hdg, hmeth', hr, ret, narrow_b1]
  (try refine ⟨rfl, ?_⟩); (try refine ⟨rfl, ?_⟩)
  first | (intro acts; rw [hret _ acts rfl rfl rfl]) | rw [hret _ _ rfl rfl rfl]
  exact Steps.refl _
/-- what holds at the law's entry: the machine, the code, the tables' words (any of lw_tbl by 'hts w (by decide +kernel)'), the script of L ints xs at the cell b, what the Statement gives of the start (any of its parts by flat_of_before) -/
def lw_At (p : Program) (s : State) (m : MethodId) (meth : Method) (c : Code) (b L : Nat) (xs : Nat → Int32) : Prop :=
  p.tables.exec = Jvm.exec ∧ c.code = code ∧ meth.sig.returnType = ret ∧ c.maxLocals = 4 ∧ s.vm.findClass R_law = some m.cls ∧ (∀ w ∈ lw_tbl, w.before #[Value.ref b] s = true) ∧ va_X b L xs s s.heap ∧ b < s.heap.size ∧ meth.locks = false ∧ (Jvm.Cond.and given_1 narrow_1).before #[Value.ref b] s = true ∧ meth.name = "law"
-- ===== the law's start =====
def tmW : Nat → Term := fun i => ([.string "HotCorner" 49, .string "HotCorner$Reader" 91, .string "HotCorner$Reader" 93, .string "HotCorner$Reader" 95, .string "HotCorner$Reader" 97, .string "HotCorner$Reader" 99, .string "HotCorner$Reader" 101, .string "HotCorner$Reader" 103, .string "HotCorner$Reader" 105, .string "HotCorner$Reader" 107, .string "HotCorner$Reader" 109, .string "HotCorner$Reader" 111, .string "HotCorner$Reader" 113] : List Term).getD i .null
theorem tmW_map : ∀ i, i < 13 → tmW i = (strW.map (fun q => Term.string q.1 q.2.1)).getD i .null := by decide +kernel
def FLW : List Cond := flatC (Jvm.Cond.and given_1 narrow_1)
theorem neW_0 : ∀ j, j < 13 → 0 < j → Cond.not (.eq (tmW 0) (tmW j)) ∈ FLW := by decide +kernel
theorem neW_1 : ∀ j, j < 13 → 1 < j → Cond.not (.eq (tmW 1) (tmW j)) ∈ FLW := by decide +kernel
theorem neW_2 : ∀ j, j < 13 → 2 < j → Cond.not (.eq (tmW 2) (tmW j)) ∈ FLW := by decide +kernel
theorem neW_3 : ∀ j, j < 13 → 3 < j → Cond.not (.eq (tmW 3) (tmW j)) ∈ FLW := by decide +kernel
theorem neW_4 : ∀ j, j < 13 → 4 < j → Cond.not (.eq (tmW 4) (tmW j)) ∈ FLW := by decide +kernel
theorem neW_5 : ∀ j, j < 13 → 5 < j → Cond.not (.eq (tmW 5) (tmW j)) ∈ FLW := by decide +kernel
theorem neW_6 : ∀ j, j < 13 → 6 < j → Cond.not (.eq (tmW 6) (tmW j)) ∈ FLW := by decide +kernel
theorem neW_7 : ∀ j, j < 13 → 7 < j → Cond.not (.eq (tmW 7) (tmW j)) ∈ FLW := by decide +kernel
theorem neW_8 : ∀ j, j < 13 → 8 < j → Cond.not (.eq (tmW 8) (tmW j)) ∈ FLW := by decide +kernel
theorem neW_9 : ∀ j, j < 13 → 9 < j → Cond.not (.eq (tmW 9) (tmW j)) ∈ FLW := by decide +kernel
theorem neW_10 : ∀ j, j < 13 → 10 < j → Cond.not (.eq (tmW 10) (tmW j)) ∈ FLW := by decide +kernel
theorem neW_11 : ∀ j, j < 13 → 11 < j → Cond.not (.eq (tmW 11) (tmW j)) ∈ FLW := by decide +kernel
theorem neW : ∀ i j, i < 13 → j < 13 → i < j → Cond.not (.eq (tmW i) (tmW j)) ∈ FLW := by
  intro i j hi hj h
  rcases (by omega : i = 0 ∨ i = 1 ∨ i = 2 ∨ i = 3 ∨ i = 4 ∨ i = 5 ∨ i = 6 ∨ i = 7 ∨ i = 8 ∨ i = 9 ∨ i = 10 ∨ i = 11) with rfl | rfl | rfl | rfl | rfl | rfl | rfl | rfl | rfl | rfl | rfl | rfl
  · exact neW_0 j hj h
  · exact neW_1 j hj h
  · exact neW_2 j hj h
  · exact neW_3 j hj h
  · exact neW_4 j hj h
  · exact neW_5 j hj h
  · exact neW_6 j hj h
  · exact neW_7 j hj h
  · exact neW_8 j hj h
  · exact neW_9 j hj h
  · exact neW_10 j hj h
  · exact neW_11 j hj h
theorem lenW_ok : ∀ i, i < 13 → strLen.getD i 0 < 2 ^ 31 := by decide +kernel
theorem strW_13 : strW.length = 13 := by decide +kernel
set_option maxHeartbeats 4000000 in
set_option maxRecDepth 100000 in
theorem amb_start {s : State} {b L : Nat} {xs : Nat → Int32} (hts : ∀ w ∈ lw_tbl, w.before #[Value.ref b] s = true) (hgv : (Jvm.Cond.and given_1 narrow_1).before #[Value.ref b] s = true) (hX : va_X b L xs s s.heap) (hbl : b < s.heap.size) : ∃ ad : Nat → Nat, ad 1000200 = b ∧ Amb ad (fun q => s.heap.size ≤ q) (L, xs) s := by
  have hs := flat_of_before _ hgv
  have hA : ∀ a : Nat, a < s.heap.size → ¬ (fun q : Nat => s.heap.size ≤ q) a := fun a h => Nat.not_le.mpr h
  obtain ⟨adK, adV, hZ, hEv⟩ := vk_Sof (args := #[Value.ref b]) (s := s) (A := (fun q : Nat => s.heap.size ≤ q)) (tm := tmW) (len := strLen) (byt := strByt) (N := 13) lenW_ok
    (fun i hi => hs _ (by revert i hi; decide +kernel)) (fun i hi => hs _ (by revert i hi; decide +kernel)) (fun i hi => hs _ (by revert i hi; decide +kernel)) (fun i hi => hs _ (by revert i hi; decide +kernel))
    (fun i hi j hj => hs _ (by revert j hj; revert i hi; decide +kernel))
    (fun i j hi hj hij => (Nat.lt_or_gt_of_ne hij).imp (fun h => hs _ (neW i j hi hj h)) (fun h => hs _ (neW j i hj hi h))) hA
  have hC := va_Zof (A := (fun q : Nat => s.heap.size ≤ q)) (hts (.laysStatic "java/lang/String" "COMPACT_STRINGS" "Z") (by decide +kernel)) (hts (.initialized "java/lang/String") (by decide +kernel)) (va_eqt (z := 1) (hs (.eq (.static "java/lang/String" "COMPACT_STRINGS" "Z") (.int 1)) (by decide +kernel))) hA
  have hF := va_Zqof (A := (fun q : Nat => s.heap.size ≤ q)) (hts (.laysStatic "jdk/internal/util/Preconditions" "SIOOBE_FORMATTER" "Ljava/util/function/BiFunction;") (by decide +kernel)) (hts (.initialized "jdk/internal/util/Preconditions") (by decide +kernel)) (hs (.isRef (.static "jdk/internal/util/Preconditions" "SIOOBE_FORMATTER" "Ljava/util/function/BiFunction;")) (by decide +kernel)) hA
  obtain ⟨tF, hF2⟩ : ∃ tF : Nat, va_Z "jdk/internal/util/Preconditions" "SIOOBE_FORMATTER" "Ljava/util/function/BiFunction;" .null (fun q => s.heap.size ≤ q) s s.heap ∨ va_Z "jdk/internal/util/Preconditions" "SIOOBE_FORMATTER" "Ljava/util/function/BiFunction;" (.ref tF) (fun q => s.heap.size ≤ q) s s.heap := by
    rcases hF with h | ⟨t, h⟩
    · exact ⟨0, Or.inl h⟩
    · exact ⟨t, Or.inr h⟩
  obtain ⟨ad, had⟩ : ∃ ad : Nat → Nat, ad = fun k => if k = 1000200 then b else if k = 1000300 then tF else if k < 1000100 then adK (k - 1000000) else adV (k - 1000100) := ⟨_, rfl⟩
  have e1 : ad 1000200 = b := by rw [had]; rfl
  have e2 : ad 1000300 = tF := by rw [had]; rfl
  have e3 : ∀ i, i < 13 → ad (1000000 + i) = adK i := fun i hi => by
    rw [had]
    show (if 1000000 + i = 1000200 then _ else _) = _
    rw [if_neg (by omega), if_neg (by omega), if_pos (by omega), Nat.add_sub_cancel_left]
  have e4 : ∀ i, i < 13 → ad (1000100 + i) = adV i := fun i hi => by
    rw [had]
    show (if 1000100 + i = 1000200 then _ else _) = _
    rw [if_neg (by omega), if_neg (by omega), if_neg (by omega), Nat.add_sub_cancel_left]
  have hstr : ∀ (i : Nat) (q : String × Nat × String), strW[i]? = some q → Cond.stringRef q.1 q.2.1 q.2.2 ∈ lw_tbl := fun i q hq => by
    have hm : q ∈ strW := List.mem_of_getElem? hq
    revert q
    intro q _ hm
    exact (by decide +kernel : ∀ q ∈ strW, Cond.stringRef q.1 q.2.1 q.2.2 ∈ lw_tbl) q hm
  refine ⟨ad, e1, fun i q hq => ?_, ⟨fun i hi => ?_, fun i j hi hj e => ?_⟩, hC, ?_, fun C hC => va_AO.of (hts _ ((by decide +kernel : ∀ C ∈ aoW, Cond.arrayOver (.object C) ∈ lw_tbl) C hC)), fun q hq => va_Nw.of rfl (hts _ ((by decide +kernel : ∀ q ∈ nestW, Cond.methodLinkNest q.1 q.2.1 q.2.2.1 q.2.2.2 ∈ lw_tbl) q hq)), fun q hq => va_Nw.of rfl (hts _ ((by decide +kernel : ∀ q ∈ castYW, Cond.castable q.1 q.2 ∈ lw_tbl) q hq)), fun q hq => va_Nc.of (hs (.not (.castable q.1 q.2)) ((by decide +kernel : ∀ q ∈ castNW, (Cond.not (.castable q.1 q.2)) ∈ _) q hq)), by rw [e1]; exact hX, by rw [e1]; exact hbl, by rw [e1]; exact Nat.not_le.mpr hbl⟩
  · have hi : i < 13 := by
      have := (List.getElem?_eq_some_iff.mp hq).1
      rw [strW_13] at this
      exact this
    rw [e3 i hi]
    have ht : tmW i = Term.string q.1 q.2.1 := by
      rw [tmW_map i hi, List.getD_eq_getElem?_getD, List.getElem?_map, hq]; rfl
    exact vk_R.of (hts _ (hstr i q hq)) (by rw [← ht]; exact hEv i hi)
  · show va_O "java/lang/String" (ad (1000000 + i)) _ s s.heap ∧ va_OF "java/lang/String" "coder" "B" (.int 0) (ad (1000000 + i)) _ s s.heap ∧ va_OF "java/lang/String" "value" "[B" (.ref (ad (1000100 + i))) (ad (1000000 + i)) _ s s.heap ∧ va_T .byte (ad (1000100 + i)) _ _ _ s s.heap
    rw [e3 i hi, e4 i hi]
    exact hZ.1 i hi
  · exact hZ.2 i j hi hj (by rw [← e3 i hi, ← e3 j hj]; exact e)
  · rw [e2]; exact hF2
set_option maxHeartbeats 4000000 in
set_option maxRecDepth 100000 in
theorem kn_start {s : State} {b : Nat} (hts : ∀ w ∈ lw_tbl, w.before #[Value.ref b] s = true) : ∃ (dC : Nat → ClassId) (dI : Nat → Nat → Nat), ∀ (k : Nat) (q : vw_C), vwCl[k]? = some q → u_Kn s q.1 q.2.1 q.2.2 (dC k) (dI k) := by
  have hgt : ∀ w ∈ gt, w.before #[Value.ref b] s = true := fun w hw => hts w (List.mem_filter.mp hw).1
  have hin : ∀ c, c < 13 → Cond.instantiable (Rn c) (nF c) ∈ lw_tbl := by decide +kernel
  have h0 : ∀ c, ∃ q : ClassId × (Nat → Nat), c < 13 → u_Kn s (Rn c) (Tt c) (nF c) q.1 q.2 := by
    intro c
    by_cases hc : c < 13
    · obtain ⟨cC, iS, h⟩ := u_known (C := Rn c) (T := Tt c) (N := nF c) (n := nF c) hgt (hU_all c hc) (hts _ (hin c hc))
      exact ⟨(cC, iS), fun _ => h⟩
    · exact ⟨(0, fun _ => 0), fun h => absurd h hc⟩
  obtain ⟨f, hf⟩ := Classical.axiomOfChoice h0
  refine ⟨fun k => (f k).1, fun k => (f k).2, fun k q hq => ?_⟩
  have hk : k < 13 := (List.getElem?_eq_some_iff.mp hq).1
  have := hf k hk
  rcases (by omega : k = 0 ∨ k = 1 ∨ k = 2 ∨ k = 3 ∨ k = 4 ∨ k = 5 ∨ k = 6 ∨ k = 7 ∨ k = 8 ∨ k = 9 ∨ k = 10 ∨ k = 11 ∨ k = 12) with rfl | rfl | rfl | rfl | rfl | rfl | rfl | rfl | rfl | rfl | rfl | rfl | rfl <;> (cases hq; exact this)
theorem ar_start {s : State} {b : Nat} (hts : ∀ w ∈ lw_tbl, w.before #[Value.ref b] s = true) : ∃ dA : Nat → ClassId, ∀ (k : Nat) (q : ClassId × FieldType), (tysL dA)[k]? = some q → ArrOfT s q.1 q.2 ∧ va_RA s q.1 q.2 := by
  obtain ⟨c0, k0, p0, a1, a2, a3⟩ := Cond.arrayClass_spec (args := #[Value.ref b]) (first := s) (o := none) (s := s) (idx := []) (hts (.arrayClass .int) (by decide +kernel))
  obtain ⟨p1, c1, k1, b1, -, b3, b4, b5⟩ := Cond.arrayOver_spec (args := #[Value.ref b]) (first := s) (o := none) (s := s) (idx := []) (hts (.arrayOver (.object "HotCorner$Law")) (by decide +kernel))
  obtain ⟨p2, c2, k2, d1, -, d3, d4, d5⟩ := Cond.arrayOver_spec (args := #[Value.ref b]) (first := s) (o := none) (s := s) (idx := []) (hts (.arrayOver (.object "HotCorner$Sheet")) (by decide +kernel))
  obtain ⟨p3, c3, k3, e1, -, e3, e4, e5⟩ := Cond.arrayOver_spec (args := #[Value.ref b]) (first := s) (o := none) (s := s) (idx := []) (hts (.arrayOver (.object "HotCorner$Kind")) (by decide +kernel))
  refine ⟨fun k => if k = 0 then c0 else if k = 1 then c1 else if k = 2 then c2 else c3, fun k q hq => ?_⟩
  have hk : k < 4 := (List.getElem?_eq_some_iff.mp hq).1
  rcases (by omega : k = 0 ∨ k = 1 ∨ k = 2 ∨ k = 3) with rfl | rfl | rfl | rfl
  · cases hq
    exact ⟨fun N z => ⟨(fun k h => by cases h), k0, a2, p0, a3⟩, a1⟩
  · cases hq
    exact ⟨fun N z => ⟨(fun k h => by cases h), k1, b3, p1, b4⟩, k1, p1, b3, b4, b1, b5⟩
  · cases hq
    exact ⟨fun N z => ⟨(fun k h => by cases h), k2, d3, p2, d4⟩, k2, p2, d3, d4, d1, d5⟩
  · cases hq
    exact ⟨fun N z => ⟨(fun k h => by cases h), k3, e3, p3, e4⟩, k3, p3, e3, e4, e1, e5⟩
set_option maxHeartbeats 4000000 in
set_option maxRecDepth 100000 in
theorem whole_start {p : Program} {e : Env} {s : State} {m : MethodId} {below : List Frame} {meth : Method} {c : Code} (l : Launch) (hflags : l.flags = flags0) {b L : Nat} {xs : Nat → Int32} (hL : L ≤ 3584) (C0 : lw_At p s m meth c b L xs) : W p l e room_1 s m #[Value.ref b] below meth c s.heap [] 0 0 (lw_Z below #[Value.ref b] s) (entryFrame m ([Value.ref b] : List Value).toArray 4) := by
  obtain ⟨hx, hb, hr, hml, hown, hts, hX, hbl, hlocks, hgv, hnm⟩ := id C0
  have hgt : ∀ w ∈ gt, w.before #[Value.ref b] s = true := fun w hw => hts w (List.mem_filter.mp hw).1
  obtain ⟨dC, dI, hKc⟩ := kn_start hts
  obtain ⟨dA, hAr⟩ := ar_start hts
  obtain ⟨ad, hadb, hAm⟩ := amb_start hts hgv hX hbl
  have hl := lv_entry ([.ref b]) (n := 4) (Nat.le_of_ble_eq_true rfl)
  rw [lg_entry_eq]
  generalize (lg_sl ([.ref b]) ++ List.replicate (4 - (lg_sl ([.ref b])).length) Slot.unset).toArray = ls at hl ⊢
  have hl : lv_has ls 4 [(0, .ref b)] := hl
  have hw := s_L_law (d := 0) (sc := (L, xs)) (rf := fun _ _ => none) (g := fun _ _ => 0) (F := fun v _ => v = 1) hL (fun _ => rfl)
  refine hw p l e room_1 s m #[Value.ref b] below meth c dC dI dA (fun q => s.heap.size ≤ q) 0 ad (lw_Z below #[Value.ref b] s) ⟨hx, hb, hml, hown, hgt, hnm, ⟨by decide, by decide, by decide, by decide⟩, ⟨hKc, ?_⟩, fun _ h => h, hAm⟩ ?_ ad s.heap [] ls ⟨?_, ?_, va_S.rf, ⟨by decide, fun a k r h => (by cases h), fun _ _ _ => ⟨rfl, rfl⟩⟩, Nat.le_refl _, fun _ _ => rfl⟩ ?_ ?_ (fun v hv => by cases hv)
  · intro k q hq
    exact hAr k q hq
  · rintro r h' ad' H' locs' kc' ks' pc' ls' hret ⟨v, rfl, rfl⟩ hsit - hkc hks
    obtain ⟨-, -, hS, -, -, -⟩ := hsit
    have hd : decode code pc' = .ok (.ireturn, 1) := by
      rcases hret with ⟨v, ty, h, hd, -, -⟩ | ⟨v, h, -⟩ | ⟨h, -⟩ | ⟨v, rt, h, h2, -⟩
      · exact hd
      · cases h
      · cases h
      · cases h
        rcases h2 with h2 | ⟨a, h2⟩ <;> cases h2
    refine va_forget (fun q hq => hS.2.2 q hq) ?_
    refine W.widen (k := 600000) (n := 7302250) (Nat.le_trans hkc (by decide)) (Nat.le_trans hks (by decide)) ?_
    exact lw_ret hx hb hr hlocks hd
  · intro k q hq
    simp [cws] at hq
  · exact ⟨fun i j p q h => by simp [cws] at h, fun k q h => by simp [cws] at h⟩
  · rw [show locL ad [some (.ref 1000200), none, none, none] = [(0, .ref (ad 1000200))] from rfl, hadb]
    exact hl
  · intro v hv r h
    simp at hv
    subst hv
    cases h
    exact Or.inr (by decide)
set_option maxHeartbeats 4000000 in
theorem lw_walk (l : Launch) (hflags : l.flags = flags0) (b : Addr) (xs : List Int32) : MetFree l x (headSpec (Jvm.Cond.code x code maxLocals ret :: tables_1) room_1) (lw_P b xs) (fun _ _ _ _ _ => True) lw_Q := by
  refine MetFree.of_bodyS (code := code) (maxLocals := maxLocals) (ret := ret) (by decide) ?_ ?_
  · intro args s m h hn
    obtain ⟨meth, c, h1, h2, h3, h4, h5, h6, -, -⟩ := Cond.code_spec hn (atoms_spec (ws := Jvm.Cond.code x code maxLocals ret :: tables_1) h _ List.mem_cons_self)
    exact ⟨meth, c, h1, h2, h3, h4, h5, h6⟩
  · intro p e s m args below meth c s₁ B hml0 hP _
    obtain ⟨rfl, hx, hbd, hgv⟩ := hP
    obtain ⟨scr, harrAt, hlist, hof, hsmall⟩ := hx
    obtain ⟨hcb, hkn, -, -⟩ := State.arrayAt?_spec harrAt
    have hown : s.vm.findClass R_law = some m.cls := findClass_of_methodNamed B.named
    have hts0 : ∀ c ∈ (Jvm.Cond.code x code maxLocals ret :: tables_1), c.before #[Value.ref b] s = true := atoms_spec (ws := Jvm.Cond.code x code maxLocals ret :: tables_1) B.pre
    have hts : ∀ w ∈ lw_tbl, w.before #[Value.ref b] s = true := k2_hts_sels lw_privs (fun w hw => hts0 w (List.mem_cons_of_mem _ hw)) lw_privs_ok
    have hml : c.maxLocals = 4 := B.maxLocals_eq (hts0 _ List.mem_cons_self)
    have X₀ : Stand p l e room_1 s m #[Value.ref b] below meth c s₁ [] 0 0 := Stand.of_body B
    have hh0 : s₁.heap = s.heap := by rw [B.state]; rfl
    have hsz : scr.slots.size = xs.length := by rw [← Array.length_toList, hlist, List.length_map]
    have hval : ∀ j : Nat, j < xs.length → scr.slots[j]? = some (.int (xs.getD j 0)) := fun j hj => by
      rw [← Array.getElem?_toList, hlist]
      simp [hj]
    have hbl : b < s.heap.size := (Array.getElem?_eq_some_iff.mp hcb).1
    have hX : va_X b xs.length (fun j => xs.getD j 0) s s.heap := ⟨scr, hcb, hof, hkn, hsz, hval⟩
    have K : W p l e room_1 s m #[Value.ref b] below meth c s₁.heap [] 0 0 (lw_Z below #[Value.ref b] s) (entryFrame m ([Value.ref b] : List Value).toArray 4) := by
      rw [hh0]
      exact whole_start l hflags hbd ⟨B.exec, B.bytes, B.returns, hml, hown, hts, hX, hbl, B.notSynchronized, hgv, (name_of_methodNamed B.named B.method).1⟩
    obtain ⟨t, a1, o, b1, b2, b3⟩ := K s₁ rfl X₀
    exact ⟨t, o, a1, b1, b2, b3⟩
theorem lw_pre_spec {args : Array Value} {s : State} (h : (Jvm.Cond.and given_1 narrow_1).before args s = true) (hr : rest_1_c.before args s = true) : ∃ (b : Addr) (xs : List Int32), lw_P b xs args s := by
  have hs := flat_of_before _ h
  have hq := flat_of_before _ hr
  have hc : (Cond.count 1).before args s = true := hs _ (by decide +kernel)
  have harr : (Cond.arrayOf (.arg 0) .int).before args s = true := hs _ (by decide +kernel)
  have hle : (Cond.le (.length (.arg 0)) (.int 3584)).before args s = true := hs _ (by decide +kernel)
  have hlen : (Cond.isInt (.length (.arg 0))).before args s = true := hq _ (by decide +kernel)
  have hall : (Cond.all (.arg 0) (.isInt (.elem (.arg 0) (.index 0)))).before args s = true := hq _ (by decide +kernel)
  obtain ⟨b, xs, hb, hx⟩ := State.ints_of_pre rfl harr hlen hall
  have hsm : xs.length < 2 ^ 31 := hx.choose_spec.2.2.2
  have hev : (Term.length (.arg 0)).eval args s none [] s = some (.int xs.length.toInt32) := hx.length_eval hb
  have hv := Cond.le_ints hev (show (Term.int 3584).eval args s none [] s = some (.int 3584) from rfl)
  have hd : xs.length.toInt32 ≤ 3584 := by
    simpa [Cond.before, Cond.holds, hv] using hle
  have hN : xs.length ≤ 3584 := (Int32.ofNat_le_ofNat hsm (by decide)).mp (show Int32.ofNat xs.length ≤ Int32.ofNat 3584 from hd)
  exact ⟨b, xs, Cond.one_arg hc (show args[0]? = some (.ref b) from hb), hx, hN, h⟩
theorem lw_comes (l : Launch) (hflags : l.flags = flags0) : Comes l x (Jvm.Cond.code x code maxLocals ret :: tables_1) room_1 (fun tb e args s => Calls_1 tb e args s ∧ rest_1 tb e args s ∧ Pre_1 tb e args s)
    (fun _ _ args s o t => lw_Q args s o t) := by
  intro p e ha hc hk s m args below hf hfit hheap happ hpre
  obtain ⟨b, xs, hP⟩ := lw_pre_spec hpre.2.2 hpre.2.1
  obtain ⟨k, o, h1, h2, h3, hQ⟩ := lw_walk l hflags b xs p e ha hc hk s m args below hf ((Spec.applies_iff_loose hf).mp happ).1 hP trivial
  exact ⟨k, o, h1, h2, h3, hQ⟩
theorem lw_frame {s t : State} {o : Outcome} {args : Array Value} (h : Framed s o t [] 600000 7302250) :
    Framed s o t (fieldLocs frame_1_writes args s ++ arrayLocs frame_1_arrays args s ++ staticLocs frame_1_statics s) 600000 7302250 := h
theorem lw_limb (L : Cond) (hL : ∀ (args : Array Value) (s t : State), L.after args s (.returned (some (.int 1))) t = true) :
    ArmFor flags0 classFile x code maxLocals ret World_1 tables_1 room_1 Calls_1 rest_1 Pre_1
      (fun tb e a s o t => postC L tb e a s o t ∧ Framed s o t (fieldLocs frame_1_writes a s ++ arrayLocs frame_1_arrays a s ++ staticLocs frame_1_statics s) 600000 7302250) := by
  intro l hflags _ _ p e ha hc hk s m args below hf hfit hheap happ hpre
  obtain ⟨k, o, h1, h2, h3, rfl, hF⟩ := lw_comes l hflags p e ha hc hk s m args below hf hfit hheap happ hpre
  exact ⟨k, _, h1, h2, h3, hL args s _, lw_frame hF⟩
theorem i_vc : Claimed_1_1 ∧ Claimed_1_2 := ⟨lw_limb limb_1_1 (fun args s t => by simp [limb_1_1, Cond.after, Cond.holds, Cond.value]), lw_limb limb_1_2 (fun args s t => Cond.after_iff.mpr (by
  first | (rw [show limb_1_2 = Cond.eq .result (.int 1) from rfl, Cond.eq_ints (x := 1) (y := 1) rfl rfl]; simp; done) | (simp [limb_1_2, Cond.value, Term.eval]; done)))⟩
