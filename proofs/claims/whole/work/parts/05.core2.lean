def strW : List (String × Nat × String) := [("HotCorner", 49, "browns heat * 2 ; cools ( since < 3 ) * 5 ; minds 1 ;"), ("HotCorner$Reader", 91, "browns"), ("HotCorner$Reader", 93, "cools"), ("HotCorner$Reader", 95, "minds"), ("HotCorner$Reader", 97, "or"), ("HotCorner$Reader", 99, "and"), ("HotCorner$Reader", 101, "not"), ("HotCorner$Reader", 103, "heat"), ("HotCorner$Reader", 105, "minute"), ("HotCorner$Reader", 107, "brown"), ("HotCorner$Reader", 109, "more"), ("HotCorner$Reader", 111, "since"), ("HotCorner$Reader", 113, "openings")]
def strLen : List Nat := [53, 6, 5, 5, 2, 3, 3, 4, 6, 5, 4, 5, 8]
def strByt : List (List Int32) := [[98, 114, 111, 119, 110, 115, 32, 104, 101, 97, 116, 32, 42, 32, 50, 32, 59, 32, 99, 111, 111, 108, 115, 32, 40, 32, 115, 105, 110, 99, 101, 32, 60, 32, 51, 32, 41, 32, 42, 32, 53, 32, 59, 32, 109, 105, 110, 100, 115, 32, 49, 32, 59], [98, 114, 111, 119, 110, 115], [99, 111, 111, 108, 115], [109, 105, 110, 100, 115], [111, 114], [97, 110, 100], [110, 111, 116], [104, 101, 97, 116], [109, 105, 110, 117, 116, 101], [98, 114, 111, 119, 110], [109, 111, 114, 101], [115, 105, 110, 99, 101], [111, 112, 101, 110, 105, 110, 103, 115]]
def nestW : List (String × Nat × MethodName × String) := [("HotCorner", 24, ⟨"HotCorner$Baking", "<init>", "()V"⟩, "HotCorner"), ("HotCorner$Baking", 17, ⟨"HotCorner$Kind", "<init>", "()V"⟩, "HotCorner"), ("HotCorner$Baking", 20, ⟨"HotCorner$Thick", "<init>", "()V"⟩, "HotCorner"), ("HotCorner$Thick", 1, ⟨"HotCorner$Kind", "<init>", "()V"⟩, "HotCorner"), ("HotCorner$Baking", 23, ⟨"HotCorner$Thin", "<init>", "()V"⟩, "HotCorner"), ("HotCorner$Thin", 1, ⟨"HotCorner$Kind", "<init>", "()V"⟩, "HotCorner"), ("HotCorner$Baking", 26, ⟨"HotCorner$Frozen", "<init>", "()V"⟩, "HotCorner"), ("HotCorner$Frozen", 1, ⟨"HotCorner$Thick", "<init>", "()V"⟩, "HotCorner"), ("HotCorner$Baking", 29, ⟨"HotCorner$Sugared", "<init>", "()V"⟩, "HotCorner"), ("HotCorner$Sugared", 1, ⟨"HotCorner$Thin", "<init>", "()V"⟩, "HotCorner"), ("HotCorner$Baking", 32, ⟨"HotCorner$Grandfathers", "<init>", "()V"⟩, "HotCorner"), ("HotCorner$Grandfathers", 1, ⟨"HotCorner$Kind", "<init>", "()V"⟩, "HotCorner"), ("HotCorner", 31, ⟨"HotCorner$Reader", "<init>", "()V"⟩, "HotCorner"), ("HotCorner", 48, ⟨"HotCorner$Sheet", "<init>", "()V"⟩, "HotCorner"), ("HotCorner$Baking", 42, ⟨"HotCorner", "within", "(III)Z"⟩, "HotCorner"), ("HotCorner$Baking", 91, ⟨"HotCorner", "spotUnder", "(II)I"⟩, "HotCorner")]
def castYW : List (String × String) := [("HotCorner$Frozen", "HotCorner$Thick"), ("HotCorner$Sugared", "HotCorner$Thin"), ("HotCorner$Thick", "HotCorner$Kind"), ("HotCorner$Thin", "HotCorner$Kind"), ("HotCorner$Frozen", "HotCorner$Kind"), ("HotCorner$Sugared", "HotCorner$Kind"), ("HotCorner$Grandfathers", "HotCorner$Kind")]
def castNW : List (String × String) := [("HotCorner$Kind", "HotCorner$Thick"), ("HotCorner$Kind", "HotCorner$Thin"), ("HotCorner$Kind", "HotCorner$Frozen"), ("HotCorner$Kind", "HotCorner$Sugared"), ("HotCorner$Kind", "HotCorner$Grandfathers"), ("HotCorner$Thick", "HotCorner$Thin"), ("HotCorner$Thick", "HotCorner$Frozen"), ("HotCorner$Thick", "HotCorner$Sugared"), ("HotCorner$Thick", "HotCorner$Grandfathers"), ("HotCorner$Thin", "HotCorner$Thick"), ("HotCorner$Thin", "HotCorner$Frozen"), ("HotCorner$Thin", "HotCorner$Sugared"), ("HotCorner$Thin", "HotCorner$Grandfathers"), ("HotCorner$Frozen", "HotCorner$Thin"), ("HotCorner$Frozen", "HotCorner$Sugared"), ("HotCorner$Frozen", "HotCorner$Grandfathers"), ("HotCorner$Sugared", "HotCorner$Thick"), ("HotCorner$Sugared", "HotCorner$Frozen"), ("HotCorner$Sugared", "HotCorner$Grandfathers"), ("HotCorner$Grandfathers", "HotCorner$Thick"), ("HotCorner$Grandfathers", "HotCorner$Thin"), ("HotCorner$Grandfathers", "HotCorner$Frozen"), ("HotCorner$Grandfathers", "HotCorner$Sugared")]
def aoW : List String := ["HotCorner$Law", "HotCorner$Sheet", "HotCorner$Kind"]
/-- what stays true all along: the constants, the statics, what the tables say beside their own words, the script; abstract addresses from a million on stand for cells that nobody writes -/
def Amb (ad : Nat → Nat) (A : Nat → Prop) (sc : Nat × (Nat → Int32)) (U : State) : Prop :=
  (∀ (i : Nat) (q : String × Nat × String), strW[i]? = some q → vk_R q.1 q.2.1 q.2.2 (ad (1000000 + i)) U) ∧
  vk_S 13 strLen strByt (fun i => ad (1000000 + i)) (fun i => ad (1000100 + i)) A U U.heap ∧
  va_Z "java/lang/String" "COMPACT_STRINGS" "Z" (.int 1) A U U.heap ∧
  (va_Z "jdk/internal/util/Preconditions" "SIOOBE_FORMATTER" "Ljava/util/function/BiFunction;" .null A U U.heap ∨ va_Z "jdk/internal/util/Preconditions" "SIOOBE_FORMATTER" "Ljava/util/function/BiFunction;" (.ref (ad 1000300)) A U U.heap) ∧
  (∀ C ∈ aoW, va_AO C U) ∧ (∀ q ∈ nestW, va_Nw (.methodLinkNest q.1 q.2.1 q.2.2.1 q.2.2.2) U) ∧
  (∀ q ∈ castYW, va_Nw (.castable q.1 q.2) U) ∧ (∀ q ∈ castNW, va_Nc q.1 q.2 U) ∧
  va_X (ad 1000200) sc.1 sc.2 U U.heap ∧ ad 1000200 < U.heap.size ∧ ¬ A (ad 1000200)
theorem Amb.agree {ad ad' : Nat → Nat} {A : Nat → Prop} {sc : Nat × (Nat → Int32)} {U : State} (h : Amb ad A sc U) (hq : ∀ k, 1000000 ≤ k → ad' k = ad k) : Amb ad' A sc U := by
  obtain ⟨h1, h2, h3, h4, h5, h6, h7, h8, h9, h10, h11⟩ := h
  have e1 : ad' 1000200 = ad 1000200 := hq _ (by omega)
  refine ⟨fun i q hi => by rw [hq _ (by omega)]; exact h1 i q hi, ?_, h3, by rw [hq 1000300 (by omega)]; exact h4, h5, h6, h7, h8, by rw [e1]; exact h9, by rw [e1]; exact h10, by rw [e1]; exact h11⟩
  have e2 : (fun i => ad' (1000000 + i)) = fun i => ad (1000000 + i) := funext fun i => hq _ (by omega)
  have e3 : (fun i => ad' (1000100 + i)) = fun i => ad (1000100 + i) := funext fun i => hq _ (by omega)
  rw [e2, e3]; exact h2
theorem Amb.blind {ad : Nat → Nat} {A : Nat → Prop} {sc : Nat × (Nat → Int32)} {U : State} {g : JFrame} {mk : MethodId} {a : Array Value} (h : Amb ad A sc U) : Amb ad A sc (U.calling g mk a) := by
  obtain ⟨h1, h2, h3, h4, h5, h6, h7, h8, h9, h10, h11⟩ := h
  have al : U.vm.Alike (U.calling g mk a).vm := Vm.Alike.refl U.vm
  exact ⟨fun i q hi => (h1 i q hi).same rfl, vk_S.moved al h2, va_Z.moved al h3, h4.imp (va_Z.moved al) (va_Z.moved al), fun C hC => (h5 C hC).moved al, fun q hq => (h6 q hq).same rfl rfl, fun q hq => (h7 q hq).same rfl rfl, fun q hq => (h8 q hq).moved al, va_X.moved al h9, h10, h11⟩
theorem Amb.call {ad : Nat → Nat} {A A' : Nat → Prop} {sc : Nat × (Nat → Int32)} {s U : State} {H : Heap} {locs : List Loc} (h : Amb ad A sc s) (hS : va_S A s.heap H locs) (hA' : ∀ q, A' q → A q) (hW : s.WarmedH U.vm) (hU : U.heap = H) : Amb ad A' sc U := by
  obtain ⟨h1, h2, h3, h4, h5, h6, h7, h8, h9, h10, h11⟩ := h
  have al : s.vm.Alike U.vm := hW.alike
  subst hU
  exact ⟨fun i q hi => (h1 i q hi).warm hW, ((vk_S.moved al h2).kept hS.2.1).narrow hA', ((va_Z.moved al h3).kept hS.2.1).narrow hA', h4.imp (fun z => ((va_Z.moved al z).kept hS.2.1).narrow hA') (fun z => ((va_Z.moved al z).kept hS.2.1).narrow hA'), fun C hC => (h5 C hC).moved al, fun q hq => va_Nw.warmM hW (h6 q hq), fun q hq => va_Nw.warmC hW (h7 q hq), fun q hq => (h8 q hq).moved al, (va_X.moved al h9).kept (hS.2.1 _ h10 h11), Nat.lt_of_lt_of_le h10 hS.1, fun z => h11 (hA' _ z)⟩
-- ===== contracts =====
def rmD (d mc ms : Nat) : Room := { frames := d, cells := mc, slots := ms, locals := 100 * d }
def PcB (dC : Nat → ClassId) (dI : Nat → Nat → Nat) (dA : Nat → ClassId) (ad : Nat → Nat) (h : AH) (sz : Nat) (sc : Nat × (Nat → Int32)) : State → Prop := fun U =>
  U.heap.size = sz ∧ va_P (dC, dI) vwCl (cws dA ad h) U.heap ∧ va_K (dC, dI) vwCl (tysL dA) U ∧ va_D (fun _ => True) (cws dA ad h) ∧ Amb ad (va_A (cws dA ad h) sz) sc U
theorem PcB.blind {dC : Nat → ClassId} {dI : Nat → Nat → Nat} {dA : Nat → ClassId} {ad : Nat → Nat} {h : AH} {sz : Nat} {sc : Nat × (Nat → Int32)} {av : List Value} : FrameBlind (va_Pc av (PcB dC dI dA ad h sz sc)) := by
  intro a U g mk ⟨q0, q1, qP, qK, qD, qA⟩
  exact ⟨q0, q1, qP, va_K.moved (u := U) (U := U.calling g mk a) (Vm.Alike.refl U.vm) qK, qD, qA.blind⟩
def QQ (dC : Nat → ClassId) (dI : Nat → Nat → Nat) (dA : Nat → ClassId) (ad0 : Nat → Nat) (n0 : Nat) (A : Nat → Prop) (Q : Option Value → AH → Prop) : Array Value → State → Outcome → State → Prop := fun _ st oc t =>
  (∃ (r : Option Value) (h' : AH) (ad' : Nat → Nat), oc = .returned (r.map (cv ad')) ∧ Q r h' ∧ (∀ v, r = some v → vok h'.1.length v) ∧ wfh h' ∧ n0 ≤ h'.1.length ∧ (∀ k, (k < n0 ∨ 1000000 ≤ k) → ad' k = ad0 k) ∧ va_P (dC, dI) vwCl (cws dA ad' h') t.heap ∧ va_D A (cws dA ad' h')) ∧ va_F A st t
/-- a method, from the heap h with the arguments vs: it returns, and Q holds of its answer and of the heap -/
def Mok (d mc ms : Nat) (sc : Nat × (Nat → Int32)) (μ : MI) (vs : List Value) (h : AH) (Q : Option Value → AH → Prop) : Prop :=
  wfh h → (∀ v ∈ vs, vok h.1.length v) → ∀ (l : Launch) (dC : Nat → ClassId) (dI : Nat → Nat → Nat) (dA : Nat → ClassId) (ad : Nat → Nat) (sz : Nat),
    Met l μ.1 (Cond.code μ.1 μ.2.1 μ.2.2.1 μ.2.2.2 :: gt) (rmD d mc ms) (va_Pc (vs.map (cv ad)) (PcB dC dI dA ad h sz sc)) (QQ dC dI dA ad h.1.length (va_A (cws dA ad h) sz) Q) mc ms (va_A (cws dA ad h) sz)
-- ===== the walk of a body =====
def retOK (μ : MI) (pc : Nat) (r : Option Value) : Prop :=
  (∃ v ty, r = some (.int v) ∧ decode μ.2.1 pc = .ok (.ireturn, 1) ∧ μ.2.2.2 = some ty ∧ narrow ty (.int v) = .int v) ∨
  (∃ v, r = some (.long v) ∧ decode μ.2.1 pc = .ok (.lreturn, 1) ∧ μ.2.2.2 = some .long) ∨
  (r = none ∧ decode μ.2.1 pc = .ok (.return_, 1) ∧ μ.2.2.2 = none) ∨
  (∃ v rt, r = some v ∧ (v = .null ∨ ∃ a, v = .ref a) ∧ decode μ.2.1 pc = .ok (.areturn, 1) ∧ μ.2.2.2 = some rt ∧ ((∃ n, rt = .object n) ∨ ∃ t, rt = .array t))
/-- the locals: a slot each; what isn't known is none -/
def locF (ad : Nat → Nat) : Nat → List (Option Value) → List (Nat × Value)
  | _, [] => []
  | i, none :: L => locF ad (i + 1) L
  | i, some v :: L => (i, cv ad v) :: locF ad (i + 1) L
abbrev locL (ad : Nat → Nat) (L : List (Option Value)) : List (Nat × Value) := locF ad 0 L
theorem locF_mem {ad : Nat → Nat} {q : Nat × Value} : ∀ {L : List (Option Value)} {i : Nat}, q ∈ locF ad i L ↔ ∃ k v, L[k]? = some (some v) ∧ q = (i + k, cv ad v) := by
  intro L
  induction L with
  | nil => intro i; simp [locF]
  | cons o L ih =>
    intro i
    have key : (∃ k v, L[k]? = some (some v) ∧ q = (i + 1 + k, cv ad v)) ↔ ∃ k v, (o :: L)[k + 1]? = some (some v) ∧ q = (i + (k + 1), cv ad v) := by
      constructor
      · rintro ⟨k, v, h1, h2⟩; exact ⟨k, v, by simpa using h1, by rw [h2]; congr 1; omega⟩
      · rintro ⟨k, v, h1, h2⟩; exact ⟨k, v, by simpa using h1, by rw [h2]; congr 1; omega⟩
    cases o with
    | none =>
      rw [show locF ad i (none :: L) = locF ad (i + 1) L from rfl, ih, key]
      constructor
      · rintro ⟨k, v, h1, h2⟩; exact ⟨k + 1, v, h1, h2⟩
      · rintro ⟨k, v, h1, h2⟩
        cases k with
        | zero => simp at h1
        | succ k => exact ⟨k, v, h1, h2⟩
    | some w =>
      rw [show locF ad i (some w :: L) = (i, cv ad w) :: locF ad (i + 1) L from rfl, List.mem_cons, ih, key]
      constructor
      · rintro (h | ⟨k, v, h1, h2⟩)
        · exact ⟨0, w, rfl, h⟩
        · exact ⟨k + 1, v, h1, h2⟩
      · rintro ⟨k, v, h1, h2⟩
        cases k with
        | zero => simp at h1; subst h1; exact Or.inl h2
        | succ k => exact Or.inr ⟨k, v, h1, h2⟩
/-- a method's first locals -/
def entL : List Value → Nat → List (Option Value)
  | [], n => List.replicate n none
  | v :: vs, n => bif Nat.beq v.category 2 then some v :: none :: entL vs (n - 2) else some v :: entL vs (n - 1)
def Ctx (d mc ms : Nat) (sc : Nat × (Nat → Int32)) (μ : MI) (p : Program) (R : Room) (s : State) (m : MethodId) (args : Array Value) (meth : Method) (c : Code) (dC : Nat → ClassId) (dI : Nat → Nat → Nat) (dA : Nat → ClassId) (A : Nat → Prop) (ad0 : Nat → Nat) : Prop :=
  p.tables.exec = Jvm.exec ∧ c.code = μ.2.1 ∧ c.maxLocals = μ.2.2.1 ∧ s.vm.findClass μ.1.cls = some m.cls ∧ (∀ w ∈ gt, w.before args s = true) ∧ meth.name = μ.1.name ∧
  (d ≤ R.frames ∧ 100 * d ≤ R.locals ∧ mc ≤ R.cells ∧ ms ≤ R.slots) ∧ va_K (dC, dI) vwCl (tysL dA) s ∧ (∀ q, s.heap.size ≤ q → A q) ∧ Amb ad0 A sc s
def Sit (dC : Nat → ClassId) (dI : Nat → Nat → Nat) (dA : Nat → ClassId) (A : Nat → Prop) (n0 : Nat) (ad0 : Nat → Nat) (H0 : Heap) (ad : Nat → Nat) (h : AH) (H : Heap) (locs : List Loc) : Prop :=
  va_P (dC, dI) vwCl (cws dA ad h) H ∧ va_D A (cws dA ad h) ∧ va_S A H0 H locs ∧ wfh h ∧ n0 ≤ h.1.length ∧ ∀ k, (k < n0 ∨ 1000000 ≤ k) → ad k = ad0 k
def Wp (d mc ms : Nat) (sc : Nat × (Nat → Int32)) (μ : MI) (Q : Option Value → AH → Prop) (pc : Nat) (L : List (Option Value)) (S : List Value) (h : AH) (kc ks : Nat) : Prop :=
  ∀ (p : Program) (l : Launch) (e : Env) (R : Room) (s : State) (m : MethodId) (args : Array Value) (below : List Frame) (meth : Method) (c : Code) (dC : Nat → ClassId) (dI : Nat → Nat → Nat) (dA : Nat → ClassId) (A : Nat → Prop) (n0 : Nat) (ad0 : Nat → Nat) (Qt : State → Prop),
    Ctx d mc ms sc μ p R s m args meth c dC dI dA A ad0 →
    (∀ (r : Option Value) (h' : AH) (ad' : Nat → Nat) (H' : Heap) (locs' : List Loc) (kc' ks' pc' : Nat) (ls' : Array Slot), retOK μ pc' r → Q r h' → Sit dC dI dA A n0 ad0 s.heap ad' h' H' locs' → (∀ v, r = some v → vok h'.1.length v) → kc' ≤ mc → ks' ≤ ms →
      W p l e R s m args below meth c H' locs' kc' ks' Qt (F0 m pc' ls' (r.map (cv ad')).toList)) →
    ∀ (ad : Nat → Nat) (H : Heap) (locs : List Loc) (ls : Array Slot), Sit dC dI dA A n0 ad0 s.heap ad h H locs → lv_has ls μ.2.2.1 (locL ad L) → (∀ v, some v ∈ L → vok h.1.length v) → (∀ v ∈ S, vok h.1.length v) →
      W p l e R s m args below meth c H locs kc ks Qt (F0 m pc ls (S.map (cv ad)))
theorem entL_args (ad : Nat → Nat) : ∀ (vs : List Value) (i n : Nat), locF ad i (entL vs n) = lv_args i (vs.map (cv ad)) := by
  intro vs
  induction vs with
  | nil =>
    intro i n
    show locF ad i (List.replicate n none) = []
    induction n generalizing i with
    | zero => rfl
    | succ n ih => rw [List.replicate_succ]; exact ih (i + 1)
  | cons v vs ih =>
    intro i n
    cases v <;> first | exact congrArg (List.cons _) (ih (i + 1) (n - 1)) | exact congrArg (List.cons _) (ih (i + 2) (n - 2))
theorem entL_mem : ∀ (vs : List Value) (n : Nat) (v : Value), some v ∈ entL vs n → v ∈ vs := by
  intro vs
  induction vs with
  | nil => intro n v h; simp [entL] at h
  | cons w vs ih =>
    intro n v h
    have k1 : some v ∈ (some w :: entL vs (n - 1)) → v ∈ w :: vs := fun h => by
      rcases List.mem_cons.mp h with h | h
      · cases h; exact List.mem_cons_self
      · exact List.mem_cons_of_mem _ (ih _ _ h)
    have k2 : some v ∈ (some w :: none :: entL vs (n - 2)) → v ∈ w :: vs := fun h => by
      rcases List.mem_cons.mp h with h | h
      · cases h; exact List.mem_cons_self
      · rcases List.mem_cons.mp h with h | h
        · cases h
        · exact List.mem_cons_of_mem _ (ih _ _ h)
    cases w <;> first | exact k1 h | exact k2 h
theorem lg_sl_len (ad : Nat → Nat) : ∀ (vs : List Value), (lg_sl (vs.map (cv ad))).length = (lg_sl vs).length := by
  intro vs
  induction vs with
  | nil => rfl
  | cons v vs ih => cases v <;> simp [lg_sl, cv, Value.category] at ih ⊢ <;> exact ih
theorem Mok.ofWp {d mc ms : Nat} {sc : Nat × (Nat → Int32)} {μ : MI} {vs : List Value} {h : AH} {Q : Option Value → AH → Prop} {L : List (Option Value)} (hpl : plainName μ.1.cls = true) (hlen : Nat.ble (lg_sl vs).length μ.2.2.1 = true) (hL : entL vs μ.2.2.1 = L)
    (hw : Wp d mc ms sc μ Q 0 L [] h 0 0) : Mok d mc ms sc μ vs h Q := by
  intro hwf hvs l dC dI dA ad sz
  refine Met.ofW (cc := μ.2.1) (maxL := μ.2.2.1) (ret := μ.2.2.2) hpl rfl ?_
  intro p e s m args below meth c s₁ B hml hv
  obtain ⟨rfl, hsz, hP, hK, hD0, hAm⟩ := hv
  have hx := B.exec
  have hb := B.bytes
  have hr := B.returns
  have hts := atoms_spec B.pre
  have hown : s.vm.findClass μ.1.cls = some m.cls := findClass_of_methodNamed B.named
  have hlocks := B.notSynchronized
  have hin : meth.name = μ.1.name := (name_of_methodNamed B.named B.method).1
  subst hsz
  have hA : ∀ q : Nat, s.heap.size ≤ q → va_A (cws dA ad h) s.heap.size q := fun q h => Or.inr h
  have hl := lv_entry (vs.map (cv ad)) (n := μ.2.2.1) (by rw [lg_sl_len]; exact Nat.le_of_ble_eq_true hlen)
  rw [lg_entry_eq]
  generalize (lg_sl (vs.map (cv ad)) ++ List.replicate (μ.2.2.1 - (lg_sl (vs.map (cv ad))).length) Slot.unset).toArray = ls at hl ⊢
  subst hL
  rw [← entL_args ad vs 0 μ.2.2.1] at hl
  refine hw p l e _ s m _ below meth c dC dI dA _ h.1.length ad _ ⟨hx, hb, hml, hown, fun w hw => hts w (List.mem_cons_of_mem _ hw), hin, ⟨Nat.le_refl _, Nat.le_refl _, Nat.le_refl _, Nat.le_refl _⟩, hK, hA, hAm⟩ ?_ ad s.heap [] ls ⟨hP, hD0.self, va_S.rf, hwf, Nat.le_refl _, fun _ _ => rfl⟩ hl (fun v hv => hvs _ (entL_mem _ _ _ hv)) (fun v hv => by cases hv)
  intro r h' ad' H' locs' kc' ks' pc' ls' hret hQ hsit hrok hkc hks
  obtain ⟨hP1, hD1, hS1, hwf1, hn1, hag⟩ := hsit
  refine W.widen (k := mc) (n := ms) hkc hks ?_
  have hq : ∀ t : State, t.heap = H' → s.WarmedH t.vm → QQ dC dI dA ad h.1.length (va_A (cws dA ad h) s.heap.size) Q (vs.map (cv ad)).toArray s (.returned (r.map (cv ad'))) t := fun t ht _ => ⟨⟨r, h', ad', rfl, hQ, hrok, hwf1, hn1, hag, by rw [ht]; exact hP1, hD1⟩, hS1.F ht⟩
  rcases hret with ⟨v, ty, rfl, hd, hty, hn⟩ | ⟨v, rfl, hd, hty⟩ | ⟨rfl, hd, hty⟩ | ⟨v, rt, rfl, hv, hd, hty, hrt⟩
  · exact W.zret hx hb (hr.trans hty) hn hq hS1.2.2 hd
  · exact W.lret hx hb (hr.trans hty) hq hS1.2.2 hd
  · exact W.vret hx hb (hr.trans hty) hq hS1.2.2 hd
  · refine W.aret hx hb (hr.trans hty) hrt ?_ hq hS1.2.2 hd
    rcases hv with rfl | ⟨a, rfl⟩
    · exact Or.inl rfl
    · exact Or.inr ⟨_, rfl⟩

