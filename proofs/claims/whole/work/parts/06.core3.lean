section WPA
variable {d mc ms : Nat} {sc : Nat × (Nat → Int32)} {μ : MI} {Q : Option Value → AH → Prop} {pc : Nat} {L : List (Option Value)} {S : List Value} {h : AH} {kc ks : Nat}

/-- a row that changes the stack alone -/
theorem wp_stk {pc' : Nat} {S' : List Value} (hv : ∀ n, (∀ v ∈ S, vok n v) → ∀ v ∈ S', vok n v)
    (hrow : ∀ {p : Program} {l : Launch} {e : Env} {R : Room} {s : State} {m : MethodId} {args : Array Value} {below : List Frame} {meth : Method} {c : Code} {H : Heap} {locs : List Loc} {kc ks : Nat} {Qt : State → Prop} {ls : Array Slot} {ad : Nat → Nat},
      p.tables.exec = Jvm.exec → c.code = μ.2.1 → s.vm.findClass μ.1.cls = some m.cls → (∀ w ∈ gt, w.before args s = true) → lv_has ls μ.2.2.1 (locL ad L) →
      W p l e R s m args below meth c H locs kc ks Qt (F0 m pc' ls (S'.map (cv ad))) → W p l e R s m args below meth c H locs kc ks Qt (F0 m pc ls (S.map (cv ad))))
    (k : Wp d mc ms sc μ Q pc' L S' h kc ks) : Wp d mc ms sc μ Q pc L S h kc ks := by
  intro p l e R s m args below meth c dC dI dA A n0 ad0 Qt C hEx ad H locs ls hs hl hL hS
  exact hrow C.1 C.2.1 C.2.2.2.1 C.2.2.2.2.1 hl (k p l e R s m args below meth c dC dI dA A n0 ad0 Qt C hEx ad H locs ls hs hl hL (hv _ hS))
/-- a row that changes the locals (and takes from the stack) -/
theorem wp_loc {pc' : Nat} {L' : List (Option Value)} {S' : List Value} (hv : ∀ n, (∀ v ∈ S, vok n v) → ∀ v ∈ S', vok n v) (hw : ∀ n, (∀ v, some v ∈ L → vok n v) → (∀ v ∈ S, vok n v) → ∀ v, some v ∈ L' → vok n v)
    (hrow : ∀ {p : Program} {l : Launch} {e : Env} {R : Room} {s : State} {m : MethodId} {args : Array Value} {below : List Frame} {meth : Method} {c : Code} {H : Heap} {locs : List Loc} {kc ks : Nat} {Qt : State → Prop} {ls : Array Slot} {ad : Nat → Nat},
      p.tables.exec = Jvm.exec → c.code = μ.2.1 → lv_has ls μ.2.2.1 (locL ad L) →
      (∀ ls', lv_has ls' μ.2.2.1 (locL ad L') → W p l e R s m args below meth c H locs kc ks Qt (F0 m pc' ls' (S'.map (cv ad)))) → W p l e R s m args below meth c H locs kc ks Qt (F0 m pc ls (S.map (cv ad))))
    (k : Wp d mc ms sc μ Q pc' L' S' h kc ks) : Wp d mc ms sc μ Q pc L S h kc ks := by
  intro p l e R s m args below meth c dC dI dA A n0 ad0 Qt C hEx ad H locs ls hs hl hL hS
  exact hrow C.1 C.2.1 hl (fun ls' hl' => k p l e R s m args below meth c dC dI dA A n0 ad0 Qt C hEx ad H locs ls' hs hl' (hw _ hL hS) (hv _ hS))
theorem vk_c {n : Nat} {v : Value} {S : List Value} (h1 : vok n v) (h2 : ∀ w ∈ S, vok n w) : ∀ w ∈ v :: S, vok n w := fun w hw => (List.mem_cons.mp hw).elim (fun e => e ▸ h1) (h2 w)
theorem vk_t {n : Nat} {v : Value} {S : List Value} (h : ∀ w ∈ v :: S, vok n w) : ∀ w ∈ S, vok n w := fun w hw => h w (List.mem_cons_of_mem _ hw)
theorem vk_h {n : Nat} {v : Value} {S : List Value} (h : ∀ w ∈ v :: S, vok n w) : vok n v := h v List.mem_cons_self
theorem vk_i {n : Nat} {x : Int32} {S : List Value} (h2 : ∀ w ∈ S, vok n w) : ∀ w ∈ Value.int x :: S, vok n w := vk_c (vok_int n x) h2
theorem vk_l {n : Nat} {x : Int64} {S : List Value} (h2 : ∀ w ∈ S, vok n w) : ∀ w ∈ Value.long x :: S, vok n w := vk_c (vok_long n x) h2
theorem loc_at {ad : Nat → Nat} {L : List (Option Value)} {ls : Array Slot} {nL i : Nat} {v : Value} (hl : lv_has ls nL (locL ad L)) (hi : L[i]? = some (some v)) : ls[i]? = some (.val (cv ad v)) := hl.2.2 (i, cv ad v) (locF_mem.mpr ⟨i, v, hi, by rw [Nat.zero_add]⟩)
-- constants
theorem wp_iconst {n : Int} {v : Int32} (hd : decode μ.2.1 pc = .ok (.iconst n, 1)) (hv : Int32.ofInt n = v) (k : Wp d mc ms sc μ Q (pc + 1) L (.int v :: S) h kc ks) : Wp d mc ms sc μ Q pc L S h kc ks :=
  wp_stk (S' := .int v :: S) (fun _ q => vk_i q) (fun hx hb _ _ _ w => lv_iconst hx hb hd hv w) k
theorem wp_bipush {n : Int} {v : Int32} (hd : decode μ.2.1 pc = .ok (.bipush n, 2)) (hv : (Int8.ofInt n).toInt32 = v) (k : Wp d mc ms sc μ Q (pc + 2) L (.int v :: S) h kc ks) : Wp d mc ms sc μ Q pc L S h kc ks :=
  wp_stk (S' := .int v :: S) (fun _ q => vk_i q) (fun hx hb _ _ _ w => lv_bipush hx hb hd hv w) k
theorem wp_sipush {n : Int} {v : Int32} (hd : decode μ.2.1 pc = .ok (.sipush n, 3)) (hv : (Int16.ofInt n).toInt32 = v) (k : Wp d mc ms sc μ Q (pc + 3) L (.int v :: S) h kc ks) : Wp d mc ms sc μ Q pc L S h kc ks :=
  wp_stk (S' := .int v :: S) (fun _ q => vk_i q) (fun hx hb _ _ _ w => lv_sipush hx hb hd hv w) k
theorem wp_lconst {n : Fin 2} {v : Int64} (hd : decode μ.2.1 pc = .ok (.lconst n, 1)) (hv : Int64.ofNat (n : Nat) = v) (k : Wp d mc ms sc μ Q (pc + 1) L (.long v :: S) h kc ks) : Wp d mc ms sc μ Q pc L S h kc ks :=
  wp_stk (S' := .long v :: S) (fun _ q => vk_l q) (fun hx hb _ _ _ w => lv_lconst hx hb hd hv w) k
theorem wp_null (hd : decode μ.2.1 pc = .ok (.aconst_null, 1)) (k : Wp d mc ms sc μ Q (pc + 1) L (.null :: S) h kc ks) : Wp d mc ms sc μ Q pc L S h kc ks :=
  wp_stk (S' := .null :: S) (fun _ q => vk_c (vok_null _) q) (fun hx hb _ _ _ w => lv_null hx hb hd w) k
theorem wp_ldc {i : Nat} {v : Int32} (hd : decode μ.2.1 pc = .ok (.ldc i, 2)) (hw : Cond.constant μ.1.cls i v ∈ gt) (k : Wp d mc ms sc μ Q (pc + 2) L (.int v :: S) h kc ks) : Wp d mc ms sc μ Q pc L S h kc ks :=
  wp_stk (S' := .int v :: S) (fun _ q => vk_i q) (fun hx hb ho ht _ w => lv_ldc hx hb ho (ht _ hw) hd w) k
theorem wp_ldcw {i : Nat} {v : Int32} (hd : decode μ.2.1 pc = .ok (.ldc_w i, 3)) (hw : Cond.constant μ.1.cls i v ∈ gt) (k : Wp d mc ms sc μ Q (pc + 3) L (.int v :: S) h kc ks) : Wp d mc ms sc μ Q pc L S h kc ks :=
  wp_stk (S' := .int v :: S) (fun _ q => vk_i q) (fun hx hb ho ht _ w => lv_ldcw hx hb ho (ht _ hw) hd w) k
theorem wp_ldc2 {i : Nat} {v : Int64} (hd : decode μ.2.1 pc = .ok (.ldc2_w i, 3)) (hw : Cond.constantLong μ.1.cls i v ∈ gt) (k : Wp d mc ms sc μ Q (pc + 3) L (.long v :: S) h kc ks) : Wp d mc ms sc μ Q pc L S h kc ks :=
  wp_stk (S' := .long v :: S) (fun _ q => vk_l q) (fun hx hb ho ht _ w => lv_ldc2 hx hb ho (ht _ hw) hd w) k
-- loads
theorem vL_c {n i : Nat} {v : Value} {L : List (Option Value)} (hi : L[i]? = some (some v)) (hL : ∀ w, some w ∈ L → vok n w) : vok n v := hL v (List.mem_of_getElem? hi)
/-- a row that puts a local on the stack -/
theorem wp_ld {pc' i : Nat} {v : Value} (hi : L[i]? = some (some v))
    (hrow : ∀ {p : Program} {l : Launch} {e : Env} {R : Room} {s : State} {m : MethodId} {args : Array Value} {below : List Frame} {meth : Method} {c : Code} {H : Heap} {locs : List Loc} {kc ks : Nat} {Qt : State → Prop} {ls : Array Slot} {ad : Nat → Nat},
      p.tables.exec = Jvm.exec → c.code = μ.2.1 → ls[i]? = some (.val (cv ad v)) →
      W p l e R s m args below meth c H locs kc ks Qt (F0 m pc' ls (cv ad v :: S.map (cv ad))) → W p l e R s m args below meth c H locs kc ks Qt (F0 m pc ls (S.map (cv ad))))
    (k : Wp d mc ms sc μ Q pc' L (v :: S) h kc ks) : Wp d mc ms sc μ Q pc L S h kc ks := by
  intro p l e R s m args below meth c dC dI dA A n0 ad0 Qt C hEx ad H locs ls hs hl hL hS
  exact hrow C.1 C.2.1 (loc_at hl hi) (k p l e R s m args below meth c dC dI dA A n0 ad0 Qt C hEx ad H locs ls hs hl hL (vk_c (vL_c hi hL) hS))
theorem wp_iload_n {i : Fin 4} {x : Int32} (hd : decode μ.2.1 pc = .ok (.iload_n i, 1)) (hi : L[(i : Nat)]? = some (some (.int x))) (k : Wp d mc ms sc μ Q (pc + 1) L (.int x :: S) h kc ks) : Wp d mc ms sc μ Q pc L S h kc ks :=
  wp_ld hi (fun hx hb hl w => lv_iload_n hx hb hd rfl hl w) k
theorem wp_iload {i : Nat} {x : Int32} (hd : decode μ.2.1 pc = .ok (.iload i, 2)) (hi : L[i]? = some (some (.int x))) (k : Wp d mc ms sc μ Q (pc + 2) L (.int x :: S) h kc ks) : Wp d mc ms sc μ Q pc L S h kc ks :=
  wp_ld hi (fun hx hb hl w => lv_iload hx hb hd hl w) k
theorem wp_lload_n {i : Fin 4} {x : Int64} (hd : decode μ.2.1 pc = .ok (.lload_n i, 1)) (hi : L[(i : Nat)]? = some (some (.long x))) (k : Wp d mc ms sc μ Q (pc + 1) L (.long x :: S) h kc ks) : Wp d mc ms sc μ Q pc L S h kc ks :=
  wp_ld hi (fun hx hb hl w => lv_lload_n hx hb hd rfl hl w) k
theorem wp_lload {i : Nat} {x : Int64} (hd : decode μ.2.1 pc = .ok (.lload i, 2)) (hi : L[i]? = some (some (.long x))) (k : Wp d mc ms sc μ Q (pc + 2) L (.long x :: S) h kc ks) : Wp d mc ms sc μ Q pc L S h kc ks :=
  wp_ld hi (fun hx hb hl w => lv_lload hx hb hd hl w) k
theorem wp_aload_n {i : Fin 4} {a : Nat} (hd : decode μ.2.1 pc = .ok (.aload_n i, 1)) (hi : L[(i : Nat)]? = some (some (.ref a))) (k : Wp d mc ms sc μ Q (pc + 1) L (.ref a :: S) h kc ks) : Wp d mc ms sc μ Q pc L S h kc ks :=
  wp_ld hi (fun hx hb hl w => lv_aload_n hx hb hd rfl hl w) k
theorem wp_aload {i a : Nat} (hd : decode μ.2.1 pc = .ok (.aload i, 2)) (hi : L[i]? = some (some (.ref a))) (k : Wp d mc ms sc μ Q (pc + 2) L (.ref a :: S) h kc ks) : Wp d mc ms sc μ Q pc L S h kc ks :=
  wp_ld hi (fun hx hb hl w => lv_aload hx hb hd hl w) k
theorem wp_aload_nN {i : Fin 4} (hd : decode μ.2.1 pc = .ok (.aload_n i, 1)) (hi : L[(i : Nat)]? = some (some .null)) (k : Wp d mc ms sc μ Q (pc + 1) L (.null :: S) h kc ks) : Wp d mc ms sc μ Q pc L S h kc ks :=
  wp_ld hi (fun hx hb hl w => lv_aload_nN hx hb hd rfl hl w) k

theorem wp_iadd {x y : Int32} (hd : decode μ.2.1 pc = .ok (.iadd, 1)) (k : Wp d mc ms sc μ Q (pc + 1) L (.int (x + y) :: S) h kc ks) : Wp d mc ms sc μ Q pc L (.int y :: .int x :: S) h kc ks :=
  wp_stk (S := .int y :: .int x :: S) (S' := .int (x + y) :: S) (fun _ q => vk_i (vk_t (vk_t q))) (fun hx hb _ _ _ w => lv_iadd hx hb hd w) k
theorem wp_isub {x y : Int32} (hd : decode μ.2.1 pc = .ok (.isub, 1)) (k : Wp d mc ms sc μ Q (pc + 1) L (.int (x - y) :: S) h kc ks) : Wp d mc ms sc μ Q pc L (.int y :: .int x :: S) h kc ks :=
  wp_stk (S := .int y :: .int x :: S) (S' := .int (x - y) :: S) (fun _ q => vk_i (vk_t (vk_t q))) (fun hx hb _ _ _ w => lv_isub hx hb hd w) k
theorem wp_imul {x y : Int32} (hd : decode μ.2.1 pc = .ok (.imul, 1)) (k : Wp d mc ms sc μ Q (pc + 1) L (.int (x * y) :: S) h kc ks) : Wp d mc ms sc μ Q pc L (.int y :: .int x :: S) h kc ks :=
  wp_stk (S := .int y :: .int x :: S) (S' := .int (x * y) :: S) (fun _ q => vk_i (vk_t (vk_t q))) (fun hx hb _ _ _ w => lv_imul hx hb hd w) k
theorem wp_iand {x y : Int32} (hd : decode μ.2.1 pc = .ok (.iand, 1)) (k : Wp d mc ms sc μ Q (pc + 1) L (.int (x &&& y) :: S) h kc ks) : Wp d mc ms sc μ Q pc L (.int y :: .int x :: S) h kc ks :=
  wp_stk (S := .int y :: .int x :: S) (S' := .int (x &&& y) :: S) (fun _ q => vk_i (vk_t (vk_t q))) (fun hx hb _ _ _ w => lv_iand hx hb hd w) k
theorem wp_ior {x y : Int32} (hd : decode μ.2.1 pc = .ok (.ior, 1)) (k : Wp d mc ms sc μ Q (pc + 1) L (.int (x ||| y) :: S) h kc ks) : Wp d mc ms sc μ Q pc L (.int y :: .int x :: S) h kc ks :=
  wp_stk (S := .int y :: .int x :: S) (S' := .int (x ||| y) :: S) (fun _ q => vk_i (vk_t (vk_t q))) (fun hx hb _ _ _ w => lv_ior hx hb hd w) k
theorem wp_ishl {x y : Int32} (hd : decode μ.2.1 pc = .ok (.ishl, 1)) (k : Wp d mc ms sc μ Q (pc + 1) L (.int (x <<< (y &&& 31)) :: S) h kc ks) : Wp d mc ms sc μ Q pc L (.int y :: .int x :: S) h kc ks :=
  wp_stk (S := .int y :: .int x :: S) (S' := .int (x <<< (y &&& 31)) :: S) (fun _ q => vk_i (vk_t (vk_t q))) (fun hx hb _ _ _ w => lv_ishl hx hb hd w) k
theorem wp_ishr {x y : Int32} (hd : decode μ.2.1 pc = .ok (.ishr, 1)) (k : Wp d mc ms sc μ Q (pc + 1) L (.int (x >>> (y &&& 31)) :: S) h kc ks) : Wp d mc ms sc μ Q pc L (.int y :: .int x :: S) h kc ks :=
  wp_stk (S := .int y :: .int x :: S) (S' := .int (x >>> (y &&& 31)) :: S) (fun _ q => vk_i (vk_t (vk_t q))) (fun hx hb _ _ _ w => lv_ishr hx hb hd w) k
theorem wp_idiv {x y : Int32} (hd : decode μ.2.1 pc = .ok (.idiv, 1)) (hne : ¬ y = 0) (k : Wp d mc ms sc μ Q (pc + 1) L (.int (x / y) :: S) h kc ks) : Wp d mc ms sc μ Q pc L (.int y :: .int x :: S) h kc ks :=
  wp_stk (S := .int y :: .int x :: S) (S' := .int (x / y) :: S) (fun _ q => vk_i (vk_t (vk_t q))) (fun hx hb _ _ _ w => lv_idiv hx hb hd hne w) k
theorem wp_irem {x y : Int32} (hd : decode μ.2.1 pc = .ok (.irem, 1)) (hne : ¬ y = 0) (k : Wp d mc ms sc μ Q (pc + 1) L (.int (x - x / y * y) :: S) h kc ks) : Wp d mc ms sc μ Q pc L (.int y :: .int x :: S) h kc ks :=
  wp_stk (S := .int y :: .int x :: S) (S' := .int (x - x / y * y) :: S) (fun _ q => vk_i (vk_t (vk_t q))) (fun hx hb _ _ _ w => lv_irem hx hb hd hne w) k
theorem wp_ladd {x y : Int64} (hd : decode μ.2.1 pc = .ok (.ladd, 1)) (k : Wp d mc ms sc μ Q (pc + 1) L (.long (x + y) :: S) h kc ks) : Wp d mc ms sc μ Q pc L (.long y :: .long x :: S) h kc ks :=
  wp_stk (S := .long y :: .long x :: S) (S' := .long (x + y) :: S) (fun _ q => vk_l (vk_t (vk_t q))) (fun hx hb _ _ _ w => lv_ladd hx hb hd w) k
theorem wp_lmul {x y : Int64} (hd : decode μ.2.1 pc = .ok (.lmul, 1)) (k : Wp d mc ms sc μ Q (pc + 1) L (.long (x * y) :: S) h kc ks) : Wp d mc ms sc μ Q pc L (.long y :: .long x :: S) h kc ks :=
  wp_stk (S := .long y :: .long x :: S) (S' := .long (x * y) :: S) (fun _ q => vk_l (vk_t (vk_t q))) (fun hx hb _ _ _ w => lv_lmul hx hb hd w) k
theorem wp_lor {x y : Int64} (hd : decode μ.2.1 pc = .ok (.lor, 1)) (k : Wp d mc ms sc μ Q (pc + 1) L (.long (x ||| y) :: S) h kc ks) : Wp d mc ms sc μ Q pc L (.long y :: .long x :: S) h kc ks :=
  wp_stk (S := .long y :: .long x :: S) (S' := .long (x ||| y) :: S) (fun _ q => vk_l (vk_t (vk_t q))) (fun hx hb _ _ _ w => lv_lor hx hb hd w) k
theorem wp_ldiv {x y : Int64} (hd : decode μ.2.1 pc = .ok (.ldiv, 1)) (hne : ¬ y = 0) (k : Wp d mc ms sc μ Q (pc + 1) L (.long (x / y) :: S) h kc ks) : Wp d mc ms sc μ Q pc L (.long y :: .long x :: S) h kc ks :=
  wp_stk (S := .long y :: .long x :: S) (S' := .long (x / y) :: S) (fun _ q => vk_l (vk_t (vk_t q))) (fun hx hb _ _ _ w => lv_ldiv hx hb hd hne w) k
theorem wp_lrem {x y : Int64} (hd : decode μ.2.1 pc = .ok (.lrem, 1)) (hne : ¬ y = 0) (k : Wp d mc ms sc μ Q (pc + 1) L (.long (x - x / y * y) :: S) h kc ks) : Wp d mc ms sc μ Q pc L (.long y :: .long x :: S) h kc ks :=
  wp_stk (S := .long y :: .long x :: S) (S' := .long (x - x / y * y) :: S) (fun _ q => vk_l (vk_t (vk_t q))) (fun hx hb _ _ _ w => lv_lrem hx hb hd hne w) k
theorem wp_ineg {x : Int32} (hd : decode μ.2.1 pc = .ok (.ineg, 1)) (k : Wp d mc ms sc μ Q (pc + 1) L (.int (-x) :: S) h kc ks) : Wp d mc ms sc μ Q pc L (.int x :: S) h kc ks :=
  wp_stk (S := .int x :: S) (S' := .int (-x) :: S) (fun _ q => vk_i (vk_t q)) (fun hx hb _ _ _ w => lv_ineg hx hb hd w) k
theorem wp_i2l {x : Int32} (hd : decode μ.2.1 pc = .ok (.i2l, 1)) (k : Wp d mc ms sc μ Q (pc + 1) L (.long x.toInt64 :: S) h kc ks) : Wp d mc ms sc μ Q pc L (.int x :: S) h kc ks :=
  wp_stk (S := .int x :: S) (S' := .long x.toInt64 :: S) (fun _ q => vk_l (vk_t q)) (fun hx hb _ _ _ w => lv_i2l hx hb hd rfl w) k
theorem wp_l2i {x : Int64} (hd : decode μ.2.1 pc = .ok (.l2i, 1)) (k : Wp d mc ms sc μ Q (pc + 1) L (.int x.toInt32 :: S) h kc ks) : Wp d mc ms sc μ Q pc L (.long x :: S) h kc ks :=
  wp_stk (S := .long x :: S) (S' := .int x.toInt32 :: S) (fun _ q => vk_i (vk_t q)) (fun hx hb _ _ _ w => lv_l2i hx hb hd rfl w) k
theorem wp_i2b {x : Int32} (hd : decode μ.2.1 pc = .ok (.i2b, 1)) (k : Wp d mc ms sc μ Q (pc + 1) L (.int x.toInt8.toInt32 :: S) h kc ks) : Wp d mc ms sc μ Q pc L (.int x :: S) h kc ks :=
  wp_stk (S := .int x :: S) (S' := .int x.toInt8.toInt32 :: S) (fun _ q => vk_i (vk_t q)) (fun hx hb _ _ _ w => lv_i2b hx hb hd rfl w) k
theorem wp_i2s {x : Int32} (hd : decode μ.2.1 pc = .ok (.i2s, 1)) (k : Wp d mc ms sc μ Q (pc + 1) L (.int x.toInt16.toInt32 :: S) h kc ks) : Wp d mc ms sc μ Q pc L (.int x :: S) h kc ks :=
  wp_stk (S := .int x :: S) (S' := .int x.toInt16.toInt32 :: S) (fun _ q => vk_i (vk_t q)) (fun hx hb _ _ _ w => lv_i2s hx hb hd rfl w) k
theorem wp_i2c {x : Int32} (hd : decode μ.2.1 pc = .ok (.i2c, 1)) (k : Wp d mc ms sc μ Q (pc + 1) L (.int (x.toUInt32 % 65536).toInt32 :: S) h kc ks) : Wp d mc ms sc μ Q pc L (.int x :: S) h kc ks :=
  wp_stk (S := .int x :: S) (S' := .int (x.toUInt32 % 65536).toInt32 :: S) (fun _ q => vk_i (vk_t q)) (fun hx hb _ _ _ w => lv_i2c hx hb hd rfl w) k
theorem wp_lshl {x : Int64} {y : Int32} (hd : decode μ.2.1 pc = .ok (.lshl, 1)) (k : Wp d mc ms sc μ Q (pc + 1) L (.long (x <<< (y.toInt64 &&& 63)) :: S) h kc ks) : Wp d mc ms sc μ Q pc L (.int y :: .long x :: S) h kc ks :=
  wp_stk (S := .int y :: .long x :: S) (S' := .long (x <<< (y.toInt64 &&& 63)) :: S) (fun _ q => vk_l (vk_t (vk_t q))) (fun hx hb _ _ _ w => lv_lshl hx hb hd rfl w) k
theorem wp_lcmp {x y : Int64} (hd : decode μ.2.1 pc = .ok (.lcmp, 1)) (k : Wp d mc ms sc μ Q (pc + 1) L (.int (lg_cmp x y) :: S) h kc ks) : Wp d mc ms sc μ Q pc L (.long y :: .long x :: S) h kc ks :=
  wp_stk (S := .long y :: .long x :: S) (S' := .int (lg_cmp x y) :: S) (fun _ q => vk_i (vk_t (vk_t q))) (fun hx hb _ _ _ w => W.lcmp hx hb hd w) k
theorem wp_dup {v : Value} (hd : decode μ.2.1 pc = .ok (.dup, 1)) (hc : v.category = 1) (k : Wp d mc ms sc μ Q (pc + 1) L (v :: v :: S) h kc ks) : Wp d mc ms sc μ Q pc L (v :: S) h kc ks :=
  wp_stk (S := v :: S) (S' := v :: v :: S) (fun _ q => vk_c (vk_h q) q) (fun hx hb _ _ _ w => lv_dup hx hb hd ((cv_cat _ v).trans hc) w) k
theorem wp_pop {v : Value} (hd : decode μ.2.1 pc = .ok (.pop, 1)) (hc : v.category = 1) (k : Wp d mc ms sc μ Q (pc + 1) L S h kc ks) : Wp d mc ms sc μ Q pc L (v :: S) h kc ks :=
  wp_stk (S := v :: S) (S' := S) (fun _ q => vk_t q) (fun hx hb _ _ _ w => lv_pop hx hb hd ((cv_cat _ v).trans hc) w) k
theorem wp_goto {off : Int} {tgt : Nat} (hd : decode μ.2.1 pc = .ok (.goto off, 3)) (ht : (pc : Int) + off = (tgt : Int)) (k : Wp d mc ms sc μ Q tgt L S h kc ks) : Wp d mc ms sc μ Q pc L S h kc ks :=
  wp_stk (fun _ q => q) (fun hx hb _ _ _ w => lv_goto hx hb hd ht w) k
theorem wp_ifnonnull {a : Nat} {off : Int} {tgt : Nat} (hd : decode μ.2.1 pc = .ok (.ifnonnull off, 3)) (ht : (pc : Int) + off = (tgt : Int)) (k : Wp d mc ms sc μ Q tgt L S h kc ks) : Wp d mc ms sc μ Q pc L (.ref a :: S) h kc ks :=
  wp_stk (S := .ref a :: S) (S' := S) (fun _ q => vk_t q) (fun hx hb _ _ _ w => lv_ifnonnull hx hb hd ht w) k
theorem wp_ifnonnullN {off : Int} (hd : decode μ.2.1 pc = .ok (.ifnonnull off, 3)) (k : Wp d mc ms sc μ Q (pc + 3) L S h kc ks) : Wp d mc ms sc μ Q pc L (.null :: S) h kc ks :=
  wp_stk (S := .null :: S) (S' := S) (fun _ q => vk_t q) (fun hx hb _ _ _ w => lv_ifnonnullN hx hb hd w) k
theorem wp_ifnull {a : Nat} {off : Int} (hd : decode μ.2.1 pc = .ok (.ifnull off, 3)) (k : Wp d mc ms sc μ Q (pc + 3) L S h kc ks) : Wp d mc ms sc μ Q pc L (.ref a :: S) h kc ks :=
  wp_stk (S := .ref a :: S) (S' := S) (fun _ q => vk_t q) (fun hx hb _ _ _ w => lv_ifnull hx hb hd w) k
theorem wp_ifnullN {off : Int} {tgt : Nat} (hd : decode μ.2.1 pc = .ok (.ifnull off, 3)) (ht : (pc : Int) + off = (tgt : Int)) (k : Wp d mc ms sc μ Q tgt L S h kc ks) : Wp d mc ms sc μ Q pc L (.null :: S) h kc ks :=
  wp_stk (S := .null :: S) (S' := S) (fun _ q => vk_t q) (fun hx hb _ _ _ w => lv_ifnullN hx hb hd ht w) k
theorem wp_tableOut {dflt lo hi : Int} {offs : Array Int} {len : Nat} {x : Int32} {tgt : Nat} (hd : decode μ.2.1 pc = .ok (.tableswitch dflt lo hi offs, len)) (hx : x.toInt < lo ∨ hi < x.toInt) (ht : (pc : Int) + dflt = (tgt : Int)) (k : Wp d mc ms sc μ Q tgt L S h kc ks) : Wp d mc ms sc μ Q pc L (.int x :: S) h kc ks :=
  wp_stk (S := .int x :: S) (S' := S) (fun _ q => vk_t q) (fun hx' hb _ _ _ w => lv_tableOut hx' hb hd hx ht w) k
theorem wp_tableIn {dflt lo hi : Int} {offs : Array Int} {len : Nat} {x : Int32} {off : Int} {tgt : Nat} (hd : decode μ.2.1 pc = .ok (.tableswitch dflt lo hi offs, len)) (h1 : ¬ x.toInt < lo) (h2 : ¬ hi < x.toInt) (ho : offs[(x.toInt - lo).toNat]? = some off) (ht : (pc : Int) + off = (tgt : Int)) (k : Wp d mc ms sc μ Q tgt L S h kc ks) : Wp d mc ms sc μ Q pc L (.int x :: S) h kc ks :=
  wp_stk (S := .int x :: S) (S' := S) (fun _ q => vk_t q) (fun hx' hb _ _ _ w => lv_tableIn hx' hb hd h1 h2 ho ht w) k
theorem wp_lookup {dflt : Int} {ps : Array (Int × Int)} {len : Nat} {x : Int32} {off : Int} {tgt : Nat} (hd : decode μ.2.1 pc = .ok (.lookupswitch dflt ps, len)) (hp : (ps.toList.zip (ps.toList.drop 1)).all (fun (a, next) => a.1 < next.1) = true) (ho : Op.lookupswitch.offset ps.toList dflt x.toInt = off) (ht : (pc : Int) + off = (tgt : Int)) (k : Wp d mc ms sc μ Q tgt L S h kc ks) : Wp d mc ms sc μ Q pc L (.int x :: S) h kc ks :=
  wp_stk (S := .int x :: S) (S' := S) (fun _ q => vk_t q) (fun hx' hb _ _ _ w => lv_lookup hx' hb hd hp ho ht w) k
/-- a row that goes one of two ways -/
theorem wp_two {pct pcf : Nat} {S' : List Value} {CT CF : Prop} (hv : ∀ n, (∀ v ∈ S, vok n v) → ∀ v ∈ S', vok n v)
    (hrow : ∀ {p : Program} {l : Launch} {e : Env} {R : Room} {s : State} {m : MethodId} {args : Array Value} {below : List Frame} {meth : Method} {c : Code} {H : Heap} {locs : List Loc} {kc ks : Nat} {Qt : State → Prop} {ls : Array Slot} {ad : Nat → Nat},
      p.tables.exec = Jvm.exec → c.code = μ.2.1 → (CT → W p l e R s m args below meth c H locs kc ks Qt (F0 m pct ls (S'.map (cv ad)))) → (CF → W p l e R s m args below meth c H locs kc ks Qt (F0 m pcf ls (S'.map (cv ad)))) → W p l e R s m args below meth c H locs kc ks Qt (F0 m pc ls (S.map (cv ad))))
    (kt : CT → Wp d mc ms sc μ Q pct L S' h kc ks) (kf : CF → Wp d mc ms sc μ Q pcf L S' h kc ks) : Wp d mc ms sc μ Q pc L S h kc ks := by
  intro p l e R s m args below meth c dC dI dA A n0 ad0 Qt C hEx ad H locs ls hs hl hL hS
  exact hrow C.1 C.2.1 (fun q => kt q p l e R s m args below meth c dC dI dA A n0 ad0 Qt C hEx ad H locs ls hs hl hL (hv _ hS)) (fun q => kf q p l e R s m args below meth c dC dI dA A n0 ad0 Qt C hEx ad H locs ls hs hl hL (hv _ hS))
theorem wp_if_eq {x : Int32} {off : Int} {tgt : Nat} (hd : decode μ.2.1 pc = .ok (.ifCond .eq off, 3)) (ht : (pc : Int) + off = (tgt : Int)) (kt : x = 0 → Wp d mc ms sc μ Q tgt L S h kc ks) (kf : ¬ x = 0 → Wp d mc ms sc μ Q (pc + 3) L S h kc ks) : Wp d mc ms sc μ Q pc L (.int x :: S) h kc ks :=
  wp_two (S := .int x :: S) (S' := S) (fun _ q => vk_t q) (fun hx hb => lv_if_eq hx hb hd ht) kt kf
theorem wp_if_eq_t {x : Int32} {off : Int} {tgt : Nat} (hd : decode μ.2.1 pc = .ok (.ifCond .eq off, 3)) (ht : (pc : Int) + off = (tgt : Int)) (hc : x = 0) (k : Wp d mc ms sc μ Q tgt L S h kc ks) : Wp d mc ms sc μ Q pc L (.int x :: S) h kc ks :=
  wp_if_eq hd ht (fun _ => k) (fun z => by first | exact absurd hc z | exact absurd z hc)
theorem wp_if_eq_f {x : Int32} {off : Int} (tgt : Nat) (hd : decode μ.2.1 pc = .ok (.ifCond .eq off, 3)) (ht : (pc : Int) + off = (tgt : Int)) (hc : ¬ x = 0) (k : Wp d mc ms sc μ Q (pc + 3) L S h kc ks) : Wp d mc ms sc μ Q pc L (.int x :: S) h kc ks :=
  wp_if_eq hd ht (fun z => by first | exact absurd hc z | exact absurd z hc) (fun _ => k)
theorem wp_icmp_eq {x y : Int32} {off : Int} {tgt : Nat} (hd : decode μ.2.1 pc = .ok (.if_icmp .eq off, 3)) (ht : (pc : Int) + off = (tgt : Int)) (kt : x = y → Wp d mc ms sc μ Q tgt L S h kc ks) (kf : ¬ x = y → Wp d mc ms sc μ Q (pc + 3) L S h kc ks) : Wp d mc ms sc μ Q pc L (.int y :: .int x :: S) h kc ks :=
  wp_two (S := .int y :: .int x :: S) (S' := S) (fun _ q => vk_t (vk_t q)) (fun hx hb => lv_icmp_eq hx hb hd ht) kt kf
theorem wp_icmp_eq_t {x y : Int32} {off : Int} {tgt : Nat} (hd : decode μ.2.1 pc = .ok (.if_icmp .eq off, 3)) (ht : (pc : Int) + off = (tgt : Int)) (hc : x = y) (k : Wp d mc ms sc μ Q tgt L S h kc ks) : Wp d mc ms sc μ Q pc L (.int y :: .int x :: S) h kc ks :=
  wp_icmp_eq hd ht (fun _ => k) (fun z => by first | exact absurd hc z | exact absurd z hc)
theorem wp_icmp_eq_f {x y : Int32} {off : Int} (tgt : Nat) (hd : decode μ.2.1 pc = .ok (.if_icmp .eq off, 3)) (ht : (pc : Int) + off = (tgt : Int)) (hc : ¬ x = y) (k : Wp d mc ms sc μ Q (pc + 3) L S h kc ks) : Wp d mc ms sc μ Q pc L (.int y :: .int x :: S) h kc ks :=
  wp_icmp_eq hd ht (fun z => by first | exact absurd hc z | exact absurd z hc) (fun _ => k)
theorem wp_if_ne {x : Int32} {off : Int} {tgt : Nat} (hd : decode μ.2.1 pc = .ok (.ifCond .ne off, 3)) (ht : (pc : Int) + off = (tgt : Int)) (kt : ¬ x = 0 → Wp d mc ms sc μ Q tgt L S h kc ks) (kf : x = 0 → Wp d mc ms sc μ Q (pc + 3) L S h kc ks) : Wp d mc ms sc μ Q pc L (.int x :: S) h kc ks :=
  wp_two (S := .int x :: S) (S' := S) (fun _ q => vk_t q) (fun hx hb => lv_if_ne hx hb hd ht) kt kf
theorem wp_if_ne_t {x : Int32} {off : Int} {tgt : Nat} (hd : decode μ.2.1 pc = .ok (.ifCond .ne off, 3)) (ht : (pc : Int) + off = (tgt : Int)) (hc : ¬ x = 0) (k : Wp d mc ms sc μ Q tgt L S h kc ks) : Wp d mc ms sc μ Q pc L (.int x :: S) h kc ks :=
  wp_if_ne hd ht (fun _ => k) (fun z => by first | exact absurd hc z | exact absurd z hc)
theorem wp_if_ne_f {x : Int32} {off : Int} (tgt : Nat) (hd : decode μ.2.1 pc = .ok (.ifCond .ne off, 3)) (ht : (pc : Int) + off = (tgt : Int)) (hc : x = 0) (k : Wp d mc ms sc μ Q (pc + 3) L S h kc ks) : Wp d mc ms sc μ Q pc L (.int x :: S) h kc ks :=
  wp_if_ne hd ht (fun z => by first | exact absurd hc z | exact absurd z hc) (fun _ => k)
theorem wp_icmp_ne {x y : Int32} {off : Int} {tgt : Nat} (hd : decode μ.2.1 pc = .ok (.if_icmp .ne off, 3)) (ht : (pc : Int) + off = (tgt : Int)) (kt : ¬ x = y → Wp d mc ms sc μ Q tgt L S h kc ks) (kf : x = y → Wp d mc ms sc μ Q (pc + 3) L S h kc ks) : Wp d mc ms sc μ Q pc L (.int y :: .int x :: S) h kc ks :=
  wp_two (S := .int y :: .int x :: S) (S' := S) (fun _ q => vk_t (vk_t q)) (fun hx hb => lv_icmp_ne hx hb hd ht) kt kf
theorem wp_icmp_ne_t {x y : Int32} {off : Int} {tgt : Nat} (hd : decode μ.2.1 pc = .ok (.if_icmp .ne off, 3)) (ht : (pc : Int) + off = (tgt : Int)) (hc : ¬ x = y) (k : Wp d mc ms sc μ Q tgt L S h kc ks) : Wp d mc ms sc μ Q pc L (.int y :: .int x :: S) h kc ks :=
  wp_icmp_ne hd ht (fun _ => k) (fun z => by first | exact absurd hc z | exact absurd z hc)
theorem wp_icmp_ne_f {x y : Int32} {off : Int} (tgt : Nat) (hd : decode μ.2.1 pc = .ok (.if_icmp .ne off, 3)) (ht : (pc : Int) + off = (tgt : Int)) (hc : x = y) (k : Wp d mc ms sc μ Q (pc + 3) L S h kc ks) : Wp d mc ms sc μ Q pc L (.int y :: .int x :: S) h kc ks :=
  wp_icmp_ne hd ht (fun z => by first | exact absurd hc z | exact absurd z hc) (fun _ => k)
theorem wp_if_lt {x : Int32} {off : Int} {tgt : Nat} (hd : decode μ.2.1 pc = .ok (.ifCond .lt off, 3)) (ht : (pc : Int) + off = (tgt : Int)) (kt : x < 0 → Wp d mc ms sc μ Q tgt L S h kc ks) (kf : ¬ x < 0 → Wp d mc ms sc μ Q (pc + 3) L S h kc ks) : Wp d mc ms sc μ Q pc L (.int x :: S) h kc ks :=
  wp_two (S := .int x :: S) (S' := S) (fun _ q => vk_t q) (fun hx hb => lv_if_lt hx hb hd ht) kt kf
theorem wp_if_lt_t {x : Int32} {off : Int} {tgt : Nat} (hd : decode μ.2.1 pc = .ok (.ifCond .lt off, 3)) (ht : (pc : Int) + off = (tgt : Int)) (hc : x < 0) (k : Wp d mc ms sc μ Q tgt L S h kc ks) : Wp d mc ms sc μ Q pc L (.int x :: S) h kc ks :=
  wp_if_lt hd ht (fun _ => k) (fun z => by first | exact absurd hc z | exact absurd z hc)
theorem wp_if_lt_f {x : Int32} {off : Int} (tgt : Nat) (hd : decode μ.2.1 pc = .ok (.ifCond .lt off, 3)) (ht : (pc : Int) + off = (tgt : Int)) (hc : ¬ x < 0) (k : Wp d mc ms sc μ Q (pc + 3) L S h kc ks) : Wp d mc ms sc μ Q pc L (.int x :: S) h kc ks :=
  wp_if_lt hd ht (fun z => by first | exact absurd hc z | exact absurd z hc) (fun _ => k)
theorem wp_icmp_lt {x y : Int32} {off : Int} {tgt : Nat} (hd : decode μ.2.1 pc = .ok (.if_icmp .lt off, 3)) (ht : (pc : Int) + off = (tgt : Int)) (kt : x < y → Wp d mc ms sc μ Q tgt L S h kc ks) (kf : ¬ x < y → Wp d mc ms sc μ Q (pc + 3) L S h kc ks) : Wp d mc ms sc μ Q pc L (.int y :: .int x :: S) h kc ks :=
  wp_two (S := .int y :: .int x :: S) (S' := S) (fun _ q => vk_t (vk_t q)) (fun hx hb => lv_icmp_lt hx hb hd ht) kt kf
theorem wp_icmp_lt_t {x y : Int32} {off : Int} {tgt : Nat} (hd : decode μ.2.1 pc = .ok (.if_icmp .lt off, 3)) (ht : (pc : Int) + off = (tgt : Int)) (hc : x < y) (k : Wp d mc ms sc μ Q tgt L S h kc ks) : Wp d mc ms sc μ Q pc L (.int y :: .int x :: S) h kc ks :=
  wp_icmp_lt hd ht (fun _ => k) (fun z => by first | exact absurd hc z | exact absurd z hc)
theorem wp_icmp_lt_f {x y : Int32} {off : Int} (tgt : Nat) (hd : decode μ.2.1 pc = .ok (.if_icmp .lt off, 3)) (ht : (pc : Int) + off = (tgt : Int)) (hc : ¬ x < y) (k : Wp d mc ms sc μ Q (pc + 3) L S h kc ks) : Wp d mc ms sc μ Q pc L (.int y :: .int x :: S) h kc ks :=
  wp_icmp_lt hd ht (fun z => by first | exact absurd hc z | exact absurd z hc) (fun _ => k)
theorem wp_if_ge {x : Int32} {off : Int} {tgt : Nat} (hd : decode μ.2.1 pc = .ok (.ifCond .ge off, 3)) (ht : (pc : Int) + off = (tgt : Int)) (kt : 0 ≤ x → Wp d mc ms sc μ Q tgt L S h kc ks) (kf : ¬ 0 ≤ x → Wp d mc ms sc μ Q (pc + 3) L S h kc ks) : Wp d mc ms sc μ Q pc L (.int x :: S) h kc ks :=
  wp_two (S := .int x :: S) (S' := S) (fun _ q => vk_t q) (fun hx hb => lv_if_ge hx hb hd ht) kt kf
theorem wp_if_ge_t {x : Int32} {off : Int} {tgt : Nat} (hd : decode μ.2.1 pc = .ok (.ifCond .ge off, 3)) (ht : (pc : Int) + off = (tgt : Int)) (hc : 0 ≤ x) (k : Wp d mc ms sc μ Q tgt L S h kc ks) : Wp d mc ms sc μ Q pc L (.int x :: S) h kc ks :=
  wp_if_ge hd ht (fun _ => k) (fun z => by first | exact absurd hc z | exact absurd z hc)
theorem wp_if_ge_f {x : Int32} {off : Int} (tgt : Nat) (hd : decode μ.2.1 pc = .ok (.ifCond .ge off, 3)) (ht : (pc : Int) + off = (tgt : Int)) (hc : ¬ 0 ≤ x) (k : Wp d mc ms sc μ Q (pc + 3) L S h kc ks) : Wp d mc ms sc μ Q pc L (.int x :: S) h kc ks :=
  wp_if_ge hd ht (fun z => by first | exact absurd hc z | exact absurd z hc) (fun _ => k)
theorem wp_icmp_ge {x y : Int32} {off : Int} {tgt : Nat} (hd : decode μ.2.1 pc = .ok (.if_icmp .ge off, 3)) (ht : (pc : Int) + off = (tgt : Int)) (kt : y ≤ x → Wp d mc ms sc μ Q tgt L S h kc ks) (kf : ¬ y ≤ x → Wp d mc ms sc μ Q (pc + 3) L S h kc ks) : Wp d mc ms sc μ Q pc L (.int y :: .int x :: S) h kc ks :=
  wp_two (S := .int y :: .int x :: S) (S' := S) (fun _ q => vk_t (vk_t q)) (fun hx hb => lv_icmp_ge hx hb hd ht) kt kf
theorem wp_icmp_ge_t {x y : Int32} {off : Int} {tgt : Nat} (hd : decode μ.2.1 pc = .ok (.if_icmp .ge off, 3)) (ht : (pc : Int) + off = (tgt : Int)) (hc : y ≤ x) (k : Wp d mc ms sc μ Q tgt L S h kc ks) : Wp d mc ms sc μ Q pc L (.int y :: .int x :: S) h kc ks :=
  wp_icmp_ge hd ht (fun _ => k) (fun z => by first | exact absurd hc z | exact absurd z hc)
theorem wp_icmp_ge_f {x y : Int32} {off : Int} (tgt : Nat) (hd : decode μ.2.1 pc = .ok (.if_icmp .ge off, 3)) (ht : (pc : Int) + off = (tgt : Int)) (hc : ¬ y ≤ x) (k : Wp d mc ms sc μ Q (pc + 3) L S h kc ks) : Wp d mc ms sc μ Q pc L (.int y :: .int x :: S) h kc ks :=
  wp_icmp_ge hd ht (fun z => by first | exact absurd hc z | exact absurd z hc) (fun _ => k)
theorem wp_if_gt {x : Int32} {off : Int} {tgt : Nat} (hd : decode μ.2.1 pc = .ok (.ifCond .gt off, 3)) (ht : (pc : Int) + off = (tgt : Int)) (kt : 0 < x → Wp d mc ms sc μ Q tgt L S h kc ks) (kf : ¬ 0 < x → Wp d mc ms sc μ Q (pc + 3) L S h kc ks) : Wp d mc ms sc μ Q pc L (.int x :: S) h kc ks :=
  wp_two (S := .int x :: S) (S' := S) (fun _ q => vk_t q) (fun hx hb => lv_if_gt hx hb hd ht) kt kf
theorem wp_if_gt_t {x : Int32} {off : Int} {tgt : Nat} (hd : decode μ.2.1 pc = .ok (.ifCond .gt off, 3)) (ht : (pc : Int) + off = (tgt : Int)) (hc : 0 < x) (k : Wp d mc ms sc μ Q tgt L S h kc ks) : Wp d mc ms sc μ Q pc L (.int x :: S) h kc ks :=
  wp_if_gt hd ht (fun _ => k) (fun z => by first | exact absurd hc z | exact absurd z hc)
theorem wp_if_gt_f {x : Int32} {off : Int} (tgt : Nat) (hd : decode μ.2.1 pc = .ok (.ifCond .gt off, 3)) (ht : (pc : Int) + off = (tgt : Int)) (hc : ¬ 0 < x) (k : Wp d mc ms sc μ Q (pc + 3) L S h kc ks) : Wp d mc ms sc μ Q pc L (.int x :: S) h kc ks :=
  wp_if_gt hd ht (fun z => by first | exact absurd hc z | exact absurd z hc) (fun _ => k)
theorem wp_icmp_gt {x y : Int32} {off : Int} {tgt : Nat} (hd : decode μ.2.1 pc = .ok (.if_icmp .gt off, 3)) (ht : (pc : Int) + off = (tgt : Int)) (kt : y < x → Wp d mc ms sc μ Q tgt L S h kc ks) (kf : ¬ y < x → Wp d mc ms sc μ Q (pc + 3) L S h kc ks) : Wp d mc ms sc μ Q pc L (.int y :: .int x :: S) h kc ks :=
  wp_two (S := .int y :: .int x :: S) (S' := S) (fun _ q => vk_t (vk_t q)) (fun hx hb => lv_icmp_gt hx hb hd ht) kt kf
theorem wp_icmp_gt_t {x y : Int32} {off : Int} {tgt : Nat} (hd : decode μ.2.1 pc = .ok (.if_icmp .gt off, 3)) (ht : (pc : Int) + off = (tgt : Int)) (hc : y < x) (k : Wp d mc ms sc μ Q tgt L S h kc ks) : Wp d mc ms sc μ Q pc L (.int y :: .int x :: S) h kc ks :=
  wp_icmp_gt hd ht (fun _ => k) (fun z => by first | exact absurd hc z | exact absurd z hc)
theorem wp_icmp_gt_f {x y : Int32} {off : Int} (tgt : Nat) (hd : decode μ.2.1 pc = .ok (.if_icmp .gt off, 3)) (ht : (pc : Int) + off = (tgt : Int)) (hc : ¬ y < x) (k : Wp d mc ms sc μ Q (pc + 3) L S h kc ks) : Wp d mc ms sc μ Q pc L (.int y :: .int x :: S) h kc ks :=
  wp_icmp_gt hd ht (fun z => by first | exact absurd hc z | exact absurd z hc) (fun _ => k)
theorem wp_if_le {x : Int32} {off : Int} {tgt : Nat} (hd : decode μ.2.1 pc = .ok (.ifCond .le off, 3)) (ht : (pc : Int) + off = (tgt : Int)) (kt : x ≤ 0 → Wp d mc ms sc μ Q tgt L S h kc ks) (kf : ¬ x ≤ 0 → Wp d mc ms sc μ Q (pc + 3) L S h kc ks) : Wp d mc ms sc μ Q pc L (.int x :: S) h kc ks :=
  wp_two (S := .int x :: S) (S' := S) (fun _ q => vk_t q) (fun hx hb => lv_if_le hx hb hd ht) kt kf
theorem wp_if_le_t {x : Int32} {off : Int} {tgt : Nat} (hd : decode μ.2.1 pc = .ok (.ifCond .le off, 3)) (ht : (pc : Int) + off = (tgt : Int)) (hc : x ≤ 0) (k : Wp d mc ms sc μ Q tgt L S h kc ks) : Wp d mc ms sc μ Q pc L (.int x :: S) h kc ks :=
  wp_if_le hd ht (fun _ => k) (fun z => by first | exact absurd hc z | exact absurd z hc)
theorem wp_if_le_f {x : Int32} {off : Int} (tgt : Nat) (hd : decode μ.2.1 pc = .ok (.ifCond .le off, 3)) (ht : (pc : Int) + off = (tgt : Int)) (hc : ¬ x ≤ 0) (k : Wp d mc ms sc μ Q (pc + 3) L S h kc ks) : Wp d mc ms sc μ Q pc L (.int x :: S) h kc ks :=
  wp_if_le hd ht (fun z => by first | exact absurd hc z | exact absurd z hc) (fun _ => k)
theorem wp_icmp_le {x y : Int32} {off : Int} {tgt : Nat} (hd : decode μ.2.1 pc = .ok (.if_icmp .le off, 3)) (ht : (pc : Int) + off = (tgt : Int)) (kt : x ≤ y → Wp d mc ms sc μ Q tgt L S h kc ks) (kf : ¬ x ≤ y → Wp d mc ms sc μ Q (pc + 3) L S h kc ks) : Wp d mc ms sc μ Q pc L (.int y :: .int x :: S) h kc ks :=
  wp_two (S := .int y :: .int x :: S) (S' := S) (fun _ q => vk_t (vk_t q)) (fun hx hb => lv_icmp_le hx hb hd ht) kt kf
theorem wp_icmp_le_t {x y : Int32} {off : Int} {tgt : Nat} (hd : decode μ.2.1 pc = .ok (.if_icmp .le off, 3)) (ht : (pc : Int) + off = (tgt : Int)) (hc : x ≤ y) (k : Wp d mc ms sc μ Q tgt L S h kc ks) : Wp d mc ms sc μ Q pc L (.int y :: .int x :: S) h kc ks :=
  wp_icmp_le hd ht (fun _ => k) (fun z => by first | exact absurd hc z | exact absurd z hc)
theorem wp_icmp_le_f {x y : Int32} {off : Int} (tgt : Nat) (hd : decode μ.2.1 pc = .ok (.if_icmp .le off, 3)) (ht : (pc : Int) + off = (tgt : Int)) (hc : ¬ x ≤ y) (k : Wp d mc ms sc μ Q (pc + 3) L S h kc ks) : Wp d mc ms sc μ Q pc L (.int y :: .int x :: S) h kc ks :=
  wp_icmp_le hd ht (fun z => by first | exact absurd hc z | exact absurd z hc) (fun _ => k)
-- stores, a slot each
def nl : Option Value → Bool
  | some (.long _) => false
  | some (.double _) => false
  | _ => true
theorem nl_cat {v : Value} (h : nl (some v) = true) : v.category = 1 := by cases v <;> first | rfl | cases h
theorem set_vok {i : Nat} {v : Value} {n : Nat} (hv : vok n v) (hL : ∀ w, some w ∈ L → vok n w) : ∀ w, some w ∈ L.set i (some v) → vok n w := by
  intro w hw
  rcases List.mem_or_eq_of_mem_set hw with q | q
  · exact hL w q
  · cases q; exact hv
theorem set_incl {ad : Nat → Nat} {i : Nat} {v : Value} (hn : ∀ w, L[i - 1]? = some w → 0 < i → nl w = true) : ∀ q ∈ locL ad (L.set i (some v)), q ∈ (i, cv ad v) :: (locL ad L).filter (fun q => !(q.1 == i) && !(q.1 + 1 == i && q.2.category == 2)) := by
  intro q hq
  obtain ⟨k, w, h1, rfl⟩ := locF_mem.mp hq
  rw [Nat.zero_add]
  by_cases hk : k = i
  · subst hk
    have hl : k < (L.set k (some v)).length := (List.getElem?_eq_some_iff.mp h1).1
    rw [List.getElem?_set_self (by simpa using hl)] at h1
    cases h1
    exact List.mem_cons_self
  · rw [List.getElem?_set_ne (Ne.symm hk)] at h1
    refine List.mem_cons_of_mem _ (List.mem_filter.mpr ⟨locF_mem.mpr ⟨k, w, h1, by rw [Nat.zero_add]⟩, ?_⟩)
    by_cases hk2 : k + 1 = i
    · have h3 := nl_cat (hn (some w) (by rw [← hk2]; exact h1) (by omega))
      simp [hk, cv_cat, h3]
    · simp [hk, hk2]
/-- a row that stores a value of one slot -/
theorem wp_st {pc' i : Nat} {v : Value} (hn : ∀ w, L[i - 1]? = some w → 0 < i → nl w = true) (hi : Nat.blt i μ.2.2.1 = true)
    (hrow : ∀ {p : Program} {l : Launch} {e : Env} {R : Room} {s : State} {m : MethodId} {args : Array Value} {below : List Frame} {meth : Method} {c : Code} {H : Heap} {locs : List Loc} {kc ks : Nat} {Qt : State → Prop} {ls : Array Slot} {ad : Nat → Nat},
      p.tables.exec = Jvm.exec → c.code = μ.2.1 → lv_has ls μ.2.2.1 (locL ad L) → i < μ.2.2.1 →
      (∀ ls', lv_has ls' μ.2.2.1 ((i, cv ad v) :: (locL ad L).filter (fun q => !(q.1 == i) && !(q.1 + 1 == i && q.2.category == 2))) → W p l e R s m args below meth c H locs kc ks Qt (F0 m pc' ls' (S.map (cv ad)))) → W p l e R s m args below meth c H locs kc ks Qt (F0 m pc ls (cv ad v :: S.map (cv ad))))
    (k : Wp d mc ms sc μ Q pc' (L.set i (some v)) S h kc ks) : Wp d mc ms sc μ Q pc L (v :: S) h kc ks :=
  wp_loc (S := v :: S) (L' := L.set i (some v)) (S' := S) (fun _ q => vk_t q) (fun _ q1 q2 => set_vok (vk_h q2) q1)
    (fun hx hb hl kk => hrow hx hb hl (by simpa using hi) (fun ls' hl' => kk ls' ⟨hl'.1, hl'.2.1, fun q hq => hl'.2.2 q (set_incl hn q hq)⟩)) k
theorem set_incl2 {ad : Nat → Nat} {i : Nat} {v : Value} (hn : ∀ w, L[i - 1]? = some w → 0 < i → nl w = true) : ∀ q ∈ locL ad ((L.set i (some v)).set (i + 1) none), q ∈ (i, cv ad v) :: (locL ad L).filter (fun q => !(q.1 == i) && (!(q.1 == i + 1) && !(q.1 + 1 == i && q.2.category == 2))) := by
  intro q hq
  obtain ⟨k, w, h1, rfl⟩ := locF_mem.mp hq
  rw [Nat.zero_add]
  have hk1 : k ≠ i + 1 := by
    intro e
    subst e
    have hl := (List.getElem?_eq_some_iff.mp h1).1
    rw [List.getElem?_set_self (by simpa using hl)] at h1
    cases h1
  rw [List.getElem?_set_ne (Ne.symm hk1)] at h1
  by_cases hk : k = i
  · subst hk
    have hl : k < (L.set k (some v)).length := (List.getElem?_eq_some_iff.mp h1).1
    rw [List.getElem?_set_self (by simpa using hl)] at h1
    cases h1
    exact List.mem_cons_self
  · rw [List.getElem?_set_ne (Ne.symm hk)] at h1
    refine List.mem_cons_of_mem _ (List.mem_filter.mpr ⟨locF_mem.mpr ⟨k, w, h1, by rw [Nat.zero_add]⟩, ?_⟩)
    by_cases hk2 : k + 1 = i
    · have h3 := nl_cat (hn (some w) (by rw [← hk2]; exact h1) (by omega))
      simp [hk, hk1, cv_cat, h3]
    · simp [hk, hk1, hk2]
theorem set_vokN {i : Nat} {n : Nat} (hL : ∀ w, some w ∈ L → vok n w) : ∀ w, some w ∈ L.set i none → vok n w := by
  intro w hw
  rcases List.mem_or_eq_of_mem_set hw with q | q
  · exact hL w q
  · cases q
/-- a row that stores a long -/
theorem wp_st2 {pc' i : Nat} {v : Value} (hn : ∀ w, L[i - 1]? = some w → 0 < i → nl w = true) (hi : Nat.blt (i + 1) μ.2.2.1 = true)
    (hrow : ∀ {p : Program} {l : Launch} {e : Env} {R : Room} {s : State} {m : MethodId} {args : Array Value} {below : List Frame} {meth : Method} {c : Code} {H : Heap} {locs : List Loc} {kc ks : Nat} {Qt : State → Prop} {ls : Array Slot} {ad : Nat → Nat},
      p.tables.exec = Jvm.exec → c.code = μ.2.1 → lv_has ls μ.2.2.1 (locL ad L) → i + 1 < μ.2.2.1 →
      (∀ ls', lv_has ls' μ.2.2.1 ((i, cv ad v) :: (locL ad L).filter (fun q => !(q.1 == i) && (!(q.1 == i + 1) && !(q.1 + 1 == i && q.2.category == 2)))) → W p l e R s m args below meth c H locs kc ks Qt (F0 m pc' ls' (S.map (cv ad)))) → W p l e R s m args below meth c H locs kc ks Qt (F0 m pc ls (cv ad v :: S.map (cv ad))))
    (k : Wp d mc ms sc μ Q pc' ((L.set i (some v)).set (i + 1) none) S h kc ks) : Wp d mc ms sc μ Q pc L (v :: S) h kc ks :=
  wp_loc (S := v :: S) (L' := (L.set i (some v)).set (i + 1) none) (S' := S) (fun _ q => vk_t q) (fun _ q1 q2 => set_vokN (set_vok (vk_h q2) q1))
    (fun hx hb hl kk => hrow hx hb hl (by simpa using hi) (fun ls' hl' => kk ls' ⟨hl'.1, hl'.2.1, fun q hq => hl'.2.2 q (set_incl2 hn q hq)⟩)) k
/-- an int local grows -/
theorem wp_inc {i : Nat} {n : Int} {x v : Int32} (hd : decode μ.2.1 pc = .ok (.iinc i n, 3)) (hL : L[i]? = some (some (.int x))) (hn : ∀ w, L[i - 1]? = some w → 0 < i → nl w = true) (hi : Nat.blt i μ.2.2.1 = true) (hv : x + Int32.ofInt n = v)
    (k : Wp d mc ms sc μ Q (pc + 3) (L.set i (some (.int v))) S h kc ks) : Wp d mc ms sc μ Q pc L S h kc ks :=
  wp_loc (L' := L.set i (some (.int v))) (fun _ q => q) (fun _ q1 q2 => set_vok (vok_int _ _) q1)
    (fun {p l e R s m args below meth c H locs kc ks Qt ls ad} hx hb hl kk => by
      obtain ⟨j, hj⟩ := List.getElem?_of_mem (locF_mem (ad := ad) (L := L) (i := 0) |>.mpr ⟨i, .int x, hL, rfl⟩)
      rw [Nat.zero_add] at hj
      exact lv_iinc hx hb hd hl (k := j) hj hv (by simpa using hi) rfl (fun ls' hl' => kk ls' ⟨hl'.1, hl'.2.1, fun q hq => hl'.2.2 q (set_incl (v := .int v) hn q hq)⟩)) k
/-- what is known of a local is forgotten -/
theorem wp_kill (i : Nat) (k : Wp d mc ms sc μ Q pc (L.set i none) S h kc ks) : Wp d mc ms sc μ Q pc L S h kc ks :=
  wp_loc (L' := L.set i none) (fun _ q => q) (fun _ q1 q2 => set_vokN q1)
    (fun hx hb hl kk => kk _ ⟨hl.1, hl.2.1, fun q hq => hl.2.2 q (by
      obtain ⟨k, w, h1, rfl⟩ := locF_mem.mp hq
      refine locF_mem.mpr ⟨k, w, ?_, rfl⟩
      by_cases hk : k = i
      · subst hk
        have hl := (List.getElem?_eq_some_iff.mp h1).1
        rw [List.getElem?_set_self (by simpa using hl)] at h1
        cases h1
      · rwa [List.getElem?_set_ne (Ne.symm hk)] at h1)⟩) k
end WPA

section WPB
variable {d mc ms : Nat} {sc : Nat × (Nat → Int32)} {μ : MI} {Q : Option Value → AH → Prop} {pc : Nat} {S : List Value} {h : AH} {kc ks : Nat}
variable {a0 a1 a2 a3 a4 a5 a6 a7 a8 a9 a10 a11 a12 a13 a14 : Option Value} {L : List (Option Value)}

theorem wp_istore_0 {x : Int32} (hd : decode μ.2.1 pc = .ok (.istore_n 0, 1)) (hi : Nat.blt 0 μ.2.2.1 = true) (k : Wp d mc ms sc μ Q (pc + 1) (some (.int x) :: L) S h kc ks) : Wp d mc ms sc μ Q pc (a0 :: L) (.int x :: S) h kc ks :=
  wp_st (L := a0 :: L) (i := 0) (v := .int x) (fun w e z => absurd z (by decide)) hi (fun hx hb hl hi kk => lv_istore_n hx hb hd rfl hl hi rfl kk) k
theorem wp_astore_0 {x : Nat} (hd : decode μ.2.1 pc = .ok (.astore_n 0, 1)) (hi : Nat.blt 0 μ.2.2.1 = true) (k : Wp d mc ms sc μ Q (pc + 1) (some (.ref x) :: L) S h kc ks) : Wp d mc ms sc μ Q pc (a0 :: L) (.ref x :: S) h kc ks :=
  wp_st (L := a0 :: L) (i := 0) (v := .ref x) (fun w e z => absurd z (by decide)) hi (fun hx hb hl hi kk => lv_astore_n hx hb hd rfl hl hi rfl kk) k
theorem wp_lstore_0 {x : Int64} (hd : decode μ.2.1 pc = .ok (.lstore_n 0, 1)) (hi : Nat.blt (0 + 1) μ.2.2.1 = true) (k : Wp d mc ms sc μ Q (pc + 1) (some (.long x) :: none :: L) S h kc ks) : Wp d mc ms sc μ Q pc (a0 :: a1 :: L) (.long x :: S) h kc ks :=
  wp_st2 (L := a0 :: a1 :: L) (i := 0) (v := .long x) (fun w e z => absurd z (by decide)) hi (fun hx hb hl hi kk => lv_lstore_n hx hb hd rfl hl hi rfl kk) k
theorem wp_iinc_0 {n : Int} {x v : Int32} (hd : decode μ.2.1 pc = .ok (.iinc 0 n, 3)) (hi : Nat.blt 0 μ.2.2.1 = true) (hv : x + Int32.ofInt n = v) (k : Wp d mc ms sc μ Q (pc + 3) (some (.int v) :: L) S h kc ks) : Wp d mc ms sc μ Q pc (some (.int x) :: L) S h kc ks :=
  wp_inc (L := some (.int x) :: L) (i := 0) hd rfl (fun w e z => absurd z (by decide)) hi hv k
theorem wp_kill_0 (k : Wp d mc ms sc μ Q pc (none :: L) S h kc ks) : Wp d mc ms sc μ Q pc (a0 :: L) S h kc ks := wp_kill (L := a0 :: L) 0 k
theorem wp_istore_1 {x : Int32} (hd : decode μ.2.1 pc = .ok (.istore_n 1, 1)) (hn : nl a0 = true) (hi : Nat.blt 1 μ.2.2.1 = true) (k : Wp d mc ms sc μ Q (pc + 1) (a0 :: some (.int x) :: L) S h kc ks) : Wp d mc ms sc μ Q pc (a0 :: a1 :: L) (.int x :: S) h kc ks :=
  wp_st (L := a0 :: a1 :: L) (i := 1) (v := .int x) (fun w e z => by first | (cases e; exact hn) | exact absurd z (by decide)) hi (fun hx hb hl hi kk => lv_istore_n hx hb hd rfl hl hi rfl kk) k
theorem wp_astore_1 {x : Nat} (hd : decode μ.2.1 pc = .ok (.astore_n 1, 1)) (hn : nl a0 = true) (hi : Nat.blt 1 μ.2.2.1 = true) (k : Wp d mc ms sc μ Q (pc + 1) (a0 :: some (.ref x) :: L) S h kc ks) : Wp d mc ms sc μ Q pc (a0 :: a1 :: L) (.ref x :: S) h kc ks :=
  wp_st (L := a0 :: a1 :: L) (i := 1) (v := .ref x) (fun w e z => by first | (cases e; exact hn) | exact absurd z (by decide)) hi (fun hx hb hl hi kk => lv_astore_n hx hb hd rfl hl hi rfl kk) k
theorem wp_lstore_1 {x : Int64} (hd : decode μ.2.1 pc = .ok (.lstore_n 1, 1)) (hn : nl a0 = true) (hi : Nat.blt (1 + 1) μ.2.2.1 = true) (k : Wp d mc ms sc μ Q (pc + 1) (a0 :: some (.long x) :: none :: L) S h kc ks) : Wp d mc ms sc μ Q pc (a0 :: a1 :: a2 :: L) (.long x :: S) h kc ks :=
  wp_st2 (L := a0 :: a1 :: a2 :: L) (i := 1) (v := .long x) (fun w e z => by first | (cases e; exact hn) | exact absurd z (by decide)) hi (fun hx hb hl hi kk => lv_lstore_n hx hb hd rfl hl hi rfl kk) k
theorem wp_iinc_1 {n : Int} {x v : Int32} (hd : decode μ.2.1 pc = .ok (.iinc 1 n, 3)) (hn : nl a0 = true) (hi : Nat.blt 1 μ.2.2.1 = true) (hv : x + Int32.ofInt n = v) (k : Wp d mc ms sc μ Q (pc + 3) (a0 :: some (.int v) :: L) S h kc ks) : Wp d mc ms sc μ Q pc (a0 :: some (.int x) :: L) S h kc ks :=
  wp_inc (L := a0 :: some (.int x) :: L) (i := 1) hd rfl (fun w e z => by first | (cases e; exact hn) | exact absurd z (by decide)) hi hv k
theorem wp_kill_1 (k : Wp d mc ms sc μ Q pc (a0 :: none :: L) S h kc ks) : Wp d mc ms sc μ Q pc (a0 :: a1 :: L) S h kc ks := wp_kill (L := a0 :: a1 :: L) 1 k
theorem wp_istore_2 {x : Int32} (hd : decode μ.2.1 pc = .ok (.istore_n 2, 1)) (hn : nl a1 = true) (hi : Nat.blt 2 μ.2.2.1 = true) (k : Wp d mc ms sc μ Q (pc + 1) (a0 :: a1 :: some (.int x) :: L) S h kc ks) : Wp d mc ms sc μ Q pc (a0 :: a1 :: a2 :: L) (.int x :: S) h kc ks :=
  wp_st (L := a0 :: a1 :: a2 :: L) (i := 2) (v := .int x) (fun w e z => by first | (cases e; exact hn) | exact absurd z (by decide)) hi (fun hx hb hl hi kk => lv_istore_n hx hb hd rfl hl hi rfl kk) k
theorem wp_astore_2 {x : Nat} (hd : decode μ.2.1 pc = .ok (.astore_n 2, 1)) (hn : nl a1 = true) (hi : Nat.blt 2 μ.2.2.1 = true) (k : Wp d mc ms sc μ Q (pc + 1) (a0 :: a1 :: some (.ref x) :: L) S h kc ks) : Wp d mc ms sc μ Q pc (a0 :: a1 :: a2 :: L) (.ref x :: S) h kc ks :=
  wp_st (L := a0 :: a1 :: a2 :: L) (i := 2) (v := .ref x) (fun w e z => by first | (cases e; exact hn) | exact absurd z (by decide)) hi (fun hx hb hl hi kk => lv_astore_n hx hb hd rfl hl hi rfl kk) k
theorem wp_lstore_2 {x : Int64} (hd : decode μ.2.1 pc = .ok (.lstore_n 2, 1)) (hn : nl a1 = true) (hi : Nat.blt (2 + 1) μ.2.2.1 = true) (k : Wp d mc ms sc μ Q (pc + 1) (a0 :: a1 :: some (.long x) :: none :: L) S h kc ks) : Wp d mc ms sc μ Q pc (a0 :: a1 :: a2 :: a3 :: L) (.long x :: S) h kc ks :=
  wp_st2 (L := a0 :: a1 :: a2 :: a3 :: L) (i := 2) (v := .long x) (fun w e z => by first | (cases e; exact hn) | exact absurd z (by decide)) hi (fun hx hb hl hi kk => lv_lstore_n hx hb hd rfl hl hi rfl kk) k
theorem wp_iinc_2 {n : Int} {x v : Int32} (hd : decode μ.2.1 pc = .ok (.iinc 2 n, 3)) (hn : nl a1 = true) (hi : Nat.blt 2 μ.2.2.1 = true) (hv : x + Int32.ofInt n = v) (k : Wp d mc ms sc μ Q (pc + 3) (a0 :: a1 :: some (.int v) :: L) S h kc ks) : Wp d mc ms sc μ Q pc (a0 :: a1 :: some (.int x) :: L) S h kc ks :=
  wp_inc (L := a0 :: a1 :: some (.int x) :: L) (i := 2) hd rfl (fun w e z => by first | (cases e; exact hn) | exact absurd z (by decide)) hi hv k
theorem wp_kill_2 (k : Wp d mc ms sc μ Q pc (a0 :: a1 :: none :: L) S h kc ks) : Wp d mc ms sc μ Q pc (a0 :: a1 :: a2 :: L) S h kc ks := wp_kill (L := a0 :: a1 :: a2 :: L) 2 k
theorem wp_istore_3 {x : Int32} (hd : decode μ.2.1 pc = .ok (.istore_n 3, 1)) (hn : nl a2 = true) (hi : Nat.blt 3 μ.2.2.1 = true) (k : Wp d mc ms sc μ Q (pc + 1) (a0 :: a1 :: a2 :: some (.int x) :: L) S h kc ks) : Wp d mc ms sc μ Q pc (a0 :: a1 :: a2 :: a3 :: L) (.int x :: S) h kc ks :=
  wp_st (L := a0 :: a1 :: a2 :: a3 :: L) (i := 3) (v := .int x) (fun w e z => by first | (cases e; exact hn) | exact absurd z (by decide)) hi (fun hx hb hl hi kk => lv_istore_n hx hb hd rfl hl hi rfl kk) k
theorem wp_astore_3 {x : Nat} (hd : decode μ.2.1 pc = .ok (.astore_n 3, 1)) (hn : nl a2 = true) (hi : Nat.blt 3 μ.2.2.1 = true) (k : Wp d mc ms sc μ Q (pc + 1) (a0 :: a1 :: a2 :: some (.ref x) :: L) S h kc ks) : Wp d mc ms sc μ Q pc (a0 :: a1 :: a2 :: a3 :: L) (.ref x :: S) h kc ks :=
  wp_st (L := a0 :: a1 :: a2 :: a3 :: L) (i := 3) (v := .ref x) (fun w e z => by first | (cases e; exact hn) | exact absurd z (by decide)) hi (fun hx hb hl hi kk => lv_astore_n hx hb hd rfl hl hi rfl kk) k
theorem wp_lstore_3 {x : Int64} (hd : decode μ.2.1 pc = .ok (.lstore_n 3, 1)) (hn : nl a2 = true) (hi : Nat.blt (3 + 1) μ.2.2.1 = true) (k : Wp d mc ms sc μ Q (pc + 1) (a0 :: a1 :: a2 :: some (.long x) :: none :: L) S h kc ks) : Wp d mc ms sc μ Q pc (a0 :: a1 :: a2 :: a3 :: a4 :: L) (.long x :: S) h kc ks :=
  wp_st2 (L := a0 :: a1 :: a2 :: a3 :: a4 :: L) (i := 3) (v := .long x) (fun w e z => by first | (cases e; exact hn) | exact absurd z (by decide)) hi (fun hx hb hl hi kk => lv_lstore_n hx hb hd rfl hl hi rfl kk) k
theorem wp_iinc_3 {n : Int} {x v : Int32} (hd : decode μ.2.1 pc = .ok (.iinc 3 n, 3)) (hn : nl a2 = true) (hi : Nat.blt 3 μ.2.2.1 = true) (hv : x + Int32.ofInt n = v) (k : Wp d mc ms sc μ Q (pc + 3) (a0 :: a1 :: a2 :: some (.int v) :: L) S h kc ks) : Wp d mc ms sc μ Q pc (a0 :: a1 :: a2 :: some (.int x) :: L) S h kc ks :=
  wp_inc (L := a0 :: a1 :: a2 :: some (.int x) :: L) (i := 3) hd rfl (fun w e z => by first | (cases e; exact hn) | exact absurd z (by decide)) hi hv k
theorem wp_kill_3 (k : Wp d mc ms sc μ Q pc (a0 :: a1 :: a2 :: none :: L) S h kc ks) : Wp d mc ms sc μ Q pc (a0 :: a1 :: a2 :: a3 :: L) S h kc ks := wp_kill (L := a0 :: a1 :: a2 :: a3 :: L) 3 k
theorem wp_istore_4 {x : Int32} (hd : decode μ.2.1 pc = .ok (.istore 4, 2)) (hn : nl a3 = true) (hi : Nat.blt 4 μ.2.2.1 = true) (k : Wp d mc ms sc μ Q (pc + 2) (a0 :: a1 :: a2 :: a3 :: some (.int x) :: L) S h kc ks) : Wp d mc ms sc μ Q pc (a0 :: a1 :: a2 :: a3 :: a4 :: L) (.int x :: S) h kc ks :=
  wp_st (L := a0 :: a1 :: a2 :: a3 :: a4 :: L) (i := 4) (v := .int x) (fun w e z => by first | (cases e; exact hn) | exact absurd z (by decide)) hi (fun hx hb hl hi kk => lv_istore hx hb hd hl hi rfl kk) k
theorem wp_astore_4 {x : Nat} (hd : decode μ.2.1 pc = .ok (.astore 4, 2)) (hn : nl a3 = true) (hi : Nat.blt 4 μ.2.2.1 = true) (k : Wp d mc ms sc μ Q (pc + 2) (a0 :: a1 :: a2 :: a3 :: some (.ref x) :: L) S h kc ks) : Wp d mc ms sc μ Q pc (a0 :: a1 :: a2 :: a3 :: a4 :: L) (.ref x :: S) h kc ks :=
  wp_st (L := a0 :: a1 :: a2 :: a3 :: a4 :: L) (i := 4) (v := .ref x) (fun w e z => by first | (cases e; exact hn) | exact absurd z (by decide)) hi (fun hx hb hl hi kk => lv_astore hx hb hd hl hi rfl kk) k
theorem wp_lstore_4 {x : Int64} (hd : decode μ.2.1 pc = .ok (.lstore 4, 2)) (hn : nl a3 = true) (hi : Nat.blt (4 + 1) μ.2.2.1 = true) (k : Wp d mc ms sc μ Q (pc + 2) (a0 :: a1 :: a2 :: a3 :: some (.long x) :: none :: L) S h kc ks) : Wp d mc ms sc μ Q pc (a0 :: a1 :: a2 :: a3 :: a4 :: a5 :: L) (.long x :: S) h kc ks :=
  wp_st2 (L := a0 :: a1 :: a2 :: a3 :: a4 :: a5 :: L) (i := 4) (v := .long x) (fun w e z => by first | (cases e; exact hn) | exact absurd z (by decide)) hi (fun hx hb hl hi kk => lv_lstore hx hb hd hl hi rfl kk) k
theorem wp_iinc_4 {n : Int} {x v : Int32} (hd : decode μ.2.1 pc = .ok (.iinc 4 n, 3)) (hn : nl a3 = true) (hi : Nat.blt 4 μ.2.2.1 = true) (hv : x + Int32.ofInt n = v) (k : Wp d mc ms sc μ Q (pc + 3) (a0 :: a1 :: a2 :: a3 :: some (.int v) :: L) S h kc ks) : Wp d mc ms sc μ Q pc (a0 :: a1 :: a2 :: a3 :: some (.int x) :: L) S h kc ks :=
  wp_inc (L := a0 :: a1 :: a2 :: a3 :: some (.int x) :: L) (i := 4) hd rfl (fun w e z => by first | (cases e; exact hn) | exact absurd z (by decide)) hi hv k
theorem wp_kill_4 (k : Wp d mc ms sc μ Q pc (a0 :: a1 :: a2 :: a3 :: none :: L) S h kc ks) : Wp d mc ms sc μ Q pc (a0 :: a1 :: a2 :: a3 :: a4 :: L) S h kc ks := wp_kill (L := a0 :: a1 :: a2 :: a3 :: a4 :: L) 4 k
theorem wp_istore_5 {x : Int32} (hd : decode μ.2.1 pc = .ok (.istore 5, 2)) (hn : nl a4 = true) (hi : Nat.blt 5 μ.2.2.1 = true) (k : Wp d mc ms sc μ Q (pc + 2) (a0 :: a1 :: a2 :: a3 :: a4 :: some (.int x) :: L) S h kc ks) : Wp d mc ms sc μ Q pc (a0 :: a1 :: a2 :: a3 :: a4 :: a5 :: L) (.int x :: S) h kc ks :=
  wp_st (L := a0 :: a1 :: a2 :: a3 :: a4 :: a5 :: L) (i := 5) (v := .int x) (fun w e z => by first | (cases e; exact hn) | exact absurd z (by decide)) hi (fun hx hb hl hi kk => lv_istore hx hb hd hl hi rfl kk) k
theorem wp_astore_5 {x : Nat} (hd : decode μ.2.1 pc = .ok (.astore 5, 2)) (hn : nl a4 = true) (hi : Nat.blt 5 μ.2.2.1 = true) (k : Wp d mc ms sc μ Q (pc + 2) (a0 :: a1 :: a2 :: a3 :: a4 :: some (.ref x) :: L) S h kc ks) : Wp d mc ms sc μ Q pc (a0 :: a1 :: a2 :: a3 :: a4 :: a5 :: L) (.ref x :: S) h kc ks :=
  wp_st (L := a0 :: a1 :: a2 :: a3 :: a4 :: a5 :: L) (i := 5) (v := .ref x) (fun w e z => by first | (cases e; exact hn) | exact absurd z (by decide)) hi (fun hx hb hl hi kk => lv_astore hx hb hd hl hi rfl kk) k
theorem wp_lstore_5 {x : Int64} (hd : decode μ.2.1 pc = .ok (.lstore 5, 2)) (hn : nl a4 = true) (hi : Nat.blt (5 + 1) μ.2.2.1 = true) (k : Wp d mc ms sc μ Q (pc + 2) (a0 :: a1 :: a2 :: a3 :: a4 :: some (.long x) :: none :: L) S h kc ks) : Wp d mc ms sc μ Q pc (a0 :: a1 :: a2 :: a3 :: a4 :: a5 :: a6 :: L) (.long x :: S) h kc ks :=
  wp_st2 (L := a0 :: a1 :: a2 :: a3 :: a4 :: a5 :: a6 :: L) (i := 5) (v := .long x) (fun w e z => by first | (cases e; exact hn) | exact absurd z (by decide)) hi (fun hx hb hl hi kk => lv_lstore hx hb hd hl hi rfl kk) k
theorem wp_iinc_5 {n : Int} {x v : Int32} (hd : decode μ.2.1 pc = .ok (.iinc 5 n, 3)) (hn : nl a4 = true) (hi : Nat.blt 5 μ.2.2.1 = true) (hv : x + Int32.ofInt n = v) (k : Wp d mc ms sc μ Q (pc + 3) (a0 :: a1 :: a2 :: a3 :: a4 :: some (.int v) :: L) S h kc ks) : Wp d mc ms sc μ Q pc (a0 :: a1 :: a2 :: a3 :: a4 :: some (.int x) :: L) S h kc ks :=
  wp_inc (L := a0 :: a1 :: a2 :: a3 :: a4 :: some (.int x) :: L) (i := 5) hd rfl (fun w e z => by first | (cases e; exact hn) | exact absurd z (by decide)) hi hv k
theorem wp_kill_5 (k : Wp d mc ms sc μ Q pc (a0 :: a1 :: a2 :: a3 :: a4 :: none :: L) S h kc ks) : Wp d mc ms sc μ Q pc (a0 :: a1 :: a2 :: a3 :: a4 :: a5 :: L) S h kc ks := wp_kill (L := a0 :: a1 :: a2 :: a3 :: a4 :: a5 :: L) 5 k
theorem wp_istore_6 {x : Int32} (hd : decode μ.2.1 pc = .ok (.istore 6, 2)) (hn : nl a5 = true) (hi : Nat.blt 6 μ.2.2.1 = true) (k : Wp d mc ms sc μ Q (pc + 2) (a0 :: a1 :: a2 :: a3 :: a4 :: a5 :: some (.int x) :: L) S h kc ks) : Wp d mc ms sc μ Q pc (a0 :: a1 :: a2 :: a3 :: a4 :: a5 :: a6 :: L) (.int x :: S) h kc ks :=
  wp_st (L := a0 :: a1 :: a2 :: a3 :: a4 :: a5 :: a6 :: L) (i := 6) (v := .int x) (fun w e z => by first | (cases e; exact hn) | exact absurd z (by decide)) hi (fun hx hb hl hi kk => lv_istore hx hb hd hl hi rfl kk) k
theorem wp_astore_6 {x : Nat} (hd : decode μ.2.1 pc = .ok (.astore 6, 2)) (hn : nl a5 = true) (hi : Nat.blt 6 μ.2.2.1 = true) (k : Wp d mc ms sc μ Q (pc + 2) (a0 :: a1 :: a2 :: a3 :: a4 :: a5 :: some (.ref x) :: L) S h kc ks) : Wp d mc ms sc μ Q pc (a0 :: a1 :: a2 :: a3 :: a4 :: a5 :: a6 :: L) (.ref x :: S) h kc ks :=
  wp_st (L := a0 :: a1 :: a2 :: a3 :: a4 :: a5 :: a6 :: L) (i := 6) (v := .ref x) (fun w e z => by first | (cases e; exact hn) | exact absurd z (by decide)) hi (fun hx hb hl hi kk => lv_astore hx hb hd hl hi rfl kk) k
theorem wp_lstore_6 {x : Int64} (hd : decode μ.2.1 pc = .ok (.lstore 6, 2)) (hn : nl a5 = true) (hi : Nat.blt (6 + 1) μ.2.2.1 = true) (k : Wp d mc ms sc μ Q (pc + 2) (a0 :: a1 :: a2 :: a3 :: a4 :: a5 :: some (.long x) :: none :: L) S h kc ks) : Wp d mc ms sc μ Q pc (a0 :: a1 :: a2 :: a3 :: a4 :: a5 :: a6 :: a7 :: L) (.long x :: S) h kc ks :=
  wp_st2 (L := a0 :: a1 :: a2 :: a3 :: a4 :: a5 :: a6 :: a7 :: L) (i := 6) (v := .long x) (fun w e z => by first | (cases e; exact hn) | exact absurd z (by decide)) hi (fun hx hb hl hi kk => lv_lstore hx hb hd hl hi rfl kk) k
theorem wp_iinc_6 {n : Int} {x v : Int32} (hd : decode μ.2.1 pc = .ok (.iinc 6 n, 3)) (hn : nl a5 = true) (hi : Nat.blt 6 μ.2.2.1 = true) (hv : x + Int32.ofInt n = v) (k : Wp d mc ms sc μ Q (pc + 3) (a0 :: a1 :: a2 :: a3 :: a4 :: a5 :: some (.int v) :: L) S h kc ks) : Wp d mc ms sc μ Q pc (a0 :: a1 :: a2 :: a3 :: a4 :: a5 :: some (.int x) :: L) S h kc ks :=
  wp_inc (L := a0 :: a1 :: a2 :: a3 :: a4 :: a5 :: some (.int x) :: L) (i := 6) hd rfl (fun w e z => by first | (cases e; exact hn) | exact absurd z (by decide)) hi hv k
theorem wp_kill_6 (k : Wp d mc ms sc μ Q pc (a0 :: a1 :: a2 :: a3 :: a4 :: a5 :: none :: L) S h kc ks) : Wp d mc ms sc μ Q pc (a0 :: a1 :: a2 :: a3 :: a4 :: a5 :: a6 :: L) S h kc ks := wp_kill (L := a0 :: a1 :: a2 :: a3 :: a4 :: a5 :: a6 :: L) 6 k
theorem wp_istore_7 {x : Int32} (hd : decode μ.2.1 pc = .ok (.istore 7, 2)) (hn : nl a6 = true) (hi : Nat.blt 7 μ.2.2.1 = true) (k : Wp d mc ms sc μ Q (pc + 2) (a0 :: a1 :: a2 :: a3 :: a4 :: a5 :: a6 :: some (.int x) :: L) S h kc ks) : Wp d mc ms sc μ Q pc (a0 :: a1 :: a2 :: a3 :: a4 :: a5 :: a6 :: a7 :: L) (.int x :: S) h kc ks :=
  wp_st (L := a0 :: a1 :: a2 :: a3 :: a4 :: a5 :: a6 :: a7 :: L) (i := 7) (v := .int x) (fun w e z => by first | (cases e; exact hn) | exact absurd z (by decide)) hi (fun hx hb hl hi kk => lv_istore hx hb hd hl hi rfl kk) k
theorem wp_astore_7 {x : Nat} (hd : decode μ.2.1 pc = .ok (.astore 7, 2)) (hn : nl a6 = true) (hi : Nat.blt 7 μ.2.2.1 = true) (k : Wp d mc ms sc μ Q (pc + 2) (a0 :: a1 :: a2 :: a3 :: a4 :: a5 :: a6 :: some (.ref x) :: L) S h kc ks) : Wp d mc ms sc μ Q pc (a0 :: a1 :: a2 :: a3 :: a4 :: a5 :: a6 :: a7 :: L) (.ref x :: S) h kc ks :=
  wp_st (L := a0 :: a1 :: a2 :: a3 :: a4 :: a5 :: a6 :: a7 :: L) (i := 7) (v := .ref x) (fun w e z => by first | (cases e; exact hn) | exact absurd z (by decide)) hi (fun hx hb hl hi kk => lv_astore hx hb hd hl hi rfl kk) k
theorem wp_lstore_7 {x : Int64} (hd : decode μ.2.1 pc = .ok (.lstore 7, 2)) (hn : nl a6 = true) (hi : Nat.blt (7 + 1) μ.2.2.1 = true) (k : Wp d mc ms sc μ Q (pc + 2) (a0 :: a1 :: a2 :: a3 :: a4 :: a5 :: a6 :: some (.long x) :: none :: L) S h kc ks) : Wp d mc ms sc μ Q pc (a0 :: a1 :: a2 :: a3 :: a4 :: a5 :: a6 :: a7 :: a8 :: L) (.long x :: S) h kc ks :=
  wp_st2 (L := a0 :: a1 :: a2 :: a3 :: a4 :: a5 :: a6 :: a7 :: a8 :: L) (i := 7) (v := .long x) (fun w e z => by first | (cases e; exact hn) | exact absurd z (by decide)) hi (fun hx hb hl hi kk => lv_lstore hx hb hd hl hi rfl kk) k
theorem wp_iinc_7 {n : Int} {x v : Int32} (hd : decode μ.2.1 pc = .ok (.iinc 7 n, 3)) (hn : nl a6 = true) (hi : Nat.blt 7 μ.2.2.1 = true) (hv : x + Int32.ofInt n = v) (k : Wp d mc ms sc μ Q (pc + 3) (a0 :: a1 :: a2 :: a3 :: a4 :: a5 :: a6 :: some (.int v) :: L) S h kc ks) : Wp d mc ms sc μ Q pc (a0 :: a1 :: a2 :: a3 :: a4 :: a5 :: a6 :: some (.int x) :: L) S h kc ks :=
  wp_inc (L := a0 :: a1 :: a2 :: a3 :: a4 :: a5 :: a6 :: some (.int x) :: L) (i := 7) hd rfl (fun w e z => by first | (cases e; exact hn) | exact absurd z (by decide)) hi hv k
theorem wp_kill_7 (k : Wp d mc ms sc μ Q pc (a0 :: a1 :: a2 :: a3 :: a4 :: a5 :: a6 :: none :: L) S h kc ks) : Wp d mc ms sc μ Q pc (a0 :: a1 :: a2 :: a3 :: a4 :: a5 :: a6 :: a7 :: L) S h kc ks := wp_kill (L := a0 :: a1 :: a2 :: a3 :: a4 :: a5 :: a6 :: a7 :: L) 7 k
theorem wp_istore_8 {x : Int32} (hd : decode μ.2.1 pc = .ok (.istore 8, 2)) (hn : nl a7 = true) (hi : Nat.blt 8 μ.2.2.1 = true) (k : Wp d mc ms sc μ Q (pc + 2) (a0 :: a1 :: a2 :: a3 :: a4 :: a5 :: a6 :: a7 :: some (.int x) :: L) S h kc ks) : Wp d mc ms sc μ Q pc (a0 :: a1 :: a2 :: a3 :: a4 :: a5 :: a6 :: a7 :: a8 :: L) (.int x :: S) h kc ks :=
  wp_st (L := a0 :: a1 :: a2 :: a3 :: a4 :: a5 :: a6 :: a7 :: a8 :: L) (i := 8) (v := .int x) (fun w e z => by first | (cases e; exact hn) | exact absurd z (by decide)) hi (fun hx hb hl hi kk => lv_istore hx hb hd hl hi rfl kk) k
theorem wp_astore_8 {x : Nat} (hd : decode μ.2.1 pc = .ok (.astore 8, 2)) (hn : nl a7 = true) (hi : Nat.blt 8 μ.2.2.1 = true) (k : Wp d mc ms sc μ Q (pc + 2) (a0 :: a1 :: a2 :: a3 :: a4 :: a5 :: a6 :: a7 :: some (.ref x) :: L) S h kc ks) : Wp d mc ms sc μ Q pc (a0 :: a1 :: a2 :: a3 :: a4 :: a5 :: a6 :: a7 :: a8 :: L) (.ref x :: S) h kc ks :=
  wp_st (L := a0 :: a1 :: a2 :: a3 :: a4 :: a5 :: a6 :: a7 :: a8 :: L) (i := 8) (v := .ref x) (fun w e z => by first | (cases e; exact hn) | exact absurd z (by decide)) hi (fun hx hb hl hi kk => lv_astore hx hb hd hl hi rfl kk) k
theorem wp_lstore_8 {x : Int64} (hd : decode μ.2.1 pc = .ok (.lstore 8, 2)) (hn : nl a7 = true) (hi : Nat.blt (8 + 1) μ.2.2.1 = true) (k : Wp d mc ms sc μ Q (pc + 2) (a0 :: a1 :: a2 :: a3 :: a4 :: a5 :: a6 :: a7 :: some (.long x) :: none :: L) S h kc ks) : Wp d mc ms sc μ Q pc (a0 :: a1 :: a2 :: a3 :: a4 :: a5 :: a6 :: a7 :: a8 :: a9 :: L) (.long x :: S) h kc ks :=
  wp_st2 (L := a0 :: a1 :: a2 :: a3 :: a4 :: a5 :: a6 :: a7 :: a8 :: a9 :: L) (i := 8) (v := .long x) (fun w e z => by first | (cases e; exact hn) | exact absurd z (by decide)) hi (fun hx hb hl hi kk => lv_lstore hx hb hd hl hi rfl kk) k
theorem wp_iinc_8 {n : Int} {x v : Int32} (hd : decode μ.2.1 pc = .ok (.iinc 8 n, 3)) (hn : nl a7 = true) (hi : Nat.blt 8 μ.2.2.1 = true) (hv : x + Int32.ofInt n = v) (k : Wp d mc ms sc μ Q (pc + 3) (a0 :: a1 :: a2 :: a3 :: a4 :: a5 :: a6 :: a7 :: some (.int v) :: L) S h kc ks) : Wp d mc ms sc μ Q pc (a0 :: a1 :: a2 :: a3 :: a4 :: a5 :: a6 :: a7 :: some (.int x) :: L) S h kc ks :=
  wp_inc (L := a0 :: a1 :: a2 :: a3 :: a4 :: a5 :: a6 :: a7 :: some (.int x) :: L) (i := 8) hd rfl (fun w e z => by first | (cases e; exact hn) | exact absurd z (by decide)) hi hv k
theorem wp_kill_8 (k : Wp d mc ms sc μ Q pc (a0 :: a1 :: a2 :: a3 :: a4 :: a5 :: a6 :: a7 :: none :: L) S h kc ks) : Wp d mc ms sc μ Q pc (a0 :: a1 :: a2 :: a3 :: a4 :: a5 :: a6 :: a7 :: a8 :: L) S h kc ks := wp_kill (L := a0 :: a1 :: a2 :: a3 :: a4 :: a5 :: a6 :: a7 :: a8 :: L) 8 k
theorem wp_istore_9 {x : Int32} (hd : decode μ.2.1 pc = .ok (.istore 9, 2)) (hn : nl a8 = true) (hi : Nat.blt 9 μ.2.2.1 = true) (k : Wp d mc ms sc μ Q (pc + 2) (a0 :: a1 :: a2 :: a3 :: a4 :: a5 :: a6 :: a7 :: a8 :: some (.int x) :: L) S h kc ks) : Wp d mc ms sc μ Q pc (a0 :: a1 :: a2 :: a3 :: a4 :: a5 :: a6 :: a7 :: a8 :: a9 :: L) (.int x :: S) h kc ks :=
  wp_st (L := a0 :: a1 :: a2 :: a3 :: a4 :: a5 :: a6 :: a7 :: a8 :: a9 :: L) (i := 9) (v := .int x) (fun w e z => by first | (cases e; exact hn) | exact absurd z (by decide)) hi (fun hx hb hl hi kk => lv_istore hx hb hd hl hi rfl kk) k
theorem wp_astore_9 {x : Nat} (hd : decode μ.2.1 pc = .ok (.astore 9, 2)) (hn : nl a8 = true) (hi : Nat.blt 9 μ.2.2.1 = true) (k : Wp d mc ms sc μ Q (pc + 2) (a0 :: a1 :: a2 :: a3 :: a4 :: a5 :: a6 :: a7 :: a8 :: some (.ref x) :: L) S h kc ks) : Wp d mc ms sc μ Q pc (a0 :: a1 :: a2 :: a3 :: a4 :: a5 :: a6 :: a7 :: a8 :: a9 :: L) (.ref x :: S) h kc ks :=
  wp_st (L := a0 :: a1 :: a2 :: a3 :: a4 :: a5 :: a6 :: a7 :: a8 :: a9 :: L) (i := 9) (v := .ref x) (fun w e z => by first | (cases e; exact hn) | exact absurd z (by decide)) hi (fun hx hb hl hi kk => lv_astore hx hb hd hl hi rfl kk) k
theorem wp_lstore_9 {x : Int64} (hd : decode μ.2.1 pc = .ok (.lstore 9, 2)) (hn : nl a8 = true) (hi : Nat.blt (9 + 1) μ.2.2.1 = true) (k : Wp d mc ms sc μ Q (pc + 2) (a0 :: a1 :: a2 :: a3 :: a4 :: a5 :: a6 :: a7 :: a8 :: some (.long x) :: none :: L) S h kc ks) : Wp d mc ms sc μ Q pc (a0 :: a1 :: a2 :: a3 :: a4 :: a5 :: a6 :: a7 :: a8 :: a9 :: a10 :: L) (.long x :: S) h kc ks :=
  wp_st2 (L := a0 :: a1 :: a2 :: a3 :: a4 :: a5 :: a6 :: a7 :: a8 :: a9 :: a10 :: L) (i := 9) (v := .long x) (fun w e z => by first | (cases e; exact hn) | exact absurd z (by decide)) hi (fun hx hb hl hi kk => lv_lstore hx hb hd hl hi rfl kk) k
theorem wp_iinc_9 {n : Int} {x v : Int32} (hd : decode μ.2.1 pc = .ok (.iinc 9 n, 3)) (hn : nl a8 = true) (hi : Nat.blt 9 μ.2.2.1 = true) (hv : x + Int32.ofInt n = v) (k : Wp d mc ms sc μ Q (pc + 3) (a0 :: a1 :: a2 :: a3 :: a4 :: a5 :: a6 :: a7 :: a8 :: some (.int v) :: L) S h kc ks) : Wp d mc ms sc μ Q pc (a0 :: a1 :: a2 :: a3 :: a4 :: a5 :: a6 :: a7 :: a8 :: some (.int x) :: L) S h kc ks :=
  wp_inc (L := a0 :: a1 :: a2 :: a3 :: a4 :: a5 :: a6 :: a7 :: a8 :: some (.int x) :: L) (i := 9) hd rfl (fun w e z => by first | (cases e; exact hn) | exact absurd z (by decide)) hi hv k
theorem wp_kill_9 (k : Wp d mc ms sc μ Q pc (a0 :: a1 :: a2 :: a3 :: a4 :: a5 :: a6 :: a7 :: a8 :: none :: L) S h kc ks) : Wp d mc ms sc μ Q pc (a0 :: a1 :: a2 :: a3 :: a4 :: a5 :: a6 :: a7 :: a8 :: a9 :: L) S h kc ks := wp_kill (L := a0 :: a1 :: a2 :: a3 :: a4 :: a5 :: a6 :: a7 :: a8 :: a9 :: L) 9 k
theorem wp_istore_10 {x : Int32} (hd : decode μ.2.1 pc = .ok (.istore 10, 2)) (hn : nl a9 = true) (hi : Nat.blt 10 μ.2.2.1 = true) (k : Wp d mc ms sc μ Q (pc + 2) (a0 :: a1 :: a2 :: a3 :: a4 :: a5 :: a6 :: a7 :: a8 :: a9 :: some (.int x) :: L) S h kc ks) : Wp d mc ms sc μ Q pc (a0 :: a1 :: a2 :: a3 :: a4 :: a5 :: a6 :: a7 :: a8 :: a9 :: a10 :: L) (.int x :: S) h kc ks :=
  wp_st (L := a0 :: a1 :: a2 :: a3 :: a4 :: a5 :: a6 :: a7 :: a8 :: a9 :: a10 :: L) (i := 10) (v := .int x) (fun w e z => by first | (cases e; exact hn) | exact absurd z (by decide)) hi (fun hx hb hl hi kk => lv_istore hx hb hd hl hi rfl kk) k
theorem wp_astore_10 {x : Nat} (hd : decode μ.2.1 pc = .ok (.astore 10, 2)) (hn : nl a9 = true) (hi : Nat.blt 10 μ.2.2.1 = true) (k : Wp d mc ms sc μ Q (pc + 2) (a0 :: a1 :: a2 :: a3 :: a4 :: a5 :: a6 :: a7 :: a8 :: a9 :: some (.ref x) :: L) S h kc ks) : Wp d mc ms sc μ Q pc (a0 :: a1 :: a2 :: a3 :: a4 :: a5 :: a6 :: a7 :: a8 :: a9 :: a10 :: L) (.ref x :: S) h kc ks :=
  wp_st (L := a0 :: a1 :: a2 :: a3 :: a4 :: a5 :: a6 :: a7 :: a8 :: a9 :: a10 :: L) (i := 10) (v := .ref x) (fun w e z => by first | (cases e; exact hn) | exact absurd z (by decide)) hi (fun hx hb hl hi kk => lv_astore hx hb hd hl hi rfl kk) k
theorem wp_lstore_10 {x : Int64} (hd : decode μ.2.1 pc = .ok (.lstore 10, 2)) (hn : nl a9 = true) (hi : Nat.blt (10 + 1) μ.2.2.1 = true) (k : Wp d mc ms sc μ Q (pc + 2) (a0 :: a1 :: a2 :: a3 :: a4 :: a5 :: a6 :: a7 :: a8 :: a9 :: some (.long x) :: none :: L) S h kc ks) : Wp d mc ms sc μ Q pc (a0 :: a1 :: a2 :: a3 :: a4 :: a5 :: a6 :: a7 :: a8 :: a9 :: a10 :: a11 :: L) (.long x :: S) h kc ks :=
  wp_st2 (L := a0 :: a1 :: a2 :: a3 :: a4 :: a5 :: a6 :: a7 :: a8 :: a9 :: a10 :: a11 :: L) (i := 10) (v := .long x) (fun w e z => by first | (cases e; exact hn) | exact absurd z (by decide)) hi (fun hx hb hl hi kk => lv_lstore hx hb hd hl hi rfl kk) k
theorem wp_iinc_10 {n : Int} {x v : Int32} (hd : decode μ.2.1 pc = .ok (.iinc 10 n, 3)) (hn : nl a9 = true) (hi : Nat.blt 10 μ.2.2.1 = true) (hv : x + Int32.ofInt n = v) (k : Wp d mc ms sc μ Q (pc + 3) (a0 :: a1 :: a2 :: a3 :: a4 :: a5 :: a6 :: a7 :: a8 :: a9 :: some (.int v) :: L) S h kc ks) : Wp d mc ms sc μ Q pc (a0 :: a1 :: a2 :: a3 :: a4 :: a5 :: a6 :: a7 :: a8 :: a9 :: some (.int x) :: L) S h kc ks :=
  wp_inc (L := a0 :: a1 :: a2 :: a3 :: a4 :: a5 :: a6 :: a7 :: a8 :: a9 :: some (.int x) :: L) (i := 10) hd rfl (fun w e z => by first | (cases e; exact hn) | exact absurd z (by decide)) hi hv k
theorem wp_kill_10 (k : Wp d mc ms sc μ Q pc (a0 :: a1 :: a2 :: a3 :: a4 :: a5 :: a6 :: a7 :: a8 :: a9 :: none :: L) S h kc ks) : Wp d mc ms sc μ Q pc (a0 :: a1 :: a2 :: a3 :: a4 :: a5 :: a6 :: a7 :: a8 :: a9 :: a10 :: L) S h kc ks := wp_kill (L := a0 :: a1 :: a2 :: a3 :: a4 :: a5 :: a6 :: a7 :: a8 :: a9 :: a10 :: L) 10 k
theorem wp_istore_11 {x : Int32} (hd : decode μ.2.1 pc = .ok (.istore 11, 2)) (hn : nl a10 = true) (hi : Nat.blt 11 μ.2.2.1 = true) (k : Wp d mc ms sc μ Q (pc + 2) (a0 :: a1 :: a2 :: a3 :: a4 :: a5 :: a6 :: a7 :: a8 :: a9 :: a10 :: some (.int x) :: L) S h kc ks) : Wp d mc ms sc μ Q pc (a0 :: a1 :: a2 :: a3 :: a4 :: a5 :: a6 :: a7 :: a8 :: a9 :: a10 :: a11 :: L) (.int x :: S) h kc ks :=
  wp_st (L := a0 :: a1 :: a2 :: a3 :: a4 :: a5 :: a6 :: a7 :: a8 :: a9 :: a10 :: a11 :: L) (i := 11) (v := .int x) (fun w e z => by first | (cases e; exact hn) | exact absurd z (by decide)) hi (fun hx hb hl hi kk => lv_istore hx hb hd hl hi rfl kk) k
theorem wp_astore_11 {x : Nat} (hd : decode μ.2.1 pc = .ok (.astore 11, 2)) (hn : nl a10 = true) (hi : Nat.blt 11 μ.2.2.1 = true) (k : Wp d mc ms sc μ Q (pc + 2) (a0 :: a1 :: a2 :: a3 :: a4 :: a5 :: a6 :: a7 :: a8 :: a9 :: a10 :: some (.ref x) :: L) S h kc ks) : Wp d mc ms sc μ Q pc (a0 :: a1 :: a2 :: a3 :: a4 :: a5 :: a6 :: a7 :: a8 :: a9 :: a10 :: a11 :: L) (.ref x :: S) h kc ks :=
  wp_st (L := a0 :: a1 :: a2 :: a3 :: a4 :: a5 :: a6 :: a7 :: a8 :: a9 :: a10 :: a11 :: L) (i := 11) (v := .ref x) (fun w e z => by first | (cases e; exact hn) | exact absurd z (by decide)) hi (fun hx hb hl hi kk => lv_astore hx hb hd hl hi rfl kk) k
theorem wp_lstore_11 {x : Int64} (hd : decode μ.2.1 pc = .ok (.lstore 11, 2)) (hn : nl a10 = true) (hi : Nat.blt (11 + 1) μ.2.2.1 = true) (k : Wp d mc ms sc μ Q (pc + 2) (a0 :: a1 :: a2 :: a3 :: a4 :: a5 :: a6 :: a7 :: a8 :: a9 :: a10 :: some (.long x) :: none :: L) S h kc ks) : Wp d mc ms sc μ Q pc (a0 :: a1 :: a2 :: a3 :: a4 :: a5 :: a6 :: a7 :: a8 :: a9 :: a10 :: a11 :: a12 :: L) (.long x :: S) h kc ks :=
  wp_st2 (L := a0 :: a1 :: a2 :: a3 :: a4 :: a5 :: a6 :: a7 :: a8 :: a9 :: a10 :: a11 :: a12 :: L) (i := 11) (v := .long x) (fun w e z => by first | (cases e; exact hn) | exact absurd z (by decide)) hi (fun hx hb hl hi kk => lv_lstore hx hb hd hl hi rfl kk) k
theorem wp_iinc_11 {n : Int} {x v : Int32} (hd : decode μ.2.1 pc = .ok (.iinc 11 n, 3)) (hn : nl a10 = true) (hi : Nat.blt 11 μ.2.2.1 = true) (hv : x + Int32.ofInt n = v) (k : Wp d mc ms sc μ Q (pc + 3) (a0 :: a1 :: a2 :: a3 :: a4 :: a5 :: a6 :: a7 :: a8 :: a9 :: a10 :: some (.int v) :: L) S h kc ks) : Wp d mc ms sc μ Q pc (a0 :: a1 :: a2 :: a3 :: a4 :: a5 :: a6 :: a7 :: a8 :: a9 :: a10 :: some (.int x) :: L) S h kc ks :=
  wp_inc (L := a0 :: a1 :: a2 :: a3 :: a4 :: a5 :: a6 :: a7 :: a8 :: a9 :: a10 :: some (.int x) :: L) (i := 11) hd rfl (fun w e z => by first | (cases e; exact hn) | exact absurd z (by decide)) hi hv k
theorem wp_kill_11 (k : Wp d mc ms sc μ Q pc (a0 :: a1 :: a2 :: a3 :: a4 :: a5 :: a6 :: a7 :: a8 :: a9 :: a10 :: none :: L) S h kc ks) : Wp d mc ms sc μ Q pc (a0 :: a1 :: a2 :: a3 :: a4 :: a5 :: a6 :: a7 :: a8 :: a9 :: a10 :: a11 :: L) S h kc ks := wp_kill (L := a0 :: a1 :: a2 :: a3 :: a4 :: a5 :: a6 :: a7 :: a8 :: a9 :: a10 :: a11 :: L) 11 k
theorem wp_istore_12 {x : Int32} (hd : decode μ.2.1 pc = .ok (.istore 12, 2)) (hn : nl a11 = true) (hi : Nat.blt 12 μ.2.2.1 = true) (k : Wp d mc ms sc μ Q (pc + 2) (a0 :: a1 :: a2 :: a3 :: a4 :: a5 :: a6 :: a7 :: a8 :: a9 :: a10 :: a11 :: some (.int x) :: L) S h kc ks) : Wp d mc ms sc μ Q pc (a0 :: a1 :: a2 :: a3 :: a4 :: a5 :: a6 :: a7 :: a8 :: a9 :: a10 :: a11 :: a12 :: L) (.int x :: S) h kc ks :=
  wp_st (L := a0 :: a1 :: a2 :: a3 :: a4 :: a5 :: a6 :: a7 :: a8 :: a9 :: a10 :: a11 :: a12 :: L) (i := 12) (v := .int x) (fun w e z => by first | (cases e; exact hn) | exact absurd z (by decide)) hi (fun hx hb hl hi kk => lv_istore hx hb hd hl hi rfl kk) k
theorem wp_astore_12 {x : Nat} (hd : decode μ.2.1 pc = .ok (.astore 12, 2)) (hn : nl a11 = true) (hi : Nat.blt 12 μ.2.2.1 = true) (k : Wp d mc ms sc μ Q (pc + 2) (a0 :: a1 :: a2 :: a3 :: a4 :: a5 :: a6 :: a7 :: a8 :: a9 :: a10 :: a11 :: some (.ref x) :: L) S h kc ks) : Wp d mc ms sc μ Q pc (a0 :: a1 :: a2 :: a3 :: a4 :: a5 :: a6 :: a7 :: a8 :: a9 :: a10 :: a11 :: a12 :: L) (.ref x :: S) h kc ks :=
  wp_st (L := a0 :: a1 :: a2 :: a3 :: a4 :: a5 :: a6 :: a7 :: a8 :: a9 :: a10 :: a11 :: a12 :: L) (i := 12) (v := .ref x) (fun w e z => by first | (cases e; exact hn) | exact absurd z (by decide)) hi (fun hx hb hl hi kk => lv_astore hx hb hd hl hi rfl kk) k
theorem wp_iinc_12 {n : Int} {x v : Int32} (hd : decode μ.2.1 pc = .ok (.iinc 12 n, 3)) (hn : nl a11 = true) (hi : Nat.blt 12 μ.2.2.1 = true) (hv : x + Int32.ofInt n = v) (k : Wp d mc ms sc μ Q (pc + 3) (a0 :: a1 :: a2 :: a3 :: a4 :: a5 :: a6 :: a7 :: a8 :: a9 :: a10 :: a11 :: some (.int v) :: L) S h kc ks) : Wp d mc ms sc μ Q pc (a0 :: a1 :: a2 :: a3 :: a4 :: a5 :: a6 :: a7 :: a8 :: a9 :: a10 :: a11 :: some (.int x) :: L) S h kc ks :=
  wp_inc (L := a0 :: a1 :: a2 :: a3 :: a4 :: a5 :: a6 :: a7 :: a8 :: a9 :: a10 :: a11 :: some (.int x) :: L) (i := 12) hd rfl (fun w e z => by first | (cases e; exact hn) | exact absurd z (by decide)) hi hv k
theorem wp_kill_12 (k : Wp d mc ms sc μ Q pc (a0 :: a1 :: a2 :: a3 :: a4 :: a5 :: a6 :: a7 :: a8 :: a9 :: a10 :: a11 :: none :: L) S h kc ks) : Wp d mc ms sc μ Q pc (a0 :: a1 :: a2 :: a3 :: a4 :: a5 :: a6 :: a7 :: a8 :: a9 :: a10 :: a11 :: a12 :: L) S h kc ks := wp_kill (L := a0 :: a1 :: a2 :: a3 :: a4 :: a5 :: a6 :: a7 :: a8 :: a9 :: a10 :: a11 :: a12 :: L) 12 k
theorem wp_istore_13 {x : Int32} (hd : decode μ.2.1 pc = .ok (.istore 13, 2)) (hn : nl a12 = true) (hi : Nat.blt 13 μ.2.2.1 = true) (k : Wp d mc ms sc μ Q (pc + 2) (a0 :: a1 :: a2 :: a3 :: a4 :: a5 :: a6 :: a7 :: a8 :: a9 :: a10 :: a11 :: a12 :: some (.int x) :: L) S h kc ks) : Wp d mc ms sc μ Q pc (a0 :: a1 :: a2 :: a3 :: a4 :: a5 :: a6 :: a7 :: a8 :: a9 :: a10 :: a11 :: a12 :: a13 :: L) (.int x :: S) h kc ks :=
  wp_st (L := a0 :: a1 :: a2 :: a3 :: a4 :: a5 :: a6 :: a7 :: a8 :: a9 :: a10 :: a11 :: a12 :: a13 :: L) (i := 13) (v := .int x) (fun w e z => by first | (cases e; exact hn) | exact absurd z (by decide)) hi (fun hx hb hl hi kk => lv_istore hx hb hd hl hi rfl kk) k
theorem wp_astore_13 {x : Nat} (hd : decode μ.2.1 pc = .ok (.astore 13, 2)) (hn : nl a12 = true) (hi : Nat.blt 13 μ.2.2.1 = true) (k : Wp d mc ms sc μ Q (pc + 2) (a0 :: a1 :: a2 :: a3 :: a4 :: a5 :: a6 :: a7 :: a8 :: a9 :: a10 :: a11 :: a12 :: some (.ref x) :: L) S h kc ks) : Wp d mc ms sc μ Q pc (a0 :: a1 :: a2 :: a3 :: a4 :: a5 :: a6 :: a7 :: a8 :: a9 :: a10 :: a11 :: a12 :: a13 :: L) (.ref x :: S) h kc ks :=
  wp_st (L := a0 :: a1 :: a2 :: a3 :: a4 :: a5 :: a6 :: a7 :: a8 :: a9 :: a10 :: a11 :: a12 :: a13 :: L) (i := 13) (v := .ref x) (fun w e z => by first | (cases e; exact hn) | exact absurd z (by decide)) hi (fun hx hb hl hi kk => lv_astore hx hb hd hl hi rfl kk) k
theorem wp_iinc_13 {n : Int} {x v : Int32} (hd : decode μ.2.1 pc = .ok (.iinc 13 n, 3)) (hn : nl a12 = true) (hi : Nat.blt 13 μ.2.2.1 = true) (hv : x + Int32.ofInt n = v) (k : Wp d mc ms sc μ Q (pc + 3) (a0 :: a1 :: a2 :: a3 :: a4 :: a5 :: a6 :: a7 :: a8 :: a9 :: a10 :: a11 :: a12 :: some (.int v) :: L) S h kc ks) : Wp d mc ms sc μ Q pc (a0 :: a1 :: a2 :: a3 :: a4 :: a5 :: a6 :: a7 :: a8 :: a9 :: a10 :: a11 :: a12 :: some (.int x) :: L) S h kc ks :=
  wp_inc (L := a0 :: a1 :: a2 :: a3 :: a4 :: a5 :: a6 :: a7 :: a8 :: a9 :: a10 :: a11 :: a12 :: some (.int x) :: L) (i := 13) hd rfl (fun w e z => by first | (cases e; exact hn) | exact absurd z (by decide)) hi hv k
theorem wp_kill_13 (k : Wp d mc ms sc μ Q pc (a0 :: a1 :: a2 :: a3 :: a4 :: a5 :: a6 :: a7 :: a8 :: a9 :: a10 :: a11 :: a12 :: none :: L) S h kc ks) : Wp d mc ms sc μ Q pc (a0 :: a1 :: a2 :: a3 :: a4 :: a5 :: a6 :: a7 :: a8 :: a9 :: a10 :: a11 :: a12 :: a13 :: L) S h kc ks := wp_kill (L := a0 :: a1 :: a2 :: a3 :: a4 :: a5 :: a6 :: a7 :: a8 :: a9 :: a10 :: a11 :: a12 :: a13 :: L) 13 k
theorem wp_astoreN_3 (hd : decode μ.2.1 pc = .ok (.astore_n 3, 1)) (hn : nl a2 = true) (hi : Nat.blt 3 μ.2.2.1 = true) (k : Wp d mc ms sc μ Q (pc + 1) (a0 :: a1 :: a2 :: some .null :: L) S h kc ks) : Wp d mc ms sc μ Q pc (a0 :: a1 :: a2 :: a3 :: L) (.null :: S) h kc ks :=
  wp_st (L := a0 :: a1 :: a2 :: a3 :: L) (i := 3) (v := .null) (fun w e z => by first | (cases e; exact hn) | exact absurd z (by decide)) hi (fun hx hb hl hi kk => lv_astore_nN hx hb hd rfl hl hi rfl kk) k
theorem wp_astoreN_2 (hd : decode μ.2.1 pc = .ok (.astore_n 2, 1)) (hn : nl a1 = true) (hi : Nat.blt 2 μ.2.2.1 = true) (k : Wp d mc ms sc μ Q (pc + 1) (a0 :: a1 :: some .null :: L) S h kc ks) : Wp d mc ms sc μ Q pc (a0 :: a1 :: a2 :: L) (.null :: S) h kc ks :=
  wp_st (L := a0 :: a1 :: a2 :: L) (i := 2) (v := .null) (fun w e z => by first | (cases e; exact hn) | exact absurd z (by decide)) hi (fun hx hb hl hi kk => lv_astore_nN hx hb hd rfl hl hi rfl kk) k
-- the ends
/-- a value comes back: kept small enough for the method's type -/
theorem wp_ret {r : Option Value} (hr : retOK μ pc r) (hQ : Q r h) (hS : r.toList = S) (hc : Nat.ble kc mc = true) (hk : Nat.ble ks ms = true) : Wp d mc ms sc μ Q pc L S h kc ks := by
  intro p l e R s m args below meth c dC dI dA A n0 ad0 Qt C hEx ad H locs ls hs hl hL hS'
  subst hS
  have e1 : (r.toList).map (cv ad) = (r.map (cv ad)).toList := by cases r <;> rfl
  rw [e1]
  exact hEx r h ad H locs kc ks pc ls hr hQ hs (fun v hv => hS' v (by rw [hv]; exact List.mem_cons_self)) (Nat.le_of_ble_eq_true hc) (Nat.le_of_ble_eq_true hk)
abbrev Qi (F : Int32 → AH → Prop) : Option Value → AH → Prop := fun r h' => ∃ v, r = some (.int v) ∧ F v h'
abbrev Qz (F : Bool → AH → Prop) : Option Value → AH → Prop := fun r h' => ∃ b : Bool, r = some (.int (if b then 1 else 0)) ∧ F b h'
abbrev Ql (F : Int64 → AH → Prop) : Option Value → AH → Prop := fun r h' => ∃ v, r = some (.long v) ∧ F v h'
abbrev Qv (F : AH → Prop) : Option Value → AH → Prop := fun r h' => r = none ∧ F h'
abbrev Qr (F : Option Nat → AH → Prop) : Option Value → AH → Prop := fun r h' => ∃ o, r = some (va_rf o) ∧ F o h'
theorem wp_iret {F : Int32 → AH → Prop} {v : Int32} (hd : decode μ.2.1 pc = .ok (.ireturn, 1)) (ht : μ.2.2.2 = some .int) (hc : Nat.ble kc mc = true) (hk : Nat.ble ks ms = true) (hF : F v h) : Wp d mc ms sc μ (Qi F) pc L [.int v] h kc ks :=
  wp_ret (Q := Qi F) (r := some (.int v)) (Or.inl ⟨v, .int, rfl, hd, ht, rfl⟩) ⟨v, rfl, hF⟩ rfl hc hk
theorem wp_tret {F : Int32 → AH → Prop} {v : Int32} {ty : FieldType} (hd : decode μ.2.1 pc = .ok (.ireturn, 1)) (ht : μ.2.2.2 = some ty) (hn : narrow ty (.int v) = .int v) (hc : Nat.ble kc mc = true) (hk : Nat.ble ks ms = true) (hF : F v h) : Wp d mc ms sc μ (Qi F) pc L [.int v] h kc ks :=
  wp_ret (Q := Qi F) (r := some (.int v)) (Or.inl ⟨v, ty, rfl, hd, ht, hn⟩) ⟨v, rfl, hF⟩ rfl hc hk
theorem wp_lret {F : Int64 → AH → Prop} {v : Int64} (hd : decode μ.2.1 pc = .ok (.lreturn, 1)) (ht : μ.2.2.2 = some .long) (hc : Nat.ble kc mc = true) (hk : Nat.ble ks ms = true) (hF : F v h) : Wp d mc ms sc μ (Ql F) pc L [.long v] h kc ks :=
  wp_ret (Q := Ql F) (r := some (.long v)) (Or.inr (Or.inl ⟨v, rfl, hd, ht⟩)) ⟨v, rfl, hF⟩ rfl hc hk
theorem wp_vret {F : AH → Prop} (hd : decode μ.2.1 pc = .ok (.return_, 1)) (ht : μ.2.2.2 = none) (hc : Nat.ble kc mc = true) (hk : Nat.ble ks ms = true) (hF : F h) : Wp d mc ms sc μ (Qv F) pc L [] h kc ks :=
  wp_ret (Q := Qv F) (r := none) (Or.inr (Or.inr (Or.inl ⟨rfl, hd, ht⟩))) ⟨rfl, hF⟩ rfl hc hk
theorem wp_rret {F : Option Nat → AH → Prop} {a : Nat} {nm : String} (hd : decode μ.2.1 pc = .ok (.areturn, 1)) (ht : μ.2.2.2 = some (.object nm)) (hc : Nat.ble kc mc = true) (hk : Nat.ble ks ms = true) (hF : F (some a) h) : Wp d mc ms sc μ (Qr F) pc L [.ref a] h kc ks :=
  wp_ret (Q := Qr F) (r := some (.ref a)) (Or.inr (Or.inr (Or.inr ⟨_, _, rfl, Or.inr ⟨a, rfl⟩, hd, ht, Or.inl ⟨_, rfl⟩⟩))) ⟨some a, rfl, hF⟩ rfl hc hk
end WPB

