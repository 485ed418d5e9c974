theorem up_in {x y : Nat → Nat → Int32} {r k a c : Nat} {v : Int32} (h : x a c = y a c) : up x r k v a c = up y r k v a c := by
  unfold up
  split
  · rfl
  · exact h
theorem OEq.up {x y : OV} {nc r k : Nat} {v : Int32} (h : OEq x y nc) : OEq (up x r k v) (up y r k v) nc := by
  obtain ⟨⟨a1, a2, a3, a4, a5⟩, b, c, d⟩ := h
  exact ⟨⟨up_in a1, up_in a2, up_in a3, up_in a4, up_in a5⟩, fun i hi => up_in (b i hi), fun i hi => ⟨up_in (c i hi).1, up_in (c i hi).2.1, up_in (c i hi).2.2.1, up_in (c i hi).2.2.2⟩, fun k hk => ⟨up_in (d k hk).1, up_in (d k hk).2⟩⟩
theorem XO_up {g : Nat → Nat → Int32} {b r k : Nat} {v : Int32} : XO (up g (b + r) k v) b = up (XO g b) r k v := by
  funext r' k'
  unfold XO up
  by_cases h : r' = r ∧ k' = k
  · rw [if_pos h, if_pos ⟨by omega, h.2⟩]
  · rw [if_neg h, if_neg (fun z => h ⟨by omega, z.2⟩)]
/-- what a call leaves that changes the oven alone -/
def UF (g g' : Nat → Nat → Int32) : Prop := ∀ a, (a < 1 ∨ 8 < a) → g' a = g a
theorem UF.rf {g : Nat → Nat → Int32} : UF g g := fun _ _ => rfl
theorem UF.tr {g1 g2 g3 : Nat → Nat → Int32} (h1 : UF g1 g2) (h2 : UF g2 g3) : UF g1 g3 := fun a p => (h2 a p).trans (h1 a p)
theorem UF.up {g : Nat → Nat → Int32} {a k : Nat} {v : Int32} (h : 1 ≤ a ∧ a ≤ 8) : UF g (up g a k v) := fun _ q => up_row (by omega)
theorem isC_N {c : Int32} {nc : Nat} (h : 0 ≤ c ∧ c ≤ nI nc - 1) (hn : nc ≤ 8) : c = nI (nN c) ∧ nN c < nc := by
  have h1 := i0.mp h.1
  have h2 := iLe.mp h.2
  have e : (nI nc).toInt = nc := iT (by omega)
  have e1 : (1 : Int32).toInt = 1 := rfl
  rw [iSub (by rw [e, e1]; omega) (by rw [e, e1]; omega), e, e1] at h2
  exact ⟨iN h1, by unfold nN; omega⟩
-- ===== what the calls answer =====
def countP (o : OV) (nc tc : Nat) (tl what : Int32) : Int32 := if what = 0 then nI nc else if what = 1 then o 0 9 else if what = 2 then o 0 10 else if what = 3 then o 0 8 else if what = 4 then nI tc else if what = 5 then o 0 11 else if what = 6 then tl else -2
def setP (o : OV) (what f v : Int32) : Int32 := if what = 0 then (if 0 ≤ f ∧ f ≤ 15 then (if 0 ≤ v ∧ v ≤ 99 then o 1 (nN f) else -7) else -6) else if what = 1 then (if 1 ≤ v ∧ v ≤ 40 then o 0 9 else -7) else if what = 2 then (if 0 ≤ v ∧ v ≤ 3 then o 0 10 else -7) else -5
def setO (o : OV) (what f v : Int32) : OV := if what = 0 then (if 0 ≤ f ∧ f ≤ 15 then (if 0 ≤ v ∧ v ≤ 99 then up o 1 (nN f) v else o) else o) else if what = 1 then (if 1 ≤ v ∧ v ≤ 40 then up o 0 9 v else o) else if what = 2 then (if 0 ≤ v ∧ v ≤ 3 then up o 0 10 v else o) else o
def hotP (o : OV) (p : Int32) : Int32 := if 0 ≤ p ∧ p ≤ 15 then o 1 (nN p) else -2
def spotP (p q : Int32) : Int32 := if 0 ≤ p ∧ p ≤ 15 then (if 0 ≤ q ∧ q ≤ 3 then nI (rot (nN p) (nN q)) else -2) else -2
def forceP (o : OV) (tc : Nat) (t : Int32) : Int32 := if 0 ≤ t ∧ t ≤ nI tc - 1 then o 0 11 else -2
def forceO (o : OV) (tc : Nat) (t : Int32) : OV := if 0 ≤ t ∧ t ≤ nI tc - 1 then up o 0 11 t else o
def cakeP (o : OV) (nc : Nat) (km w p : Int32) : Int32 := if 0 ≤ km ∧ km ≤ 59 then (if 0 ≤ w ∧ w ≤ 999 then (if 0 ≤ p ∧ p ≤ 15 then (if onP o nc p = -1 then (if nc < 8 then nI nc else -4) else -3) else -2) else -2) else -2
def moveP (o : OV) (nc : Nat) (c p : Int32) : Int32 := if 0 ≤ c ∧ c ≤ nI nc - 1 then (if 0 ≤ p ∧ p ≤ 15 then (if onP o nc p = -1 ∨ onP o nc p = c then o 5 (nN c) else -3) else -7) else -5
def moveO (o : OV) (nc : Nat) (c p : Int32) : OV := if 0 ≤ c ∧ c ≤ nI nc - 1 then (if 0 ≤ p ∧ p ≤ 15 then (if onP o nc p = -1 ∨ onP o nc p = c then up o 5 (nN c) p else o) else o) else o
def toldP (o : OV) (nc : Nat) (c w : Int32) : Int32 := if 0 ≤ c ∧ c ≤ nI nc - 1 then (if w = 0 then o 2 (nN c) else if w = 1 then o 3 (nN c) else if w = 2 then o 4 (nN c) else if w = 3 then o 5 (nN c) else if w = 4 then kBegins (o 2 (nN c)) (o 3 (nN c)) else -7) else -5
def openingP (o : OV) (k w : Int32) : Int32 := if 0 ≤ k ∧ k ≤ o 0 8 - 1 then (if 0 ≤ w ∧ w ≤ 1 then (if w = 0 then o 6 (nN k) else o 7 (nN k)) else -7) else -5
def atP (o : OV) (nc : Nat) (ev : EV) (c m : Int32) : Int32 := if 0 ≤ c ∧ c ≤ nI nc - 1 then (if 0 ≤ m ∧ m ≤ o 0 9 then brS o ev (nN c) (nN m) else -7) else -5
def endP (o : OV) (nc : Nat) (ev : EV) (w : Int32) : Int32 := if 0 ≤ w ∧ w ≤ 4 then (if w = 0 then badP o ev nc else if w = 1 then apP o ev nc else if w = 2 then mostI (endB o ev) nc else if w = 3 then leastI (endB o ev) nc else rightX o (endB o ev) nc) else -2
def offP (o : OV) (nc : Nat) (ev : EV) (c w : Int32) : Int32 := if 0 ≤ c ∧ c ≤ nI nc - 1 then (if 0 ≤ w ∧ w ≤ 1 then (if w = 0 then kAway (o 2 (nN c)) (endB o ev (nN c)) (o 4 (nN c)) else badX o ev (nN c) (endB o ev (nN c))) else -7) else -5

theorem t_X11_isCake {d : Nat} {sc : Nat × (Nat → Int32)} {v : Int32} {T : List (Nat × Nat)} {rf : Nat → Nat → Option Nat} {g : Nat → Nat → Int32} {nc : Nat} {F : Int32 → AH → Prop} (hX : XS T rf) (hcn : g 1 5 = nI nc) (k1 : 0 ≤ v ∧ v ≤ nI nc - 1 → F 1 (T, rf, g)) (k0 : ¬ (0 ≤ v ∧ v ≤ nI nc - 1) → F 0 (T, rf, g)) : Mok (d + 1) 0 0 sc kX11_isCake [.ref 0, .int v] (T, rf, g) (Qi F) := by
  refine s_X11_isCake hX (fun h => k1 ?_) (fun h => k0 ?_)
  · rw [hcn] at h; exact h
  · rw [hcn] at h; exact h
theorem lp_X5_cakeOn {d : Nat} {sc : Nat × (Nat → Int32)}  {b : Nat} {T : List (Nat × Nat)} {rf : Nat → Nat → Option Nat} {g : Nat → Nat → Int32} {o : OV} {nc : Nat} {p : Int32} {F : Int32 → AH → Prop} (hOv : OvT T rf b) (hE : OEq (XO g b) o nc) (hV : OVk o nc) (hQ : F (onP o nc p) (T, rf, g)) : ∀ (k j : Nat) (x2 : Int32), (j + k = nc) → (x2 = nI j) → (onP o nc p = scan (fun c => o 5 c = p) k j) → Wp d 0 0 sc kX5_cakeOn (Qi F) 2 [some (.ref b), some (.int p), some (.int x2)] [] (T, rf, g) 0 0 := by
  intro k
  induction k with
  | zero =>
    intro j x2 hj hx2 hs
    have hn8 : nc ≤ 8 := hV.2.1
    have hcn : g b 5 = nI nc := hE.1.1.trans hV.1
    refine xX5_cakeOn_2 ?_
    refine xX5_cakeOn_3 ?_
    refine xX5_cakeOn_4 hOv.1 ?_
    rw [hcn]
    refine xX5_cakeOn_7_t (by rw [hx2]; exact nI_le (by omega) (by omega)) ?_
    refine xX5_cakeOn_28 ?_
    refine xX5_cakeOn_29 rfl rfl ?_
    rw [hs] at hQ
    exact hQ
  | succ k ih =>
    intro j x2 hj hx2 hs
    have hn8 : nc ≤ 8 := hV.2.1
    have hcn : g b 5 = nI nc := hE.1.1.trans hV.1
    refine xX5_cakeOn_2 ?_
    refine xX5_cakeOn_3 ?_
    refine xX5_cakeOn_4 hOv.1 ?_
    rw [hcn]
    refine xX5_cakeOn_7_f (by rw [hx2]; exact nI_ge (by omega) (by omega)) ?_
    refine xX5_cakeOn_10 ?_
    refine xX5_cakeOn_11 hOv.1 hOv.2.2.2.2.2.2.2.2.2.2.2.2.1 ?_
    refine xX5_cakeOn_14 ?_
    refine xX5_cakeOn_15 (j := j) hOv.2.2.2.2.2.1 hx2 (by omega) rfl ?_
    refine xX5_cakeOn_16 ?_
    rw [show g (b + 5) j = o 5 j from (hE.2.2.1 j (by omega)).2.2.2]
    refine xX5_cakeOn_17 (fun c17 => ?_) (fun c17 => ?_)
    · have e : scan (fun c => o 5 c = p) (k + 1) j = scan (fun c => o 5 c = p) k (j + 1) := scan_no (p := fun c => o 5 c = p) c17
      refine xX5_cakeOn_22 rfl rfl ?_
      refine xX5_cakeOn_25 ?_
      exact ih (j + 1) _ (by omega) (by rw [hx2]; exact nI_1 j) (hs.trans e)
    · have e : scan (fun c => o 5 c = p) (k + 1) j = nI j := scan_yes (p := fun c => o 5 c = p) c17
      refine xX5_cakeOn_20 ?_
      refine xX5_cakeOn_21 rfl rfl ?_
      rw [hx2, ← e, ← hs]
      exact hQ
theorem s_X5_cakeOn {d : Nat} {sc : Nat × (Nat → Int32)}  {b : Nat} {T : List (Nat × Nat)} {rf : Nat → Nat → Option Nat} {g : Nat → Nat → Int32} {o : OV} {nc : Nat} {p : Int32} {F : Int32 → AH → Prop} (hOv : OvT T rf b) (hE : OEq (XO g b) o nc) (hV : OVk o nc) (hQ : F (onP o nc p) (T, rf, g)) : Mok d 0 0 sc kX5_cakeOn [.ref b, .int p] (T, rf, g) (Qi F) := by
  refine Mok.ofWp (L := [some (.ref b), some (.int p), none]) rfl rfl rfl ?_
  refine xX5_cakeOn_0 ?_
  refine xX5_cakeOn_1 rfl ?_
  exact lp_X5_cakeOn hOv hE hV hQ nc 0 _ (by omega) rfl rfl
