-- ===== the reference made =====
def fills (r : Nat) : List Int32 → Nat → (Nat → Nat → Int32) → Nat → Nat → Int32
  | [], _, g => g
  | v :: l, p, g => fills r l (p + 1) (up g r p v)
theorem fills_row {r : Nat} : ∀ (l : List Int32) (p : Nat) (g : Nat → Nat → Int32) {a : Nat}, a ≠ r → fills r l p g a = g a := by
  intro l
  induction l with
  | nil => intro p g a _; rfl
  | cons v l ih => intro p g a h; exact (ih _ _ h).trans (up_row h)
theorem fills_lt {r : Nat} : ∀ (l : List Int32) (p : Nat) (g : Nat → Nat → Int32) {i : Nat}, i < p → fills r l p g r i = g r i := by
  intro l
  induction l with
  | nil => intro p g i _; rfl
  | cons v l ih => intro p g i h; exact (ih _ _ (by omega)).trans (up_ne (by omega))
theorem fills_at {r : Nat} : ∀ (l : List Int32) (p : Nat) (g : Nat → Nat → Int32) (i : Nat), i < l.length → fills r l p g r (p + i) = l.getD i 0 := by
  intro l
  induction l with
  | nil => intro p g i h; exact absurd h (Nat.not_lt_zero i)
  | cons v l ih =>
    intro p g i h
    cases i with
    | zero => exact (fills_lt l (p + 1) _ (by omega)).trans (up_same _ _ _ _)
    | succ i =>
      have := ih (p + 1) (up g r p v) i (by simpa using h)
      rw [show p + (i + 1) = p + 1 + i by omega]
      exact this
theorem fills_0 {r : Nat} {l : List Int32} {g : Nat → Nat → Int32} {i : Nat} (h : i < l.length) : fills r l 0 g r i = l.getD i 0 := by
  have := fills_at (r := r) l 0 g i h
  rw [Nat.zero_add] at this
  exact this
def HOT0 : List Int32 := [10, 10, 10, 10, 10, 10, 10, 10, 10, 10, 10, 10, 10, 10, 10, 10]
def SRT0 : List Int32 := [(-1), (-1), (-1), (-1)]
def LAW0 : List Int32 := [98, 114, 111, 119, 110, 115, 32, 104, 101, 97, 116, 32, 42, 32, 50, 32, 59, 32, 99, 111, 111, 108, 115, 32, 40, 32, 115, 105, 110, 99, 101, 32, 60, 32, 51, 32, 41, 32, 42, 32, 53, 32, 59, 32, 109, 105, 110, 100, 115, 32, 49, 32, 59]
def WRD0 : List Int32 := [98, 114, 111, 119, 110, 115, 32, 32, 99, 111, 111, 108, 115, 32, 32, 32, 109, 105, 110, 100, 115, 32, 32, 32, 104, 101, 97, 116, 32, 32, 32, 32, 109, 105, 110, 117, 116, 101, 32, 32, 98, 114, 111, 119, 110, 32, 32, 32, 109, 111, 114, 101, 32, 32, 32, 32, 115, 105, 110, 99, 101, 32, 32, 32, 111, 112, 101, 110, 105, 110, 103, 115, 111, 114, 32, 32, 32, 32, 32, 32, 97, 110, 100, 32, 32, 32, 32, 32, 110, 111, 116, 32, 32, 32, 32, 32]
theorem lists0 : (∀ i, i < 16 → HOT0.getD i 0 = 10) ∧ (∀ i, i < 4 → SRT0.getD i 0 = -1) ∧ LAW0 = lawB ∧ (∀ k, k < 12 → ∀ c, c < 8 → WRD0.getD (8 * k + c) 0 = (WMl.getD k []).getD c 32) ∧ LAW0.length = 53 ∧ WRD0.length = 96 := by decide +kernel
def T76 : List (Nat × Nat) := T53 ++ [(12, 0)] ++ [(20, 16)] ++ [(20, 8)] ++ [(20, 8)] ++ [(20, 8)] ++ [(20, 8)] ++ [(20, 6)] ++ [(20, 6)] ++ [(20, 160)] ++ [(20, 1200)] ++ [(20, 24)] ++ [(20, 36)] ++ [(20, 4)] ++ [(20, 4)] ++ [(20, 160)] ++ [(20, 53)] ++ [(20, 96)] ++ [(20, 200)] ++ [(20, 200)] ++ [(20, 6)] ++ [(20, 328)] ++ [(20, 6)] ++ [(20, 6)] ++ [(20, 16)]
theorem lp_X12_init {d : Nat} {sc : Nat × (Nat → Int32)} {T : List (Nat × Nat)} {rf : Nat → Nat → Option Nat} {g0 : Nat → Nat → Int32} {F : AH → Prop} (hM : MS T rf) (hw : ∀ i, i < 53 → g0 68 i = lawB.getD i 0) (hQ : ∀ g2 x1, (∀ a, a ≠ 61 → g2 a = g0 a) → (∀ i, i < 53 → g2 61 i = lawB.getD i 0) → Wp (d + 6) 23 2559 sc kX12_init (Qv F) 1212 [some (.ref 53), some (.int x1)] [] (T, rf, g2) 23 2559) : ∀ (k j : Nat) (x1 : Int32) (g : Nat → Nat → Int32), (j + k = 53) → (x1 = nI j) → (∀ a, a ≠ 61 → g a = g0 a) → (∀ i, i < j → g 61 i = lawB.getD i 0) → Wp (d + 6) 23 2559 sc kX12_init (Qv F) 1188 [some (.ref 53), some (.int x1)] [] (T, rf, g) 23 2559 := by
  intro k
  induction k with
  | zero =>
    intro j x1 g hj hx1 hf hi
    subst hx1
    refine xX12_init_1188 ?_
    refine xX12_init_1189 ?_
    refine xX12_init_1191_t (nI_le (a := 53) (by omega) (by omega)) ?_
    have e : j = 53 := by omega
    subst e
    exact hQ _ _ hf hi
  | succ k ih =>
    intro j x1 g hj hx1 hf hi
    subst hx1
    refine xX12_init_1188 ?_
    refine xX12_init_1189 ?_
    refine xX12_init_1191_f (nI_ge (b := 53) (by omega) (by omega)) ?_
    refine xX12_init_1194 ?_
    refine xX12_init_1195 (hM.1 _ _ rfl) (hM.2 _ _ _ rfl) ?_
    refine xX12_init_1198 ?_
    refine xX12_init_1199 ?_
    refine xX12_init_1200 (hM.1 _ _ rfl) (hM.2 _ _ _ rfl) ?_
    refine xX12_init_1203 ?_
    refine xX12_init_1204 (j := j) (hM.1 _ _ rfl) rfl (by omega) rfl ?_
    rw [hf 68 (by omega), hw j (by omega)]
    refine xX12_init_1205 (j := j) (hM.1 _ _ rfl) rfl (by omega) rfl ?_
    refine xX12_init_1206 rfl rfl ?_
    refine xX12_init_1209 ?_
    exact ih (j + 1) _ _ (by omega) (nI_1 j) (fun a p => by rw [up_row p]; exact hf a p) (fun i hi2 => by
      by_cases z : i = j
      · subst z; exact up_same _ _ _ _
      · rw [up_ne (fun y => z y.2)]; exact hi i (by omega))
def MRp : List (Nat × Nat × Nat) := [(53, 0, 54), (53, 4, 55), (53, 5, 56), (53, 6, 57), (53, 7, 58), (53, 8, 59), (53, 9, 60), (53, 11, 61), (53, 13, 62), (53, 14, 63), (53, 23, 64), (53, 24, 65), (53, 25, 66), (53, 26, 67), (53, 27, 68), (53, 32, 69), (53, 33, 70), (53, 37, 71), (53, 38, 72), (53, 39, 73), (53, 40, 74), (53, 41, 75), (53, 44, 76)]
theorem MRp_all : ∀ k, k < 49 → ∀ b ∈ (MRl.getD k none).toList, (53, k, b) ∈ MRp := by decide +kernel
theorem T53_l : T53.length = 53 := rfl
set_option maxHeartbeats 1000000 in
theorem s_X12_init {d : Nat} {sc : Nat × (Nat → Int32)} {T : List (Nat × Nat)} {rf : Nat → Nat → Option Nat} {g : Nat → Nat → Int32} {F : AH → Prop} (hT : T = T53 ++ [(12, 0)]) (hz : ∀ k, g 53 k = 0) (hw0 : css0.length = 3 ∧ (∀ c ∈ css0, wfd c 0) ∧ css0.flatten.length ≤ 160) (hQ : ∀ rf2 g2, MS T76 rf2 → (∀ a, a ≠ 53 → rf2 a = rf a) → (∀ a, a < 53 → g2 a = g a) → WR g2 → MH g2 sh0 → MTp g2 [] → g2 53 15 = nI 1 → g2 53 17 = 0 → OEq (MOv g2) o0 0 → ML g2 0 (fun p => css0.getD p []) → F (T76, rf2, g2)) : Mok (d + 6) 23 2559 sc kX12_init [.ref 53] (T, rf, g) (Qv F) := by
  subst hT
  refine Mok.ofWp (L := [some (.ref 53), none]) rfl rfl rfl ?_
  refine xX12_init_0 ?_
  refine xX12_init_1 rfl ?_
  refine xX12_init_4 ?_
  refine xX12_init_5 ?_
  refine xX12_init_7 (j := 16) (n := 54) (kc1 := 1) (ks1 := 16) (by decide) rfl rfl rfl rfl rfl rfl rfl (fun hr54 hg54 => ?_)
  refine xX12_init_9 rfl ?_
  refine xX12_init_10 ?_
  refine xX12_init_11 ?_
  refine xX12_init_13 (j := 0) rfl (by decide) (by decide) rfl ?_
  refine xX12_init_14 rfl ?_
  refine xX12_init_15 ?_
  refine xX12_init_16 ?_
  refine xX12_init_18 (j := 1) rfl (by decide) (by decide) rfl ?_
  refine xX12_init_19 rfl ?_
  refine xX12_init_20 ?_
  refine xX12_init_21 ?_
  refine xX12_init_23 (j := 2) rfl (by decide) (by decide) rfl ?_
  refine xX12_init_24 rfl ?_
  refine xX12_init_25 ?_
  refine xX12_init_26 ?_
  refine xX12_init_28 (j := 3) rfl (by decide) (by decide) rfl ?_
  refine xX12_init_29 rfl ?_
  refine xX12_init_30 ?_
  refine xX12_init_31 ?_
  refine xX12_init_33 (j := 4) rfl (by decide) (by decide) rfl ?_
  refine xX12_init_34 rfl ?_
  refine xX12_init_35 ?_
  refine xX12_init_36 ?_
  refine xX12_init_38 (j := 5) rfl (by decide) (by decide) rfl ?_
  refine xX12_init_39 rfl ?_
  refine xX12_init_40 ?_
  refine xX12_init_42 ?_
  refine xX12_init_44 (j := 6) rfl (by decide) (by decide) rfl ?_
  refine xX12_init_45 rfl ?_
  refine xX12_init_46 ?_
  refine xX12_init_48 ?_
  refine xX12_init_50 (j := 7) rfl (by decide) (by decide) rfl ?_
  refine xX12_init_51 rfl ?_
  refine xX12_init_52 ?_
  refine xX12_init_54 ?_
  refine xX12_init_56 (j := 8) rfl (by decide) (by decide) rfl ?_
  refine xX12_init_57 rfl ?_
  refine xX12_init_58 ?_
  refine xX12_init_60 ?_
  refine xX12_init_62 (j := 9) rfl (by decide) (by decide) rfl ?_
  refine xX12_init_63 rfl ?_
  refine xX12_init_64 ?_
  refine xX12_init_66 ?_
  refine xX12_init_68 (j := 10) rfl (by decide) (by decide) rfl ?_
  refine xX12_init_69 rfl ?_
  refine xX12_init_70 ?_
  refine xX12_init_72 ?_
  refine xX12_init_74 (j := 11) rfl (by decide) (by decide) rfl ?_
  refine xX12_init_75 rfl ?_
  refine xX12_init_76 ?_
  refine xX12_init_78 ?_
  refine xX12_init_80 (j := 12) rfl (by decide) (by decide) rfl ?_
  refine xX12_init_81 rfl ?_
  refine xX12_init_82 ?_
  refine xX12_init_84 ?_
  refine xX12_init_86 (j := 13) rfl (by decide) (by decide) rfl ?_
  refine xX12_init_87 rfl ?_
  refine xX12_init_88 ?_
  refine xX12_init_90 ?_
  refine xX12_init_92 (j := 14) rfl (by decide) (by decide) rfl ?_
  refine xX12_init_93 rfl ?_
  refine xX12_init_94 ?_
  refine xX12_init_96 ?_
  refine xX12_init_98 (j := 15) rfl (by decide) (by decide) rfl ?_
  obtain ⟨gA, hgA_⟩ : ∃ gA, gA = fills 54 HOT0 0 g := ⟨_, rfl⟩
  change Wp _ _ _ _ _ _ _ _ _ (_, _, fills 54 HOT0 0 g) _ _
  rw [← hgA_]
  refine xX12_init_99 rfl rfl ?_
  refine xX12_init_102 ?_
  refine xX12_init_103 ?_
  refine xX12_init_105 rfl ?_
  refine xX12_init_108 ?_
  refine xX12_init_109 ?_
  refine xX12_init_111 (j := 8) (n := 55) (kc1 := 2) (ks1 := 24) (by decide) rfl rfl rfl rfl rfl rfl rfl (fun hr55 hg55 => ?_)
  refine xX12_init_113 rfl rfl ?_
  refine xX12_init_116 ?_
  refine xX12_init_117 ?_
  refine xX12_init_119 (j := 8) (n := 56) (kc1 := 3) (ks1 := 32) (by decide) rfl rfl rfl rfl rfl rfl rfl (fun hr56 hg56 => ?_)
  refine xX12_init_121 rfl rfl ?_
  refine xX12_init_124 ?_
  refine xX12_init_125 ?_
  refine xX12_init_127 (j := 8) (n := 57) (kc1 := 4) (ks1 := 40) (by decide) rfl rfl rfl rfl rfl rfl rfl (fun hr57 hg57 => ?_)
  refine xX12_init_129 rfl rfl ?_
  refine xX12_init_132 ?_
  refine xX12_init_133 ?_
  refine xX12_init_135 (j := 8) (n := 58) (kc1 := 5) (ks1 := 48) (by decide) rfl rfl rfl rfl rfl rfl rfl (fun hr58 hg58 => ?_)
  refine xX12_init_137 rfl rfl ?_
  refine xX12_init_140 ?_
  refine xX12_init_141 ?_
  refine xX12_init_143 (j := 6) (n := 59) (kc1 := 6) (ks1 := 54) (by decide) rfl rfl rfl rfl rfl rfl rfl (fun hr59 hg59 => ?_)
  have h59 : ∀ k, g 59 k = 0 := fun k => by rw [← hg59 k]; exact (congrFun (by rw [up_row (by omega), hgA_, fills_row _ _ _ (by omega)] : up gA 53 1 20 59 = g 59) k).symm
  refine xX12_init_145 rfl rfl ?_
  refine xX12_init_148 ?_
  refine xX12_init_149 ?_
  refine xX12_init_151 (j := 6) (n := 60) (kc1 := 7) (ks1 := 60) (by decide) rfl rfl rfl rfl rfl rfl rfl (fun hr60 hg60 => ?_)
  have h60 : ∀ k, g 60 k = 0 := fun k => by rw [← hg60 k]; exact (congrFun (by rw [up_row (by omega), hgA_, fills_row _ _ _ (by omega)] : up gA 53 1 20 60 = g 60) k).symm
  refine xX12_init_153 rfl rfl ?_
  refine xX12_init_156 ?_
  refine xX12_init_157 ?_
  refine xX12_init_160 (j := 160) (n := 61) (kc1 := 8) (ks1 := 220) (by decide) rfl rfl rfl rfl rfl rfl rfl (fun hr61 hg61 => ?_)
  refine xX12_init_162 rfl rfl ?_
  refine xX12_init_165 ?_
  refine xX12_init_166 ?_
  refine xX12_init_169 (j := 1200) (n := 62) (kc1 := 9) (ks1 := 1420) (by decide) rfl rfl rfl rfl rfl rfl rfl (fun hr62 hg62 => ?_)
  refine xX12_init_171 rfl rfl ?_
  refine xX12_init_174 ?_
  refine xX12_init_175 ?_
  refine xX12_init_177 (j := 24) (n := 63) (kc1 := 10) (ks1 := 1444) (by decide) rfl rfl rfl rfl rfl rfl rfl (fun hr63 hg63 => ?_)
  refine xX12_init_179 rfl rfl ?_
  refine xX12_init_182 ?_
  refine xX12_init_183 ?_
  refine xX12_init_185 (j := 36) (n := 64) (kc1 := 11) (ks1 := 1480) (by decide) rfl rfl rfl rfl rfl rfl rfl (fun hr64 hg64 => ?_)
  refine xX12_init_187 rfl rfl ?_
  refine xX12_init_190 ?_
  refine xX12_init_191 ?_
  refine xX12_init_192 (j := 4) (n := 65) (kc1 := 12) (ks1 := 1484) (by decide) rfl rfl rfl rfl rfl rfl rfl (fun hr65 hg65 => ?_)
  refine xX12_init_194 rfl ?_
  refine xX12_init_195 ?_
  refine xX12_init_196 ?_
  refine xX12_init_197 (j := 0) rfl (by decide) (by decide) rfl ?_
  refine xX12_init_198 rfl ?_
  refine xX12_init_199 ?_
  refine xX12_init_200 ?_
  refine xX12_init_201 (j := 1) rfl (by decide) (by decide) rfl ?_
  refine xX12_init_202 rfl ?_
  refine xX12_init_203 ?_
  refine xX12_init_204 ?_
  refine xX12_init_205 (j := 2) rfl (by decide) (by decide) rfl ?_
  refine xX12_init_206 rfl ?_
  refine xX12_init_207 ?_
  refine xX12_init_208 ?_
  refine xX12_init_209 (j := 3) rfl (by decide) (by decide) rfl ?_
  obtain ⟨gB, hgB_⟩ : ∃ gB, gB = fills 65 SRT0 0 (up gA 53 1 20) := ⟨_, rfl⟩
  change Wp _ _ _ _ _ _ _ _ _ (_, _, fills 65 SRT0 0 (up gA 53 1 20)) _ _
  rw [← hgB_]
  refine xX12_init_210 rfl rfl ?_
  refine xX12_init_213 ?_
  refine xX12_init_214 ?_
  refine xX12_init_215 (j := 4) (n := 66) (kc1 := 13) (ks1 := 1488) (by decide) rfl rfl rfl rfl rfl rfl rfl (fun hr66 hg66 => ?_)
  have hg66 : ∀ k, g 66 k = 0 := fun k => by rw [← hg66 k]; exact (congrFun (by rw [hgB_, fills_row _ _ _ (by omega), up_row (by omega), hgA_, fills_row _ _ _ (by omega)] : gB 66 = g 66) k).symm
  refine xX12_init_217 rfl rfl ?_
  refine xX12_init_220 ?_
  refine xX12_init_221 ?_
  refine xX12_init_224 (j := 160) (n := 67) (kc1 := 14) (ks1 := 1648) (by decide) rfl rfl rfl rfl rfl rfl rfl (fun hr67 hg67 => ?_)
  have hg67 : ∀ k, g 67 k = 0 := fun k => by rw [← hg67 k]; exact (congrFun (by rw [hgB_, fills_row _ _ _ (by omega), up_row (by omega), hgA_, fills_row _ _ _ (by omega)] : gB 67 = g 67) k).symm
  refine xX12_init_226 rfl rfl ?_
  refine xX12_init_229 ?_
  refine xX12_init_230 ?_
  refine xX12_init_232 (j := 53) (n := 68) (kc1 := 15) (ks1 := 1701) (by decide) rfl rfl rfl rfl rfl rfl rfl (fun hr68 hg68 => ?_)
  refine xX12_init_234 rfl ?_
  refine xX12_init_235 ?_
  refine xX12_init_236 ?_
  refine xX12_init_238 (j := 0) rfl (by decide) (by decide) rfl ?_
  refine xX12_init_239 rfl ?_
  refine xX12_init_240 ?_
  refine xX12_init_241 ?_
  refine xX12_init_243 (j := 1) rfl (by decide) (by decide) rfl ?_
  refine xX12_init_244 rfl ?_
  refine xX12_init_245 ?_
  refine xX12_init_246 ?_
  refine xX12_init_248 (j := 2) rfl (by decide) (by decide) rfl ?_
  refine xX12_init_249 rfl ?_
  refine xX12_init_250 ?_
  refine xX12_init_251 ?_
  refine xX12_init_253 (j := 3) rfl (by decide) (by decide) rfl ?_
  refine xX12_init_254 rfl ?_
  refine xX12_init_255 ?_
  refine xX12_init_256 ?_
  refine xX12_init_258 (j := 4) rfl (by decide) (by decide) rfl ?_
  refine xX12_init_259 rfl ?_
  refine xX12_init_260 ?_
  refine xX12_init_261 ?_
  refine xX12_init_263 (j := 5) rfl (by decide) (by decide) rfl ?_
  refine xX12_init_264 rfl ?_
  refine xX12_init_265 ?_
  refine xX12_init_267 ?_
  refine xX12_init_269 (j := 6) rfl (by decide) (by decide) rfl ?_
  refine xX12_init_270 rfl ?_
  refine xX12_init_271 ?_
  refine xX12_init_273 ?_
  refine xX12_init_275 (j := 7) rfl (by decide) (by decide) rfl ?_
  refine xX12_init_276 rfl ?_
  refine xX12_init_277 ?_
  refine xX12_init_279 ?_
  refine xX12_init_281 (j := 8) rfl (by decide) (by decide) rfl ?_
  refine xX12_init_282 rfl ?_
  refine xX12_init_283 ?_
  refine xX12_init_285 ?_
  refine xX12_init_287 (j := 9) rfl (by decide) (by decide) rfl ?_
  refine xX12_init_288 rfl ?_
  refine xX12_init_289 ?_
  refine xX12_init_291 ?_
  refine xX12_init_293 (j := 10) rfl (by decide) (by decide) rfl ?_
  refine xX12_init_294 rfl ?_
  refine xX12_init_295 ?_
  refine xX12_init_297 ?_
  refine xX12_init_299 (j := 11) rfl (by decide) (by decide) rfl ?_
  refine xX12_init_300 rfl ?_
  refine xX12_init_301 ?_
  refine xX12_init_303 ?_
  refine xX12_init_305 (j := 12) rfl (by decide) (by decide) rfl ?_
  refine xX12_init_306 rfl ?_
  refine xX12_init_307 ?_
  refine xX12_init_309 ?_
  refine xX12_init_311 (j := 13) rfl (by decide) (by decide) rfl ?_
  refine xX12_init_312 rfl ?_
  refine xX12_init_313 ?_
  refine xX12_init_315 ?_
  refine xX12_init_317 (j := 14) rfl (by decide) (by decide) rfl ?_
  refine xX12_init_318 rfl ?_
  refine xX12_init_319 ?_
  refine xX12_init_321 ?_
  refine xX12_init_323 (j := 15) rfl (by decide) (by decide) rfl ?_
  refine xX12_init_324 rfl ?_
  refine xX12_init_325 ?_
  refine xX12_init_327 ?_
  refine xX12_init_329 (j := 16) rfl (by decide) (by decide) rfl ?_
  refine xX12_init_330 rfl ?_
  refine xX12_init_331 ?_
  refine xX12_init_333 ?_
  refine xX12_init_335 (j := 17) rfl (by decide) (by decide) rfl ?_
  refine xX12_init_336 rfl ?_
  refine xX12_init_337 ?_
  refine xX12_init_339 ?_
  refine xX12_init_341 (j := 18) rfl (by decide) (by decide) rfl ?_
  refine xX12_init_342 rfl ?_
  refine xX12_init_343 ?_
  refine xX12_init_345 ?_
  refine xX12_init_347 (j := 19) rfl (by decide) (by decide) rfl ?_
  refine xX12_init_348 rfl ?_
  refine xX12_init_349 ?_
  refine xX12_init_351 ?_
  refine xX12_init_353 (j := 20) rfl (by decide) (by decide) rfl ?_
  refine xX12_init_354 rfl ?_
  refine xX12_init_355 ?_
  refine xX12_init_357 ?_
  refine xX12_init_359 (j := 21) rfl (by decide) (by decide) rfl ?_
  refine xX12_init_360 rfl ?_
  refine xX12_init_361 ?_
  refine xX12_init_363 ?_
  refine xX12_init_365 (j := 22) rfl (by decide) (by decide) rfl ?_
  refine xX12_init_366 rfl ?_
  refine xX12_init_367 ?_
  refine xX12_init_369 ?_
  refine xX12_init_371 (j := 23) rfl (by decide) (by decide) rfl ?_
  refine xX12_init_372 rfl ?_
  refine xX12_init_373 ?_
  refine xX12_init_375 ?_
  refine xX12_init_377 (j := 24) rfl (by decide) (by decide) rfl ?_
  refine xX12_init_378 rfl ?_
  refine xX12_init_379 ?_
  refine xX12_init_381 ?_
  refine xX12_init_383 (j := 25) rfl (by decide) (by decide) rfl ?_
  refine xX12_init_384 rfl ?_
  refine xX12_init_385 ?_
  refine xX12_init_387 ?_
  refine xX12_init_389 (j := 26) rfl (by decide) (by decide) rfl ?_
  refine xX12_init_390 rfl ?_
  refine xX12_init_391 ?_
  refine xX12_init_393 ?_
  refine xX12_init_395 (j := 27) rfl (by decide) (by decide) rfl ?_
  refine xX12_init_396 rfl ?_
  refine xX12_init_397 ?_
  refine xX12_init_399 ?_
  refine xX12_init_401 (j := 28) rfl (by decide) (by decide) rfl ?_
  refine xX12_init_402 rfl ?_
  refine xX12_init_403 ?_
  refine xX12_init_405 ?_
  refine xX12_init_407 (j := 29) rfl (by decide) (by decide) rfl ?_
  refine xX12_init_408 rfl ?_
  refine xX12_init_409 ?_
  refine xX12_init_411 ?_
  refine xX12_init_413 (j := 30) rfl (by decide) (by decide) rfl ?_
  refine xX12_init_414 rfl ?_
  refine xX12_init_415 ?_
  refine xX12_init_417 ?_
  refine xX12_init_419 (j := 31) rfl (by decide) (by decide) rfl ?_
  refine xX12_init_420 rfl ?_
  refine xX12_init_421 ?_
  refine xX12_init_423 ?_
  refine xX12_init_425 (j := 32) rfl (by decide) (by decide) rfl ?_
  refine xX12_init_426 rfl ?_
  refine xX12_init_427 ?_
  refine xX12_init_429 ?_
  refine xX12_init_431 (j := 33) rfl (by decide) (by decide) rfl ?_
  refine xX12_init_432 rfl ?_
  refine xX12_init_433 ?_
  refine xX12_init_435 ?_
  refine xX12_init_437 (j := 34) rfl (by decide) (by decide) rfl ?_
  refine xX12_init_438 rfl ?_
  refine xX12_init_439 ?_
  refine xX12_init_441 ?_
  refine xX12_init_443 (j := 35) rfl (by decide) (by decide) rfl ?_
  refine xX12_init_444 rfl ?_
  refine xX12_init_445 ?_
  refine xX12_init_447 ?_
  refine xX12_init_449 (j := 36) rfl (by decide) (by decide) rfl ?_
  refine xX12_init_450 rfl ?_
  refine xX12_init_451 ?_
  refine xX12_init_453 ?_
  refine xX12_init_455 (j := 37) rfl (by decide) (by decide) rfl ?_
  refine xX12_init_456 rfl ?_
  refine xX12_init_457 ?_
  refine xX12_init_459 ?_
  refine xX12_init_461 (j := 38) rfl (by decide) (by decide) rfl ?_
  refine xX12_init_462 rfl ?_
  refine xX12_init_463 ?_
  refine xX12_init_465 ?_
  refine xX12_init_467 (j := 39) rfl (by decide) (by decide) rfl ?_
  refine xX12_init_468 rfl ?_
  refine xX12_init_469 ?_
  refine xX12_init_471 ?_
  refine xX12_init_473 (j := 40) rfl (by decide) (by decide) rfl ?_
  refine xX12_init_474 rfl ?_
  refine xX12_init_475 ?_
  refine xX12_init_477 ?_
  refine xX12_init_479 (j := 41) rfl (by decide) (by decide) rfl ?_
  refine xX12_init_480 rfl ?_
  refine xX12_init_481 ?_
  refine xX12_init_483 ?_
  refine xX12_init_485 (j := 42) rfl (by decide) (by decide) rfl ?_
  refine xX12_init_486 rfl ?_
  refine xX12_init_487 ?_
  refine xX12_init_489 ?_
  refine xX12_init_491 (j := 43) rfl (by decide) (by decide) rfl ?_
  refine xX12_init_492 rfl ?_
  refine xX12_init_493 ?_
  refine xX12_init_495 ?_
  refine xX12_init_497 (j := 44) rfl (by decide) (by decide) rfl ?_
  refine xX12_init_498 rfl ?_
  refine xX12_init_499 ?_
  refine xX12_init_501 ?_
  refine xX12_init_503 (j := 45) rfl (by decide) (by decide) rfl ?_
  refine xX12_init_504 rfl ?_
  refine xX12_init_505 ?_
  refine xX12_init_507 ?_
  refine xX12_init_509 (j := 46) rfl (by decide) (by decide) rfl ?_
  refine xX12_init_510 rfl ?_
  refine xX12_init_511 ?_
  refine xX12_init_513 ?_
  refine xX12_init_515 (j := 47) rfl (by decide) (by decide) rfl ?_
  refine xX12_init_516 rfl ?_
  refine xX12_init_517 ?_
  refine xX12_init_519 ?_
  refine xX12_init_521 (j := 48) rfl (by decide) (by decide) rfl ?_
  refine xX12_init_522 rfl ?_
  refine xX12_init_523 ?_
  refine xX12_init_525 ?_
  refine xX12_init_527 (j := 49) rfl (by decide) (by decide) rfl ?_
  refine xX12_init_528 rfl ?_
  refine xX12_init_529 ?_
  refine xX12_init_531 ?_
  refine xX12_init_533 (j := 50) rfl (by decide) (by decide) rfl ?_
  refine xX12_init_534 rfl ?_
  refine xX12_init_535 ?_
  refine xX12_init_537 ?_
  refine xX12_init_539 (j := 51) rfl (by decide) (by decide) rfl ?_
  refine xX12_init_540 rfl ?_
  refine xX12_init_541 ?_
  refine xX12_init_543 ?_
  refine xX12_init_545 (j := 52) rfl (by decide) (by decide) rfl ?_
  obtain ⟨gC, hgC_⟩ : ∃ gC, gC = fills 68 LAW0 0 gB := ⟨_, rfl⟩
  change Wp _ _ _ _ _ _ _ _ _ (_, _, fills 68 LAW0 0 gB) _ _
  rw [← hgC_]
  refine xX12_init_546 rfl rfl ?_
  refine xX12_init_549 ?_
  refine xX12_init_550 ?_
  refine xX12_init_552 (j := 96) (n := 69) (kc1 := 16) (ks1 := 1797) (by decide) rfl rfl rfl rfl rfl rfl rfl (fun hr69 hg69 => ?_)
  refine xX12_init_554 rfl ?_
  refine xX12_init_555 ?_
  refine xX12_init_556 ?_
  refine xX12_init_558 (j := 0) rfl (by decide) (by decide) rfl ?_
  refine xX12_init_559 rfl ?_
  refine xX12_init_560 ?_
  refine xX12_init_561 ?_
  refine xX12_init_563 (j := 1) rfl (by decide) (by decide) rfl ?_
  refine xX12_init_564 rfl ?_
  refine xX12_init_565 ?_
  refine xX12_init_566 ?_
  refine xX12_init_568 (j := 2) rfl (by decide) (by decide) rfl ?_
  refine xX12_init_569 rfl ?_
  refine xX12_init_570 ?_
  refine xX12_init_571 ?_
  refine xX12_init_573 (j := 3) rfl (by decide) (by decide) rfl ?_
  refine xX12_init_574 rfl ?_
  refine xX12_init_575 ?_
  refine xX12_init_576 ?_
  refine xX12_init_578 (j := 4) rfl (by decide) (by decide) rfl ?_
  refine xX12_init_579 rfl ?_
  refine xX12_init_580 ?_
  refine xX12_init_581 ?_
  refine xX12_init_583 (j := 5) rfl (by decide) (by decide) rfl ?_
  refine xX12_init_584 rfl ?_
  refine xX12_init_585 ?_
  refine xX12_init_587 ?_
  refine xX12_init_589 (j := 6) rfl (by decide) (by decide) rfl ?_
  refine xX12_init_590 rfl ?_
  refine xX12_init_591 ?_
  refine xX12_init_593 ?_
  refine xX12_init_595 (j := 7) rfl (by decide) (by decide) rfl ?_
  refine xX12_init_596 rfl ?_
  refine xX12_init_597 ?_
  refine xX12_init_599 ?_
  refine xX12_init_601 (j := 8) rfl (by decide) (by decide) rfl ?_
  refine xX12_init_602 rfl ?_
  refine xX12_init_603 ?_
  refine xX12_init_605 ?_
  refine xX12_init_607 (j := 9) rfl (by decide) (by decide) rfl ?_
  refine xX12_init_608 rfl ?_
  refine xX12_init_609 ?_
  refine xX12_init_611 ?_
  refine xX12_init_613 (j := 10) rfl (by decide) (by decide) rfl ?_
  refine xX12_init_614 rfl ?_
  refine xX12_init_615 ?_
  refine xX12_init_617 ?_
  refine xX12_init_619 (j := 11) rfl (by decide) (by decide) rfl ?_
  refine xX12_init_620 rfl ?_
  refine xX12_init_621 ?_
  refine xX12_init_623 ?_
  refine xX12_init_625 (j := 12) rfl (by decide) (by decide) rfl ?_
  refine xX12_init_626 rfl ?_
  refine xX12_init_627 ?_
  refine xX12_init_629 ?_
  refine xX12_init_631 (j := 13) rfl (by decide) (by decide) rfl ?_
  refine xX12_init_632 rfl ?_
  refine xX12_init_633 ?_
  refine xX12_init_635 ?_
  refine xX12_init_637 (j := 14) rfl (by decide) (by decide) rfl ?_
  refine xX12_init_638 rfl ?_
  refine xX12_init_639 ?_
  refine xX12_init_641 ?_
  refine xX12_init_643 (j := 15) rfl (by decide) (by decide) rfl ?_
  refine xX12_init_644 rfl ?_
  refine xX12_init_645 ?_
  refine xX12_init_647 ?_
  refine xX12_init_649 (j := 16) rfl (by decide) (by decide) rfl ?_
  refine xX12_init_650 rfl ?_
  refine xX12_init_651 ?_
  refine xX12_init_653 ?_
  refine xX12_init_655 (j := 17) rfl (by decide) (by decide) rfl ?_
  refine xX12_init_656 rfl ?_
  refine xX12_init_657 ?_
  refine xX12_init_659 ?_
  refine xX12_init_661 (j := 18) rfl (by decide) (by decide) rfl ?_
  refine xX12_init_662 rfl ?_
  refine xX12_init_663 ?_
  refine xX12_init_665 ?_
  refine xX12_init_667 (j := 19) rfl (by decide) (by decide) rfl ?_
  refine xX12_init_668 rfl ?_
  refine xX12_init_669 ?_
  refine xX12_init_671 ?_
  refine xX12_init_673 (j := 20) rfl (by decide) (by decide) rfl ?_
  refine xX12_init_674 rfl ?_
  refine xX12_init_675 ?_
  refine xX12_init_677 ?_
  refine xX12_init_679 (j := 21) rfl (by decide) (by decide) rfl ?_
  refine xX12_init_680 rfl ?_
  refine xX12_init_681 ?_
  refine xX12_init_683 ?_
  refine xX12_init_685 (j := 22) rfl (by decide) (by decide) rfl ?_
  refine xX12_init_686 rfl ?_
  refine xX12_init_687 ?_
  refine xX12_init_689 ?_
  refine xX12_init_691 (j := 23) rfl (by decide) (by decide) rfl ?_
  refine xX12_init_692 rfl ?_
  refine xX12_init_693 ?_
  refine xX12_init_695 ?_
  refine xX12_init_697 (j := 24) rfl (by decide) (by decide) rfl ?_
  refine xX12_init_698 rfl ?_
  refine xX12_init_699 ?_
  refine xX12_init_701 ?_
  refine xX12_init_703 (j := 25) rfl (by decide) (by decide) rfl ?_
  refine xX12_init_704 rfl ?_
  refine xX12_init_705 ?_
  refine xX12_init_707 ?_
  refine xX12_init_709 (j := 26) rfl (by decide) (by decide) rfl ?_
  refine xX12_init_710 rfl ?_
  refine xX12_init_711 ?_
  refine xX12_init_713 ?_
  refine xX12_init_715 (j := 27) rfl (by decide) (by decide) rfl ?_
  refine xX12_init_716 rfl ?_
  refine xX12_init_717 ?_
  refine xX12_init_719 ?_
  refine xX12_init_721 (j := 28) rfl (by decide) (by decide) rfl ?_
  refine xX12_init_722 rfl ?_
  refine xX12_init_723 ?_
  refine xX12_init_725 ?_
  refine xX12_init_727 (j := 29) rfl (by decide) (by decide) rfl ?_
  refine xX12_init_728 rfl ?_
  refine xX12_init_729 ?_
  refine xX12_init_731 ?_
  refine xX12_init_733 (j := 30) rfl (by decide) (by decide) rfl ?_
  refine xX12_init_734 rfl ?_
  refine xX12_init_735 ?_
  refine xX12_init_737 ?_
  refine xX12_init_739 (j := 31) rfl (by decide) (by decide) rfl ?_
  refine xX12_init_740 rfl ?_
  refine xX12_init_741 ?_
  refine xX12_init_743 ?_
  refine xX12_init_745 (j := 32) rfl (by decide) (by decide) rfl ?_
  refine xX12_init_746 rfl ?_
  refine xX12_init_747 ?_
  refine xX12_init_749 ?_
  refine xX12_init_751 (j := 33) rfl (by decide) (by decide) rfl ?_
  refine xX12_init_752 rfl ?_
  refine xX12_init_753 ?_
  refine xX12_init_755 ?_
  refine xX12_init_757 (j := 34) rfl (by decide) (by decide) rfl ?_
  refine xX12_init_758 rfl ?_
  refine xX12_init_759 ?_
  refine xX12_init_761 ?_
  refine xX12_init_763 (j := 35) rfl (by decide) (by decide) rfl ?_
  refine xX12_init_764 rfl ?_
  refine xX12_init_765 ?_
  refine xX12_init_767 ?_
  refine xX12_init_769 (j := 36) rfl (by decide) (by decide) rfl ?_
  refine xX12_init_770 rfl ?_
  refine xX12_init_771 ?_
  refine xX12_init_773 ?_
  refine xX12_init_775 (j := 37) rfl (by decide) (by decide) rfl ?_
  refine xX12_init_776 rfl ?_
  refine xX12_init_777 ?_
  refine xX12_init_779 ?_
  refine xX12_init_781 (j := 38) rfl (by decide) (by decide) rfl ?_
  refine xX12_init_782 rfl ?_
  refine xX12_init_783 ?_
  refine xX12_init_785 ?_
  refine xX12_init_787 (j := 39) rfl (by decide) (by decide) rfl ?_
  refine xX12_init_788 rfl ?_
  refine xX12_init_789 ?_
  refine xX12_init_791 ?_
  refine xX12_init_793 (j := 40) rfl (by decide) (by decide) rfl ?_
  refine xX12_init_794 rfl ?_
  refine xX12_init_795 ?_
  refine xX12_init_797 ?_
  refine xX12_init_799 (j := 41) rfl (by decide) (by decide) rfl ?_
  refine xX12_init_800 rfl ?_
  refine xX12_init_801 ?_
  refine xX12_init_803 ?_
  refine xX12_init_805 (j := 42) rfl (by decide) (by decide) rfl ?_
  refine xX12_init_806 rfl ?_
  refine xX12_init_807 ?_
  refine xX12_init_809 ?_
  refine xX12_init_811 (j := 43) rfl (by decide) (by decide) rfl ?_
  refine xX12_init_812 rfl ?_
  refine xX12_init_813 ?_
  refine xX12_init_815 ?_
  refine xX12_init_817 (j := 44) rfl (by decide) (by decide) rfl ?_
  refine xX12_init_818 rfl ?_
  refine xX12_init_819 ?_
  refine xX12_init_821 ?_
  refine xX12_init_823 (j := 45) rfl (by decide) (by decide) rfl ?_
  refine xX12_init_824 rfl ?_
  refine xX12_init_825 ?_
  refine xX12_init_827 ?_
  refine xX12_init_829 (j := 46) rfl (by decide) (by decide) rfl ?_
  refine xX12_init_830 rfl ?_
  refine xX12_init_831 ?_
  refine xX12_init_833 ?_
  refine xX12_init_835 (j := 47) rfl (by decide) (by decide) rfl ?_
  refine xX12_init_836 rfl ?_
  refine xX12_init_837 ?_
  refine xX12_init_839 ?_
  refine xX12_init_841 (j := 48) rfl (by decide) (by decide) rfl ?_
  refine xX12_init_842 rfl ?_
  refine xX12_init_843 ?_
  refine xX12_init_845 ?_
  refine xX12_init_847 (j := 49) rfl (by decide) (by decide) rfl ?_
  refine xX12_init_848 rfl ?_
  refine xX12_init_849 ?_
  refine xX12_init_851 ?_
  refine xX12_init_853 (j := 50) rfl (by decide) (by decide) rfl ?_
  refine xX12_init_854 rfl ?_
  refine xX12_init_855 ?_
  refine xX12_init_857 ?_
  refine xX12_init_859 (j := 51) rfl (by decide) (by decide) rfl ?_
  refine xX12_init_860 rfl ?_
  refine xX12_init_861 ?_
  refine xX12_init_863 ?_
  refine xX12_init_865 (j := 52) rfl (by decide) (by decide) rfl ?_
  refine xX12_init_866 rfl ?_
  refine xX12_init_867 ?_
  refine xX12_init_869 ?_
  refine xX12_init_871 (j := 53) rfl (by decide) (by decide) rfl ?_
  refine xX12_init_872 rfl ?_
  refine xX12_init_873 ?_
  refine xX12_init_875 ?_
  refine xX12_init_877 (j := 54) rfl (by decide) (by decide) rfl ?_
  refine xX12_init_878 rfl ?_
  refine xX12_init_879 ?_
  refine xX12_init_881 ?_
  refine xX12_init_883 (j := 55) rfl (by decide) (by decide) rfl ?_
  refine xX12_init_884 rfl ?_
  refine xX12_init_885 ?_
  refine xX12_init_887 ?_
  refine xX12_init_889 (j := 56) rfl (by decide) (by decide) rfl ?_
  refine xX12_init_890 rfl ?_
  refine xX12_init_891 ?_
  refine xX12_init_893 ?_
  refine xX12_init_895 (j := 57) rfl (by decide) (by decide) rfl ?_
  refine xX12_init_896 rfl ?_
  refine xX12_init_897 ?_
  refine xX12_init_899 ?_
  refine xX12_init_901 (j := 58) rfl (by decide) (by decide) rfl ?_
  refine xX12_init_902 rfl ?_
  refine xX12_init_903 ?_
  refine xX12_init_905 ?_
  refine xX12_init_907 (j := 59) rfl (by decide) (by decide) rfl ?_
  refine xX12_init_908 rfl ?_
  refine xX12_init_909 ?_
  refine xX12_init_911 ?_
  refine xX12_init_913 (j := 60) rfl (by decide) (by decide) rfl ?_
  refine xX12_init_914 rfl ?_
  refine xX12_init_915 ?_
  refine xX12_init_917 ?_
  refine xX12_init_919 (j := 61) rfl (by decide) (by decide) rfl ?_
  refine xX12_init_920 rfl ?_
  refine xX12_init_921 ?_
  refine xX12_init_923 ?_
  refine xX12_init_925 (j := 62) rfl (by decide) (by decide) rfl ?_
  refine xX12_init_926 rfl ?_
  refine xX12_init_927 ?_
  refine xX12_init_929 ?_
  refine xX12_init_931 (j := 63) rfl (by decide) (by decide) rfl ?_
  refine xX12_init_932 rfl ?_
  refine xX12_init_933 ?_
  refine xX12_init_935 ?_
  refine xX12_init_937 (j := 64) rfl (by decide) (by decide) rfl ?_
  refine xX12_init_938 rfl ?_
  refine xX12_init_939 ?_
  refine xX12_init_941 ?_
  refine xX12_init_943 (j := 65) rfl (by decide) (by decide) rfl ?_
  refine xX12_init_944 rfl ?_
  refine xX12_init_945 ?_
  refine xX12_init_947 ?_
  refine xX12_init_949 (j := 66) rfl (by decide) (by decide) rfl ?_
  refine xX12_init_950 rfl ?_
  refine xX12_init_951 ?_
  refine xX12_init_953 ?_
  refine xX12_init_955 (j := 67) rfl (by decide) (by decide) rfl ?_
  refine xX12_init_956 rfl ?_
  refine xX12_init_957 ?_
  refine xX12_init_959 ?_
  refine xX12_init_961 (j := 68) rfl (by decide) (by decide) rfl ?_
  refine xX12_init_962 rfl ?_
  refine xX12_init_963 ?_
  refine xX12_init_965 ?_
  refine xX12_init_967 (j := 69) rfl (by decide) (by decide) rfl ?_
  refine xX12_init_968 rfl ?_
  refine xX12_init_969 ?_
  refine xX12_init_971 ?_
  refine xX12_init_973 (j := 70) rfl (by decide) (by decide) rfl ?_
  refine xX12_init_974 rfl ?_
  refine xX12_init_975 ?_
  refine xX12_init_977 ?_
  refine xX12_init_979 (j := 71) rfl (by decide) (by decide) rfl ?_
  refine xX12_init_980 rfl ?_
  refine xX12_init_981 ?_
  refine xX12_init_983 ?_
  refine xX12_init_985 (j := 72) rfl (by decide) (by decide) rfl ?_
  refine xX12_init_986 rfl ?_
  refine xX12_init_987 ?_
  refine xX12_init_989 ?_
  refine xX12_init_991 (j := 73) rfl (by decide) (by decide) rfl ?_
  refine xX12_init_992 rfl ?_
  refine xX12_init_993 ?_
  refine xX12_init_995 ?_
  refine xX12_init_997 (j := 74) rfl (by decide) (by decide) rfl ?_
  refine xX12_init_998 rfl ?_
  refine xX12_init_999 ?_
  refine xX12_init_1001 ?_
  refine xX12_init_1003 (j := 75) rfl (by decide) (by decide) rfl ?_
  refine xX12_init_1004 rfl ?_
  refine xX12_init_1005 ?_
  refine xX12_init_1007 ?_
  refine xX12_init_1009 (j := 76) rfl (by decide) (by decide) rfl ?_
  refine xX12_init_1010 rfl ?_
  refine xX12_init_1011 ?_
  refine xX12_init_1013 ?_
  refine xX12_init_1015 (j := 77) rfl (by decide) (by decide) rfl ?_
  refine xX12_init_1016 rfl ?_
  refine xX12_init_1017 ?_
  refine xX12_init_1019 ?_
  refine xX12_init_1021 (j := 78) rfl (by decide) (by decide) rfl ?_
  refine xX12_init_1022 rfl ?_
  refine xX12_init_1023 ?_
  refine xX12_init_1025 ?_
  refine xX12_init_1027 (j := 79) rfl (by decide) (by decide) rfl ?_
  refine xX12_init_1028 rfl ?_
  refine xX12_init_1029 ?_
  refine xX12_init_1031 ?_
  refine xX12_init_1033 (j := 80) rfl (by decide) (by decide) rfl ?_
  refine xX12_init_1034 rfl ?_
  refine xX12_init_1035 ?_
  refine xX12_init_1037 ?_
  refine xX12_init_1039 (j := 81) rfl (by decide) (by decide) rfl ?_
  refine xX12_init_1040 rfl ?_
  refine xX12_init_1041 ?_
  refine xX12_init_1043 ?_
  refine xX12_init_1045 (j := 82) rfl (by decide) (by decide) rfl ?_
  refine xX12_init_1046 rfl ?_
  refine xX12_init_1047 ?_
  refine xX12_init_1049 ?_
  refine xX12_init_1051 (j := 83) rfl (by decide) (by decide) rfl ?_
  refine xX12_init_1052 rfl ?_
  refine xX12_init_1053 ?_
  refine xX12_init_1055 ?_
  refine xX12_init_1057 (j := 84) rfl (by decide) (by decide) rfl ?_
  refine xX12_init_1058 rfl ?_
  refine xX12_init_1059 ?_
  refine xX12_init_1061 ?_
  refine xX12_init_1063 (j := 85) rfl (by decide) (by decide) rfl ?_
  refine xX12_init_1064 rfl ?_
  refine xX12_init_1065 ?_
  refine xX12_init_1067 ?_
  refine xX12_init_1069 (j := 86) rfl (by decide) (by decide) rfl ?_
  refine xX12_init_1070 rfl ?_
  refine xX12_init_1071 ?_
  refine xX12_init_1073 ?_
  refine xX12_init_1075 (j := 87) rfl (by decide) (by decide) rfl ?_
  refine xX12_init_1076 rfl ?_
  refine xX12_init_1077 ?_
  refine xX12_init_1079 ?_
  refine xX12_init_1081 (j := 88) rfl (by decide) (by decide) rfl ?_
  refine xX12_init_1082 rfl ?_
  refine xX12_init_1083 ?_
  refine xX12_init_1085 ?_
  refine xX12_init_1087 (j := 89) rfl (by decide) (by decide) rfl ?_
  refine xX12_init_1088 rfl ?_
  refine xX12_init_1089 ?_
  refine xX12_init_1091 ?_
  refine xX12_init_1093 (j := 90) rfl (by decide) (by decide) rfl ?_
  refine xX12_init_1094 rfl ?_
  refine xX12_init_1095 ?_
  refine xX12_init_1097 ?_
  refine xX12_init_1099 (j := 91) rfl (by decide) (by decide) rfl ?_
  refine xX12_init_1100 rfl ?_
  refine xX12_init_1101 ?_
  refine xX12_init_1103 ?_
  refine xX12_init_1105 (j := 92) rfl (by decide) (by decide) rfl ?_
  refine xX12_init_1106 rfl ?_
  refine xX12_init_1107 ?_
  refine xX12_init_1109 ?_
  refine xX12_init_1111 (j := 93) rfl (by decide) (by decide) rfl ?_
  refine xX12_init_1112 rfl ?_
  refine xX12_init_1113 ?_
  refine xX12_init_1115 ?_
  refine xX12_init_1117 (j := 94) rfl (by decide) (by decide) rfl ?_
  refine xX12_init_1118 rfl ?_
  refine xX12_init_1119 ?_
  refine xX12_init_1121 ?_
  refine xX12_init_1123 (j := 95) rfl (by decide) (by decide) rfl ?_
  obtain ⟨gD, hgD_⟩ : ∃ gD, gD = fills 69 WRD0 0 gC := ⟨_, rfl⟩
  change Wp _ _ _ _ _ _ _ _ _ (_, _, fills 69 WRD0 0 gC) _ _
  rw [← hgD_]
  refine xX12_init_1124 rfl rfl ?_
  refine xX12_init_1127 ?_
  refine xX12_init_1128 ?_
  refine xX12_init_1131 (j := 200) (n := 70) (kc1 := 17) (ks1 := 1997) (by decide) rfl rfl rfl rfl rfl rfl rfl (fun hr70 hg70 => ?_)
  refine xX12_init_1133 rfl rfl ?_
  refine xX12_init_1136 ?_
  refine xX12_init_1137 ?_
  refine xX12_init_1140 (j := 200) (n := 71) (kc1 := 18) (ks1 := 2197) (by decide) rfl rfl rfl rfl rfl rfl rfl (fun hr71 hg71 => ?_)
  refine xX12_init_1142 rfl rfl ?_
  refine xX12_init_1145 ?_
  refine xX12_init_1146 ?_
  refine xX12_init_1148 (j := 6) (n := 72) (kc1 := 19) (ks1 := 2203) (by decide) rfl rfl rfl rfl rfl rfl rfl (fun hr72 hg72 => ?_)
  refine xX12_init_1150 rfl rfl ?_
  refine xX12_init_1153 ?_
  refine xX12_init_1154 ?_
  refine xX12_init_1157 (j := 328) (n := 73) (kc1 := 20) (ks1 := 2531) (by decide) rfl rfl rfl rfl rfl rfl rfl (fun hr73 hg73 => ?_)
  refine xX12_init_1159 rfl rfl ?_
  refine xX12_init_1162 ?_
  refine xX12_init_1163 ?_
  refine xX12_init_1165 (j := 6) (n := 74) (kc1 := 21) (ks1 := 2537) (by decide) rfl rfl rfl rfl rfl rfl rfl (fun hr74 hg74 => ?_)
  refine xX12_init_1167 rfl rfl ?_
  refine xX12_init_1170 ?_
  refine xX12_init_1171 ?_
  refine xX12_init_1173 (j := 6) (n := 75) (kc1 := 22) (ks1 := 2543) (by decide) rfl rfl rfl rfl rfl rfl rfl (fun hr75 hg75 => ?_)
  refine xX12_init_1175 rfl rfl ?_
  refine xX12_init_1178 ?_
  refine xX12_init_1179 ?_
  refine xX12_init_1181 (j := 16) (n := 76) (kc1 := 23) (ks1 := 2559) (by decide) rfl rfl rfl rfl rfl rfl rfl (fun hr76 hg76 => ?_)
  refine xX12_init_1183 rfl rfl ?_
  refine xX12_init_1186 ?_
  refine xX12_init_1187 rfl ?_
  have hMS : MS T76 (ur (ur (ur (ur (ur (ur (ur (ur (ur (ur (ur (ur (ur (ur (ur (ur (ur (ur (ur (ur (ur (ur (ur rf 53 0 (some 54)) 53 4 (some 55)) 53 5 (some 56)) 53 6 (some 57)) 53 7 (some 58)) 53 8 (some 59)) 53 9 (some 60)) 53 11 (some 61)) 53 13 (some 62)) 53 14 (some 63)) 53 23 (some 64)) 53 24 (some 65)) 53 25 (some 66)) 53 26 (some 67)) 53 27 (some 68)) 53 32 (some 69)) 53 33 (some 70)) 53 37 (some 71)) 53 38 (some 72)) 53 39 (some 73)) 53 40 (some 74)) 53 41 (some 75)) 53 44 (some 76)) := by
    refine ⟨fun a t ht => ?_, fun a k b hb => ?_⟩
    · unfold MTf at ht
      rcases Nat.lt_or_ge a 53 with q | q
      · rw [blt q] at ht; cases ht
      · rw [show Nat.blt a 53 = false from Bool.eq_false_iff.mpr (fun z => absurd (Nat.ble_eq.mp z) (by omega))] at ht
        have ht : MTl[a - 53]? = some t := ht
        have e : T76 = T53 ++ MTl := rfl
        rw [e, List.getElem?_append_right (by rw [T53_l]; exact q), T53_l]
        exact ht
    · unfold MRf at hb
      by_cases q : a = 53
      · subst q
        have hb : MRl.getD k none = some b := hb
        have hk : k < 49 := by
          rcases Nat.lt_or_ge k 49 with y | y
          · exact y
          · rw [List.getD_eq_getElem?_getD, List.getElem?_eq_none (show MRl.length ≤ k by exact Nat.le_trans (by decide) y)] at hb; cases hb
        have hm := MRp_all k hk b (by rw [hb]; exact List.mem_cons_self)
        have hall : allR (ur (ur (ur (ur (ur (ur (ur (ur (ur (ur (ur (ur (ur (ur (ur (ur (ur (ur (ur (ur (ur (ur (ur rf 53 0 (some 54)) 53 4 (some 55)) 53 5 (some 56)) 53 6 (some 57)) 53 7 (some 58)) 53 8 (some 59)) 53 9 (some 60)) 53 11 (some 61)) 53 13 (some 62)) 53 14 (some 63)) 53 23 (some 64)) 53 24 (some 65)) 53 25 (some 66)) 53 26 (some 67)) 53 27 (some 68)) 53 32 (some 69)) 53 33 (some 70)) 53 37 (some 71)) 53 38 (some 72)) 53 39 (some 73)) 53 40 (some 74)) 53 41 (some 75)) 53 44 (some 76)) MRp := ⟨(by first | rfl | simp [ur]), (by first | rfl | simp [ur]), (by first | rfl | simp [ur]), (by first | rfl | simp [ur]), (by first | rfl | simp [ur]), (by first | rfl | simp [ur]), (by first | rfl | simp [ur]), (by first | rfl | simp [ur]), (by first | rfl | simp [ur]), (by first | rfl | simp [ur]), (by first | rfl | simp [ur]), (by first | rfl | simp [ur]), (by first | rfl | simp [ur]), (by first | rfl | simp [ur]), (by first | rfl | simp [ur]), (by first | rfl | simp [ur]), (by first | rfl | simp [ur]), (by first | rfl | simp [ur]), (by first | rfl | simp [ur]), (by first | rfl | simp [ur]), (by first | rfl | simp [ur]), (by first | rfl | simp [ur]), (by first | rfl | simp [ur]), trivial⟩
        exact allR_mem hall hm
      · rw [show Nat.beq a 53 = false from Bool.eq_false_iff.mpr (fun z => q (Nat.eq_of_beq_eq_true z))] at hb
        cases hb
  obtain ⟨l1, l2, l3, l4, l5, l6⟩ := lists0
  have eA : ∀ a, a ≠ 54 → gA a = up g 53 1 20 a ∨ True := fun _ _ => Or.inr trivial
  have k68 : ∀ i, i < 53 → gD 68 i = lawB.getD i 0 := fun i hi => by
    rw [hgD_, fills_row _ _ _ (by omega), hgC_, fills_0 (by rw [l5]; exact hi), l3]
  refine lp_X12_init (g0 := gD) hMS k68 (fun g9 x1 q1 q2 => ?_) 53 0 _ gD (by omega) rfl (fun _ _ => rfl) (fun i hi => absurd hi (Nat.not_lt_zero i))
  obtain ⟨gZ, hgZ⟩ : ∃ gZ, gZ = up g9 53 12 53 := ⟨_, rfl⟩
  have eZ : ∀ a, a ≠ 53 → gZ a = g9 a := fun a p => by rw [hgZ]; exact up_row p
  have eD : ∀ a, a ≠ 53 → a ≠ 54 → a ≠ 65 → a ≠ 68 → a ≠ 69 → gD a = g a := fun a p0 p q r s => by rw [hgD_, fills_row _ _ _ s, hgC_, fills_row _ _ _ r, hgB_, fills_row _ _ _ q, up_row p0, hgA_, fills_row _ _ _ p]
  have e53 : ∀ k, gZ 53 k = if k = 12 then 53 else if k = 1 then 20 else 0 := fun k => by
    rw [hgZ]
    by_cases z : k = 12
    · subst z; rw [up_same]; rfl
    · rw [up_ne (fun y => z y.2), if_neg z, q1 53 (by omega), hgD_, fills_row _ _ _ (by omega), hgC_, fills_row _ _ _ (by omega), hgB_, fills_row _ _ _ (by omega)]
      by_cases z1 : k = 1
      · subst z1; rw [up_same]; rfl
      · rw [up_ne (fun y => z1 y.2), if_neg z1, hgA_, fills_row _ _ _ (by omega)]; exact hz k
  have h61 : MTp gZ lawB := ⟨by rw [e53 12, lawB_l.1]; rfl, by rw [lawB_l.1]; omega, fun i v hv => by
    have hi := (List.getElem?_eq_some_iff.mp hv).1
    rw [lawB_l.1] at hi
    rw [eZ 61 (by omega), q2 i hi, List.getD_eq_getElem?_getD, hv]; rfl⟩
  have hWR : WR gZ := fun k hk c hc => by
    rw [eZ 69 (by omega), q1 69 (by omega), hgD_, fills_0 (by rw [l6]; omega), l4 k hk c hc]
  refine xX12_init_1212 ?_
  refine xX12_init_1213 ?_
  refine xX12_init_1215 (hMS.1 _ _ rfl) ?_
  refine xX12_init_1218 ?_
  rw [← hgZ]
  refine xX12_init_1219 (hMS.1 _ _ rfl) rfl rfl rfl (s_X12_text (tc := 0) hMS hWR h61 (show gZ 53 15 = nI 0 from e53 15) (Nat.zero_le 6) tx0 (fun _ css h => by injection h with h; subst h; exact ⟨hw0.1, hw0.2.1, Nat.le_trans hw0.2.2 (by omega)⟩) (fun h9 => ?_) (fun hq bz hRz gz h1 h2 h3 => ?_) (fun hq css hRz g2 h1 h2 h3 h4 => ?_))
  · exact absurd h9 (by omega)
  · cases hRz
  · refine xX12_init_1222 rfl ?_
    refine xX12_init_1223 rfl rfl ?_
    have ecs : css = css0 := by injection hRz with h; exact h.symm
    subst ecs
    have f53 : ∀ k, k ≠ 12 → k < 28 → k ≠ 15 → g2 53 k = if k = 1 then 20 else 0 := fun k p q r => by rw [h1.2.1 k (by omega), e53 k, if_neg p]
    have fz : ∀ a, a ≠ 53 → a ≠ 62 → a ≠ 63 → a ≠ 70 → a ≠ 54 → a ≠ 65 → a ≠ 68 → a ≠ 69 → a ≠ 61 → g2 a = g a := fun a p0 p1 p2 p3 p4 p5 p6 p7 p8 => by
      rw [h1.1 a p0 p1 p2 p3, eZ a p0, q1 a p8, eD a p0 p4 p5 p6 p7]
    refine hQ _ g2 hMS (fun a p => by simp only [ur_row p]) (fun a p => fz a (by omega) (by omega) (by omega) (by omega) (by omega) (by omega) (by omega) (by omega) (by omega)) (hWR.tx h1) ?_ h2 h3 ((f53 17 (by omega) (by omega) (by omega)).trans (if_neg (by omega))) ?_ h4
    · intro s hs
      refine ⟨?_, ?_, fun k hk => ?_⟩
      · rw [h1.1 65 (by omega) (by omega) (by omega) (by omega), eZ 65 (by omega), q1 65 (by omega), hgD_, fills_row _ _ _ (by omega), hgC_, fills_row _ _ _ (by omega), hgB_, fills_0 (show s < 4 from hs), l2 s hs]; rfl
      · rw [fz 66 (by omega) (by omega) (by omega) (by omega) (by omega) (by omega) (by omega) (by omega) (by omega)]; exact hg66 _
      · rw [fz 67 (by omega) (by omega) (by omega) (by omega) (by omega) (by omega) (by omega) (by omega) (by omega)]; exact (hg67 _).trans (if_neg (by omega)).symm
    · refine ⟨⟨(f53 3 (by omega) (by omega) (by omega)).trans (if_neg (by omega)), (f53 10 (by omega) (by omega) (by omega)).trans (if_neg (by omega)), (f53 1 (by omega) (by omega) (by omega)).trans (if_pos rfl), (f53 2 (by omega) (by omega) (by omega)).trans (if_neg (by omega)), (f53 16 (by omega) (by omega) (by omega)).trans (if_neg (by omega))⟩, fun i hi => ?_, fun c hc => absurd hc (Nat.not_lt_zero c), fun k _ => ⟨?_, ?_⟩⟩
      · show g2 54 i = 10
        rw [h1.1 54 (by omega) (by omega) (by omega) (by omega), eZ 54 (by omega), q1 54 (by omega), hgD_, fills_row _ _ _ (by omega), hgC_, fills_row _ _ _ (by omega), hgB_, fills_row _ _ _ (by omega), up_row (by omega), hgA_, fills_0 (show i < 16 from hi), l1 i hi]
      · show g2 59 k = 0
        rw [fz 59 (by omega) (by omega) (by omega) (by omega) (by omega) (by omega) (by omega) (by omega) (by omega)]; exact h59 _
      · show g2 60 k = 0
        rw [fz 60 (by omega) (by omega) (by omega) (by omega) (by omega) (by omega) (by omega) (by omega) (by omega)]; exact h60 _
