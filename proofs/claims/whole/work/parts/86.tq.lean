/-- the codes so far -/
def CDp (g : Nat → Nat → Int32) (tc : Nat) (L : List Int32) : Prop := g 53 15 = nI tc ∧ tc < 6 ∧ g 53 36 = nI L.length ∧ ∀ (i : Nat) (v : Int32), L[i]? = some v → g 62 (200 * tc + i) = v
theorem tk_no : ∀ t ∈ TKl, ¬ sgn t = 0 → ¬ (sgn t = 0 ∨ sgn t = 13 ∨ sgn t = 19) := by decide +kernel
theorem lp_X12_eRead {d : Nat} {sc : Nat × (Nat → Int32)} {T : List (Nat × Nat)} {rf : Nat → Nat → Option Nat} {gs : Nat → Nat → Int32} {tc : Nat} {L0 : List Int32} {tp : List Int32} {R : SR_} {N : Nat} {F : Int32 → AH → Prop} (hM : MS T rf) (hW : WR gs) (ht : MTp gs tp) (hN : N < 200) (k1 : ∀ ts2 cs, R = Sum.inr (ts2, cs) → ∀ g2 p2, MEf tc gs g2 → p2 ≤ tp.length → g2 53 28 = nI p2 → ts2 = TKS tp p2 → CDp g2 tc (L0 ++ cs) → (L0 ++ cs).length + ts2.length ≤ N → F 1 (T, rf, g2)) (k0 : ∀ b, R = Sum.inl b → ∀ g2, MEf tc gs g2 → g2 53 29 = nI b → F 0 (T, rf, g2)) : ∀ (ts : List Tok) (w mn : Bool) (x1 x2 : Int32) (out B : List Int32) (o p : Nat) (g : Nat → Nat → Int32), x1 = (if w = true then 1 else 0) → x2 = (if mn = true then 1 else 0) → ts = TKS tp p → p ≤ tp.length → g 53 28 = nI p → ES g tc (L0 ++ out) B o → MEf tc gs g → cntO B = o → (L0 ++ out).length + B.length + ts.length ≤ N → sy ts w mn B out o = R → Wp (d + 4) 0 0 sc kX12_eRead (Qi F) 14 [some (.ref 53), some (.int x1), some (.int x2), none] [] (T, rf, g) 0 0 := by
  intro ts
  induction ts with
  | nil =>
    intro w mn x1 x2 out B o p g _ _ hts hp9 _ _ _ _ _ _
    exact absurd hts.symm (TKS_ne hp9)
  | cons q ts ih =>
    intro w mn x1 x2 out B o p g hx1 hx2 hts hp9 hp hE hf hcnt hlen hR
    have htk := TK_in hp9 hts
    obtain ⟨f1, f2, f6, f45, f40, f59, f41, f0, fs, f3, fr, fn⟩ := tk_fs _ htk
    simp only [List.length_cons, List.length_append] at hlen
    have hcl := cnt_le B
    cases w with
    | true =>
      have e1 : x1 = 1 := hx1
      subst e1
      refine xX12_eRead_14 ?_
      refine xX12_eRead_15 (hM.1 _ _ rfl) rfl rfl rfl (s_X12_next hM (hW.me hf) (ht.me hf) hp hp9 (fun g0 ha0 hb0 => ?_))
      rw [← hts] at hb0
      obtain ⟨t1, t2, t3, t4, t5, t6, t7, t8⟩ := hb0
      have hE1 := hE.mn ha0
      have hf1 : MEf tc gs g0 := hf.tr ha0.me
      have h30 : g0 53 30 = mtk q.2.1 := t2
      have hgo : q.2.1 ≠ 0 → ∃ p, p ≤ tp.length ∧ g0 53 28 = nI p ∧ ts = TKS tp p := t7
      refine xX12_eRead_18 ?_
      
      refine xX12_eRead_19_f (by decide) ?_
      refine xX12_eRead_22 ?_
      refine xX12_eRead_23 (hM.1 _ _ rfl) ?_
      refine xX12_eRead_26 ?_
      rw [h30]
      refine xX12_eRead_27 (fun c27 => ?_) (fun c27 => ?_)
      · have ht2 : q.2.1 = 2 := f1.mp c27
        refine xX12_eRead_38 ?_
        refine xX12_eRead_39 ?_
        refine xX12_eRead_40 (hM.1 _ _ rfl) ?_
        refine xX12_eRead_43 ?_
        rw [h30]
        refine xX12_eRead_44_f c27 ?_
        refine xX12_eRead_47 ?_
        refine xX12_eRead_49 ?_
        refine xX12_eRead_50 (hM.1 _ _ rfl) ?_
        rw [t3 ht2]
        refine xX12_eRead_53 ?_
        refine xX12_eRead_54 ?_
        
        refine xX12_eRead_61 (hM.1 _ _ rfl) rfl rfl rfl (s_X12_puts hM hE1 (by simp only [List.length_append]; omega) (fun g1 ha1 hb1 => ?_))
        refine xX12_eRead_64 ?_
        refine xX12_eRead_65 ?_
        rw [List.append_assoc] at hb1
        have hu1 := ha1
        refine xX12_eRead_67 (hM.1 _ _ rfl) rfl rfl rfl (s_X12_unwinds (kk := 7) rfl hM (by omega) (by omega) hb1 hcnt (by simp only [List.length_append, List.length_cons, List.length_nil]; omega) (fun g2 ha2 hb2 => ?_))
        refine xX12_eRead_70 ?_
        refine xX12_eRead_71 rfl ?_
        refine xX12_eRead_72 ?_
        obtain ⟨p2, hp2, hq2, hts2⟩ := hgo (fun z => by rw [z] at ht2; exact absurd ht2 (by decide))
        have ul := unw_len 7 B (out ++ [(100000 + q.2.2)]) o
        simp only [List.length_append, List.length_cons, List.length_nil] at ul
        exact ih false mn _ _ _ _ _ p2 g2 rfl hx2 hts2 hp2 (((ha2.2.1 28 (by omega)).trans (hu1.2.1 28 (by omega))).trans hq2) hb2 (hf1.tr (hu1.tr ha2).me) (unw_cnt (by omega) _ _ _ hcnt) (by simp only [List.length_append]; omega) (by rw [← hR]; exact (sy_2 ht2).symm)
      · have n2 : ¬ q.2.1 = 2 := fun z => c27 (f1.mpr z)
        refine xX12_eRead_30 ?_
        refine xX12_eRead_31 (hM.1 _ _ rfl) ?_
        refine xX12_eRead_34 ?_
        rw [h30]
        refine xX12_eRead_35 (fun c35 => ?_) (fun c35 => ?_)
        · have n6 : ¬ 106 ≤ q.2.1 := fun z => c35 (f2.mpr z)
          refine xX12_eRead_75 ?_
          refine xX12_eRead_76 (hM.1 _ _ rfl) ?_
          refine xX12_eRead_79 ?_
          rw [h30]
          refine xX12_eRead_81 (fun c81 => ?_) (fun c81 => ?_)
          · have n105 : ¬ q.2.1 = 105 := fun z => c81 (f6.mpr z)
            have n5 : ¬ (q.2.1 = 105 ∧ mn = true) := fun z => n105 z.1
            refine xX12_eRead_99 ?_
            refine xX12_eRead_100 (hM.1 _ _ rfl) ?_
            refine xX12_eRead_103 ?_
            rw [h30]
            refine xX12_eRead_105 (fun c105 => ?_) (fun c105 => ?_)
            · have n45 : ¬ q.2.1 = 45 := fun z => c105 (f45.mpr z)
              refine xX12_eRead_124 ?_
              refine xX12_eRead_125 (hM.1 _ _ rfl) ?_
              refine xX12_eRead_128 ?_
              rw [h30]
              refine xX12_eRead_130 (fun c130 => ?_) (fun c130 => ?_)
              · have n40 : ¬ q.2.1 = 40 := fun z => c130 (f40.mpr z)
                refine xX12_eRead_148 ?_
                refine xX12_eRead_149 (Or.inl rfl) rfl rfl ?_
                first
                  | exact k0 q.1 (by rw [← hR]; exact (sy_105 n2 n6 ⟨ht5, hmn⟩).trans (if_pos h5z)) _ hf1 t1
                  | exact k0 q.1 (by rw [← hR]; exact (sy_45 n2 n6 n5 ht5).trans (if_pos h5z)) _ hf1 t1
                  | exact k0 q.1 (by rw [← hR]; exact (sy_40 n2 n6 n5 n45 ht5).trans (if_pos h5z)) _ hf1 t1
                  | exact k0 q.1 (by rw [← hR]; exact sy_no n2 n6 n5 n45 n40) _ hf1 t1
              · have ht5 : q.2.1 = 40 := f40.mp c130
                refine xX12_eRead_133 ?_
                refine xX12_eRead_134 ?_
                
                refine xX12_eRead_135 (hM.1 _ _ rfl) rfl rfl rfl (s_X12_opensOne hM hE1 (by omega) (by omega) (fun h5z => ?_) (fun h53 g3 ha3 hb3 => ?_))
                · refine xX12_eRead_138_f (by decide) ?_
                  refine xX12_eRead_141 ?_
                  refine xX12_eRead_142 (Or.inl rfl) rfl rfl ?_
                  first
                    | exact k0 q.1 (by rw [← hR]; exact (sy_105 n2 n6 ⟨ht5, hmn⟩).trans (if_pos h5z)) _ hf1 t1
                    | exact k0 q.1 (by rw [← hR]; exact (sy_45 n2 n6 n5 ht5).trans (if_pos h5z)) _ hf1 t1
                    | exact k0 q.1 (by rw [← hR]; exact (sy_40 n2 n6 n5 n45 ht5).trans (if_pos h5z)) _ hf1 t1
                    | exact k0 q.1 (by rw [← hR]; exact sy_no n2 n6 n5 n45 n40) _ hf1 t1
                · refine xX12_eRead_138_t (by decide) ?_
                  refine xX12_eRead_143 ?_
                  refine xX12_eRead_144 rfl ?_
                  refine xX12_eRead_145 ?_
                  obtain ⟨p2, hp2, hq2, hts2⟩ := hgo (fun z => by rw [z] at ht5; exact absurd ht5 (by decide))
                  exact ih true true _ _ _ _ _ p2 g3 hx1 rfl hts2 hp2 ((ha3.2.1 28 (by omega)).trans hq2) hb3 (hf1.tr ha3.me) (by show cntO B + _ = _; rw [if_pos (by decide), hcnt]) (by simp only [List.length_append, List.length_cons]; omega) (by rw [← hR]; exact ((sy_40 n2 n6 n5 n45 ht5).trans (if_neg h53)).symm)
            · have ht5 : q.2.1 = 45 := f45.mp c105
              refine xX12_eRead_108 ?_
              refine xX12_eRead_109 ?_
              
              refine xX12_eRead_111 (hM.1 _ _ rfl) rfl rfl rfl (s_X12_opensOne hM hE1 (by omega) (by omega) (fun h5z => ?_) (fun h54 g4 ha4 hb4 => ?_))
              · refine xX12_eRead_114_f (by decide) ?_
                refine xX12_eRead_117 ?_
                refine xX12_eRead_118 (Or.inl rfl) rfl rfl ?_
                first
                  | exact k0 q.1 (by rw [← hR]; exact (sy_105 n2 n6 ⟨ht5, hmn⟩).trans (if_pos h5z)) _ hf1 t1
                  | exact k0 q.1 (by rw [← hR]; exact (sy_45 n2 n6 n5 ht5).trans (if_pos h5z)) _ hf1 t1
                  | exact k0 q.1 (by rw [← hR]; exact (sy_40 n2 n6 n5 n45 ht5).trans (if_pos h5z)) _ hf1 t1
                  | exact k0 q.1 (by rw [← hR]; exact sy_no n2 n6 n5 n45 n40) _ hf1 t1
              · refine xX12_eRead_114_t (by decide) ?_
                refine xX12_eRead_119 ?_
                refine xX12_eRead_120 rfl ?_
                refine xX12_eRead_121 ?_
                obtain ⟨p2, hp2, hq2, hts2⟩ := hgo (fun z => by rw [z] at ht5; exact absurd ht5 (by decide))
                exact ih true false _ _ _ _ _ p2 g4 hx1 rfl hts2 hp2 ((ha4.2.1 28 (by omega)).trans hq2) hb4 (hf1.tr ha4.me) (by show cntO B + _ = _; rw [if_pos (by decide), hcnt]) (by simp only [List.length_append, List.length_cons]; omega) (by rw [← hR]; exact ((sy_45 n2 n6 n5 ht5).trans (if_neg h54)).symm)
          · have ht5 : q.2.1 = 105 := f6.mp c81
            refine xX12_eRead_84 ?_
            refine xX12_eRead_85 (fun c85 => ?_) (fun c85 => ?_)
            · have hmn : ¬ mn = true := fun z => by rw [hx2, if_pos z] at c85; exact absurd c85 (by decide)
              have n5 : ¬ (q.2.1 = 105 ∧ mn = true) := fun z => hmn z.2
              refine xX12_eRead_99 ?_
              refine xX12_eRead_100 (hM.1 _ _ rfl) ?_
              refine xX12_eRead_103 ?_
              rw [h30]
              refine xX12_eRead_105 (fun c105 => ?_) (fun c105 => ?_)
              · have n45 : ¬ q.2.1 = 45 := fun z => c105 (f45.mpr z)
                refine xX12_eRead_124 ?_
                refine xX12_eRead_125 (hM.1 _ _ rfl) ?_
                refine xX12_eRead_128 ?_
                rw [h30]
                refine xX12_eRead_130 (fun c130 => ?_) (fun c130 => ?_)
                · have n40 : ¬ q.2.1 = 40 := fun z => c130 (f40.mpr z)
                  refine xX12_eRead_148 ?_
                  refine xX12_eRead_149 (Or.inl rfl) rfl rfl ?_
                  first
                    | exact k0 q.1 (by rw [← hR]; exact (sy_105 n2 n6 ⟨ht5, hmn⟩).trans (if_pos h5z)) _ hf1 t1
                    | exact k0 q.1 (by rw [← hR]; exact (sy_45 n2 n6 n5 ht5).trans (if_pos h5z)) _ hf1 t1
                    | exact k0 q.1 (by rw [← hR]; exact (sy_40 n2 n6 n5 n45 ht5).trans (if_pos h5z)) _ hf1 t1
                    | exact k0 q.1 (by rw [← hR]; exact sy_no n2 n6 n5 n45 n40) _ hf1 t1
                · have ht5 : q.2.1 = 40 := f40.mp c130
                  refine xX12_eRead_133 ?_
                  refine xX12_eRead_134 ?_
                  
                  refine xX12_eRead_135 (hM.1 _ _ rfl) rfl rfl rfl (s_X12_opensOne hM hE1 (by omega) (by omega) (fun h5z => ?_) (fun h55 g5 ha5 hb5 => ?_))
                  · refine xX12_eRead_138_f (by decide) ?_
                    refine xX12_eRead_141 ?_
                    refine xX12_eRead_142 (Or.inl rfl) rfl rfl ?_
                    first
                      | exact k0 q.1 (by rw [← hR]; exact (sy_105 n2 n6 ⟨ht5, hmn⟩).trans (if_pos h5z)) _ hf1 t1
                      | exact k0 q.1 (by rw [← hR]; exact (sy_45 n2 n6 n5 ht5).trans (if_pos h5z)) _ hf1 t1
                      | exact k0 q.1 (by rw [← hR]; exact (sy_40 n2 n6 n5 n45 ht5).trans (if_pos h5z)) _ hf1 t1
                      | exact k0 q.1 (by rw [← hR]; exact sy_no n2 n6 n5 n45 n40) _ hf1 t1
                  · refine xX12_eRead_138_t (by decide) ?_
                    refine xX12_eRead_143 ?_
                    refine xX12_eRead_144 rfl ?_
                    refine xX12_eRead_145 ?_
                    obtain ⟨p2, hp2, hq2, hts2⟩ := hgo (fun z => by rw [z] at ht5; exact absurd ht5 (by decide))
                    exact ih true true _ _ _ _ _ p2 g5 hx1 rfl hts2 hp2 ((ha5.2.1 28 (by omega)).trans hq2) hb5 (hf1.tr ha5.me) (by show cntO B + _ = _; rw [if_pos (by decide), hcnt]) (by simp only [List.length_append, List.length_cons]; omega) (by rw [← hR]; exact ((sy_40 n2 n6 n5 n45 ht5).trans (if_neg h55)).symm)
              · have ht5 : q.2.1 = 45 := f45.mp c105
                refine xX12_eRead_108 ?_
                refine xX12_eRead_109 ?_
                
                refine xX12_eRead_111 (hM.1 _ _ rfl) rfl rfl rfl (s_X12_opensOne hM hE1 (by omega) (by omega) (fun h5z => ?_) (fun h56 g6 ha6 hb6 => ?_))
                · refine xX12_eRead_114_f (by decide) ?_
                  refine xX12_eRead_117 ?_
                  refine xX12_eRead_118 (Or.inl rfl) rfl rfl ?_
                  first
                    | exact k0 q.1 (by rw [← hR]; exact (sy_105 n2 n6 ⟨ht5, hmn⟩).trans (if_pos h5z)) _ hf1 t1
                    | exact k0 q.1 (by rw [← hR]; exact (sy_45 n2 n6 n5 ht5).trans (if_pos h5z)) _ hf1 t1
                    | exact k0 q.1 (by rw [← hR]; exact (sy_40 n2 n6 n5 n45 ht5).trans (if_pos h5z)) _ hf1 t1
                    | exact k0 q.1 (by rw [← hR]; exact sy_no n2 n6 n5 n45 n40) _ hf1 t1
                · refine xX12_eRead_114_t (by decide) ?_
                  refine xX12_eRead_119 ?_
                  refine xX12_eRead_120 rfl ?_
                  refine xX12_eRead_121 ?_
                  obtain ⟨p2, hp2, hq2, hts2⟩ := hgo (fun z => by rw [z] at ht5; exact absurd ht5 (by decide))
                  exact ih true false _ _ _ _ _ p2 g6 hx1 rfl hts2 hp2 ((ha6.2.1 28 (by omega)).trans hq2) hb6 (hf1.tr ha6.me) (by show cntO B + _ = _; rw [if_pos (by decide), hcnt]) (by simp only [List.length_append, List.length_cons]; omega) (by rw [← hR]; exact ((sy_45 n2 n6 n5 ht5).trans (if_neg h56)).symm)
            · have hmn : mn = true := by
                cases mn with
                | true => rfl
                | false => exact absurd hx2 c85
              refine xX12_eRead_88 ?_
              refine xX12_eRead_89 ?_
              
              refine xX12_eRead_91 (hM.1 _ _ rfl) rfl rfl rfl (s_X12_opensOne hM hE1 (by omega) (by omega) (fun h5z => ?_) (fun h57 g7 ha7 hb7 => ?_))
              · refine xX12_eRead_94_f (by decide) ?_
                refine xX12_eRead_97 ?_
                refine xX12_eRead_98 (Or.inl rfl) rfl rfl ?_
                first
                  | exact k0 q.1 (by rw [← hR]; exact (sy_105 n2 n6 ⟨ht5, hmn⟩).trans (if_pos h5z)) _ hf1 t1
                  | exact k0 q.1 (by rw [← hR]; exact (sy_45 n2 n6 n5 ht5).trans (if_pos h5z)) _ hf1 t1
                  | exact k0 q.1 (by rw [← hR]; exact (sy_40 n2 n6 n5 n45 ht5).trans (if_pos h5z)) _ hf1 t1
                  | exact k0 q.1 (by rw [← hR]; exact sy_no n2 n6 n5 n45 n40) _ hf1 t1
              · refine xX12_eRead_94_t (by decide) ?_
                obtain ⟨p2, hp2, hq2, hts2⟩ := hgo (fun z => by rw [z] at ht5; exact absurd ht5 (by decide))
                exact ih true mn _ _ _ _ _ p2 g7 hx1 hx2 hts2 hp2 ((ha7.2.1 28 (by omega)).trans hq2) hb7 (hf1.tr ha7.me) (by show cntO B + _ = _; rw [if_pos (by decide), hcnt]) (by simp only [List.length_append, List.length_cons]; omega) (by rw [← hR]; exact ((sy_105 n2 n6 ⟨ht5, hmn⟩).trans (if_neg h57)).symm)
        · have h106 : 106 ≤ q.2.1 := f2.mp c35
          refine xX12_eRead_38 ?_
          refine xX12_eRead_39 ?_
          refine xX12_eRead_40 (hM.1 _ _ rfl) ?_
          refine xX12_eRead_43 ?_
          rw [h30]
          refine xX12_eRead_44_t c27 ?_
          refine xX12_eRead_57 ?_
          refine xX12_eRead_58 (hM.1 _ _ rfl) ?_
          rw [t4 h106]
          refine xX12_eRead_61 (hM.1 _ _ rfl) rfl rfl rfl (s_X12_puts hM hE1 (by simp only [List.length_append]; omega) (fun g8 ha8 hb8 => ?_))
          refine xX12_eRead_64 ?_
          refine xX12_eRead_65 ?_
          rw [List.append_assoc] at hb8
          have hu1 := ha8
          refine xX12_eRead_67 (hM.1 _ _ rfl) rfl rfl rfl (s_X12_unwinds (kk := 7) rfl hM (by omega) (by omega) hb8 hcnt (by simp only [List.length_append, List.length_cons, List.length_nil]; omega) (fun g9 ha9 hb9 => ?_))
          refine xX12_eRead_70 ?_
          refine xX12_eRead_71 rfl ?_
          refine xX12_eRead_72 ?_
          obtain ⟨p2, hp2, hq2, hts2⟩ := hgo (fun z => by rw [z] at h106; exact absurd h106 (by decide))
          have ul := unw_len 7 B (out ++ [(q.2.1 - 106)]) o
          simp only [List.length_append, List.length_cons, List.length_nil] at ul
          exact ih false mn _ _ _ _ _ p2 g9 rfl hx2 hts2 hp2 (((ha9.2.1 28 (by omega)).trans (hu1.2.1 28 (by omega))).trans hq2) hb9 (hf1.tr (hu1.tr ha9).me) (unw_cnt (by omega) _ _ _ hcnt) (by simp only [List.length_append]; omega) (by rw [← hR]; exact (sy_106 n2 h106).symm)
    | false =>
      have e1 : x1 = 0 := hx1
      subst e1
      refine xX12_eRead_14 ?_
      refine xX12_eRead_15 (hM.1 _ _ rfl) rfl rfl rfl (s_X12_next hM (hW.me hf) (ht.me hf) hp hp9 (fun g0 ha0 hb0 => ?_))
      rw [← hts] at hb0
      obtain ⟨t1, t2, t3, t4, t5, t6, t7, t8⟩ := hb0
      have hE1 := hE.mn ha0
      have hf1 : MEf tc gs g0 := hf.tr ha0.me
      have h30 : g0 53 30 = mtk q.2.1 := t2
      have hgo : q.2.1 ≠ 0 → ∃ p, p ≤ tp.length ∧ g0 53 28 = nI p ∧ ts = TKS tp p := t7
      refine xX12_eRead_18 ?_
      
      refine xX12_eRead_19_t (by decide) ?_
      refine xX12_eRead_150 ?_
      refine xX12_eRead_151 (hM.1 _ _ rfl) ?_
      refine xX12_eRead_154 ?_
      rw [h30]
      refine xX12_eRead_156 (fun c156 => ?_) (fun c156 => ?_)
      · have n59 : ¬ q.2.1 = 59 := fun z => c156 (f59.mpr z)
        refine xX12_eRead_177 ?_
        refine xX12_eRead_178 (hM.1 _ _ rfl) ?_
        refine xX12_eRead_181 ?_
        rw [h30]
        refine xX12_eRead_183 (fun c183 => ?_) (fun c183 => ?_)
        · have n41 : ¬ q.2.1 = 41 := fun z => c183 (f41.mpr z)
          refine xX12_eRead_229 ?_
          refine xX12_eRead_230 (hM.1 _ _ rfl) rfl rfl rfl (s_X12_signOf hM h30 ?_)
          rw [fs]
          refine xX12_eRead_233 rfl ?_
          refine xX12_eRead_234 ?_
          refine xX12_eRead_235 ?_
          refine xX12_eRead_236 (fun c236 => ?_) (fun c236 => ?_)
          · have hs0 : sgn q.2.1 = 0 := by
              by_cases y : sgn q.2.1 = 0
              · exact y
              · rw [if_neg y] at c236; exact absurd c236 fn
            refine xX12_eRead_247 ?_
            refine xX12_eRead_248 (Or.inl rfl) rfl rfl ?_
            exact k0 q.1 (by rw [← hR]; exact sy_s0 n59 n41 hs0) _ hf1 t1
          · have ns0 : ¬ sgn q.2.1 = 0 := fun z => c236 (if_pos z)
            have hth1 : 1 ≤ thr q.2.1 := by
              have := fr ns0
              show 1 ≤ (if rk (sgn q.2.1) = 4 then 5 else rk (sgn q.2.1))
              split <;> omega
            rw [if_neg ns0]
            refine xX12_eRead_239 ?_
            refine xX12_eRead_240 ?_
            refine xX12_eRead_241 (hM.1 _ _ rfl) rfl rfl rfl (s_X12_between hM (fr ns0) hE1 hcnt (by simp only [List.length_append]; omega) (fun k4z g2 ha2 => ?_) (fun k42 g2 ha2 hb2 => ?_))
            · refine xX12_eRead_244_f (by decide) ?_
              refine xX12_eRead_247 ?_
              refine xX12_eRead_248 (Or.inl rfl) rfl rfl ?_
              exact k0 q.1 (by rw [← hR]; exact sy_s4 n59 n41 ns0 k4z) _ (hf1.tr ha2.me) ((ha2.2.1 29 (by omega)).trans t1)
            · refine xX12_eRead_244_t (by decide) ?_
              refine xX12_eRead_249 ?_
              refine xX12_eRead_250 rfl ?_
              refine xX12_eRead_251 ?_
              refine xX12_eRead_252 ?_
              refine xX12_eRead_254 (fun c254 => ?_) (fun c254 => ?_)
              · refine xX12_eRead_261 ?_
                refine xX12_eRead_262 rfl ?_
                refine xX12_eRead_263 ?_
                refine wp_kill_3 ?_
                obtain ⟨p2, hp2, hq2, hts2⟩ := hgo (fun z => by rw [z] at ns0; exact ns0 (by decide))
                have ul := unw_len (thrS (sgn q.2.1)) B out o
                have hcn := unw_cnt (k := thr q.2.1) hth1 B out o hcnt
                have hnop := tk_no _ htk ns0
                exact ih true (decide (sgn q.2.1 ≤ 12)) _ _ _ _ _ p2 g2 rfl (by rw [if_neg (fun z => absurd (of_decide_eq_true z) (Int32.not_le.mpr c254))]) hts2 hp2 ((ha2.2.1 28 (by omega)).trans hq2) hb2 (hf1.tr ha2.me) (by show cntO _ + _ = _; rw [if_neg hnop]; exact hcn) (by simp only [List.length_append, List.length_cons]; omega) (by rw [← hR]; exact (sy_s n59 n41 ns0 (fun z => k42 z)).symm)
              · refine xX12_eRead_257 ?_
                refine xX12_eRead_258 ?_
                refine xX12_eRead_262 rfl ?_
                refine xX12_eRead_263 ?_
                refine wp_kill_3 ?_
                obtain ⟨p2, hp2, hq2, hts2⟩ := hgo (fun z => by rw [z] at ns0; exact ns0 (by decide))
                have ul := unw_len (thrS (sgn q.2.1)) B out o
                have hcn := unw_cnt (k := thr q.2.1) hth1 B out o hcnt
                have hnop := tk_no _ htk ns0
                exact ih true (decide (sgn q.2.1 ≤ 12)) _ _ _ _ _ p2 g2 rfl (by rw [if_pos (decide_eq_true (Int32.not_lt.mp c254))]) hts2 hp2 ((ha2.2.1 28 (by omega)).trans hq2) hb2 (hf1.tr ha2.me) (by show cntO _ + _ = _; rw [if_neg hnop]; exact hcn) (by simp only [List.length_append, List.length_cons]; omega) (by rw [← hR]; exact (sy_s n59 n41 ns0 (fun z => k42 z)).symm)
        · have ht5 : q.2.1 = 41 := f41.mp c183
          refine xX12_eRead_186 ?_
          refine xX12_eRead_187 ?_
          refine xX12_eRead_188 (hM.1 _ _ rfl) rfl rfl rfl (s_X12_unwinds (kk := 1) rfl hM (by omega) (by omega) hE1 hcnt (by simp only [List.length_append]; omega) (fun g3 ha3 hb3 => ?_))
          have hu1 := ha3
          have hb9 := hb3
          obtain ⟨-, -, -, -, h34, -, h35⟩ := id hb9
          refine xX12_eRead_191 ?_
          refine xX12_eRead_192 (hM.1 _ _ rfl) ?_
          refine xX12_eRead_195 (fun c195 => ?_) (fun c195 => ?_)
          · have hn : ¬ (unw 1 B out o).1 = [] := fun z => by
              rw [z] at h34
              exact c195 h34
            have hcn := unw_cnt (k := 1) (by omega) B out o hcnt
            have htl := unw_tl 1 B out o
            obtain ⟨s2, B2, hU2⟩ : ∃ s2 B2, (unw 1 B out o).1 = s2 :: B2 := by
              cases e : (unw 1 B out o).1 with
              | nil => exact absurd e hn
              | cons a b => exact ⟨a, b, rfl⟩
            rw [hU2] at hcn htl h34 hb9
            have h34 : _ = nI (B2.length + 1) := h34
            have hs2 : s2 = 0 := by
              have z : rk s2 < 1 := htl
              unfold rk at z
              by_cases y : s2 = 0
              · exact y
              · rw [if_neg y] at z
                revert z
                repeat' split
                all_goals (intro z; omega)
            have hcx : cntO B2 + 1 = (unw 1 B out o).2.2 := by
              rw [← hcn]
              show _ = cntO B2 + _
              rw [if_pos (Or.inl hs2)]
            have hc9 : cntO B2 = (unw 1 B out o).2.2 - 1 := by omega
            refine xX12_eRead_200 ?_
            refine xX12_eRead_201 rfl ?_
            refine xX12_eRead_202 (hM.1 _ _ rfl) ?_
            refine xX12_eRead_205 ?_
            refine xX12_eRead_206 ?_
            rw [h34, show nI (B2.length + 1) - 1 = nI B2.length from nI_pred _]
            refine xX12_eRead_207 (hM.1 _ _ rfl) ?_
            refine xX12_eRead_210 ?_
            refine xX12_eRead_211 rfl ?_
            refine xX12_eRead_212 (hM.1 _ _ rfl) ?_
            refine xX12_eRead_215 ?_
            refine xX12_eRead_216 ?_
            rw [show up g3 53 34 (nI B2.length) 53 35 = nI (unw 1 B out o).2.2 from (up_ne (by omega)).trans h35, show nI (unw 1 B out o).2.2 - 1 = nI ((unw 1 B out o).2.2 - 1) by rw [← hcx]; exact nI_pred _]
            refine xX12_eRead_217 (hM.1 _ _ rfl) ?_
            refine xX12_eRead_220 ?_
            refine xX12_eRead_221 ?_
            have ulx := unw_len 1 B out o
            rw [hU2] at ulx
            simp only [List.length_cons] at ulx
            refine xX12_eRead_223 (hM.1 _ _ rfl) rfl rfl rfl (s_X12_unwinds (kk := 7) rfl hM (by omega) (by omega) (hb9.pop (o2 := (unw 1 B out o).2.2 - 1)) hc9 (by simp only [List.length_append]; omega) (fun g4 ha4 hb4 => ?_))
            refine xX12_eRead_226 ?_
            obtain ⟨p2, hp2, hq2, hts2⟩ := hgo (fun z => by rw [z] at ht5; exact absurd ht5 (by decide))
            have ul := unw_len 1 B out o
            have ul2 := unw_len 7 (s2 :: B2).tail (unw 1 B out o).2.1 ((unw 1 B out o).2.2 - 1)
            rw [hU2] at ul
            simp only [List.length_cons, List.tail_cons] at ul ul2
            exact ih false mn _ _ _ _ _ p2 g4 hx1 hx2 hts2 hp2 (((ha4.2.1 28 (by omega)).trans ((up_ne (by omega)).trans ((up_ne (by omega)).trans (hu1.2.1 28 (by omega))))).trans hq2) hb4 (hf1.tr ((hu1.tr ((MUf.u (by omega)).tr (MUf.u (by omega)))).tr ha4).me) (unw_cnt (by omega) _ _ _ hc9) (by simp only [List.length_append]; omega) (by rw [← hR]; exact ((sy_41 n59 ht5).trans ((if_neg (by rw [hU2]; simp)).trans (by rw [hU2]; rfl))).symm)
          · have hn : (unw 1 B out o).1 = [] := by
              cases e : (unw 1 B out o).1 with
              | nil => rfl
              | cons a b =>
                have ul := unw_len 1 B out o
                rw [e] at h34 ul
                simp only [List.length_cons] at ul
                rw [h34] at c195
                have := nIinj (a := b.length + 1) (b := 0) (by omega) (by omega) c195
                omega
            refine xX12_eRead_198 ?_
            refine xX12_eRead_199 (Or.inl rfl) rfl rfl ?_
            exact k0 q.1 (by rw [← hR]; exact (sy_41 n59 ht5).trans (if_pos hn)) _ (hf1.tr hu1.me) ((hu1.2.1 29 (by omega)).trans t1)
      · have ht5 : q.2.1 = 59 := f59.mp c156
        obtain ⟨p2, hp2, hq2, hts2⟩ := hgo (fun z => by rw [z] at ht5; exact absurd ht5 (by decide))
        refine xX12_eRead_159 ?_
        refine xX12_eRead_160 ?_
        refine xX12_eRead_161 (hM.1 _ _ rfl) rfl rfl rfl (s_X12_unwinds (kk := 1) rfl hM (by omega) (by omega) hE1 hcnt (by simp only [List.length_append]; omega) (fun g5 ha5 hb5 => ?_))
        have hu1 := ha5
        have hb9 := hb5
        obtain ⟨-, -, -, -, h34, -, h35⟩ := id hb9
        refine xX12_eRead_164 ?_
        refine xX12_eRead_165 (hM.1 _ _ rfl) ?_
        refine xX12_eRead_168 (fun c168 => ?_) (fun c168 => ?_)
        · have hn : ¬ (unw 1 B out o).1 = [] := fun z => by
            rw [z] at h34
            exact c168 h34
          refine xX12_eRead_175 ?_
          refine xX12_eRead_176 (Or.inl rfl) rfl rfl ?_
          exact k0 q.1 (by rw [← hR]; exact (sy_59 ht5).trans (if_neg hn)) _ (hf1.tr hu1.me) ((hu1.2.1 29 (by omega)).trans t1)
        · have hn : (unw 1 B out o).1 = [] := by
            cases e : (unw 1 B out o).1 with
            | nil => rfl
            | cons a b =>
              have ul := unw_len 1 B out o
              rw [e] at h34 ul
              simp only [List.length_cons] at ul
              rw [h34] at c168
              have := nIinj (a := b.length + 1) (b := 0) (by omega) (by omega) c168
              omega
          have hc1 : (unw 1 B out o).2.2 = cntO [] := by rw [← unw_cnt (k := 1) (by omega) B out o hcnt, hn]
          refine xX12_eRead_171 ?_
          refine xX12_eRead_172 ?_
          refine xX12_eRead_176 (Or.inr rfl) rfl rfl ?_
          exact k1 ts (unw 1 B out o).2.1 (by rw [← hR]; exact (sy_59 ht5).trans (if_pos hn)) _ p2 (hf1.tr hu1.me) hp2 ((hu1.2.1 28 (by omega)).trans hq2) hts2 (by rw [hn] at hb9; exact ⟨hb9.1, hb9.2.1, hb9.2.2.1, hb9.2.2.2.1⟩) (by have ul := unw_len 1 B out o; rw [hn] at ul; simp only [List.length_append, List.length_nil] at ul ⊢; omega)
theorem s_X12_eRead {d : Nat} {sc : Nat × (Nat → Int32)} {T : List (Nat × Nat)} {rf : Nat → Nat → Option Nat} {g : Nat → Nat → Int32} {tc : Nat} {L0 : List Int32} {tp : List Int32} {p N : Nat} {R : SR_} {F : Int32 → AH → Prop} (hM : MS T rf) (hW : WR g) (ht : MTp g tp) (hp : g 53 28 = nI p) (hp9 : p ≤ tp.length) (hE : CDp g tc L0) (hlen : L0.length + (TKS tp p).length ≤ N) (hN : N < 200) (hR : sy (TKS tp p) true true [] [] 0 = R) (k1 : ∀ ts2 cs, R = Sum.inr (ts2, cs) → ∀ g2 p2, MEf tc g g2 → p2 ≤ tp.length → g2 53 28 = nI p2 → ts2 = TKS tp p2 → CDp g2 tc (L0 ++ cs) → (L0 ++ cs).length + ts2.length ≤ N → F 1 (T, rf, g2)) (k0 : ∀ b, R = Sum.inl b → ∀ g2, MEf tc g g2 → g2 53 29 = nI b → F 0 (T, rf, g2)) : Mok (d + 4) 0 0 sc kX12_eRead [.ref 53] (T, rf, g) (Qi F) := by
  refine Mok.ofWp (L := [some (.ref 53), none, none, none]) rfl rfl rfl ?_
  refine xX12_eRead_0 ?_
  refine xX12_eRead_1 ?_
  refine xX12_eRead_2 (hM.1 _ _ rfl) ?_
  refine xX12_eRead_5 ?_
  refine xX12_eRead_6 ?_
  refine xX12_eRead_7 (hM.1 _ _ rfl) ?_
  refine xX12_eRead_10 ?_
  refine xX12_eRead_11 rfl ?_
  refine xX12_eRead_12 ?_
  refine xX12_eRead_13 rfl ?_
  refine lp_X12_eRead (gs := g) hM hW ht hN k1 k0 (TKS tp p) true true _ _ [] [] 0 p _ rfl rfl rfl hp9 ((up_ne (by omega)).trans ((up_ne (by omega)).trans hp)) ?_ ((MUf.u (by omega)).tr (MUf.u (by omega))).me rfl (by simp only [List.append_nil, List.length_nil]; omega) hR
  obtain ⟨h1, h2, h3, h4⟩ := hE
  rw [List.append_nil]
  exact ⟨(up_ne (by omega)).trans ((up_ne (by omega)).trans h1), h2, (up_ne (by omega)).trans ((up_ne (by omega)).trans h3), fun i v hv => by rw [up_row (by omega), up_row (by omega)]; exact h4 i v hv, (up_ne (by omega)).trans (up_same _ _ _ _), trivial, up_same _ _ _ _⟩
