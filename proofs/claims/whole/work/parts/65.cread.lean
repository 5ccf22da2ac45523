/-! coast: the class reads a text -/
def wfN (w D G B T : Nat) : Nat := if w ≠ 119 ∧ D = 0 then 1 else if w = 119 then (if 0 < D then 3 else 0) else if w = 103 then (if 7 ≤ G then 3 else 0) else if w = 98 then (if 5 ≤ B then 3 else 0) else if w = 100 then (if ¬ T = 0 then 3 else 0) else 1
section CR
variable {X : zM} {Q : Option Value → zM → Prop} {t : Nat} {tx : Nat → Nat} {p : Nat}
theorem c_wordFault {w D G B T : Nat} (h0 : X 3 0 = nI D) (h1 : X 3 1 = nI G) (h2 : X 3 2 = nI B) (h4 : X 3 4 = nI T) (hw : w ≤ 255) (hD : D ≤ 12) (hG : G ≤ 7) (hB : B ≤ 5) (hT : T ≤ 1) : zcl 17 [.ref 1, .ref 3, .int (nI w)] X Q = Q (some (.int (nI (wfN w D G B T)))) X := by
  unfold wfN
  by_cases c1 : w ≠ 119 ∧ D = 0
  · obtain ⟨c1a, c1b⟩ := c1
    rw [if_pos ⟨c1a, c1b⟩]
    simp (disch := first | omega | assumption | decide) only [e17, s17_0, s17_1, s17_3, s17_6, s17_7, s17_10, s17_13, s17_14, s17_15, s17_16, s17_60, s17_61, s17_64, s17_67, s17_68, s17_71, s17_72, s17_73, s17_74, s17_77, s17_79, s17_82, s17_83, s17_86, s17_87, s17_88, s17_89, s17_92, s17_93, s17_96, s17_97, s17_100, s17_101, s17_102, s17_103, s17_106, s17_109, s17_110, s17_113, s17_114, s17_115, s17_116, Option.toList_some, Option.toList_none, List.cons_append, List.nil_append, if_true, if_false, eq_self, n1n0, ne10, h0, nI_eq, c1a, c1b]
  · rw [if_neg c1]
    by_cases c2 : w = 119
    · rw [if_pos c2, c2]
      have d1 : ¬ 119 = 98 := by omega
      have d2 : ¬ 119 = 100 := by omega
      have d3 : ¬ 119 = 103 := by omega
      by_cases c3 : 0 < D
      · rw [if_pos c3]
        simp (disch := first | omega | assumption | decide) only [e17, s17_0, s17_1, s17_3, s17_6, s17_7, s17_10, s17_13, s17_14, s17_15, s17_16, s17_60, s17_61, s17_64, s17_67, s17_68, s17_71, s17_72, s17_73, s17_74, s17_77, s17_79, s17_82, s17_83, s17_86, s17_87, s17_88, s17_89, s17_92, s17_93, s17_96, s17_97, s17_100, s17_101, s17_102, s17_103, s17_106, s17_109, s17_110, s17_113, s17_114, s17_115, s17_116, Option.toList_some, Option.toList_none, List.cons_append, List.nil_append, if_true, if_false, eq_self, n1n0, ne10, h0, nI_eq, nI_ltI, d1, d2, d3, c3]
      · rw [if_neg c3]
        simp (disch := first | omega | assumption | decide) only [e17, s17_0, s17_1, s17_3, s17_6, s17_7, s17_10, s17_13, s17_14, s17_15, s17_16, s17_60, s17_61, s17_64, s17_67, s17_68, s17_71, s17_72, s17_73, s17_74, s17_77, s17_79, s17_82, s17_83, s17_86, s17_87, s17_88, s17_89, s17_92, s17_93, s17_96, s17_97, s17_100, s17_101, s17_102, s17_103, s17_106, s17_109, s17_110, s17_113, s17_114, s17_115, s17_116, Option.toList_some, Option.toList_none, List.cons_append, List.nil_append, if_true, if_false, eq_self, n1n0, ne10, h0, nI_eq, nI_ltI, d1, d2, d3, c3]
    · have c0 : ¬ D = 0 := fun q => c1 ⟨c2, q⟩
      rw [if_neg c2]
      by_cases c4 : w = 103
      · rw [if_pos c4, c4]
        have d1 : ¬ 103 = 98 := by omega
        have d2 : ¬ 103 = 100 := by omega
        have d3 : ¬ 103 = 119 := by omega
        by_cases c3 : 7 ≤ G
        · rw [if_pos c3]
          have c5 : ¬ G < 7 := by omega
          simp (disch := first | omega | assumption | decide) only [e17, s17_0, s17_1, s17_3, s17_6, s17_7, s17_10, s17_13, s17_14, s17_15, s17_16, s17_60, s17_61, s17_64, s17_67, s17_68, s17_71, s17_72, s17_73, s17_74, s17_77, s17_79, s17_82, s17_83, s17_86, s17_87, s17_88, s17_89, s17_92, s17_93, s17_96, s17_97, s17_100, s17_101, s17_102, s17_103, s17_106, s17_109, s17_110, s17_113, s17_114, s17_115, s17_116, Option.toList_some, Option.toList_none, List.cons_append, List.nil_append, if_true, if_false, eq_self, n1n0, ne10, h0, h1, nI_eq, nI_ltI, d1, d2, d3, c0, c5]
        · rw [if_neg c3]
          have c5 : G < 7 := by omega
          simp (disch := first | omega | assumption | decide) only [e17, s17_0, s17_1, s17_3, s17_6, s17_7, s17_10, s17_13, s17_14, s17_15, s17_16, s17_60, s17_61, s17_64, s17_67, s17_68, s17_71, s17_72, s17_73, s17_74, s17_77, s17_79, s17_82, s17_83, s17_86, s17_87, s17_88, s17_89, s17_92, s17_93, s17_96, s17_97, s17_100, s17_101, s17_102, s17_103, s17_106, s17_109, s17_110, s17_113, s17_114, s17_115, s17_116, Option.toList_some, Option.toList_none, List.cons_append, List.nil_append, if_true, if_false, eq_self, n1n0, ne10, h0, h1, nI_eq, nI_ltI, d1, d2, d3, c0, c5]
      · rw [if_neg c4]
        by_cases c5 : w = 98
        · rw [if_pos c5, c5]
          have d3 : ¬ 98 = 119 := by omega
          by_cases c3 : 5 ≤ B
          · rw [if_pos c3]
            have c6 : ¬ B < 5 := by omega
            simp (disch := first | omega | assumption | decide) only [e17, s17_0, s17_1, s17_3, s17_6, s17_7, s17_10, s17_13, s17_14, s17_15, s17_16, s17_60, s17_61, s17_64, s17_67, s17_68, s17_71, s17_72, s17_73, s17_74, s17_77, s17_79, s17_82, s17_83, s17_86, s17_87, s17_88, s17_89, s17_92, s17_93, s17_96, s17_97, s17_100, s17_101, s17_102, s17_103, s17_106, s17_109, s17_110, s17_113, s17_114, s17_115, s17_116, Option.toList_some, Option.toList_none, List.cons_append, List.nil_append, if_true, if_false, eq_self, n1n0, ne10, h0, h2, nI_eq, nI_ltI, d3, c0, c6]
          · rw [if_neg c3]
            have c6 : B < 5 := by omega
            simp (disch := first | omega | assumption | decide) only [e17, s17_0, s17_1, s17_3, s17_6, s17_7, s17_10, s17_13, s17_14, s17_15, s17_16, s17_60, s17_61, s17_64, s17_67, s17_68, s17_71, s17_72, s17_73, s17_74, s17_77, s17_79, s17_82, s17_83, s17_86, s17_87, s17_88, s17_89, s17_92, s17_93, s17_96, s17_97, s17_100, s17_101, s17_102, s17_103, s17_106, s17_109, s17_110, s17_113, s17_114, s17_115, s17_116, Option.toList_some, Option.toList_none, List.cons_append, List.nil_append, if_true, if_false, eq_self, n1n0, ne10, h0, h2, nI_eq, nI_ltI, d3, c0, c6]
        · rw [if_neg c5]
          by_cases c6 : w = 100
          · rw [if_pos c6, c6]
            have d1 : ¬ 100 = 98 := by omega
            have d3 : ¬ 100 = 119 := by omega
            by_cases c3 : ¬ T = 0
            · rw [if_pos c3]
              simp (disch := first | omega | assumption | decide) only [e17, s17_0, s17_1, s17_3, s17_6, s17_7, s17_10, s17_13, s17_14, s17_15, s17_16, s17_60, s17_61, s17_64, s17_67, s17_68, s17_71, s17_72, s17_73, s17_74, s17_77, s17_79, s17_82, s17_83, s17_86, s17_87, s17_88, s17_89, s17_92, s17_93, s17_96, s17_97, s17_100, s17_101, s17_102, s17_103, s17_106, s17_109, s17_110, s17_113, s17_114, s17_115, s17_116, Option.toList_some, Option.toList_none, List.cons_append, List.nil_append, if_true, if_false, eq_self, n1n0, ne10, h0, h4, nI_eq, nI_ltI, d1, d3, c0, c3]
            · rw [if_neg c3]
              have c7 : T = 0 := by omega
              simp (disch := first | omega | assumption | decide) only [e17, s17_0, s17_1, s17_3, s17_6, s17_7, s17_10, s17_13, s17_14, s17_15, s17_16, s17_60, s17_61, s17_64, s17_67, s17_68, s17_71, s17_72, s17_73, s17_74, s17_77, s17_79, s17_82, s17_83, s17_86, s17_87, s17_88, s17_89, s17_92, s17_93, s17_96, s17_97, s17_100, s17_101, s17_102, s17_103, s17_106, s17_109, s17_110, s17_113, s17_114, s17_115, s17_116, Option.toList_some, Option.toList_none, List.cons_append, List.nil_append, if_true, if_false, eq_self, n1n0, ne10, h0, h4, nI_eq, nI_ltI, d1, d3, c0, c7]
          · rw [if_neg c6]
            simp (disch := first | omega | assumption | decide) only [e17, s17_0, s17_1, s17_3, s17_6, s17_7, s17_10, s17_13, s17_14, s17_15, s17_16, s17_60, s17_61, s17_64, s17_67, s17_68, s17_71, s17_72, s17_73, s17_74, s17_77, s17_79, s17_82, s17_83, s17_86, s17_87, s17_88, s17_89, s17_92, s17_93, s17_96, s17_97, s17_100, s17_101, s17_102, s17_103, s17_106, s17_109, s17_110, s17_113, s17_114, s17_115, s17_116, Option.toList_some, Option.toList_none, List.cons_append, List.nil_append, if_true, if_false, eq_self, n1n0, ne10, h0, nI_eq, c2, c4, c5, c6, c0]
theorem c_clauseC {s : sT} {Y : zM} (hs : okT t s) (hY : rC t tx X s Y) (hq : sk t tx s.1 < t) (hf : ¬ (clS t tx s).1 = 0 → ∀ Z, fC t tx X (clS t tx s).1 (clS t tx s).2.1 Z → Q none Z) (ho : (clS t tx s).1 = 0 → ∀ Z, rC t tx X (clS t tx s).2.2 Z → Q none Z) : zcl 153 [.ref 1, .ref 3] Y Q := by
  obtain ⟨p, ⟨D, W⟩, ⟨G, tm, wt⟩, ⟨B, lm, br⟩, C, T⟩ := s
  obtain ⟨h1, h2, h3, h4, h5, h6, h7, h8, h9, h10, h11, h12, h13⟩ := hs
  have hq : sk t tx p < t := hq
  have tY := hY.2.1
  have hx := tY.2.1 (sk t tx p) hq
  obtain ⟨a1, a2, a3⟩ := hY.2.2.1
  simp (disch := first | omega | assumption | decide) only [e153, s153_0, s153_1, s153_4, s153_5, s153_6, s153_7, s153_8, s153_11, s153_12, s153_13, s153_16, s153_17, s153_18, s153_19, s153_22, s153_25, s153_26, s153_27, s153_28, s153_31, s153_32, s153_33, s153_36, s153_37, s153_72, s153_73, s153_74, s153_77, s153_80, s153_81, s153_82, s153_85, s153_88, s153_89, s153_90, s153_93, s153_96, s153_97, s153_98, s153_101, Option.toList_some, Option.toList_none, List.cons_append, List.nil_append, if_true, if_false, eq_self, n1n0, ne10]
  refine c_next2 tY a1 h1 (fun Y1 hY1 => ?_)
  have t1 := rd1_tC hY1 tY
  rw [a2, a3] at hY1
  have hc := rC_rd1 hY hY1 t1
  obtain ⟨b1, b2, b3⟩ := hc.2.2.1
  obtain ⟨g0, g1, g2, g3, g4⟩ := hc.2.2.2.1
  have hsg : sg t tx (sk t tx p) = nI (tx (sk t tx p)) := if_pos hq
  have hwf := fun Q => c_wordFault (X := Y1) (Q := Q) g0 g1 g2 g4 hx h2 h4 h7 h11
  have hat := rd1_at (X := Y1) (q := sk t tx p + 1) ⟨fun _ _ => rfl, rfl, rfl, b1, b2, b3⟩
  have hc2 := rC_rd1 hc hat (rd1_tC hat t1)
  unfold clS at hf ho
  dsimp only at hf ho
  have faul : ∀ n : Nat, ¬ n = 0 → n ≤ 3 → (∀ Z, fC t tx X n (sk t tx p) Z → Q none Z) → wfN (tx (sk t tx p)) D G B T = n → zev 153 8 [.ref 1, .ref 3, .int (nI (tx (sk t tx p))), zU] [.int (nI (tx (sk t tx p))), .ref 3, .ref 1] Y1 Q := by
    intro n hn hn3 hfn hw
    have n0 : ¬ nI n = nI 0 := fun q => hn ((nI_eq (by omega) (by decide)).mp q)
    rw [hw] at hwf
    simp (disch := first | omega | assumption | decide) only [e153, s153_0, s153_1, s153_4, s153_5, s153_6, s153_7, s153_8, s153_11, s153_12, s153_13, s153_16, s153_17, s153_18, s153_19, s153_22, s153_25, s153_26, s153_27, s153_28, s153_31, s153_32, s153_33, s153_36, s153_37, s153_72, s153_73, s153_74, s153_77, s153_80, s153_81, s153_82, s153_85, s153_88, s153_89, s153_90, s153_93, s153_96, s153_97, s153_98, s153_101, Option.toList_some, Option.toList_none, List.cons_append, List.nil_append, if_true, if_false, eq_self, n1n0, ne10, hwf, n0, b1]
    refine c_failR ⟨fun _ _ => rfl, rfl, rfl, b1, b2, b3⟩ hn (fun Z hZ => ?_)
    rw [flK_z, flF_z hn] at hZ
    simp (disch := first | omega | assumption | decide) only [e153, s153_0, s153_1, s153_4, s153_5, s153_6, s153_7, s153_8, s153_11, s153_12, s153_13, s153_16, s153_17, s153_18, s153_19, s153_22, s153_25, s153_26, s153_27, s153_28, s153_31, s153_32, s153_33, s153_36, s153_37, s153_72, s153_73, s153_74, s153_77, s153_80, s153_81, s153_82, s153_85, s153_88, s153_89, s153_90, s153_93, s153_96, s153_97, s153_98, s153_101, Option.toList_some, Option.toList_none, List.cons_append, List.nil_append, if_true, if_false, eq_self, n1n0, ne10]
    exact hfn Z (fC_rd1 hc hZ (rd1_tC hZ t1))
  rw [hsg]
  simp (disch := first | omega | assumption | decide) only [e153, s153_0, s153_1, s153_4, s153_5, s153_6, s153_7, s153_8, s153_11, s153_12, s153_13, s153_16, s153_17, s153_18, s153_19, s153_22, s153_25, s153_26, s153_27, s153_28, s153_31, s153_32, s153_33, s153_36, s153_37, s153_72, s153_73, s153_74, s153_77, s153_80, s153_81, s153_82, s153_85, s153_88, s153_89, s153_90, s153_93, s153_96, s153_97, s153_98, s153_101, Option.toList_some, Option.toList_none, List.cons_append, List.nil_append, if_true, if_false, eq_self, n1n0, ne10] at faul
  simp (disch := first | omega | assumption | decide) only [e153, s153_0, s153_1, s153_4, s153_5, s153_6, s153_7, s153_8, s153_11, s153_12, s153_13, s153_16, s153_17, s153_18, s153_19, s153_22, s153_25, s153_26, s153_27, s153_28, s153_31, s153_32, s153_33, s153_36, s153_37, s153_72, s153_73, s153_74, s153_77, s153_80, s153_81, s153_82, s153_85, s153_88, s153_89, s153_90, s153_93, s153_96, s153_97, s153_98, s153_101, Option.toList_some, Option.toList_none, List.cons_append, List.nil_append, if_true, if_false, eq_self, n1n0, ne10]
  by_cases c1 : tx (sk t tx p) ≠ 119 ∧ D = 0
  · rw [if_pos c1] at hf ho
    exact faul 1 (by decide) (by decide) (hf (by intro q; cases q)) (by unfold wfN; rw [if_pos c1])
  · rw [if_neg c1] at hf ho
    by_cases c2 : tx (sk t tx p) = 119
    · rw [if_pos c2] at hf ho
      by_cases c3 : 0 < D
      · rw [if_pos c3] at hf ho
        exact faul 3 (by decide) (by decide) (hf (by intro q; cases q)) (by unfold wfN; rw [if_neg c1, if_pos c2, if_pos c3])
      · rw [if_neg c3] at hf ho
        have hw : wfN (tx (sk t tx p)) D G B T = 0 := by unfold wfN; rw [if_neg c1, if_pos c2, if_neg c3]
        rw [hw] at hwf
        have q0 : D = 0 := by omega
        subst q0
        have d1 : ¬ 119 = 98 := by omega
        have d3 : ¬ 119 = 103 := by omega
        rw [c2] at hwf ⊢
        simp (disch := first | omega | assumption | decide) only [e153, s153_0, s153_1, s153_4, s153_5, s153_6, s153_7, s153_8, s153_11, s153_12, s153_13, s153_16, s153_17, s153_18, s153_19, s153_22, s153_25, s153_26, s153_27, s153_28, s153_31, s153_32, s153_33, s153_36, s153_37, s153_72, s153_73, s153_74, s153_77, s153_80, s153_81, s153_82, s153_85, s153_88, s153_89, s153_90, s153_93, s153_96, s153_97, s153_98, s153_101, Option.toList_some, Option.toList_none, List.cons_append, List.nil_append, if_true, if_false, eq_self, n1n0, ne10, hwf, b1, nI_add, nI_eq, d1, d3]
        simp (disch := first | omega | assumption | decide) only [e112, s112_0, s112_1, s112_3, s112_5, s112_8, s112_9, s112_11, s112_14, s112_15, s112_16, s112_19, s112_22, s112_23, s112_24, s112_25, s112_28, s112_29, s112_32, s112_34, s112_37, s112_38, s112_41, s112_43, s112_46, s112_47, s112_50, s112_51, s112_52, s112_53, s112_56, s112_57, s112_58, s112_61, s112_64, s112_67, Option.toList_some, Option.toList_none, List.cons_append, List.nil_append, if_true, if_false, eq_self, n1n0, ne10]
        refine wea_loop (G := G) (B := B) (C := C) (T := T) (tm := tm) (wt := wt) (lm := lm) (br := br) (r := wth t tx 12 0 W (sk t tx p + 1)) (X := X) (fun k Z hZ => ?_) (fun k Z hZ => ?_) 11 0 W (sk t tx p + 1) _ _ (by omega) (by omega) rfl hc2
        · simp (disch := first | omega | assumption | decide) only [e153, s153_0, s153_1, s153_4, s153_5, s153_6, s153_7, s153_8, s153_11, s153_12, s153_13, s153_16, s153_17, s153_18, s153_19, s153_22, s153_25, s153_26, s153_27, s153_28, s153_31, s153_32, s153_33, s153_36, s153_37, s153_72, s153_73, s153_74, s153_77, s153_80, s153_81, s153_82, s153_85, s153_88, s153_89, s153_90, s153_93, s153_96, s153_97, s153_98, s153_101, Option.toList_some, Option.toList_none, List.cons_append, List.nil_append, if_true, if_false, eq_self, n1n0, ne10]
          exact hf k Z hZ
        · simp (disch := first | omega | assumption | decide) only [e153, s153_0, s153_1, s153_4, s153_5, s153_6, s153_7, s153_8, s153_11, s153_12, s153_13, s153_16, s153_17, s153_18, s153_19, s153_22, s153_25, s153_26, s153_27, s153_28, s153_31, s153_32, s153_33, s153_36, s153_37, s153_72, s153_73, s153_74, s153_77, s153_80, s153_81, s153_82, s153_85, s153_88, s153_89, s153_90, s153_93, s153_96, s153_97, s153_98, s153_101, Option.toList_some, Option.toList_none, List.cons_append, List.nil_append, if_true, if_false, eq_self, n1n0, ne10]
          exact ho k Z hZ
    · have c0 : ¬ D = 0 := fun q => c1 ⟨c2, q⟩
      rw [if_neg c2] at hf ho
      by_cases c4 : tx (sk t tx p) = 103
      · rw [if_pos c4] at hf ho
        by_cases c3 : 7 ≤ G
        · rw [if_pos c3] at hf ho
          exact faul 3 (by decide) (by decide) (hf (by intro q; cases q)) (by unfold wfN; rw [if_neg c1, if_neg c2, if_pos c4, if_pos c3])
        · rw [if_neg c3] at hf ho
          have hw : wfN (tx (sk t tx p)) D G B T = 0 := by unfold wfN; rw [if_neg c1, if_neg c2, if_pos c4, if_neg c3]
          rw [hw] at hwf
          have d1 : ¬ 103 = 98 := by omega
          rw [c4] at hwf ⊢
          simp (disch := first | omega | assumption | decide) only [e153, s153_0, s153_1, s153_4, s153_5, s153_6, s153_7, s153_8, s153_11, s153_12, s153_13, s153_16, s153_17, s153_18, s153_19, s153_22, s153_25, s153_26, s153_27, s153_28, s153_31, s153_32, s153_33, s153_36, s153_37, s153_72, s153_73, s153_74, s153_77, s153_80, s153_81, s153_82, s153_85, s153_88, s153_89, s153_90, s153_93, s153_96, s153_97, s153_98, s153_101, Option.toList_some, Option.toList_none, List.cons_append, List.nil_append, if_true, if_false, eq_self, n1n0, ne10, hwf, b1, nI_add, nI_eq, d1]
          refine c_glassC (m := 0) hc2 (by omega) (by omega) (fun k Z hZ => ?_) (fun k Z hZ => ?_)
          · simp (disch := first | omega | assumption | decide) only [e153, s153_0, s153_1, s153_4, s153_5, s153_6, s153_7, s153_8, s153_11, s153_12, s153_13, s153_16, s153_17, s153_18, s153_19, s153_22, s153_25, s153_26, s153_27, s153_28, s153_31, s153_32, s153_33, s153_36, s153_37, s153_72, s153_73, s153_74, s153_77, s153_80, s153_81, s153_82, s153_85, s153_88, s153_89, s153_90, s153_93, s153_96, s153_97, s153_98, s153_101, Option.toList_some, Option.toList_none, List.cons_append, List.nil_append, if_true, if_false, eq_self, n1n0, ne10]
            exact hf k Z hZ
          · simp (disch := first | omega | assumption | decide) only [e153, s153_0, s153_1, s153_4, s153_5, s153_6, s153_7, s153_8, s153_11, s153_12, s153_13, s153_16, s153_17, s153_18, s153_19, s153_22, s153_25, s153_26, s153_27, s153_28, s153_31, s153_32, s153_33, s153_36, s153_37, s153_72, s153_73, s153_74, s153_77, s153_80, s153_81, s153_82, s153_85, s153_88, s153_89, s153_90, s153_93, s153_96, s153_97, s153_98, s153_101, Option.toList_some, Option.toList_none, List.cons_append, List.nil_append, if_true, if_false, eq_self, n1n0, ne10]
            exact ho k Z hZ
      · rw [if_neg c4] at hf ho
        by_cases c5 : tx (sk t tx p) = 98
        · rw [if_pos c5] at hf ho
          by_cases c3 : 5 ≤ B
          · rw [if_pos c3] at hf ho
            exact faul 3 (by decide) (by decide) (hf (by intro q; cases q)) (by unfold wfN; rw [if_neg c1, if_neg c2, if_neg c4, if_pos c5, if_pos c3])
          · rw [if_neg c3] at hf ho
            have hw : wfN (tx (sk t tx p)) D G B T = 0 := by unfold wfN; rw [if_neg c1, if_neg c2, if_neg c4, if_pos c5, if_neg c3]
            rw [hw] at hwf
            rw [c5] at hwf ⊢
            simp (disch := first | omega | assumption | decide) only [e153, s153_0, s153_1, s153_4, s153_5, s153_6, s153_7, s153_8, s153_11, s153_12, s153_13, s153_16, s153_17, s153_18, s153_19, s153_22, s153_25, s153_26, s153_27, s153_28, s153_31, s153_32, s153_33, s153_36, s153_37, s153_72, s153_73, s153_74, s153_77, s153_80, s153_81, s153_82, s153_85, s153_88, s153_89, s153_90, s153_93, s153_96, s153_97, s153_98, s153_101, Option.toList_some, Option.toList_none, List.cons_append, List.nil_append, if_true, if_false, eq_self, n1n0, ne10, hwf, b1, nI_add, nI_eq]
            refine c_boatC (m := 0) hc2 (by omega) (by omega) (fun k Z hZ => ?_) (fun k Z hZ => ?_)
            · simp (disch := first | omega | assumption | decide) only [e153, s153_0, s153_1, s153_4, s153_5, s153_6, s153_7, s153_8, s153_11, s153_12, s153_13, s153_16, s153_17, s153_18, s153_19, s153_22, s153_25, s153_26, s153_27, s153_28, s153_31, s153_32, s153_33, s153_36, s153_37, s153_72, s153_73, s153_74, s153_77, s153_80, s153_81, s153_82, s153_85, s153_88, s153_89, s153_90, s153_93, s153_96, s153_97, s153_98, s153_101, Option.toList_some, Option.toList_none, List.cons_append, List.nil_append, if_true, if_false, eq_self, n1n0, ne10]
              exact hf k Z hZ
            · simp (disch := first | omega | assumption | decide) only [e153, s153_0, s153_1, s153_4, s153_5, s153_6, s153_7, s153_8, s153_11, s153_12, s153_13, s153_16, s153_17, s153_18, s153_19, s153_22, s153_25, s153_26, s153_27, s153_28, s153_31, s153_32, s153_33, s153_36, s153_37, s153_72, s153_73, s153_74, s153_77, s153_80, s153_81, s153_82, s153_85, s153_88, s153_89, s153_90, s153_93, s153_96, s153_97, s153_98, s153_101, Option.toList_some, Option.toList_none, List.cons_append, List.nil_append, if_true, if_false, eq_self, n1n0, ne10]
              exact ho k Z hZ
        · rw [if_neg c5] at hf ho
          by_cases c6 : tx (sk t tx p) = 100
          · rw [if_pos c6] at hf ho
            by_cases c3 : ¬ T = 0
            · rw [if_pos c3] at hf ho
              exact faul 3 (by decide) (by decide) (hf (by intro q; cases q)) (by unfold wfN; rw [if_neg c1, if_neg c2, if_neg c4, if_neg c5, if_pos c6, if_pos c3])
            · rw [if_neg c3] at hf ho
              have hw : wfN (tx (sk t tx p)) D G B T = 0 := by unfold wfN; rw [if_neg c1, if_neg c2, if_neg c4, if_neg c5, if_pos c6, if_neg c3]
              rw [hw] at hwf
              have d1 : ¬ 100 = 98 := by omega
              have d2 : ¬ 100 = 103 := by omega
              have d3 : ¬ 100 = 119 := by omega
              rw [c6] at hwf ⊢
              simp (disch := first | omega | assumption | decide) only [e153, s153_0, s153_1, s153_4, s153_5, s153_6, s153_7, s153_8, s153_11, s153_12, s153_13, s153_16, s153_17, s153_18, s153_19, s153_22, s153_25, s153_26, s153_27, s153_28, s153_31, s153_32, s153_33, s153_36, s153_37, s153_72, s153_73, s153_74, s153_77, s153_80, s153_81, s153_82, s153_85, s153_88, s153_89, s153_90, s153_93, s153_96, s153_97, s153_98, s153_101, Option.toList_some, Option.toList_none, List.cons_append, List.nil_append, if_true, if_false, eq_self, n1n0, ne10, hwf, b1, nI_add, nI_eq, d1, d2, d3]
              refine c_drinksC hc2 (by omega) (fun k Z hZ => ?_) (fun k Z hZ => ?_)
              · simp (disch := first | omega | assumption | decide) only [e153, s153_0, s153_1, s153_4, s153_5, s153_6, s153_7, s153_8, s153_11, s153_12, s153_13, s153_16, s153_17, s153_18, s153_19, s153_22, s153_25, s153_26, s153_27, s153_28, s153_31, s153_32, s153_33, s153_36, s153_37, s153_72, s153_73, s153_74, s153_77, s153_80, s153_81, s153_82, s153_85, s153_88, s153_89, s153_90, s153_93, s153_96, s153_97, s153_98, s153_101, Option.toList_some, Option.toList_none, List.cons_append, List.nil_append, if_true, if_false, eq_self, n1n0, ne10]
                exact hf k Z hZ
              · simp (disch := first | omega | assumption | decide) only [e153, s153_0, s153_1, s153_4, s153_5, s153_6, s153_7, s153_8, s153_11, s153_12, s153_13, s153_16, s153_17, s153_18, s153_19, s153_22, s153_25, s153_26, s153_27, s153_28, s153_31, s153_32, s153_33, s153_36, s153_37, s153_72, s153_73, s153_74, s153_77, s153_80, s153_81, s153_82, s153_85, s153_88, s153_89, s153_90, s153_93, s153_96, s153_97, s153_98, s153_101, Option.toList_some, Option.toList_none, List.cons_append, List.nil_append, if_true, if_false, eq_self, n1n0, ne10]
                exact ho k Z hZ
          · rw [if_neg c6] at hf ho
            exact faul 1 (by decide) (by decide) (hf (by intro q; cases q)) (by unfold wfN; rw [if_neg c1, if_neg c2, if_neg c4, if_neg c5, if_neg c6])
theorem rdC_loop {r : Nat × Nat × sT} (hf : ¬ r.1 = 0 → ∀ Z l2, fC t tx X r.1 r.2.1 Z → zev 176 54 [.ref 1, .ref 3, l2] [] Z Q) (ho : r.1 = 0 → ∀ Z l2 q, rC t tx X (q, r.2.2.2) Z → zev 176 54 [.ref 1, .ref 3, l2] [] Z Q) : ∀ (n i : Nat) (s : sT) (Y : zM), i + n = 240 → i ≤ s.1 → prs t tx (n + 1) s = r → okT t s → rC t tx X s Y → zev 176 21 [.ref 1, .ref 3, .int (nI i)] [] Y Q := by
  intro n
  induction n with
  | zero =>
    intro i s Y hi his hr hs hY
    obtain ⟨p, ⟨D, W⟩, ⟨G, tm, wt⟩, ⟨B, lm, br⟩, C, T⟩ := s
    have his : i ≤ p := his
    have tY := hY.2.1
    have h1 : p ≤ t := hs.1
    have ht := tY.1
    have e1 : sk t tx p = p := sk_end (by omega)
    unfold prs at hr
    rw [if_pos (show t ≤ sk t tx p by omega)] at hr
    subst hr
    have k := ho rfl Y (.int (nI i)) p hY
    have c : ¬ i < 240 := by omega
    rw [s176_21]
    simp (disch := first | omega | assumption | decide) only [s176_22, s176_25, nI_ltI, c, if_false]
    exact k
  | succ n ih =>
    intro i s Y hi his hr hs hY
    have hq0 := sk_le (tx := tx) (t := t) (p := s.1) (by obtain ⟨p, ⟨D, W⟩, ⟨G, tm, wt⟩, ⟨B, lm, br⟩, C, T⟩ := s; exact hs.1)
    have hcl := clS_ok (tx := tx) hs
    have hclC := fun Z (hZ : rC t tx X s Z) Q => c_clauseC (Q := Q) (tx := tx) (X := X) hs hZ
    unfold prs at hr
    have c : i < 240 := by omega
    obtain ⟨p, ⟨D, W⟩, ⟨G, tm, wt⟩, ⟨B, lm, br⟩, C, T⟩ := s
    have tY := hY.2.1
    have h1 : p ≤ t := hs.1
    obtain ⟨a1, a2, a3⟩ := hY.2.2.1
    rw [s176_21]
    simp (disch := first | omega | assumption | decide) only [e176, s176_0, s176_1, s176_4, s176_5, s176_6, s176_9, s176_10, s176_11, s176_14, s176_15, s176_16, s176_19, s176_20, s176_22, s176_25, s176_28, s176_29, s176_32, s176_35, s176_36, s176_39, s176_40, s176_43, s176_44, s176_45, s176_48, s176_51, s176_54, s176_55, s176_58, s176_61, s176_62, s176_65, s176_68, s176_69, s176_70, s176_73, s176_74, s176_75, s176_78, s176_79, s176_82, Option.toList_some, Option.toList_none, List.cons_append, List.nil_append, if_true, if_false, eq_self, n1n0, ne10, nI_ltI, c, a2]
    refine c_next2 tY a1 h1 (fun Y1 hY1 => ?_)
    have t1 := rd1_tC hY1 tY
    rw [a2, a3] at hY1
    have hc := rC_rd1 hY hY1 t1
    by_cases c1 : t ≤ sk t tx p
    · rw [if_pos c1] at hr
      subst hr
      have e : sg t tx (sk t tx p) = -1 := if_neg (by omega)
      have k := ho rfl Y1 (.int (nI i)) _ hc
      simp (disch := first | omega | assumption | decide) only [Option.toList_some, Option.toList_none, List.cons_append, List.nil_append, if_true, if_false, eq_self, n1n0, ne10, s176_39, s176_40, e]
      exact k
    · rw [if_neg c1] at hr
      have hx := tY.2.1 (sk t tx p) (by omega)
      have e : ¬ sg t tx (sk t tx p) = -1 := by
        unfold sg
        rw [if_pos (by omega)]
        exact sgn_n.nm1b _ (by omega)
      simp (disch := first | omega | assumption | decide) only [Option.toList_some, Option.toList_none, List.cons_append, List.nil_append, if_true, if_false, eq_self, n1n0, ne10, s176_39, s176_40, s176_43, s176_44, s176_45, e]
      have hsq : sk t tx (sk t tx p) = sk t tx p := sk_sk h1
      have ecl : clS t tx (sk t tx p, (D, W), (G, tm, wt), (B, lm, br), C, T) = ((clS t tx (p, (D, W), (G, tm, wt), (B, lm, br), C, T)).1, (clS t tx (p, (D, W), (G, tm, wt), (B, lm, br), C, T)).2.1, (clS t tx (sk t tx p, (D, W), (G, tm, wt), (B, lm, br), C, T)).2.2) ∧ ((clS t tx (p, (D, W), (G, tm, wt), (B, lm, br), C, T)).1 = 0 → (clS t tx (sk t tx p, (D, W), (G, tm, wt), (B, lm, br), C, T)).2.2 = (clS t tx (p, (D, W), (G, tm, wt), (B, lm, br), C, T)).2.2) := clS_sk h1
      obtain ⟨ecl1, ecl2⟩ := ecl
      refine c_clauseC (X := X) (s := (sk t tx p, (D, W), (G, tm, wt), (B, lm, br), C, T)) ⟨hq0.2, hs.2⟩ hc (by show sk t tx (sk t tx p) < t; omega) (fun k Z hZ => ?_) (fun k Z hZ => ?_)
      · rw [ecl1] at k hZ
        dsimp only at k hZ
        rw [if_neg k] at hr
        subst hr
        have kk := hf k Z (.int (nI (i + 1))) hZ
        have e3 := hZ.2.2.1
        have hle : (clS t tx (p, (D, W), (G, tm, wt), (B, lm, br), C, T)).1 ≤ 3 := clS_3 _
        have n0 : ¬ nI (clS t tx (p, (D, W), (G, tm, wt), (B, lm, br), C, T)).1 = nI 0 := fun q => k ((nI_eq (by omega) (by decide)).mp q)
        simp (disch := first | omega | assumption | decide) only [Option.toList_some, Option.toList_none, List.cons_append, List.nil_append, if_true, if_false, eq_self, n1n0, ne10, s176_48, s176_51, nI_add]
        rw [s176_21]
        by_cases c7 : i + 1 < 240
        · simp (disch := first | omega | assumption | decide) only [s176_22, s176_25, s176_28, s176_29, s176_32, nI_ltI, c7, e3, n0, if_false, if_true]
          exact kk
        · simp (disch := first | omega | assumption | decide) only [s176_22, s176_25, nI_ltI, c7, if_false]
          exact kk
      · have k2 : (clS t tx (p, (D, W), (G, tm, wt), (B, lm, br), C, T)).1 = 0 := by rw [ecl1] at k; exact k
        rw [ecl2 k2] at hZ
        rw [if_pos k2] at hr
        have hk := hcl (by show sk t tx p < t; omega) k2
        have kk := ih (i + 1) _ Z (by omega) (by have := hk.2; dsimp only at this his; omega) hr hk.1 hZ
        simp (disch := first | omega | assumption | decide) only [Option.toList_some, Option.toList_none, List.cons_append, List.nil_append, if_true, if_false, eq_self, n1n0, ne10, s176_48, s176_51, nI_add]
        exact kk
end CR
