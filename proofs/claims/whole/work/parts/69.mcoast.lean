/-! coast: the reference's clause, its loop -/
theorem w1a : ¬ (119 : Nat) = 98 := by decide
theorem w1b : ¬ (119 : Nat) = 100 := by decide
theorem w1c : ¬ (119 : Nat) = 103 := by decide
theorem w2a : ¬ (103 : Nat) = 98 := by decide
theorem w2b : ¬ (103 : Nat) = 100 := by decide
theorem w2c : ¬ (103 : Nat) = 119 := by decide
theorem w3a : ¬ (98 : Nat) = 119 := by decide
theorem w4a : ¬ (100 : Nat) = 98 := by decide
theorem w4b : ¬ (100 : Nat) = 119 := by decide
section CQ
variable {X : zM} {Q : Option Value → zM → Prop} {t : Nat} {tx : Nat → Nat} {p : Nat}
theorem gC_bad {Y : zM} {q n w : Nat} (h : frQ X Y) (h18 : Y 39 18 = nI q) : gC X n w (zst Y 39 (upd (upd (Y 39) 20 (nI n)) 21 (nI w))) := by
  refine ⟨frQ_rd2 h (rd2_bad (fun _ _ => rfl) (fun _ _ => rfl) h18), ?_, ?_⟩
  · rw [zst_at, upd_ne _ _ (by decide), upd_at]
  · rw [zst_at, upd_at]
theorem c_clauseM {s : sT} {Y : zM} (hs : okT t s) (hY : mC t tx X s Y) (hq : sk t tx s.1 < t) (hf : ∀ Z, ¬ (clS t tx s).1 = 0 → gC X (clS t tx s).1 (clS t tx s).2.1 Z → Q none Z) (ho : ∀ Z q r, q ≤ t → mC t tx X (q, r) Z → clS t tx s = (ek t tx q, sk t tx q, (sk t tx q + 1, r)) → Q none Z) : zcl 183 [.ref 39] Y Q := by
  obtain ⟨p, ⟨D, W⟩, ⟨G, tm, wt⟩, ⟨B, lm, br⟩, C, T⟩ := s
  obtain ⟨h1, h2, h3, h4, h5, h6, h7, h8, h9, h10, h11, h12, h13⟩ := hs
  have hq : sk t tx p < t := hq
  have tY := hY.2.1
  have hx := tY.2.1 (sk t tx p) hq
  obtain ⟨a1, a2, a3⟩ := hY.2.2.1
  simp (disch := first | omega | assumption | decide) only [e183, s183_0, s183_1, s183_4, s183_5, s183_6, s183_9, s183_10, s183_11, s183_12, s183_15, s183_16, s183_17, s183_20, s183_21, s183_22, s183_24, s183_27, s183_28, s183_31, s183_34, s183_35, s183_38, s183_39, s183_40, s183_41, s183_44, s183_47, s183_48, s183_49, s183_92, s183_93, s183_94, s183_97, s183_100, s183_101, s183_102, s183_105, s183_108, s183_109, s183_110, s183_113, s183_116, s183_117, s183_118, s183_121, s183_124, s183_125, s183_126, s183_127, s183_128, s183_131, s183_132, Option.toList_some, Option.toList_none, List.cons_append, List.nil_append, if_true, if_false, eq_self, n1n0, ne10]
  refine c_here tY a1 h1 (fun Y1 hY1 => ?_)
  have hr2 := hd1_rd2 hY1
  rw [a2, a3] at hr2
  have m1 := mC_rd2 hY hr2
  obtain ⟨b1, b2, b3⟩ := m1.2.2.1
  have hat := hd1_rd2 (hd1_at (X := Y1) (p := sk t tx p) (q := sk t tx p + 1) ⟨fun _ _ => rfl, fun _ _ => rfl, b1⟩)
  rw [b2, b3] at hat
  have m2 := mC_rd2 m1 hat
  generalize hV : zst Y1 39 (upd (Y1 39) 18 (nI (sk t tx p + 1))) = V at m2
  obtain ⟨v18, v20, v21⟩ := m2.2.2.1
  obtain ⟨g0, g1, g2, g3, g4⟩ := m2.2.2.2.1
  have hsg : sg t tx (sk t tx p) = nI (tx (sk t tx p)) := if_pos hq
  have hw1 := fun Q n w => c_want1 (X := V) (Q := Q) (n := n) (w := w) v20
  have hwa := fun Q w => c_want0 (X := V) (Q := Q) (n := 1) (w := w) v20 (by decide) (by decide)
  have hwc := fun Q w => c_want0 (X := V) (Q := Q) (n := 3) (w := w) v20 (by decide) (by decide)
  have bad1 := gC_bad (n := 1) (w := sk t tx p) m2.1 v18
  have bad3 := gC_bad (n := 3) (w := sk t tx p) m2.1 v18
  rw [hsg]
  unfold clS at hf ho
  dsimp only at hf ho
  by_cases c1 : tx (sk t tx p) ≠ 119 ∧ D = 0
  · rw [if_pos c1] at hf ho
    obtain ⟨c1a, c1b⟩ := c1
    subst c1b
    have l0 : ¬ (0 : Nat) < 0 := by decide
    simp (disch := first | omega | assumption | decide) only [e183, s183_0, s183_1, s183_4, s183_5, s183_6, s183_9, s183_10, s183_11, s183_12, s183_15, s183_16, s183_17, s183_20, s183_21, s183_22, s183_24, s183_27, s183_28, s183_31, s183_34, s183_35, s183_38, s183_39, s183_40, s183_41, s183_44, s183_47, s183_48, s183_49, s183_92, s183_93, s183_94, s183_97, s183_100, s183_101, s183_102, s183_105, s183_108, s183_109, s183_110, s183_113, s183_116, s183_117, s183_118, s183_121, s183_124, s183_125, s183_126, s183_127, s183_128, s183_131, s183_132, Option.toList_some, Option.toList_none, List.cons_append, List.nil_append, if_true, if_false, eq_self, n1n0, ne10, b1, nI_add, hV, nI_eq, nI_ltI, c1a, g0, l0, hwa]
    exact hf _ (by intro q; cases q) bad1
  · rw [if_neg c1] at hf ho
    by_cases c2 : tx (sk t tx p) = 119
    · rw [if_pos c2] at hf ho
      rw [c2]
      by_cases c3 : 0 < D
      · rw [if_pos c3] at hf ho
        have c3n : ¬ D = 0 := by omega
        simp (disch := first | omega | assumption | decide) only [e183, s183_0, s183_1, s183_4, s183_5, s183_6, s183_9, s183_10, s183_11, s183_12, s183_15, s183_16, s183_17, s183_20, s183_21, s183_22, s183_24, s183_27, s183_28, s183_31, s183_34, s183_35, s183_38, s183_39, s183_40, s183_41, s183_44, s183_47, s183_48, s183_49, s183_92, s183_93, s183_94, s183_97, s183_100, s183_101, s183_102, s183_105, s183_108, s183_109, s183_110, s183_113, s183_116, s183_117, s183_118, s183_121, s183_124, s183_125, s183_126, s183_127, s183_128, s183_131, s183_132, Option.toList_some, Option.toList_none, List.cons_append, List.nil_append, if_true, if_false, eq_self, n1n0, ne10, b1, nI_add, hV, nI_eq, nI_ltI, w1a, w1b, w1c, hw1]
        simp (disch := first | omega | assumption | decide) only [e162, s162_0, s162_1, s162_2, s162_5, s162_8, s162_9, s162_12, s162_13, s162_14, s162_15, s162_18, s162_20, s162_23, s162_24, s162_27, s162_29, s162_30, s162_33, s162_34, s162_35, s162_36, s162_38, s162_41, s162_42, s162_43, s162_44, s162_47, s162_48, s162_49, s162_52, s162_53, s162_56, s162_59, s162_60, s162_63, s162_65, s162_68, s162_69, s162_72, s162_73, s162_74, s162_75, s162_78, s162_79, s162_80, s162_83, s162_85, s162_88, s162_89, s162_92, s162_93, s162_94, s162_95, s162_98, s162_101, s162_104, s162_105, s162_106, s162_109, s162_110, s162_111, s162_114, s162_115, s162_118, s162_119, s162_122, s162_125, s162_126, s162_129, s162_130, s162_131, s162_134, Option.toList_some, Option.toList_none, List.cons_append, List.nil_append, if_true, if_false, eq_self, n1n0, ne10, g0, nI_eq, c3n, hwc]
        rw [s162_19]
        simp (disch := first | omega | assumption | decide) only [e162, s162_0, s162_1, s162_2, s162_5, s162_8, s162_9, s162_12, s162_13, s162_14, s162_15, s162_18, s162_20, s162_23, s162_24, s162_27, s162_29, s162_30, s162_33, s162_34, s162_35, s162_36, s162_38, s162_41, s162_42, s162_43, s162_44, s162_47, s162_48, s162_49, s162_52, s162_53, s162_56, s162_59, s162_60, s162_63, s162_65, s162_68, s162_69, s162_72, s162_73, s162_74, s162_75, s162_78, s162_79, s162_80, s162_83, s162_85, s162_88, s162_89, s162_92, s162_93, s162_94, s162_95, s162_98, s162_101, s162_104, s162_105, s162_106, s162_109, s162_110, s162_111, s162_114, s162_115, s162_118, s162_119, s162_122, s162_125, s162_126, s162_129, s162_130, s162_131, s162_134, e183, s183_0, s183_1, s183_4, s183_5, s183_6, s183_9, s183_10, s183_11, s183_12, s183_15, s183_16, s183_17, s183_20, s183_21, s183_22, s183_24, s183_27, s183_28, s183_31, s183_34, s183_35, s183_38, s183_39, s183_40, s183_41, s183_44, s183_47, s183_48, s183_49, s183_92, s183_93, s183_94, s183_97, s183_100, s183_101, s183_102, s183_105, s183_108, s183_109, s183_110, s183_113, s183_116, s183_117, s183_118, s183_121, s183_124, s183_125, s183_126, s183_127, s183_128, s183_131, s183_132, Option.toList_some, Option.toList_none, List.cons_append, List.nil_append, if_true, if_false, eq_self, n1n0, ne10]
        exact hf _ (by intro q; cases q) bad3
      · rw [if_neg c3] at hf ho
        have q0 : D = 0 := by omega
        subst q0
        simp (disch := first | omega | assumption | decide) only [e183, s183_0, s183_1, s183_4, s183_5, s183_6, s183_9, s183_10, s183_11, s183_12, s183_15, s183_16, s183_17, s183_20, s183_21, s183_22, s183_24, s183_27, s183_28, s183_31, s183_34, s183_35, s183_38, s183_39, s183_40, s183_41, s183_44, s183_47, s183_48, s183_49, s183_92, s183_93, s183_94, s183_97, s183_100, s183_101, s183_102, s183_105, s183_108, s183_109, s183_110, s183_113, s183_116, s183_117, s183_118, s183_121, s183_124, s183_125, s183_126, s183_127, s183_128, s183_131, s183_132, Option.toList_some, Option.toList_none, List.cons_append, List.nil_append, if_true, if_false, eq_self, n1n0, ne10, b1, nI_add, hV, nI_eq, nI_ltI, w1a, w1b, w1c, hw1]
        simp (disch := first | omega | assumption | decide) only [e162, s162_0, s162_1, s162_2, s162_5, s162_8, s162_9, s162_12, s162_13, s162_14, s162_15, s162_18, s162_20, s162_23, s162_24, s162_27, s162_29, s162_30, s162_33, s162_34, s162_35, s162_36, s162_38, s162_41, s162_42, s162_43, s162_44, s162_47, s162_48, s162_49, s162_52, s162_53, s162_56, s162_59, s162_60, s162_63, s162_65, s162_68, s162_69, s162_72, s162_73, s162_74, s162_75, s162_78, s162_79, s162_80, s162_83, s162_85, s162_88, s162_89, s162_92, s162_93, s162_94, s162_95, s162_98, s162_101, s162_104, s162_105, s162_106, s162_109, s162_110, s162_111, s162_114, s162_115, s162_118, s162_119, s162_122, s162_125, s162_126, s162_129, s162_130, s162_131, s162_134, Option.toList_some, Option.toList_none, List.cons_append, List.nil_append, if_true, if_false, eq_self, n1n0, ne10, g0, hw1]
        refine twM_loop (G := G) (B := B) (C := C) (T := T) (tm := tm) (wt := wt) (lm := lm) (br := br) (r := wth t tx 12 0 W (sk t tx p + 1)) (X := X) (t := t) (tx := tx) (fun k Z hZ => ?_) (fun Z q hq1 hZ k1 k2 k3 => ?_) 11 0 W (sk t tx p + 1) V (by omega) (by omega) rfl m2
        · simp (disch := first | omega | assumption | decide) only [e183, s183_0, s183_1, s183_4, s183_5, s183_6, s183_9, s183_10, s183_11, s183_12, s183_15, s183_16, s183_17, s183_20, s183_21, s183_22, s183_24, s183_27, s183_28, s183_31, s183_34, s183_35, s183_38, s183_39, s183_40, s183_41, s183_44, s183_47, s183_48, s183_49, s183_92, s183_93, s183_94, s183_97, s183_100, s183_101, s183_102, s183_105, s183_108, s183_109, s183_110, s183_113, s183_116, s183_117, s183_118, s183_121, s183_124, s183_125, s183_126, s183_127, s183_128, s183_131, s183_132, Option.toList_some, Option.toList_none, List.cons_append, List.nil_append, if_true, if_false, eq_self, n1n0, ne10]
          exact hf Z k hZ
        · simp (disch := first | omega | assumption | decide) only [e183, s183_0, s183_1, s183_4, s183_5, s183_6, s183_9, s183_10, s183_11, s183_12, s183_15, s183_16, s183_17, s183_20, s183_21, s183_22, s183_24, s183_27, s183_28, s183_31, s183_34, s183_35, s183_38, s183_39, s183_40, s183_41, s183_44, s183_47, s183_48, s183_49, s183_92, s183_93, s183_94, s183_97, s183_100, s183_101, s183_102, s183_105, s183_108, s183_109, s183_110, s183_113, s183_116, s183_117, s183_118, s183_121, s183_124, s183_125, s183_126, s183_127, s183_128, s183_131, s183_132, Option.toList_some, Option.toList_none, List.cons_append, List.nil_append, if_true, if_false, eq_self, n1n0, ne10]
          exact ho Z q _ hq1 hZ (by rw [k1, k2, k3])
    · have c0 : ¬ D = 0 := fun q => c1 ⟨c2, q⟩
      have c0p : 0 < D := by omega
      rw [if_neg c2] at hf ho
      by_cases c4 : tx (sk t tx p) = 103
      · rw [if_pos c4] at hf ho
        rw [c4]
        by_cases c3 : 7 ≤ G
        · rw [if_pos c3] at hf ho
          have c3n : ¬ G < 7 := by omega
          simp (disch := first | omega | assumption | decide) only [e183, s183_0, s183_1, s183_4, s183_5, s183_6, s183_9, s183_10, s183_11, s183_12, s183_15, s183_16, s183_17, s183_20, s183_21, s183_22, s183_24, s183_27, s183_28, s183_31, s183_34, s183_35, s183_38, s183_39, s183_40, s183_41, s183_44, s183_47, s183_48, s183_49, s183_92, s183_93, s183_94, s183_97, s183_100, s183_101, s183_102, s183_105, s183_108, s183_109, s183_110, s183_113, s183_116, s183_117, s183_118, s183_121, s183_124, s183_125, s183_126, s183_127, s183_128, s183_131, s183_132, Option.toList_some, Option.toList_none, List.cons_append, List.nil_append, if_true, if_false, eq_self, n1n0, ne10, b1, nI_add, hV, nI_eq, nI_ltI, w2a, w2b, w2c, g0, c0p, hw1]
          simp (disch := first | omega | assumption | decide) only [e163, s163_0, s163_1, s163_2, s163_5, s163_7, s163_10, s163_11, s163_14, s163_15, s163_16, s163_17, s163_20, s163_23, s163_24, s163_27, s163_29, s163_30, s163_33, s163_34, s163_35, s163_36, s163_38, s163_41, s163_42, s163_43, s163_46, s163_48, s163_49, s163_52, s163_53, s163_54, s163_55, s163_57, s163_60, s163_61, s163_62, s163_63, s163_66, s163_67, s163_68, s163_71, e183, s183_0, s183_1, s183_4, s183_5, s183_6, s183_9, s183_10, s183_11, s183_12, s183_15, s183_16, s183_17, s183_20, s183_21, s183_22, s183_24, s183_27, s183_28, s183_31, s183_34, s183_35, s183_38, s183_39, s183_40, s183_41, s183_44, s183_47, s183_48, s183_49, s183_92, s183_93, s183_94, s183_97, s183_100, s183_101, s183_102, s183_105, s183_108, s183_109, s183_110, s183_113, s183_116, s183_117, s183_118, s183_121, s183_124, s183_125, s183_126, s183_127, s183_128, s183_131, s183_132, Option.toList_some, Option.toList_none, List.cons_append, List.nil_append, if_true, if_false, eq_self, n1n0, ne10, g1, nI_ltI, c3n, hwc]
          exact hf _ (by intro q; cases q) bad3
        · rw [if_neg c3] at hf ho
          unfold n2k at hf ho
          simp (disch := first | omega | assumption | decide) only [e183, s183_0, s183_1, s183_4, s183_5, s183_6, s183_9, s183_10, s183_11, s183_12, s183_15, s183_16, s183_17, s183_20, s183_21, s183_22, s183_24, s183_27, s183_28, s183_31, s183_34, s183_35, s183_38, s183_39, s183_40, s183_41, s183_44, s183_47, s183_48, s183_49, s183_92, s183_93, s183_94, s183_97, s183_100, s183_101, s183_102, s183_105, s183_108, s183_109, s183_110, s183_113, s183_116, s183_117, s183_118, s183_121, s183_124, s183_125, s183_126, s183_127, s183_128, s183_131, s183_132, Option.toList_some, Option.toList_none, List.cons_append, List.nil_append, if_true, if_false, eq_self, n1n0, ne10, b1, nI_add, hV, nI_eq, nI_ltI, w2a, w2b, w2c, g0, c0p, hw1]
          refine c_takeGlass m2 (by omega) (by omega) (fun k Z hZ => ?_) (fun k k2 Z hZ => ?_) (fun k k2 Z hZ => ?_)
          · rw [if_neg k] at hf
            simp (disch := first | omega | assumption | decide) only [e183, s183_0, s183_1, s183_4, s183_5, s183_6, s183_9, s183_10, s183_11, s183_12, s183_15, s183_16, s183_17, s183_20, s183_21, s183_22, s183_24, s183_27, s183_28, s183_31, s183_34, s183_35, s183_38, s183_39, s183_40, s183_41, s183_44, s183_47, s183_48, s183_49, s183_92, s183_93, s183_94, s183_97, s183_100, s183_101, s183_102, s183_105, s183_108, s183_109, s183_110, s183_113, s183_116, s183_117, s183_118, s183_121, s183_124, s183_125, s183_126, s183_127, s183_128, s183_131, s183_132, Option.toList_some, Option.toList_none, List.cons_append, List.nil_append, if_true, if_false, eq_self, n1n0, ne10]
            exact hf Z k hZ
          · rw [if_pos k, if_neg k2] at hf
            simp (disch := first | omega | assumption | decide) only [e183, s183_0, s183_1, s183_4, s183_5, s183_6, s183_9, s183_10, s183_11, s183_12, s183_15, s183_16, s183_17, s183_20, s183_21, s183_22, s183_24, s183_27, s183_28, s183_31, s183_34, s183_35, s183_38, s183_39, s183_40, s183_41, s183_44, s183_47, s183_48, s183_49, s183_92, s183_93, s183_94, s183_97, s183_100, s183_101, s183_102, s183_105, s183_108, s183_109, s183_110, s183_113, s183_116, s183_117, s183_118, s183_121, s183_124, s183_125, s183_126, s183_127, s183_128, s183_131, s183_132, Option.toList_some, Option.toList_none, List.cons_append, List.nil_append, if_true, if_false, eq_self, n1n0, ne10]
            exact hf Z k2 hZ
          · rw [if_pos k, if_pos k2] at ho
            simp (disch := first | omega | assumption | decide) only [e183, s183_0, s183_1, s183_4, s183_5, s183_6, s183_9, s183_10, s183_11, s183_12, s183_15, s183_16, s183_17, s183_20, s183_21, s183_22, s183_24, s183_27, s183_28, s183_31, s183_34, s183_35, s183_38, s183_39, s183_40, s183_41, s183_44, s183_47, s183_48, s183_49, s183_92, s183_93, s183_94, s183_97, s183_100, s183_101, s183_102, s183_105, s183_108, s183_109, s183_110, s183_113, s183_116, s183_117, s183_118, s183_121, s183_124, s183_125, s183_126, s183_127, s183_128, s183_131, s183_132, Option.toList_some, Option.toList_none, List.cons_append, List.nil_append, if_true, if_false, eq_self, n1n0, ne10]
            exact ho Z _ _ (ne_le (tx := tx) (ne_le (tx := tx) (show sk t tx p + 1 ≤ t by omega)).2.2).2.2 hZ rfl
      · rw [if_neg c4] at hf ho
        by_cases c5 : tx (sk t tx p) = 98
        · rw [if_pos c5] at hf ho
          rw [c5]
          by_cases c3 : 5 ≤ B
          · rw [if_pos c3] at hf ho
            have c3n : ¬ B < 5 := by omega
            simp (disch := first | omega | assumption | decide) only [e183, s183_0, s183_1, s183_4, s183_5, s183_6, s183_9, s183_10, s183_11, s183_12, s183_15, s183_16, s183_17, s183_20, s183_21, s183_22, s183_24, s183_27, s183_28, s183_31, s183_34, s183_35, s183_38, s183_39, s183_40, s183_41, s183_44, s183_47, s183_48, s183_49, s183_92, s183_93, s183_94, s183_97, s183_100, s183_101, s183_102, s183_105, s183_108, s183_109, s183_110, s183_113, s183_116, s183_117, s183_118, s183_121, s183_124, s183_125, s183_126, s183_127, s183_128, s183_131, s183_132, Option.toList_some, Option.toList_none, List.cons_append, List.nil_append, if_true, if_false, eq_self, n1n0, ne10, b1, nI_add, hV, nI_eq, nI_ltI, w3a, g0, c0p, hw1]
            simp (disch := first | omega | assumption | decide) only [e164, s164_0, s164_1, s164_2, s164_5, s164_6, s164_9, s164_10, s164_13, s164_14, s164_15, s164_16, s164_19, s164_22, s164_23, s164_26, s164_27, s164_28, s164_31, s164_32, s164_33, s164_34, s164_36, s164_39, s164_40, s164_41, s164_44, s164_45, s164_46, s164_49, s164_50, s164_51, s164_52, s164_54, s164_57, s164_58, s164_59, s164_60, s164_63, s164_64, s164_65, s164_68, e183, s183_0, s183_1, s183_4, s183_5, s183_6, s183_9, s183_10, s183_11, s183_12, s183_15, s183_16, s183_17, s183_20, s183_21, s183_22, s183_24, s183_27, s183_28, s183_31, s183_34, s183_35, s183_38, s183_39, s183_40, s183_41, s183_44, s183_47, s183_48, s183_49, s183_92, s183_93, s183_94, s183_97, s183_100, s183_101, s183_102, s183_105, s183_108, s183_109, s183_110, s183_113, s183_116, s183_117, s183_118, s183_121, s183_124, s183_125, s183_126, s183_127, s183_128, s183_131, s183_132, Option.toList_some, Option.toList_none, List.cons_append, List.nil_append, if_true, if_false, eq_self, n1n0, ne10, g2, nI_ltI, c3n, hwc]
            exact hf _ (by intro q; cases q) bad3
          · rw [if_neg c3] at hf ho
            unfold n2k at hf ho
            simp (disch := first | omega | assumption | decide) only [e183, s183_0, s183_1, s183_4, s183_5, s183_6, s183_9, s183_10, s183_11, s183_12, s183_15, s183_16, s183_17, s183_20, s183_21, s183_22, s183_24, s183_27, s183_28, s183_31, s183_34, s183_35, s183_38, s183_39, s183_40, s183_41, s183_44, s183_47, s183_48, s183_49, s183_92, s183_93, s183_94, s183_97, s183_100, s183_101, s183_102, s183_105, s183_108, s183_109, s183_110, s183_113, s183_116, s183_117, s183_118, s183_121, s183_124, s183_125, s183_126, s183_127, s183_128, s183_131, s183_132, Option.toList_some, Option.toList_none, List.cons_append, List.nil_append, if_true, if_false, eq_self, n1n0, ne10, b1, nI_add, hV, nI_eq, nI_ltI, w3a, g0, c0p, hw1]
            refine c_takeBoat m2 (by omega) (by omega) (fun k Z hZ => ?_) (fun k k2 Z hZ => ?_) (fun k k2 Z hZ => ?_)
            · rw [if_neg k] at hf
              simp (disch := first | omega | assumption | decide) only [e183, s183_0, s183_1, s183_4, s183_5, s183_6, s183_9, s183_10, s183_11, s183_12, s183_15, s183_16, s183_17, s183_20, s183_21, s183_22, s183_24, s183_27, s183_28, s183_31, s183_34, s183_35, s183_38, s183_39, s183_40, s183_41, s183_44, s183_47, s183_48, s183_49, s183_92, s183_93, s183_94, s183_97, s183_100, s183_101, s183_102, s183_105, s183_108, s183_109, s183_110, s183_113, s183_116, s183_117, s183_118, s183_121, s183_124, s183_125, s183_126, s183_127, s183_128, s183_131, s183_132, Option.toList_some, Option.toList_none, List.cons_append, List.nil_append, if_true, if_false, eq_self, n1n0, ne10]
              exact hf Z k hZ
            · rw [if_pos k, if_neg k2] at hf
              simp (disch := first | omega | assumption | decide) only [e183, s183_0, s183_1, s183_4, s183_5, s183_6, s183_9, s183_10, s183_11, s183_12, s183_15, s183_16, s183_17, s183_20, s183_21, s183_22, s183_24, s183_27, s183_28, s183_31, s183_34, s183_35, s183_38, s183_39, s183_40, s183_41, s183_44, s183_47, s183_48, s183_49, s183_92, s183_93, s183_94, s183_97, s183_100, s183_101, s183_102, s183_105, s183_108, s183_109, s183_110, s183_113, s183_116, s183_117, s183_118, s183_121, s183_124, s183_125, s183_126, s183_127, s183_128, s183_131, s183_132, Option.toList_some, Option.toList_none, List.cons_append, List.nil_append, if_true, if_false, eq_self, n1n0, ne10]
              exact hf Z k2 hZ
            · rw [if_pos k, if_pos k2] at ho
              simp (disch := first | omega | assumption | decide) only [e183, s183_0, s183_1, s183_4, s183_5, s183_6, s183_9, s183_10, s183_11, s183_12, s183_15, s183_16, s183_17, s183_20, s183_21, s183_22, s183_24, s183_27, s183_28, s183_31, s183_34, s183_35, s183_38, s183_39, s183_40, s183_41, s183_44, s183_47, s183_48, s183_49, s183_92, s183_93, s183_94, s183_97, s183_100, s183_101, s183_102, s183_105, s183_108, s183_109, s183_110, s183_113, s183_116, s183_117, s183_118, s183_121, s183_124, s183_125, s183_126, s183_127, s183_128, s183_131, s183_132, Option.toList_some, Option.toList_none, List.cons_append, List.nil_append, if_true, if_false, eq_self, n1n0, ne10]
              exact ho Z _ _ (ne_le (tx := tx) (ne_le (tx := tx) (show sk t tx p + 1 ≤ t by omega)).2.2).2.2 hZ rfl
        · rw [if_neg c5] at hf ho
          by_cases c6 : tx (sk t tx p) = 100
          · rw [if_pos c6] at hf ho
            rw [c6]
            by_cases c3 : ¬ T = 0
            · rw [if_pos c3] at hf ho
              simp (disch := first | omega | assumption | decide) only [e183, s183_0, s183_1, s183_4, s183_5, s183_6, s183_9, s183_10, s183_11, s183_12, s183_15, s183_16, s183_17, s183_20, s183_21, s183_22, s183_24, s183_27, s183_28, s183_31, s183_34, s183_35, s183_38, s183_39, s183_40, s183_41, s183_44, s183_47, s183_48, s183_49, s183_92, s183_93, s183_94, s183_97, s183_100, s183_101, s183_102, s183_105, s183_108, s183_109, s183_110, s183_113, s183_116, s183_117, s183_118, s183_121, s183_124, s183_125, s183_126, s183_127, s183_128, s183_131, s183_132, Option.toList_some, Option.toList_none, List.cons_append, List.nil_append, if_true, if_false, eq_self, n1n0, ne10, b1, nI_add, hV, nI_eq, nI_ltI, w4a, w4b, g0, c0p, hw1]
              simp (disch := first | omega | assumption | decide) only [e165, s165_0, s165_1, s165_2, s165_5, s165_8, s165_9, s165_12, s165_13, s165_14, s165_15, s165_18, s165_21, s165_22, s165_23, s165_24, s165_26, s165_29, s165_32, s165_33, s165_34, s165_37, e183, s183_0, s183_1, s183_4, s183_5, s183_6, s183_9, s183_10, s183_11, s183_12, s183_15, s183_16, s183_17, s183_20, s183_21, s183_22, s183_24, s183_27, s183_28, s183_31, s183_34, s183_35, s183_38, s183_39, s183_40, s183_41, s183_44, s183_47, s183_48, s183_49, s183_92, s183_93, s183_94, s183_97, s183_100, s183_101, s183_102, s183_105, s183_108, s183_109, s183_110, s183_113, s183_116, s183_117, s183_118, s183_121, s183_124, s183_125, s183_126, s183_127, s183_128, s183_131, s183_132, Option.toList_some, Option.toList_none, List.cons_append, List.nil_append, if_true, if_false, eq_self, n1n0, ne10, g4, nI_eq, c3, hwc]
              exact hf _ (by intro q; cases q) bad3
            · rw [if_neg c3] at hf ho
              have c7 : T = 0 := by omega
              subst c7
              unfold n1k at hf ho
              simp (disch := first | omega | assumption | decide) only [e183, s183_0, s183_1, s183_4, s183_5, s183_6, s183_9, s183_10, s183_11, s183_12, s183_15, s183_16, s183_17, s183_20, s183_21, s183_22, s183_24, s183_27, s183_28, s183_31, s183_34, s183_35, s183_38, s183_39, s183_40, s183_41, s183_44, s183_47, s183_48, s183_49, s183_92, s183_93, s183_94, s183_97, s183_100, s183_101, s183_102, s183_105, s183_108, s183_109, s183_110, s183_113, s183_116, s183_117, s183_118, s183_121, s183_124, s183_125, s183_126, s183_127, s183_128, s183_131, s183_132, Option.toList_some, Option.toList_none, List.cons_append, List.nil_append, if_true, if_false, eq_self, n1n0, ne10, b1, nI_add, hV, nI_eq, nI_ltI, w4a, w4b, g0, c0p, hw1]
              refine c_takeDrinks m2 (by omega) (fun k Z hZ => ?_) (fun k Z hZ => ?_)
              · rw [if_neg k] at hf
                simp (disch := first | omega | assumption | decide) only [e183, s183_0, s183_1, s183_4, s183_5, s183_6, s183_9, s183_10, s183_11, s183_12, s183_15, s183_16, s183_17, s183_20, s183_21, s183_22, s183_24, s183_27, s183_28, s183_31, s183_34, s183_35, s183_38, s183_39, s183_40, s183_41, s183_44, s183_47, s183_48, s183_49, s183_92, s183_93, s183_94, s183_97, s183_100, s183_101, s183_102, s183_105, s183_108, s183_109, s183_110, s183_113, s183_116, s183_117, s183_118, s183_121, s183_124, s183_125, s183_126, s183_127, s183_128, s183_131, s183_132, Option.toList_some, Option.toList_none, List.cons_append, List.nil_append, if_true, if_false, eq_self, n1n0, ne10]
                exact hf Z k hZ
              · rw [if_pos k] at ho
                simp (disch := first | omega | assumption | decide) only [e183, s183_0, s183_1, s183_4, s183_5, s183_6, s183_9, s183_10, s183_11, s183_12, s183_15, s183_16, s183_17, s183_20, s183_21, s183_22, s183_24, s183_27, s183_28, s183_31, s183_34, s183_35, s183_38, s183_39, s183_40, s183_41, s183_44, s183_47, s183_48, s183_49, s183_92, s183_93, s183_94, s183_97, s183_100, s183_101, s183_102, s183_105, s183_108, s183_109, s183_110, s183_113, s183_116, s183_117, s183_118, s183_121, s183_124, s183_125, s183_126, s183_127, s183_128, s183_131, s183_132, Option.toList_some, Option.toList_none, List.cons_append, List.nil_append, if_true, if_false, eq_self, n1n0, ne10]
                exact ho Z _ _ (ne_le (tx := tx) (show sk t tx p + 1 ≤ t by omega)).2.2 hZ rfl
          · rw [if_neg c6] at hf ho
            simp (disch := first | omega | assumption | decide) only [e183, s183_0, s183_1, s183_4, s183_5, s183_6, s183_9, s183_10, s183_11, s183_12, s183_15, s183_16, s183_17, s183_20, s183_21, s183_22, s183_24, s183_27, s183_28, s183_31, s183_34, s183_35, s183_38, s183_39, s183_40, s183_41, s183_44, s183_47, s183_48, s183_49, s183_92, s183_93, s183_94, s183_97, s183_100, s183_101, s183_102, s183_105, s183_108, s183_109, s183_110, s183_113, s183_116, s183_117, s183_118, s183_121, s183_124, s183_125, s183_126, s183_127, s183_128, s183_131, s183_132, Option.toList_some, Option.toList_none, List.cons_append, List.nil_append, if_true, if_false, eq_self, n1n0, ne10, b1, nI_add, hV, nI_eq, nI_ltI, c2, c4, c5, c6, g0, c0p, hw1, hwa]
            exact hf _ (by intro q; cases q) bad1
theorem cst_loop {r : Nat × Nat × sT} (hf : ¬ r.1 = 0 → ∀ Z, gC X r.1 r.2.1 Z → zev 197 104 [.ref 39] [] Z Q) (ho : r.1 = 0 → ∀ Z q, mC t tx X (q, r.2.2.2) Z → zev 197 104 [.ref 39] [] Z Q) : ∀ (n : Nat) (s : sT) (Y : zM), 240 ≤ n + s.1 → prs t tx (n + 1) s = r → okT t s → mC t tx X s Y → zev 197 40 [.ref 39] [] Y Q := by
  have neg : (-1 : Int32) < nI 0 := by decide
  intro n
  induction n with
  | zero =>
    intro s Y his hr hs hY
    unfold prs at hr
    obtain ⟨p, ⟨D, W⟩, ⟨G, tm, wt⟩, ⟨B, lm, br⟩, C, T⟩ := s
    have his : 240 ≤ 0 + p := his
    have tY := hY.2.1
    have h1 : p ≤ t := hs.1
    have ht := tY.1
    have e1 : sk t tx p = p := sk_end (by omega)
    rw [if_pos (show t ≤ sk t tx p by omega)] at hr
    subst hr
    obtain ⟨a1, a2, a3⟩ := hY.2.2.1
    rw [s197_40]
    simp (disch := first | omega | assumption | decide) only [s197_41, s197_44, s197_47, s197_48, Option.toList_some, Option.toList_none, List.cons_append, List.nil_append, if_true, if_false, eq_self, n1n0, ne10, a2]
    refine c_here tY a1 h1 (fun Y1 hY1 => ?_)
    have hr2 := hd1_rd2 hY1
    rw [a2, a3] at hr2
    have m1 := mC_rd2 hY hr2
    have e : sg t tx (sk t tx p) = -1 := if_neg (by omega)
    have k := ho rfl Y1 _ m1
    simp (disch := first | omega | assumption | decide) only [s197_51, Option.toList_some, Option.toList_none, List.cons_append, List.nil_append, if_true, if_false, eq_self, n1n0, ne10, e, neg]
    exact k
  | succ n ih =>
    intro s Y his hr hs hY
    have hq0 := sk_le (tx := tx) (t := t) (p := s.1) (by obtain ⟨p, ⟨D, W⟩, ⟨G, tm, wt⟩, ⟨B, lm, br⟩, C, T⟩ := s; exact hs.1)
    have hcl := clS_ok (tx := tx) hs
    unfold prs at hr
    obtain ⟨p, ⟨D, W⟩, ⟨G, tm, wt⟩, ⟨B, lm, br⟩, C, T⟩ := s
    have tY := hY.2.1
    have h1 : p ≤ t := hs.1
    have ht := tY.1
    obtain ⟨a1, a2, a3⟩ := hY.2.2.1
    rw [s197_40]
    simp (disch := first | omega | assumption | decide) only [s197_41, s197_44, s197_47, s197_48, Option.toList_some, Option.toList_none, List.cons_append, List.nil_append, if_true, if_false, eq_self, n1n0, ne10, a2]
    refine c_here tY a1 h1 (fun Y1 hY1 => ?_)
    have hr2 := hd1_rd2 hY1
    rw [a2, a3] at hr2
    have m1 := mC_rd2 hY hr2
    by_cases c1 : t ≤ sk t tx p
    · rw [if_pos c1] at hr
      subst hr
      have e : sg t tx (sk t tx p) = -1 := if_neg (by omega)
      have k := ho rfl Y1 _ m1
      simp (disch := first | omega | assumption | decide) only [s197_51, Option.toList_some, Option.toList_none, List.cons_append, List.nil_append, if_true, if_false, eq_self, n1n0, ne10, e, neg]
      exact k
    · rw [if_neg c1] at hr
      have hx := tY.2.1 (sk t tx p) (by omega)
      have e : sg t tx (sk t tx p) = nI (tx (sk t tx p)) := if_pos (by omega)
      have npos : ¬ nI (tx (sk t tx p)) < nI 0 := fun q => absurd ((nI_ltI (by omega) (by omega)).mp q) (by omega)
      simp (disch := first | omega | assumption | decide) only [s197_51, s197_54, s197_55, Option.toList_some, Option.toList_none, List.cons_append, List.nil_append, if_true, if_false, eq_self, n1n0, ne10, e, npos]
      have hsq : sk t tx (sk t tx p) = sk t tx p := sk_sk h1
      have ecl : clS t tx (sk t tx p, (D, W), (G, tm, wt), (B, lm, br), C, T) = ((clS t tx (p, (D, W), (G, tm, wt), (B, lm, br), C, T)).1, (clS t tx (p, (D, W), (G, tm, wt), (B, lm, br), C, T)).2.1, (clS t tx (sk t tx p, (D, W), (G, tm, wt), (B, lm, br), C, T)).2.2) ∧ ((clS t tx (p, (D, W), (G, tm, wt), (B, lm, br), C, T)).1 = 0 → (clS t tx (sk t tx p, (D, W), (G, tm, wt), (B, lm, br), C, T)).2.2 = (clS t tx (p, (D, W), (G, tm, wt), (B, lm, br), C, T)).2.2) := clS_sk h1
      obtain ⟨ecl1, ecl2⟩ := ecl
      have hle : (clS t tx (p, (D, W), (G, tm, wt), (B, lm, br), C, T)).1 ≤ 3 := clS_3 _
      refine c_clauseM (X := X) (s := (sk t tx p, (D, W), (G, tm, wt), (B, lm, br), C, T)) ⟨hq0.2, hs.2⟩ m1 (by show sk t tx (sk t tx p) < t; omega) (fun Z k hZ => ?_) (fun Z q r' hq1 hZ hc => ?_)
      · rw [ecl1] at k hZ
        dsimp only at k hZ
        rw [if_neg k] at hr
        subst hr
        have kk := hf k Z hZ
        have e3 := hZ.2.1
        have n0 : ¬ nI (clS t tx (p, (D, W), (G, tm, wt), (B, lm, br), C, T)).1 = nI 0 := fun q => k ((nI_eq (by omega) (by decide)).mp q)
        simp (disch := first | omega | assumption | decide) only [s197_58, s197_59, s197_62, Option.toList_some, Option.toList_none, List.cons_append, List.nil_append, if_true, if_false, eq_self, n1n0, ne10, e3, n0]
        rw [s197_40]
        simp (disch := first | omega | assumption | decide) only [s197_41, s197_44, Option.toList_some, Option.toList_none, List.cons_append, List.nil_append, if_true, if_false, eq_self, n1n0, ne10, e3, n0]
        exact kk
      · obtain ⟨z18, z20, z21⟩ := hZ.2.2.1
        have tZ := hZ.2.1
        simp (disch := first | omega | assumption | decide) only [s197_58, s197_59, s197_62, s197_65, s197_66, s197_67, Option.toList_some, Option.toList_none, List.cons_append, List.nil_append, if_true, if_false, eq_self, n1n0, ne10, z20]
        refine c_here tZ z18 hq1 (fun Y2 hY2 => ?_)
        have hr3 := hd1_rd2 hY2
        rw [z20, z21] at hr3
        have m3 := mC_rd2 hZ hr3
        obtain ⟨y18, y20, y21⟩ := m3.2.2.1
        have lq := sk_le (tx := tx) hq1
        by_cases c4 : sk t tx q < t ∧ tx (sk t tx q) = 59
        · have c5 : sg t tx (sk t tx q) = nI 59 := (sgn_n tY.2.1 (by decide)).mpr c4
          have hek : ek t tx q = 0 := if_pos c4
          have k2 : (clS t tx (p, (D, W), (G, tm, wt), (B, lm, br), C, T)).1 = 0 := by
            have := congrArg Prod.fst hc
            rw [ecl1] at this
            dsimp only at this
            omega
          have k3 : (clS t tx (p, (D, W), (G, tm, wt), (B, lm, br), C, T)).2.2 = (sk t tx q + 1, r') := by rw [← ecl2 k2, hc]
          rw [if_pos k2] at hr
          have hk := hcl (by show sk t tx p < t; omega) k2
          rw [k3] at hr hk
          have hat := hd1_rd2 (hd1_at (X := Y2) (p := sk t tx q) (q := sk t tx q + 1) ⟨fun _ _ => rfl, fun _ _ => rfl, y18⟩)
          rw [y20, y21] at hat
          have kk := ih _ _ (by have := hk.2; dsimp only at this his ⊢; omega) hr hk.1 (mC_rd2 m3 hat)
          have hw1 := fun Q n w => c_want1 (X := Y2) (Q := Q) (n := n) (w := w) y20
          simp (disch := first | omega | assumption | decide) only [e197, s197_0, s197_1, s197_2, s197_5, s197_6, s197_7, s197_10, s197_11, s197_12, s197_15, s197_16, s197_17, s197_20, s197_21, s197_22, s197_25, s197_26, s197_27, s197_30, s197_31, s197_32, s197_35, s197_36, s197_37, s197_41, s197_44, s197_47, s197_48, s197_51, s197_54, s197_55, s197_58, s197_59, s197_62, s197_65, s197_66, s197_67, s197_70, s197_72, s197_75, s197_76, s197_79, s197_80, s197_81, s197_82, s197_85, s197_88, s197_91, s197_92, s197_93, s197_96, s197_97, s197_98, s197_101, s197_104, s197_105, s197_106, s197_109, s197_110, s197_113, s197_116, s197_118, s197_119, s197_122, s197_123, s197_124, s197_125, s197_128, s197_129, s197_132, Option.toList_some, Option.toList_none, List.cons_append, List.nil_append, if_true, if_false, eq_self, n1n0, ne10, c5, hw1, y18, nI_add]
          exact kk
        · have c5 : ¬ sg t tx (sk t tx q) = nI 59 := fun z => c4 ((sgn_n tY.2.1 (by decide)).mp z)
          have hek : ek t tx q = 1 := if_neg c4
          have f1 : (clS t tx (p, (D, W), (G, tm, wt), (B, lm, br), C, T)).1 = 1 := by
            have := congrArg Prod.fst hc
            rw [ecl1] at this
            dsimp only at this
            omega
          have f2 : (clS t tx (p, (D, W), (G, tm, wt), (B, lm, br), C, T)).2.1 = sk t tx q := by
            have := congrArg (fun z => z.2.1) hc
            rw [ecl1] at this
            exact this
          rw [if_neg (by omega), f1, f2] at hr
          subst hr
          have hw0 := fun Q w => c_want0 (X := Y2) (Q := Q) (n := 1) (w := w) y20 (by decide) (by decide)
          have bad := gC_bad (n := 1) (w := sk t tx q) m3.1 y18
          have kk := hf (by intro q; cases q) _ bad
          have u20 : upd (upd (Y2 39) 20 (nI 1)) 21 (nI (sk t tx q)) 20 = nI 1 := by rw [upd_ne _ _ (by decide), upd_at]
          simp (disch := first | omega | assumption | decide) only [e197, s197_0, s197_1, s197_2, s197_5, s197_6, s197_7, s197_10, s197_11, s197_12, s197_15, s197_16, s197_17, s197_20, s197_21, s197_22, s197_25, s197_26, s197_27, s197_30, s197_31, s197_32, s197_35, s197_36, s197_37, s197_41, s197_44, s197_47, s197_48, s197_51, s197_54, s197_55, s197_58, s197_59, s197_62, s197_65, s197_66, s197_67, s197_70, s197_72, s197_75, s197_76, s197_79, s197_80, s197_81, s197_82, s197_85, s197_88, s197_91, s197_92, s197_93, s197_96, s197_97, s197_98, s197_101, s197_104, s197_105, s197_106, s197_109, s197_110, s197_113, s197_116, s197_118, s197_119, s197_122, s197_123, s197_124, s197_125, s197_128, s197_129, s197_132, Option.toList_some, Option.toList_none, List.cons_append, List.nil_append, if_true, if_false, eq_self, n1n0, ne10, c5, hw0, y18]
          rw [s197_40]
          simp (disch := first | omega | assumption | decide) only [s197_41, s197_44, Option.toList_some, Option.toList_none, List.cons_append, List.nil_append, if_true, if_false, eq_self, n1n0, ne10, zst_at, u20]
          exact kk
end CQ
