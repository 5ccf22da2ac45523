/-! calls that only read: weather, glass, boat, logged, homeBy -/
theorem ok_weather (x : Int32) : okCall 122 98 [.int x] := by
  rintro ⟨⟨D, G, B, C, W, lim, bear⟩, R, ⟨u, Rs⟩, ⟨kb, Ri, si⟩, sd, ⟨t, tx, fa⟩, ⟨tn, tg, tr, en, eg, et⟩⟩ ha
  have hD := ha.1.1
  have hr := ha.2.1.1
  have h29 := ha.2.1.2
  rcases rng x 0 60 (by decide) (by decide) with h | ⟨h, h2⟩ | ⟨j, -, hj, rfl⟩
  · refine ⟨_, -1000000002, ha, okC_ro ?_, okM_ro ?_⟩
    · intro X Q _
      simp (disch := first | omega | assumption | decide) only [e122, s122_0, s122_1, s122_2, s122_5, s122_6, s122_7, s122_10, s122_11, s122_14, s122_15, s122_18, s122_19, s122_22, e86, s86_0, s86_1, s86_2, s86_4, s86_7, s86_10, s86_12, s86_13, s86_14, s86_17, s86_20, s86_22, s86_25, s86_26, Option.toList_some, Option.toList_none, List.cons_append, List.nil_append, nI_add, pk_mul, Nat.reduceAdd, Nat.reduceMul, Nat.add_zero, Nat.zero_add, if_true, if_false, ite_self, c_isOut, if_pos h, show ¬ nI 1 = nI 0 by decide, show ¬ (-1000000002 : Int32) = nI 0 by decide]
    · intro X Q _
      simp (disch := first | omega | assumption | decide) only [e98, s98_0, s98_1, s98_2, s98_3, s98_6, s98_9, s98_12, s98_14, s98_15, s98_16, s98_19, s98_22, s98_24, s98_27, s98_28, s98_29, s98_32, s98_34, s98_35, s98_36, s98_37, s98_40, Option.toList_some, Option.toList_none, List.cons_append, List.nil_append, nI_add, pk_mul, Nat.reduceAdd, Nat.reduceMul, Nat.add_zero, Nat.zero_add, if_true, if_false, ite_self, li_0, li_1, li_255, li_48, li_57, li_60, li_30, li_9, li_10, li_12, li_2, li_100, c_in, if_pos h]
  · refine ⟨_, -1000000002, ha, okC_ro ?_, okM_ro ?_⟩
    · intro X Q _
      simp (disch := first | omega | assumption | decide) only [e122, s122_0, s122_1, s122_2, s122_5, s122_6, s122_7, s122_10, s122_11, s122_14, s122_15, s122_18, s122_19, s122_22, e86, s86_0, s86_1, s86_2, s86_4, s86_7, s86_10, s86_12, s86_13, s86_14, s86_17, s86_20, s86_22, s86_25, s86_26, Option.toList_some, Option.toList_none, List.cons_append, List.nil_append, nI_add, pk_mul, Nat.reduceAdd, Nat.reduceMul, Nat.add_zero, Nat.zero_add, if_true, if_false, ite_self, c_isOut, if_neg h, if_pos h2, show ¬ nI 1 = nI 0 by decide, show ¬ (-1000000002 : Int32) = nI 0 by decide]
    · intro X Q _
      simp (disch := first | omega | assumption | decide) only [e98, s98_0, s98_1, s98_2, s98_3, s98_6, s98_9, s98_12, s98_14, s98_15, s98_16, s98_19, s98_22, s98_24, s98_27, s98_28, s98_29, s98_32, s98_34, s98_35, s98_36, s98_37, s98_40, Option.toList_some, Option.toList_none, List.cons_append, List.nil_append, nI_add, pk_mul, Nat.reduceAdd, Nat.reduceMul, Nat.add_zero, Nat.zero_add, if_true, if_false, ite_self, li_0, li_1, li_255, li_48, li_57, li_60, li_30, li_9, li_10, li_12, li_2, li_100, c_in, if_neg h, if_pos h2]
  · have q2 : ¬ 60 < j := by omega
    by_cases h0 : D = 0
    · refine ⟨_, -1000000003, ha, okC_ro ?_, okM_ro ?_⟩
      · rintro X Q ⟨nx, k, ns, ni, h1, h2, h3, h4, h5, h6, h7, h8⟩
        have hnc := fun Q => c_noCoast (X := X) (Q := Q) h1.1 hD
        simp (disch := first | omega | assumption | decide) only [e122, s122_0, s122_1, s122_2, s122_5, s122_6, s122_7, s122_10, s122_11, s122_14, s122_15, s122_18, s122_19, s122_22, e86, s86_0, s86_1, s86_2, s86_4, s86_7, s86_10, s86_12, s86_13, s86_14, s86_17, s86_20, s86_22, s86_25, s86_26, Option.toList_some, Option.toList_none, List.cons_append, List.nil_append, nI_add, pk_mul, Nat.reduceAdd, Nat.reduceMul, Nat.add_zero, Nat.zero_add, if_true, if_false, ite_self, c_isOut, Nat.not_lt_zero, q2, nI_add, pk_mul, pk_sub, zrem_nI, pk_div, nI_ltI, nI_eq, hnc, h0, ne10, show ¬ (-1000000003 : Int32) = nI 0 by decide]
      · rintro X Q ⟨h1, h2, h3, h4, h5, h6, h7⟩
        have e := h1.1
        simp (disch := first | omega | assumption | decide) only [e98, s98_0, s98_1, s98_2, s98_3, s98_6, s98_9, s98_12, s98_14, s98_15, s98_16, s98_19, s98_22, s98_24, s98_27, s98_28, s98_29, s98_32, s98_34, s98_35, s98_36, s98_37, s98_40, Option.toList_some, Option.toList_none, List.cons_append, List.nil_append, nI_add, pk_mul, Nat.reduceAdd, Nat.reduceMul, Nat.add_zero, Nat.zero_add, if_true, if_false, ite_self, li_0, li_1, li_255, li_48, li_57, li_60, li_30, li_9, li_10, li_12, li_2, li_100, c_in, Nat.not_lt_zero, q2, nI_add, pk_mul, pk_sub, zrem_nI, pk_div, nI_ltI, nI_eq, e, h0, ne10]
    · refine ⟨_, nI (wN D W (R 29 + j)), ha, okC_ro ?_, okM_ro ?_⟩
      · rintro X Q ⟨nx, k, ns, ni, h1, h2, h3, h4, h5, h6, h7, h8⟩
        have hnc := fun Q => c_noCoast (X := X) (Q := Q) h1.1 hD
        have hw := fun Q => cc_weatherAhead (X := X) (Q := Q) (n := j) ha.1 h1 h2 hr (by omega)
        simp (disch := first | omega | assumption | decide) only [e122, s122_0, s122_1, s122_2, s122_5, s122_6, s122_7, s122_10, s122_11, s122_14, s122_15, s122_18, s122_19, s122_22, e86, s86_0, s86_1, s86_2, s86_4, s86_7, s86_10, s86_12, s86_13, s86_14, s86_17, s86_20, s86_22, s86_25, s86_26, Option.toList_some, Option.toList_none, List.cons_append, List.nil_append, nI_add, pk_mul, Nat.reduceAdd, Nat.reduceMul, Nat.add_zero, Nat.zero_add, if_true, if_false, ite_self, c_isOut, Nat.not_lt_zero, q2, nI_add, pk_mul, pk_sub, zrem_nI, pk_div, nI_ltI, nI_eq, hnc, h0, hw]
      · rintro X Q ⟨h1, h2, h3, h4, h5, h6, h7⟩
        have e := h1.1
        have e29 : X 40 29 = nI (R 29) := by have := h2 29 (by omega); rwa [Nat.zero_add] at this
        have hw := fun Q => c_weatherOf (X := X) (Q := Q) (D := D) (k := R 29 + j) e (by omega) hD (by omega)
        simp (disch := first | omega | assumption | decide) only [e98, s98_0, s98_1, s98_2, s98_3, s98_6, s98_9, s98_12, s98_14, s98_15, s98_16, s98_19, s98_22, s98_24, s98_27, s98_28, s98_29, s98_32, s98_34, s98_35, s98_36, s98_37, s98_40, Option.toList_some, Option.toList_none, List.cons_append, List.nil_append, nI_add, pk_mul, Nat.reduceAdd, Nat.reduceMul, Nat.add_zero, Nat.zero_add, if_true, if_false, ite_self, li_0, li_1, li_255, li_48, li_57, li_60, li_30, li_9, li_10, li_12, li_2, li_100, c_in, Nat.not_lt_zero, q2, nI_add, pk_mul, pk_sub, zrem_nI, pk_div, nI_ltI, nI_eq, e, e29, h0, ne10, hw, wx_m h1]
theorem ok_glass (x y : Int32) : okCall 123 185 [.int x, .int y] := by
  rintro ⟨⟨D, G, B, C, W, lim, bear⟩, R, ⟨u, Rs⟩, ⟨kb, Ri, si⟩, sd, ⟨t, tx, fa⟩, ⟨tn, tg, tr, en, eg, et⟩⟩ ha
  have hG := ha.1.2.1
  have hr := ha.2.1.1
  rcases rngm x G (by omega) with h | ⟨h, h2⟩ | ⟨j, hj, rfl, n1, n2⟩
  · refine ⟨_, -1000000001, ha, okC_ro ?_, okM_ro ?_⟩
    · rintro X Q ⟨nx, k, ns, ni, h1, -⟩
      simp (disch := first | omega | assumption | decide) only [e123, s123_0, s123_1, s123_2, s123_5, s123_8, s123_10, s123_11, s123_12, s123_44, s123_45, s123_48, s123_51, s123_52, s123_53, s123_54, s123_55, s123_58, s123_61, s123_62, s123_63, s123_64, s123_65, s123_68, s123_69, s123_70, s123_73, s123_74, s123_75, s123_78, s123_81, s123_82, s123_83, s123_84, s123_86, Option.toList_some, Option.toList_none, List.cons_append, List.nil_append, nI_add, pk_mul, Nat.reduceAdd, Nat.reduceMul, Nat.add_zero, Nat.zero_add, if_true, if_false, ite_self, c_noGlass x h1.2.1, if_pos h, show ¬ nI 1 = nI 0 by decide]
    · rintro X Q ⟨h1, -⟩
      simp (disch := first | omega | assumption | decide) only [e185, s185_0, s185_1, s185_2, s185_5, s185_8, s185_10, s185_11, s185_12, s185_44, s185_45, s185_48, s185_49, s185_50, s185_51, s185_52, s185_55, s185_57, s185_58, s185_59, s185_60, s185_61, s185_62, s185_63, s185_64, s185_67, s185_68, s185_69, s185_72, s185_74, s185_75, s185_76, s185_77, s185_78, s185_80, Option.toList_some, Option.toList_none, List.cons_append, List.nil_append, nI_add, pk_mul, Nat.reduceAdd, Nat.reduceMul, Nat.add_zero, Nat.zero_add, if_true, if_false, ite_self, c_isGlass x h1.2.1, if_pos h]
  · refine ⟨_, -1000000001, ha, okC_ro ?_, okM_ro ?_⟩
    · rintro X Q ⟨nx, k, ns, ni, h1, -⟩
      simp (disch := first | omega | assumption | decide) only [e123, s123_0, s123_1, s123_2, s123_5, s123_8, s123_10, s123_11, s123_12, s123_44, s123_45, s123_48, s123_51, s123_52, s123_53, s123_54, s123_55, s123_58, s123_61, s123_62, s123_63, s123_64, s123_65, s123_68, s123_69, s123_70, s123_73, s123_74, s123_75, s123_78, s123_81, s123_82, s123_83, s123_84, s123_86, Option.toList_some, Option.toList_none, List.cons_append, List.nil_append, nI_add, pk_mul, Nat.reduceAdd, Nat.reduceMul, Nat.add_zero, Nat.zero_add, if_true, if_false, ite_self, c_noGlass x h1.2.1, if_neg h, if_pos h2, show ¬ nI 1 = nI 0 by decide]
    · rintro X Q ⟨h1, -⟩
      simp (disch := first | omega | assumption | decide) only [e185, s185_0, s185_1, s185_2, s185_5, s185_8, s185_10, s185_11, s185_12, s185_44, s185_45, s185_48, s185_49, s185_50, s185_51, s185_52, s185_55, s185_57, s185_58, s185_59, s185_60, s185_61, s185_62, s185_63, s185_64, s185_67, s185_68, s185_69, s185_72, s185_74, s185_75, s185_76, s185_77, s185_78, s185_80, Option.toList_some, Option.toList_none, List.cons_append, List.nil_append, nI_add, pk_mul, Nat.reduceAdd, Nat.reduceMul, Nat.add_zero, Nat.zero_add, if_true, if_false, ite_self, c_isGlass x h1.2.1, if_neg h, if_pos h2]
  · have hD : 0 < D := by
      rcases Nat.eq_zero_or_pos D with q | q
      · have := (ha.1.2.2.2.2.2.2.2 q).1
        omega
      · exact q
    refine ⟨_, (if y = nI 0 then nI (R j) else if y = nI 1 then nI (R (7 + j)) else if y = nI 2 then nI (rN D W R j 0) else if y = nI 3 then nI (R (14 + j)) else -1000000002), ha, okC_ro ?_, okM_ro ?_⟩
    · rintro X Q ⟨nx, k, ns, ni, h1, h2, -⟩
      obtain ⟨e1, e2, e3⟩ := h2.2.2.1 j hj
      have hw := fun Q => cc_reading (X := X) (Q := Q) (g := j) (n := 0) ha.1 h1 h2 hr hj (by omega)
      simp (disch := first | omega | assumption | decide) only [e123, s123_0, s123_1, s123_2, s123_5, s123_8, s123_10, s123_11, s123_12, s123_44, s123_45, s123_48, s123_51, s123_52, s123_53, s123_54, s123_55, s123_58, s123_61, s123_62, s123_63, s123_64, s123_65, s123_68, s123_69, s123_70, s123_73, s123_74, s123_75, s123_78, s123_81, s123_82, s123_83, s123_84, s123_86, Option.toList_some, Option.toList_none, List.cons_append, List.nil_append, nI_add, pk_mul, Nat.reduceAdd, Nat.reduceMul, Nat.add_zero, Nat.zero_add, if_true, if_false, ite_self, c_noGlass (nI j) h1.2.1, if_neg n1, if_neg n2, hw, e1, e2, e3]
      split
      · rfl
      · split
        · rfl
        · split
          · rfl
          · split <;> rfl
    · rintro X Q ⟨h1, h2, -⟩
      have e1 : X 40 j = nI (R j) := by have := h2 j (by omega); rwa [Nat.zero_add] at this
      have e2 : X 40 (7 + j) = nI (R (7 + j)) := by have := h2 (7 + j) (by omega); rwa [Nat.zero_add] at this
      have e3 : X 40 (14 + j) = nI (R (14 + j)) := by have := h2 (14 + j) (by omega); rwa [Nat.zero_add] at this
      have hw := fun Q => mm_reads (X := X) (Q := Q) (x := 0) (g := j) ha.1 h1 h2 hr hD (by omega) (by omega)
      simp (disch := first | omega | assumption | decide) only [e185, s185_0, s185_1, s185_2, s185_5, s185_8, s185_10, s185_11, s185_12, s185_44, s185_45, s185_48, s185_49, s185_50, s185_51, s185_52, s185_55, s185_57, s185_58, s185_59, s185_60, s185_61, s185_62, s185_63, s185_64, s185_67, s185_68, s185_69, s185_72, s185_74, s185_75, s185_76, s185_77, s185_78, s185_80, Option.toList_some, Option.toList_none, List.cons_append, List.nil_append, nI_add, pk_mul, Nat.reduceAdd, Nat.reduceMul, Nat.add_zero, Nat.zero_add, if_true, if_false, ite_self, c_isGlass (nI j) h1.2.1, if_neg n1, if_neg n2, hw, e1, e2, e3, show ¬ nI 1 = nI 0 by decide]
      split
      · rfl
      · split
        · rfl
        · split
          · rfl
          · split <;> rfl
theorem ok_boat (x y : Int32) : okCall 124 141 [.int x, .int y] := by
  rintro ⟨⟨D, G, B, C, W, lim, bear⟩, R, ⟨u, Rs⟩, ⟨kb, Ri, si⟩, sd, ⟨t, tx, fa⟩, ⟨tn, tg, tr, en, eg, et⟩⟩ ha
  have hB := ha.1.2.2.1
  have hr := ha.2.1.1
  have h32 := two_pow_le hB
  have r1 := hr.2.1
  have r2 := hr.2.2.1
  rcases rngm x B (by omega) with h | ⟨h, h2⟩ | ⟨j, hj, rfl, n1, n2⟩
  · refine ⟨_, -1000000001, ha, okC_ro ?_, okM_ro ?_⟩
    · rintro X Q ⟨nx, k, ns, ni, h1, -⟩
      simp (disch := first | omega | assumption | decide) only [e124, s124_0, s124_1, s124_2, s124_5, s124_8, s124_10, s124_11, s124_12, s124_48, s124_49, s124_52, s124_55, s124_56, s124_57, s124_58, s124_59, s124_62, s124_65, s124_66, s124_67, s124_68, s124_69, s124_72, s124_75, s124_76, s124_79, s124_82, s124_83, s124_86, s124_87, s124_88, s124_89, s124_92, s124_95, s124_96, s124_99, s124_102, s124_103, s124_106, s124_107, s124_108, s124_109, s124_112, s124_115, s124_116, s124_117, s124_118, s124_120, Option.toList_some, Option.toList_none, List.cons_append, List.nil_append, nI_add, pk_mul, Nat.reduceAdd, Nat.reduceMul, Nat.add_zero, Nat.zero_add, if_true, if_false, ite_self, c_noBoat x h1.2.2.1, if_pos h, show ¬ nI 1 = nI 0 by decide]
    · rintro X Q ⟨h1, -⟩
      simp (disch := first | omega | assumption | decide) only [e141, s141_0, s141_1, s141_2, s141_5, s141_8, s141_10, s141_11, s141_12, s141_48, s141_49, s141_52, s141_53, s141_54, s141_55, s141_56, s141_59, s141_60, s141_61, s141_62, s141_63, s141_66, s141_68, s141_69, s141_70, s141_73, s141_76, s141_77, s141_80, s141_81, s141_84, s141_85, s141_86, s141_89, s141_91, s141_92, s141_93, s141_96, s141_99, s141_100, s141_101, s141_104, s141_106, s141_107, s141_108, s141_109, s141_110, s141_112, Option.toList_some, Option.toList_none, List.cons_append, List.nil_append, nI_add, pk_mul, Nat.reduceAdd, Nat.reduceMul, Nat.add_zero, Nat.zero_add, if_true, if_false, ite_self, c_isBoat x h1.2.2.1, if_pos h]
  · refine ⟨_, -1000000001, ha, okC_ro ?_, okM_ro ?_⟩
    · rintro X Q ⟨nx, k, ns, ni, h1, -⟩
      simp (disch := first | omega | assumption | decide) only [e124, s124_0, s124_1, s124_2, s124_5, s124_8, s124_10, s124_11, s124_12, s124_48, s124_49, s124_52, s124_55, s124_56, s124_57, s124_58, s124_59, s124_62, s124_65, s124_66, s124_67, s124_68, s124_69, s124_72, s124_75, s124_76, s124_79, s124_82, s124_83, s124_86, s124_87, s124_88, s124_89, s124_92, s124_95, s124_96, s124_99, s124_102, s124_103, s124_106, s124_107, s124_108, s124_109, s124_112, s124_115, s124_116, s124_117, s124_118, s124_120, Option.toList_some, Option.toList_none, List.cons_append, List.nil_append, nI_add, pk_mul, Nat.reduceAdd, Nat.reduceMul, Nat.add_zero, Nat.zero_add, if_true, if_false, ite_self, c_noBoat x h1.2.2.1, if_neg h, if_pos h2, show ¬ nI 1 = nI 0 by decide]
    · rintro X Q ⟨h1, -⟩
      simp (disch := first | omega | assumption | decide) only [e141, s141_0, s141_1, s141_2, s141_5, s141_8, s141_10, s141_11, s141_12, s141_48, s141_49, s141_52, s141_53, s141_54, s141_55, s141_56, s141_59, s141_60, s141_61, s141_62, s141_63, s141_66, s141_68, s141_69, s141_70, s141_73, s141_76, s141_77, s141_80, s141_81, s141_84, s141_85, s141_86, s141_89, s141_91, s141_92, s141_93, s141_96, s141_99, s141_100, s141_101, s141_104, s141_106, s141_107, s141_108, s141_109, s141_110, s141_112, Option.toList_some, Option.toList_none, List.cons_append, List.nil_append, nI_add, pk_mul, Nat.reduceAdd, Nat.reduceMul, Nat.add_zero, Nat.zero_add, if_true, if_false, ite_self, c_isBoat x h1.2.2.1, if_neg h, if_pos h2]
  · have b1 := bt_lt (R 21) j
    have b2 := bt_lt (R 22) j
    refine ⟨_, (if y = nI 0 then nI (lim j) else if y = nI 1 then nI (bear j) else if y = nI 2 then (if bt (R 21) j = 0 then nI 1 else nI 0) else if y = nI 3 then (if bt (R 22) j = 0 then nI 0 else nI 1) else if y = nI 4 then nI (R (23 + j)) else -1000000002), ha, okC_ro ?_, okM_ro ?_⟩
    · rintro X Q ⟨nx, k, ns, ni, h1, h2, -⟩
      obtain ⟨e1, e2⟩ := h1.2.2.2.2.2 j hj
      have e3 := h2.2.2.2.1 j hj
      have e4 := h2.1.2.2.1
      have e5 := h2.1.2.2.2
      have hb1 := fun Q => c_hasBitN (a := R 21) (b := j) (by omega) (by omega) X Q
      have hb2 := fun Q => c_hasBitN (a := R 22) (b := j) (by omega) (by omega) X Q
      simp (disch := first | omega | assumption) only [e124, s124_0, s124_1, s124_2, s124_5, s124_8, s124_10, s124_11, s124_12, s124_48, s124_49, s124_52, s124_55, s124_56, s124_57, s124_58, s124_59, s124_62, s124_65, s124_66, s124_67, s124_68, s124_69, s124_72, s124_75, s124_76, s124_79, s124_82, s124_83, s124_86, s124_87, s124_88, s124_89, s124_92, s124_95, s124_96, s124_99, s124_102, s124_103, s124_106, s124_107, s124_108, s124_109, s124_112, s124_115, s124_116, s124_117, s124_118, s124_120, Option.toList_some, Option.toList_none, List.cons_append, List.nil_append, nI_add, pk_mul, Nat.reduceAdd, Nat.reduceMul, Nat.add_zero, Nat.zero_add, if_true, if_false, ite_self, c_noBoat (nI j) h1.2.2.1, if_neg n1, if_neg n2, e1, e2, e3, e4, e5, hb1, hb2, nI_eq]
      split
      · rfl
      · split
        · rfl
        · split
          · split <;> rfl
          · split
            · split <;> rfl
            · split <;> rfl
    · rintro X Q ⟨h1, h2, -⟩
      obtain ⟨e1, e2⟩ := h1.2.2.2.2.2 j hj
      have e3 : X 40 (23 + j) = nI (R (23 + j)) := by have := h2 (23 + j) (by omega); rwa [Nat.zero_add] at this
      have e4 : X 40 21 = nI (R 21) := by have := h2 21 (by omega); rwa [Nat.zero_add] at this
      have e5 : X 40 22 = nI (R 22) := by have := h2 22 (by omega); rwa [Nat.zero_add] at this
      have hb1 := fun Q => c_hasN (a := R 21) (b := j) (by omega) (by omega) X Q
      have hb2 := fun Q => c_hasN (a := R 22) (b := j) (by omega) (by omega) X Q
      simp (disch := first | omega | assumption) only [e141, s141_0, s141_1, s141_2, s141_5, s141_8, s141_10, s141_11, s141_12, s141_48, s141_49, s141_52, s141_53, s141_54, s141_55, s141_56, s141_59, s141_60, s141_61, s141_62, s141_63, s141_66, s141_68, s141_69, s141_70, s141_73, s141_76, s141_77, s141_80, s141_81, s141_84, s141_85, s141_86, s141_89, s141_91, s141_92, s141_93, s141_96, s141_99, s141_100, s141_101, s141_104, s141_106, s141_107, s141_108, s141_109, s141_110, s141_112, Option.toList_some, Option.toList_none, List.cons_append, List.nil_append, nI_add, pk_mul, Nat.reduceAdd, Nat.reduceMul, Nat.add_zero, Nat.zero_add, if_true, if_false, ite_self, c_isBoat (nI j) h1.2.2.1, if_neg n1, if_neg n2, e1, e2, e3, e4, e5, hb1, hb2, c_one, nI_eq, ne10, show ¬ nI 1 = nI 0 by decide]
      split
      · rfl
      · split
        · rfl
        · split
          · split <;> rfl
          · split
            · split <;> rfl
            · split <;> rfl
theorem ok_logged (x y : Int32) : okCall 79 99 [.int x, .int y] := by
  rintro ⟨⟨D, G, B, C, W, lim, bear⟩, R, ⟨u, Rs⟩, ⟨kb, Ri, si⟩, sd, ⟨t, tx, fa⟩, ⟨tn, tg, tr, en, eg, et⟩⟩ ha
  have hr := ha.2.1.1
  have h30 := hr.2.2.2.2.2.2.1
  rcases rng y 0 2 (by decide) (by decide) with h | ⟨h, h2⟩ | ⟨c, -, hc, rfl⟩
  · refine ⟨_, -1000000002, ha, okC_ro ?_, okM_ro ?_⟩
    · intro X Q _
      simp (disch := first | omega | assumption | decide) only [e79, s79_0, s79_1, s79_2, s79_3, s79_6, s79_9, s79_11, s79_12, s79_13, s79_16, s79_17, s79_18, s79_21, Option.toList_some, Option.toList_none, List.cons_append, List.nil_append, nI_add, pk_mul, Nat.reduceAdd, Nat.reduceMul, Nat.add_zero, Nat.zero_add, if_true, if_false, ite_self, c_isOut, if_pos h, show ¬ nI 1 = nI 0 by decide]
    · intro X Q _
      simp (disch := first | omega | assumption | decide) only [e99, s99_0, s99_1, s99_2, s99_3, s99_6, s99_9, s99_12, s99_14, s99_15, s99_16, s99_17, s99_18, s99_19, s99_22, s99_24, s99_25, s99_26, s99_27, s99_28, s99_31, s99_34, s99_35, s99_38, s99_40, s99_41, s99_42, s99_45, s99_47, s99_48, s99_49, s99_50, s99_51, s99_52, s99_53, s99_54, s99_55, s99_56, s99_57, s99_60, s99_61, Option.toList_some, Option.toList_none, List.cons_append, List.nil_append, nI_add, pk_mul, Nat.reduceAdd, Nat.reduceMul, Nat.add_zero, Nat.zero_add, if_true, if_false, ite_self, li_0, li_1, li_255, li_48, li_57, li_60, li_30, li_9, li_10, li_12, li_2, li_100, c_in, if_pos h]
  · refine ⟨_, -1000000002, ha, okC_ro ?_, okM_ro ?_⟩
    · intro X Q _
      simp (disch := first | omega | assumption | decide) only [e79, s79_0, s79_1, s79_2, s79_3, s79_6, s79_9, s79_11, s79_12, s79_13, s79_16, s79_17, s79_18, s79_21, Option.toList_some, Option.toList_none, List.cons_append, List.nil_append, nI_add, pk_mul, Nat.reduceAdd, Nat.reduceMul, Nat.add_zero, Nat.zero_add, if_true, if_false, ite_self, c_isOut, if_neg h, if_pos h2, show ¬ nI 1 = nI 0 by decide]
    · intro X Q _
      simp (disch := first | omega | assumption | decide) only [e99, s99_0, s99_1, s99_2, s99_3, s99_6, s99_9, s99_12, s99_14, s99_15, s99_16, s99_17, s99_18, s99_19, s99_22, s99_24, s99_25, s99_26, s99_27, s99_28, s99_31, s99_34, s99_35, s99_38, s99_40, s99_41, s99_42, s99_45, s99_47, s99_48, s99_49, s99_50, s99_51, s99_52, s99_53, s99_54, s99_55, s99_56, s99_57, s99_60, s99_61, Option.toList_some, Option.toList_none, List.cons_append, List.nil_append, nI_add, pk_mul, Nat.reduceAdd, Nat.reduceMul, Nat.add_zero, Nat.zero_add, if_true, if_false, ite_self, li_0, li_1, li_255, li_48, li_57, li_60, li_30, li_9, li_10, li_12, li_2, li_100, c_in, if_neg h, if_pos h2]
  · have q1 : ¬ nI c < nI 0 := nI_pos (by omega)
    have q2 : ¬ nI 2 < nI c := fun q => absurd ((nI_ltI (by omega) (by omega)).mp q) (by omega)
    rcases rngm x (R 30) (by omega) with h | ⟨h, h2⟩ | ⟨j, hj, rfl, n1, n2⟩
    · refine ⟨_, -1, ha, okC_ro ?_, okM_ro ?_⟩
      · intro X Q _
        simp (disch := first | omega | assumption | decide) only [e79, s79_0, s79_1, s79_2, s79_3, s79_6, s79_9, s79_11, s79_12, s79_13, s79_16, s79_17, s79_18, s79_21, e27, s27_0, s27_1, s27_4, s27_5, s27_6, s27_9, s27_12, s27_13, s27_14, s27_15, s27_18, s27_19, s27_20, s27_21, s27_22, s27_24, s27_25, s27_27, s27_28, s27_29, s27_30, s27_56, s27_57, s27_60, s27_61, s27_62, s27_63, s27_64, s27_67, s27_68, s27_69, s27_70, s27_71, s27_74, s27_75, s27_76, Option.toList_some, Option.toList_none, List.cons_append, List.nil_append, nI_add, pk_mul, Nat.reduceAdd, Nat.reduceMul, Nat.add_zero, Nat.zero_add, if_true, if_false, ite_self, c_isOut, if_neg q1, if_neg q2, if_pos h]
      · rintro X Q ⟨h1, h2, -⟩
        have e4 : X 40 30 = nI (R 30) := by have := h2 30 (by omega); rwa [Nat.zero_add] at this
        simp (disch := first | omega | assumption | decide) only [e99, s99_0, s99_1, s99_2, s99_3, s99_6, s99_9, s99_12, s99_14, s99_15, s99_16, s99_17, s99_18, s99_19, s99_22, s99_24, s99_25, s99_26, s99_27, s99_28, s99_31, s99_34, s99_35, s99_38, s99_40, s99_41, s99_42, s99_45, s99_47, s99_48, s99_49, s99_50, s99_51, s99_52, s99_53, s99_54, s99_55, s99_56, s99_57, s99_60, s99_61, Option.toList_some, Option.toList_none, List.cons_append, List.nil_append, nI_add, pk_mul, Nat.reduceAdd, Nat.reduceMul, Nat.add_zero, Nat.zero_add, if_true, if_false, ite_self, li_0, li_1, li_255, li_48, li_57, li_60, li_30, li_9, li_10, li_12, li_2, li_100, c_in, if_neg q1, if_neg q2, e4, if_pos h, show ¬ nI 1 = nI 0 by decide]
    · refine ⟨_, -1, ha, okC_ro ?_, okM_ro ?_⟩
      · rintro X Q ⟨nx, k, ns, ni, h1, h3, -⟩
        have e8 := h3.2.1.1
        have hn : ¬ x < nI (R 30) := fun q => by
          obtain ⟨j, hj, rfl⟩ := nI_of (show ¬ x < 0 from h)
          have := (nI_ltI hj (by omega)).mp q
          rw [pk_sub (by omega)] at h2
          have := (nI_ltI (by omega) hj).mp h2
          omega
        simp (disch := first | omega | assumption | decide) only [e79, s79_0, s79_1, s79_2, s79_3, s79_6, s79_9, s79_11, s79_12, s79_13, s79_16, s79_17, s79_18, s79_21, e27, s27_0, s27_1, s27_4, s27_5, s27_6, s27_9, s27_12, s27_13, s27_14, s27_15, s27_18, s27_19, s27_20, s27_21, s27_22, s27_24, s27_25, s27_27, s27_28, s27_29, s27_30, s27_56, s27_57, s27_60, s27_61, s27_62, s27_63, s27_64, s27_67, s27_68, s27_69, s27_70, s27_71, s27_74, s27_75, s27_76, Option.toList_some, Option.toList_none, List.cons_append, List.nil_append, nI_add, pk_mul, Nat.reduceAdd, Nat.reduceMul, Nat.add_zero, Nat.zero_add, if_true, if_false, ite_self, c_isOut, if_neg q1, if_neg q2, if_neg h, e8, if_neg hn]
      · rintro X Q ⟨h1, h3, -⟩
        have e4 : X 40 30 = nI (R 30) := by have := h3 30 (by omega); rwa [Nat.zero_add] at this
        simp (disch := first | omega | assumption | decide) only [e99, s99_0, s99_1, s99_2, s99_3, s99_6, s99_9, s99_12, s99_14, s99_15, s99_16, s99_17, s99_18, s99_19, s99_22, s99_24, s99_25, s99_26, s99_27, s99_28, s99_31, s99_34, s99_35, s99_38, s99_40, s99_41, s99_42, s99_45, s99_47, s99_48, s99_49, s99_50, s99_51, s99_52, s99_53, s99_54, s99_55, s99_56, s99_57, s99_60, s99_61, Option.toList_some, Option.toList_none, List.cons_append, List.nil_append, nI_add, pk_mul, Nat.reduceAdd, Nat.reduceMul, Nat.add_zero, Nat.zero_add, if_true, if_false, ite_self, li_0, li_1, li_255, li_48, li_57, li_60, li_30, li_9, li_10, li_12, li_2, li_100, c_in, if_neg q1, if_neg q2, e4, if_neg h, if_pos h2, show ¬ nI 1 = nI 0 by decide]
    · refine ⟨_, nI (R (31 + 3 * (R 30 - 1 - j) + c)), ha, okC_ro ?_, okM_ro ?_⟩
      · rintro X Q ⟨nx, k, ns, ni, h1, h3, -⟩
        have e8 := h3.2.1.1
        have e9 := h3.2.1.2.1
        have e10 := h3.2.1.2.2.1
        obtain ⟨l1, l2, l3⟩ := h3.2.2.2.2 (R 30 - 1 - j) (by omega)
        have hp : (nx + 20 - R 30 + (R 30 - 1 - j)) % 20 = (nx + 39 - j) % 20 := by omega
        rw [hp] at l1 l2 l3
        have hm : (nx + 39 - j) % 20 < 20 := Nat.mod_lt _ (by decide)
        have hi : zrem (nI nx - nI 1 - nI j + nI 40) (nI 20) = nI ((nx + 39 - j) % 20) := by
          have : nI nx - nI 1 - nI j + nI 40 = nI (nx + 39 - j) := by
            apply Int32.toInt_inj.mp
            have a1 := nI_toInt (n := nx) (by omega)
            have a2 := nI_toInt (n := j) (by omega)
            have a3 : (nI 1).toInt = 1 := by decide
            have a4 : (nI 40).toInt = 40 := by decide
            have a5 := nI_toInt (n := nx + 39 - j) (by omega)
            have b1 : (nI nx - nI 1).toInt = (nx : Int) - 1 := by
              rw [Int32.toInt_sub, a1, a3]
              exact Int.bmod_eq_of_le (by omega) (by omega)
            have b2 : (nI nx - nI 1 - nI j).toInt = (nx : Int) - 1 - j := by
              rw [Int32.toInt_sub, b1, a2]
              exact Int.bmod_eq_of_le (by omega) (by omega)
            rw [Int32.toInt_add, b2, a4, a5, Int.bmod_eq_of_le (by omega) (by omega)]
            omega
          rw [this, zrem_nI (by omega) (by decide) (by decide)]
        have hlt : nI j < nI (R 30) := (nI_ltI (by omega) (by omega)).mpr hj
        have h20 : ¬ nI 20 = nI 0 := by decide
        simp (disch := first | omega | assumption) only [e79, s79_0, s79_1, s79_2, s79_3, s79_6, s79_9, s79_11, s79_12, s79_13, s79_16, s79_17, s79_18, s79_21, e27, s27_0, s27_1, s27_4, s27_5, s27_6, s27_9, s27_12, s27_13, s27_14, s27_15, s27_18, s27_19, s27_20, s27_21, s27_22, s27_24, s27_25, s27_27, s27_28, s27_29, s27_30, s27_56, s27_57, s27_60, s27_61, s27_62, s27_63, s27_64, s27_67, s27_68, s27_69, s27_70, s27_71, s27_74, s27_75, s27_76, Option.toList_some, Option.toList_none, List.cons_append, List.nil_append, if_true, if_false, eq_self, n1n0, ne10, c_isOut, if_neg q1, if_neg q2, if_neg n1, e8, e9, if_pos hlt, hi]
        match c, hc with
        | 0, _ => simp (disch := first | omega | assumption | decide) only [e79, s79_0, s79_1, s79_2, s79_3, s79_6, s79_9, s79_11, s79_12, s79_13, s79_16, s79_17, s79_18, s79_21, e27, s27_0, s27_1, s27_4, s27_5, s27_6, s27_9, s27_12, s27_13, s27_14, s27_15, s27_18, s27_19, s27_20, s27_21, s27_22, s27_24, s27_25, s27_27, s27_28, s27_29, s27_30, s27_56, s27_57, s27_60, s27_61, s27_62, s27_63, s27_64, s27_67, s27_68, s27_69, s27_70, s27_71, s27_74, s27_75, s27_76, Option.toList_some, Option.toList_none, List.cons_append, List.nil_append, nI_add, pk_mul, Nat.reduceAdd, Nat.reduceMul, Nat.add_zero, Nat.zero_add, if_true, if_false, ite_self, l1, if_pos rfl]
        | 1, _ => simp (disch := first | omega | assumption | decide) only [e79, s79_0, s79_1, s79_2, s79_3, s79_6, s79_9, s79_11, s79_12, s79_13, s79_16, s79_17, s79_18, s79_21, e27, s27_0, s27_1, s27_4, s27_5, s27_6, s27_9, s27_12, s27_13, s27_14, s27_15, s27_18, s27_19, s27_20, s27_21, s27_22, s27_24, s27_25, s27_27, s27_28, s27_29, s27_30, s27_56, s27_57, s27_60, s27_61, s27_62, s27_63, s27_64, s27_67, s27_68, s27_69, s27_70, s27_71, s27_74, s27_75, s27_76, Option.toList_some, Option.toList_none, List.cons_append, List.nil_append, nI_add, pk_mul, Nat.reduceAdd, Nat.reduceMul, Nat.add_zero, Nat.zero_add, if_true, if_false, ite_self, l2, show ¬ nI 1 = nI 0 by decide]
        | 2, _ => simp (disch := first | omega | assumption | decide) only [e79, s79_0, s79_1, s79_2, s79_3, s79_6, s79_9, s79_11, s79_12, s79_13, s79_16, s79_17, s79_18, s79_21, e27, s27_0, s27_1, s27_4, s27_5, s27_6, s27_9, s27_12, s27_13, s27_14, s27_15, s27_18, s27_19, s27_20, s27_21, s27_22, s27_24, s27_25, s27_27, s27_28, s27_29, s27_30, s27_56, s27_57, s27_60, s27_61, s27_62, s27_63, s27_64, s27_67, s27_68, s27_69, s27_70, s27_71, s27_74, s27_75, s27_76, Option.toList_some, Option.toList_none, List.cons_append, List.nil_append, nI_add, pk_mul, Nat.reduceAdd, Nat.reduceMul, Nat.add_zero, Nat.zero_add, if_true, if_false, ite_self, l3, show ¬ nI 2 = nI 0 by decide, show ¬ nI 2 = nI 1 by decide]
      · rintro X Q ⟨h1, h3, -⟩
        have e4 : X 40 30 = nI (R 30) := by have := h3 30 (by omega); rwa [Nat.zero_add] at this
        have e5 : X 40 (31 + 3 * (R 30 - 1 - j) + c) = nI (R (31 + 3 * (R 30 - 1 - j) + c)) := by have := h3 (31 + 3 * (R 30 - 1 - j) + c) (by omega); rwa [Nat.zero_add] at this
        have a1 : nI (R 30) - nI 1 - nI j = nI (R 30 - 1 - j) := by rw [pk_sub (by omega), pk_sub (by omega)]
        simp (disch := first | omega | assumption) only [e99, s99_0, s99_1, s99_2, s99_3, s99_6, s99_9, s99_12, s99_14, s99_15, s99_16, s99_17, s99_18, s99_19, s99_22, s99_24, s99_25, s99_26, s99_27, s99_28, s99_31, s99_34, s99_35, s99_38, s99_40, s99_41, s99_42, s99_45, s99_47, s99_48, s99_49, s99_50, s99_51, s99_52, s99_53, s99_54, s99_55, s99_56, s99_57, s99_60, s99_61, Option.toList_some, Option.toList_none, List.cons_append, List.nil_append, nI_add, pk_mul, Nat.reduceAdd, Nat.reduceMul, Nat.add_zero, Nat.zero_add, if_true, if_false, ite_self, li_0, li_1, li_255, li_48, li_57, li_60, li_30, li_9, li_10, li_12, li_2, li_100, c_in, if_neg q1, if_neg q2, e4, if_neg n1, if_neg n2, a1, nI_add, pk_mul, e5, show ¬ nI 1 = nI 0 by decide]
def hbL (q : Int32) : Nat → Int64
  | 0 => lN 1000000000
  | n + 1 => hbL q n * (nI 100 - q).toInt64 / lN 100
theorem hb_loopC {X : zM} {Q : Option Value → zM → Prop} {x q : Int32} {m : Nat} (hx : x = nI m) (hm : m ≤ 60) : ∀ n i : Nat, i + n = m → zev 81 30 [.ref 0, .int x, .int q, .long (hbL q i), zU, .int (nI i)] [] X Q = Q (some (.int (hbL q m).toInt32)) X := by
  intro n
  induction n with
  | zero =>
    intro i hi
    have e : i = m := by omega
    subst e
    rw [s81_30]
    simp (disch := first | omega | assumption | decide) only [e81, s81_0, s81_1, s81_2, s81_4, s81_7, s81_10, s81_11, s81_12, s81_14, s81_17, s81_20, s81_22, s81_23, s81_26, s81_27, s81_28, s81_32, s81_33, s81_36, s81_37, s81_39, s81_40, s81_41, s81_42, s81_43, s81_46, s81_47, s81_48, s81_51, s81_54, s81_55, s81_56, Option.toList_some, Option.toList_none, List.cons_append, List.nil_append, nI_add, pk_mul, Nat.reduceAdd, Nat.reduceMul, Nat.add_zero, Nat.zero_add, if_true, if_false, ite_self, hx, nI_add, pk_mul, pk_sub, zrem_nI, pk_div, nI_ltI, nI_eq, Nat.lt_irrefl]
  | succ n ih =>
    intro i hi
    have hlt : i < m := by omega
    refine Eq.trans ?_ (ih (i + 1) (by omega))
    rw [s81_30]
    simp (disch := first | omega | assumption | decide) only [e81, s81_0, s81_1, s81_2, s81_4, s81_7, s81_10, s81_11, s81_12, s81_14, s81_17, s81_20, s81_22, s81_23, s81_26, s81_27, s81_28, s81_32, s81_33, s81_36, s81_37, s81_39, s81_40, s81_41, s81_42, s81_43, s81_46, s81_47, s81_48, s81_51, s81_54, s81_55, s81_56, Option.toList_some, Option.toList_none, List.cons_append, List.nil_append, nI_add, pk_mul, Nat.reduceAdd, Nat.reduceMul, Nat.add_zero, Nat.zero_add, if_true, if_false, ite_self, hx, nI_ltI, hlt, hbL]
theorem hb_loopM {X : zM} {Q : Option Value → zM → Prop} {x q : Int32} {m : Nat} (hx : x = nI m) (hm : m ≤ 60) : ∀ n i : Nat, i + n = m → zev 107 34 [.ref 39, .int x, .int q, .long (hbL q i), zU, .int (nI i)] [] X Q = Q (some (.int (hbL q m).toInt32)) X := by
  intro n
  induction n with
  | zero =>
    intro i hi
    have e : i = m := by omega
    subst e
    rw [s107_34]
    simp (disch := first | omega | assumption | decide) only [e107, s107_0, s107_1, s107_2, s107_3, s107_6, s107_9, s107_12, s107_13, s107_14, s107_15, s107_18, s107_21, s107_24, s107_26, s107_27, s107_30, s107_31, s107_32, s107_36, s107_37, s107_40, s107_41, s107_43, s107_44, s107_45, s107_46, s107_47, s107_50, s107_51, s107_52, s107_55, s107_58, s107_59, s107_60, Option.toList_some, Option.toList_none, List.cons_append, List.nil_append, nI_add, pk_mul, Nat.reduceAdd, Nat.reduceMul, Nat.add_zero, Nat.zero_add, if_true, if_false, ite_self, hx, nI_add, pk_mul, pk_sub, zrem_nI, pk_div, nI_ltI, nI_eq, Nat.lt_irrefl]
  | succ n ih =>
    intro i hi
    have hlt : i < m := by omega
    refine Eq.trans ?_ (ih (i + 1) (by omega))
    rw [s107_34]
    simp (disch := first | omega | assumption | decide) only [e107, s107_0, s107_1, s107_2, s107_3, s107_6, s107_9, s107_12, s107_13, s107_14, s107_15, s107_18, s107_21, s107_24, s107_26, s107_27, s107_30, s107_31, s107_32, s107_36, s107_37, s107_40, s107_41, s107_43, s107_44, s107_45, s107_46, s107_47, s107_50, s107_51, s107_52, s107_55, s107_58, s107_59, s107_60, Option.toList_some, Option.toList_none, List.cons_append, List.nil_append, nI_add, pk_mul, Nat.reduceAdd, Nat.reduceMul, Nat.add_zero, Nat.zero_add, if_true, if_false, ite_self, hx, nI_ltI, hlt, hbL]

theorem ok_homeBy (x y : Int32) : okCall 81 107 [.int x, .int y] := by
  rintro a ha
  rcases rng x 0 60 (by decide) (by decide) with h | ⟨h, h2⟩ | ⟨j, -, hj, rfl⟩
  · refine ⟨a, -1000000002, ha, okC_ro ?_, okM_ro ?_⟩
    · intro X Q _
      simp (disch := first | omega | assumption | decide) only [e81, s81_0, s81_1, s81_2, s81_4, s81_7, s81_10, s81_11, s81_12, s81_14, s81_17, s81_20, s81_22, s81_23, s81_26, s81_27, s81_28, s81_32, s81_33, s81_36, s81_37, s81_39, s81_40, s81_41, s81_42, s81_43, s81_46, s81_47, s81_48, s81_51, s81_54, s81_55, s81_56, Option.toList_some, Option.toList_none, List.cons_append, List.nil_append, nI_add, pk_mul, Nat.reduceAdd, Nat.reduceMul, Nat.add_zero, Nat.zero_add, if_true, if_false, ite_self, c_isOut, if_pos h, show ¬ nI 1 = nI 0 by decide]
    · intro X Q _
      simp (disch := first | omega | assumption | decide) only [e107, s107_0, s107_1, s107_2, s107_3, s107_6, s107_9, s107_12, s107_13, s107_14, s107_15, s107_18, s107_21, s107_24, s107_26, s107_27, s107_30, s107_31, s107_32, s107_36, s107_37, s107_40, s107_41, s107_43, s107_44, s107_45, s107_46, s107_47, s107_50, s107_51, s107_52, s107_55, s107_58, s107_59, s107_60, Option.toList_some, Option.toList_none, List.cons_append, List.nil_append, nI_add, pk_mul, Nat.reduceAdd, Nat.reduceMul, Nat.add_zero, Nat.zero_add, if_true, if_false, ite_self, li_0, li_1, li_255, li_48, li_57, li_60, li_30, li_9, li_10, li_12, li_2, li_100, c_in, if_pos h]
  · refine ⟨a, -1000000002, ha, okC_ro ?_, okM_ro ?_⟩
    · intro X Q _
      simp (disch := first | omega | assumption | decide) only [e81, s81_0, s81_1, s81_2, s81_4, s81_7, s81_10, s81_11, s81_12, s81_14, s81_17, s81_20, s81_22, s81_23, s81_26, s81_27, s81_28, s81_32, s81_33, s81_36, s81_37, s81_39, s81_40, s81_41, s81_42, s81_43, s81_46, s81_47, s81_48, s81_51, s81_54, s81_55, s81_56, Option.toList_some, Option.toList_none, List.cons_append, List.nil_append, nI_add, pk_mul, Nat.reduceAdd, Nat.reduceMul, Nat.add_zero, Nat.zero_add, if_true, if_false, ite_self, c_isOut, if_neg h, if_pos h2, show ¬ nI 1 = nI 0 by decide]
    · intro X Q _
      simp (disch := first | omega | assumption | decide) only [e107, s107_0, s107_1, s107_2, s107_3, s107_6, s107_9, s107_12, s107_13, s107_14, s107_15, s107_18, s107_21, s107_24, s107_26, s107_27, s107_30, s107_31, s107_32, s107_36, s107_37, s107_40, s107_41, s107_43, s107_44, s107_45, s107_46, s107_47, s107_50, s107_51, s107_52, s107_55, s107_58, s107_59, s107_60, Option.toList_some, Option.toList_none, List.cons_append, List.nil_append, nI_add, pk_mul, Nat.reduceAdd, Nat.reduceMul, Nat.add_zero, Nat.zero_add, if_true, if_false, ite_self, li_0, li_1, li_255, li_48, li_57, li_60, li_30, li_9, li_10, li_12, li_2, li_100, c_in, if_neg h, if_pos h2]
  · have n1 : ¬ nI j < nI 0 := nI_pos (by omega)
    have n2 : ¬ nI 60 < nI j := fun q => absurd ((nI_ltI (by omega) (by omega)).mp q) (by omega)
    by_cases q1 : y < nI 0
    · refine ⟨a, -1000000002, ha, okC_ro ?_, okM_ro ?_⟩
      · intro X Q _
        simp (disch := first | omega | assumption | decide) only [e81, s81_0, s81_1, s81_2, s81_4, s81_7, s81_10, s81_11, s81_12, s81_14, s81_17, s81_20, s81_22, s81_23, s81_26, s81_27, s81_28, s81_32, s81_33, s81_36, s81_37, s81_39, s81_40, s81_41, s81_42, s81_43, s81_46, s81_47, s81_48, s81_51, s81_54, s81_55, s81_56, Option.toList_some, Option.toList_none, List.cons_append, List.nil_append, if_true, if_false, eq_self, n1n0, ne10, c_isOut, if_neg n1, if_neg n2, if_pos q1, show ¬ nI 1 = nI 0 by decide]
      · intro X Q _
        simp (disch := first | omega | assumption | decide) only [e107, s107_0, s107_1, s107_2, s107_3, s107_6, s107_9, s107_12, s107_13, s107_14, s107_15, s107_18, s107_21, s107_24, s107_26, s107_27, s107_30, s107_31, s107_32, s107_36, s107_37, s107_40, s107_41, s107_43, s107_44, s107_45, s107_46, s107_47, s107_50, s107_51, s107_52, s107_55, s107_58, s107_59, s107_60, Option.toList_some, Option.toList_none, List.cons_append, List.nil_append, if_true, if_false, eq_self, n1n0, ne10, li_0, li_1, li_255, li_48, li_57, li_60, li_30, li_9, li_10, li_12, li_2, li_100, c_in, if_neg n1, if_neg n2, if_pos q1, show ¬ nI 1 = nI 0 by decide]
    · by_cases q2 : nI 100 < y
      · refine ⟨a, -1000000002, ha, okC_ro ?_, okM_ro ?_⟩
        · intro X Q _
          simp (disch := first | omega | assumption | decide) only [e81, s81_0, s81_1, s81_2, s81_4, s81_7, s81_10, s81_11, s81_12, s81_14, s81_17, s81_20, s81_22, s81_23, s81_26, s81_27, s81_28, s81_32, s81_33, s81_36, s81_37, s81_39, s81_40, s81_41, s81_42, s81_43, s81_46, s81_47, s81_48, s81_51, s81_54, s81_55, s81_56, Option.toList_some, Option.toList_none, List.cons_append, List.nil_append, if_true, if_false, eq_self, n1n0, ne10, c_isOut, if_neg n1, if_neg n2, if_neg q1, if_pos q2, show ¬ nI 1 = nI 0 by decide]
        · intro X Q _
          simp (disch := first | omega | assumption | decide) only [e107, s107_0, s107_1, s107_2, s107_3, s107_6, s107_9, s107_12, s107_13, s107_14, s107_15, s107_18, s107_21, s107_24, s107_26, s107_27, s107_30, s107_31, s107_32, s107_36, s107_37, s107_40, s107_41, s107_43, s107_44, s107_45, s107_46, s107_47, s107_50, s107_51, s107_52, s107_55, s107_58, s107_59, s107_60, Option.toList_some, Option.toList_none, List.cons_append, List.nil_append, if_true, if_false, eq_self, n1n0, ne10, li_0, li_1, li_255, li_48, li_57, li_60, li_30, li_9, li_10, li_12, li_2, li_100, c_in, if_neg n1, if_neg n2, if_neg q1, if_pos q2, show ¬ nI 1 = nI 0 by decide]
      · refine ⟨a, (hbL y j).toInt32, ha, okC_ro ?_, okM_ro ?_⟩
        · intro X Q _
          have hl := hb_loopC (X := X) (Q := Q) (x := nI j) (q := y) (m := j) rfl hj j 0 (by omega)
          simp only [hbL] at hl
          simp (disch := first | omega | assumption | decide) only [e81, s81_0, s81_1, s81_2, s81_4, s81_7, s81_10, s81_11, s81_12, s81_14, s81_17, s81_20, s81_22, s81_23, s81_26, s81_27, s81_28, s81_32, s81_33, s81_36, s81_37, s81_39, s81_40, s81_41, s81_42, s81_43, s81_46, s81_47, s81_48, s81_51, s81_54, s81_55, s81_56, Option.toList_some, Option.toList_none, List.cons_append, List.nil_append, if_true, if_false, eq_self, n1n0, ne10, c_isOut, if_neg n1, if_neg n2, if_neg q1, if_neg q2, hl]
        · intro X Q _
          have hl := hb_loopM (X := X) (Q := Q) (x := nI j) (q := y) (m := j) rfl hj j 0 (by omega)
          simp only [hbL] at hl
          have hb := fun Q => c_in (nI j) (nI 0) (nI 60) X Q
          simp (disch := first | omega | assumption | decide) only [e107, s107_0, s107_1, s107_2, s107_3, s107_6, s107_9, s107_12, s107_13, s107_14, s107_15, s107_18, s107_21, s107_24, s107_26, s107_27, s107_30, s107_31, s107_32, s107_36, s107_37, s107_40, s107_41, s107_43, s107_44, s107_45, s107_46, s107_47, s107_50, s107_51, s107_52, s107_55, s107_58, s107_59, s107_60, Option.toList_some, Option.toList_none, List.cons_append, List.nil_append, if_true, if_false, eq_self, n1n0, ne10, li_0, li_60, c_in, if_neg n1, if_neg n2, show ¬ nI 1 = nI 0 by decide]
          rw [show lN 100 = (nI 100).toInt64 from rfl, c_in, if_neg q1, if_neg q2]
          simp (disch := first | omega | assumption | decide) only [e107, s107_0, s107_1, s107_2, s107_3, s107_6, s107_9, s107_12, s107_13, s107_14, s107_15, s107_18, s107_21, s107_24, s107_26, s107_27, s107_30, s107_31, s107_32, s107_36, s107_37, s107_40, s107_41, s107_43, s107_44, s107_45, s107_46, s107_47, s107_50, s107_51, s107_52, s107_55, s107_58, s107_59, s107_60, Option.toList_some, Option.toList_none, List.cons_append, List.nil_append, if_true, if_false, eq_self, n1n0, ne10, show ¬ nI 1 = nI 0 by decide, hl]
