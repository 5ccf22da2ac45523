/-! drink, keepFrom, glad, weigh, hold, find -/
section IN
variable {X : zM} {Q : Option Value → zM → Prop} {G j : Nat}
theorem in_ok {j G : Nat} (hj : j < G) (hG : G ≤ 1000) : ¬ nI j < nI 0 ∧ ¬ nI G - nI 1 < nI j := by
  refine ⟨nI_pos (by omega), fun q => ?_⟩
  rw [pk_sub (by omega)] at q
  have := (nI_ltI (by omega) (by omega)).mp q
  omega
theorem c_noGlass_in (h : X 9 1 = nI G) (hj : j < G) (hG : G ≤ 1000) : zcl 84 [.ref 0, .int (nI j)] X Q = Q (some (.int (nI 0))) X := by
  obtain ⟨a, b⟩ := in_ok hj hG
  rw [c_noGlass _ h, if_neg a, if_neg b]
theorem c_noBoat_in (h : X 9 2 = nI G) (hj : j < G) (hG : G ≤ 1000) : zcl 85 [.ref 0, .int (nI j)] X Q = Q (some (.int (nI 0))) X := by
  obtain ⟨a, b⟩ := in_ok hj hG
  rw [c_noBoat _ h, if_neg a, if_neg b]
theorem c_isGlass_in (h : X 39 9 = nI G) (hj : j < G) (hG : G ≤ 1000) : zcl 91 [.ref 39, .int (nI j)] X Q = Q (some (.int (nI 1))) X := by
  obtain ⟨a, b⟩ := in_ok hj hG
  rw [c_isGlass _ h, if_neg a, if_neg b]
theorem c_isBoat_in (h : X 39 11 = nI G) (hj : j < G) (hG : G ≤ 1000) : zcl 92 [.ref 39, .int (nI j)] X Q = Q (some (.int (nI 1))) X := by
  obtain ⟨a, b⟩ := in_ok hj hG
  rw [c_isBoat _ h, if_neg a, if_neg b]
theorem c_isOut_in {lo hi : Nat} (h1 : lo ≤ j) (h2 : j ≤ hi) (h3 : hi < 2147483648) : zcl 35 [.int (nI j), .int (nI lo), .int (nI hi)] X Q = Q (some (.int (nI 0))) X := by
  rw [c_isOut, if_neg (fun q => absurd ((nI_ltI (by omega) (by omega)).mp q) (by omega)), if_neg (fun q => absurd ((nI_ltI (by omega) (by omega)).mp q) (by omega))]
theorem c_in_in {lo hi : Nat} (h1 : lo ≤ j) (h2 : j ≤ hi) (h3 : hi < 2147483648) : zcl 37 [.long (nI j).toInt64, .long (nI lo).toInt64, .long (nI hi).toInt64] X Q = Q (some (.int (nI 1))) X := by
  rw [c_in, if_neg (fun q => absurd ((nI_ltI (by omega) (by omega)).mp q) (by omega)), if_neg (fun q => absurd ((nI_ltI (by omega) (by omega)).mp q) (by omega))]
end IN
theorem at0 {X : zM} {R : Nat → Nat} (h : mW (X 40) 0 R) {i : Nat} (hi : i < 91) : X 40 i = nI (R i) := by
  have := h i hi
  rwa [Nat.zero_add] at this
theorem up0 {w : Nat → Int32} {R : Nat → Nat} {k v : Nat} (h : mW w 0 R) : mW (upd w k (nI v)) 0 (upN R k v) := by
  have := h.up (k := k) (v := v)
  rwa [Nat.zero_add] at this
theorem fr0 {w v : Nat → Int32} {k : Nat} {z : Int32} (h : frW w v 0) (hk : k < 91) : frW w (upd v k z) 0 := h.up (by omega) (by omega)
theorem ok_drink (x : Int32) : okCall 125 142 [.int x] := by
  rintro ⟨⟨D, G, B, C, W, lim, bear⟩, R, ⟨u, Rs⟩, ⟨kb, Ri, si⟩, sd, ⟨t, tx, fa⟩, ⟨tn, tg, tr, en, eg, et⟩⟩ ha
  have hG := ha.1.2.1
  have hB := ha.1.2.2.1
  have hr := ha.2.1.1
  have hu := ha.2.2.1.1
  have r28 := hr.2.2.2.2.1
  rcases rngm x G (by omega) with h | ⟨h, h2⟩ | ⟨j, hj, rfl, n1, n2⟩
  · refine ⟨_, -1000000001, ha, okC_ro ?_, okM_ro ?_⟩
    · rintro X Q ⟨nx, k, ns, ni, h1, -⟩
      simp (disch := first | omega | assumption | decide) only [e125, s125_0, s125_1, s125_2, s125_5, s125_8, s125_10, s125_11, s125_12, s125_15, s125_18, s125_21, s125_22, s125_25, s125_28, s125_29, s125_30, s125_32, s125_35, s125_37, s125_38, s125_39, s125_42, s125_43, s125_46, s125_49, s125_50, s125_53, s125_54, s125_57, s125_58, s125_59, s125_62, s125_63, s125_66, s125_69, s125_70, s125_71, s125_72, s125_73, s125_74, s125_75, s125_76, s125_79, s125_82, s125_83, s125_84, Option.toList_some, Option.toList_none, List.cons_append, List.nil_append, if_true, if_false, eq_self, n1n0, ne10, c_noGlass x h1.2.1, if_pos h, n1n0]
    · rintro X Q ⟨h1, -⟩
      simp (disch := first | omega | assumption | decide) only [e142, s142_0, s142_1, s142_2, s142_5, s142_8, s142_10, s142_11, s142_12, s142_15, s142_17, s142_18, s142_21, s142_22, s142_25, s142_26, s142_27, s142_29, s142_32, s142_34, s142_35, s142_36, s142_39, s142_40, s142_43, s142_45, s142_46, s142_47, s142_48, s142_49, s142_50, s142_51, s142_54, s142_55, s142_56, s142_57, s142_58, s142_59, s142_60, s142_61, s142_64, s142_65, s142_66, Option.toList_some, Option.toList_none, List.cons_append, List.nil_append, if_true, if_false, eq_self, n1n0, ne10, c_isGlass x h1.2.1, if_pos h]
  · refine ⟨_, -1000000001, ha, okC_ro ?_, okM_ro ?_⟩
    · rintro X Q ⟨nx, k, ns, ni, h1, -⟩
      simp (disch := first | omega | assumption | decide) only [e125, s125_0, s125_1, s125_2, s125_5, s125_8, s125_10, s125_11, s125_12, s125_15, s125_18, s125_21, s125_22, s125_25, s125_28, s125_29, s125_30, s125_32, s125_35, s125_37, s125_38, s125_39, s125_42, s125_43, s125_46, s125_49, s125_50, s125_53, s125_54, s125_57, s125_58, s125_59, s125_62, s125_63, s125_66, s125_69, s125_70, s125_71, s125_72, s125_73, s125_74, s125_75, s125_76, s125_79, s125_82, s125_83, s125_84, Option.toList_some, Option.toList_none, List.cons_append, List.nil_append, if_true, if_false, eq_self, n1n0, ne10, c_noGlass x h1.2.1, if_neg h, if_pos h2, n1n0]
    · rintro X Q ⟨h1, -⟩
      simp (disch := first | omega | assumption | decide) only [e142, s142_0, s142_1, s142_2, s142_5, s142_8, s142_10, s142_11, s142_12, s142_15, s142_17, s142_18, s142_21, s142_22, s142_25, s142_26, s142_27, s142_29, s142_32, s142_34, s142_35, s142_36, s142_39, s142_40, s142_43, s142_45, s142_46, s142_47, s142_48, s142_49, s142_50, s142_51, s142_54, s142_55, s142_56, s142_57, s142_58, s142_59, s142_60, s142_61, s142_64, s142_65, s142_66, Option.toList_some, Option.toList_none, List.cons_append, List.nil_append, if_true, if_false, eq_self, n1n0, ne10, c_isGlass x h1.2.1, if_neg h, if_pos h2]
  · have rj := (hr.1 j (by omega)).1
    by_cases c1 : R 28 = 0
    · have c1' : ¬ 0 < R 28 := by omega
      refine ⟨_, -1000000003, ha, okC_ro ?_, okM_ro ?_⟩
      · rintro X Q ⟨nx, k, ns, ni, h1, h2, h3, h4, h5, h6, h7, h8⟩
        have e1 := h2.1.2.1
        simp (disch := first | omega | assumption | decide) only [e125, s125_0, s125_1, s125_2, s125_5, s125_8, s125_10, s125_11, s125_12, s125_15, s125_18, s125_21, s125_22, s125_25, s125_28, s125_29, s125_30, s125_32, s125_35, s125_37, s125_38, s125_39, s125_42, s125_43, s125_46, s125_49, s125_50, s125_53, s125_54, s125_57, s125_58, s125_59, s125_62, s125_63, s125_66, s125_69, s125_70, s125_71, s125_72, s125_73, s125_74, s125_75, s125_76, s125_79, s125_82, s125_83, s125_84, Option.toList_some, Option.toList_none, List.cons_append, List.nil_append, if_true, if_false, eq_self, n1n0, ne10, c_noGlass_in (j := j) h1.2.1 hj (by omega), e1, nI_ltI, c1']
      · rintro X Q ⟨h1, h2, h3, h4, h5, h6, h7⟩
        have e1 := at0 h2 (i := 28) (by omega)
        simp (disch := first | omega | assumption | decide) only [e142, s142_0, s142_1, s142_2, s142_5, s142_8, s142_10, s142_11, s142_12, s142_15, s142_17, s142_18, s142_21, s142_22, s142_25, s142_26, s142_27, s142_29, s142_32, s142_34, s142_35, s142_36, s142_39, s142_40, s142_43, s142_45, s142_46, s142_47, s142_48, s142_49, s142_50, s142_51, s142_54, s142_55, s142_56, s142_57, s142_58, s142_59, s142_60, s142_61, s142_64, s142_65, s142_66, Option.toList_some, Option.toList_none, List.cons_append, List.nil_append, if_true, if_false, eq_self, n1n0, ne10, c_isGlass_in (j := j) h1.2.1 hj (by omega), n1n0, e1, nI_eq, c1]
    · have c1' : 0 < R 28 := by omega
      by_cases c2 : R j = 10
      · have c2' : ¬ R j < 10 := by omega
        refine ⟨_, -1000000003, ha, okC_ro ?_, okM_ro ?_⟩
        · rintro X Q ⟨nx, k, ns, ni, h1, h2, h3, h4, h5, h6, h7, h8⟩
          have e1 := h2.1.2.1
          have e2 := (h2.2.2.1 j hj).1
          simp (disch := first | omega | assumption | decide) only [e125, s125_0, s125_1, s125_2, s125_5, s125_8, s125_10, s125_11, s125_12, s125_15, s125_18, s125_21, s125_22, s125_25, s125_28, s125_29, s125_30, s125_32, s125_35, s125_37, s125_38, s125_39, s125_42, s125_43, s125_46, s125_49, s125_50, s125_53, s125_54, s125_57, s125_58, s125_59, s125_62, s125_63, s125_66, s125_69, s125_70, s125_71, s125_72, s125_73, s125_74, s125_75, s125_76, s125_79, s125_82, s125_83, s125_84, Option.toList_some, Option.toList_none, List.cons_append, List.nil_append, if_true, if_false, eq_self, n1n0, ne10, c_noGlass_in (j := j) h1.2.1 hj (by omega), e1, e2, nI_ltI, c1', c2']
        · rintro X Q ⟨h1, h2, h3, h4, h5, h6, h7⟩
          have e1 := at0 h2 (i := 28) (by omega)
          have e2 := at0 h2 (i := j) (by omega)
          simp (disch := first | omega | assumption | decide) only [e142, s142_0, s142_1, s142_2, s142_5, s142_8, s142_10, s142_11, s142_12, s142_15, s142_17, s142_18, s142_21, s142_22, s142_25, s142_26, s142_27, s142_29, s142_32, s142_34, s142_35, s142_36, s142_39, s142_40, s142_43, s142_45, s142_46, s142_47, s142_48, s142_49, s142_50, s142_51, s142_54, s142_55, s142_56, s142_57, s142_58, s142_59, s142_60, s142_61, s142_64, s142_65, s142_66, Option.toList_some, Option.toList_none, List.cons_append, List.nil_append, if_true, if_false, eq_self, n1n0, ne10, c_isGlass_in (j := j) h1.2.1 hj (by omega), n1n0, e1, e2, nI_eq, c1, c2]
      · have c2' : R j < 10 := by omega
        refine ⟨((D, G, B, C, W, lim, bear), upN (upN R 28 (R 28 - 1)) j (R j + 1), (min 30 (u + 1), psh u Rs R), (kb, Ri, si), sd, (t, tx, fa), (tn, tg, tr, en, eg, et)), nI (R j + 1), ⟨ha.1, ⟨okR_t (okR_f hr (by omega)) (by omega) (by omega), ?_⟩, okS_psh hu ha.2.1 ha.2.2.1.2, ha.2.2.2⟩, ?_, ?_⟩
        · rw [upN_ne _ _ (by omega), upN_ne _ _ (by omega)]; exact ha.2.1.2
        · intro X Q hX hQ
          obtain ⟨nx, k, ns, ni, h1, h2, h3, h4, h5, h6, h7, h8⟩ := id hX
          have e1 := h2.1.2.1
          have e2 := (h2.2.2.1 j hj).1
          simp (disch := first | omega | assumption | decide) only [e125, s125_0, s125_1, s125_2, s125_5, s125_8, s125_10, s125_11, s125_12, s125_15, s125_18, s125_21, s125_22, s125_25, s125_28, s125_29, s125_30, s125_32, s125_35, s125_37, s125_38, s125_39, s125_42, s125_43, s125_46, s125_49, s125_50, s125_53, s125_54, s125_57, s125_58, s125_59, s125_62, s125_63, s125_66, s125_69, s125_70, s125_71, s125_72, s125_73, s125_74, s125_75, s125_76, s125_79, s125_82, s125_83, s125_84, Option.toList_some, Option.toList_none, List.cons_append, List.nil_append, if_true, if_false, eq_self, n1n0, ne10, c_noGlass_in (j := j) h1.2.1 hj (by omega), e1, e2, nI_ltI, c1', c2']
          refine CI_rem hG hB hX (fun Y hY fY => ?_)
          obtain ⟨nx1, k1, ns1, ni1, g1, g2, g3, g4, g5, g6, g7, g8⟩ := id hY
          have e1 := g2.1.2.1
          have e2 := (g2.2.2.1 j hj).1
          have e2' : Y 58 j = nI (R j) := e2
          simp (disch := first | omega | assumption | decide) only [e125, s125_0, s125_1, s125_2, s125_5, s125_8, s125_10, s125_11, s125_12, s125_15, s125_18, s125_21, s125_22, s125_25, s125_28, s125_29, s125_30, s125_32, s125_35, s125_37, s125_38, s125_39, s125_42, s125_43, s125_46, s125_49, s125_50, s125_53, s125_54, s125_57, s125_58, s125_59, s125_62, s125_63, s125_66, s125_69, s125_70, s125_71, s125_72, s125_73, s125_74, s125_75, s125_76, s125_79, s125_82, s125_83, s125_84, Option.toList_some, Option.toList_none, List.cons_append, List.nil_append, if_true, if_false, eq_self, n1n0, ne10, e1, e2', pk_sub, nI_add, zst_ne, zst_at, upd_at]
          refine hQ _ (CI_R hY (fun c hc => ?_) (cS_t (X := zst Y 57 _) (cS_f g2 hG hB (by omega)) hG hj)) (fun c c1 c2 => ?_)
          · rw [zst_ne _ _ (by omega), zst_ne _ _ (by omega)]
          · rw [zst_ne _ _ (by omega), zst_ne _ _ (by omega)]; exact fY c c1 c2
        · intro X Q hX hQ
          obtain ⟨h1, h2, h3, h4, h5, h6, h7⟩ := id hX
          have e1 := at0 h2 (i := 28) (by omega)
          have e2 := at0 h2 (i := j) (by omega)
          simp (disch := first | omega | assumption | decide) only [e142, s142_0, s142_1, s142_2, s142_5, s142_8, s142_10, s142_11, s142_12, s142_15, s142_17, s142_18, s142_21, s142_22, s142_25, s142_26, s142_27, s142_29, s142_32, s142_34, s142_35, s142_36, s142_39, s142_40, s142_43, s142_45, s142_46, s142_47, s142_48, s142_49, s142_50, s142_51, s142_54, s142_55, s142_56, s142_57, s142_58, s142_59, s142_60, s142_61, s142_64, s142_65, s142_66, Option.toList_some, Option.toList_none, List.cons_append, List.nil_append, if_true, if_false, eq_self, n1n0, ne10, c_isGlass_in (j := j) h1.2.1 hj (by omega), n1n0, e1, e2, nI_eq, c1, c2]
          refine MI_rem hu hX (fun Y hY fY => ?_)
          obtain ⟨g1, g2, g3, g4, g5, g6, g7⟩ := id hY
          have e1 := at0 g2 (i := 28) (by omega)
          have e2 := at0 g2 (i := j) (by omega)
          simp (disch := first | omega | assumption | decide) only [e142, s142_0, s142_1, s142_2, s142_5, s142_8, s142_10, s142_11, s142_12, s142_15, s142_17, s142_18, s142_21, s142_22, s142_25, s142_26, s142_27, s142_29, s142_32, s142_34, s142_35, s142_36, s142_39, s142_40, s142_43, s142_45, s142_46, s142_47, s142_48, s142_49, s142_50, s142_51, s142_54, s142_55, s142_56, s142_57, s142_58, s142_59, s142_60, s142_61, s142_64, s142_65, s142_66, Option.toList_some, Option.toList_none, List.cons_append, List.nil_append, if_true, if_false, eq_self, n1n0, ne10, e1, e2, pk_sub, nI_add, zst_ne, zst_at, zst_zst, upd_at, upd_ne]
          refine hQ _ (MI_R hY (up0 (up0 g2)) (fr0 (fr0 frW.rf (by omega)) (by omega))) (fun c hc => ?_)
          rw [zst_ne _ _ (by omega)]; exact fY c hc
theorem ok_keepFrom (x : Int32) : okCall 126 143 [.int x] := by
  rintro ⟨⟨D, G, B, C, W, lim, bear⟩, R, ⟨u, Rs⟩, ⟨kb, Ri, si⟩, sd, ⟨t, tx, fa⟩, ⟨tn, tg, tr, en, eg, et⟩⟩ ha
  have hG := ha.1.2.1
  have hB := ha.1.2.2.1
  have hr := ha.2.1.1
  have hu := ha.2.2.1.1
  rcases rngm x G (by omega) with h | ⟨h, h2⟩ | ⟨j, hj, rfl, n1, n2⟩
  · refine ⟨_, -1000000001, ha, okC_ro ?_, okM_ro ?_⟩
    · rintro X Q ⟨nx, k, ns, ni, h1, -⟩
      simp (disch := first | omega | assumption | decide) only [e126, s126_0, s126_1, s126_2, s126_5, s126_8, s126_10, s126_11, s126_12, s126_15, s126_18, s126_19, s126_20, s126_23, s126_25, s126_26, s126_27, s126_30, s126_31, s126_34, s126_37, s126_38, s126_41, s126_44, s126_45, s126_46, s126_47, s126_48, s126_49, s126_50, s126_51, s126_54, s126_57, s126_58, s126_59, Option.toList_some, Option.toList_none, List.cons_append, List.nil_append, if_true, if_false, eq_self, n1n0, ne10, c_noGlass x h1.2.1, if_pos h, n1n0]
    · rintro X Q ⟨h1, -⟩
      simp (disch := first | omega | assumption | decide) only [e143, s143_0, s143_1, s143_2, s143_5, s143_8, s143_10, s143_11, s143_12, s143_15, s143_16, s143_17, s143_20, s143_22, s143_23, s143_24, s143_27, s143_28, s143_31, s143_32, s143_33, s143_34, s143_35, s143_36, s143_37, s143_38, s143_41, s143_42, s143_43, Option.toList_some, Option.toList_none, List.cons_append, List.nil_append, if_true, if_false, eq_self, n1n0, ne10, c_isGlass x h1.2.1, if_pos h]
  · refine ⟨_, -1000000001, ha, okC_ro ?_, okM_ro ?_⟩
    · rintro X Q ⟨nx, k, ns, ni, h1, -⟩
      simp (disch := first | omega | assumption | decide) only [e126, s126_0, s126_1, s126_2, s126_5, s126_8, s126_10, s126_11, s126_12, s126_15, s126_18, s126_19, s126_20, s126_23, s126_25, s126_26, s126_27, s126_30, s126_31, s126_34, s126_37, s126_38, s126_41, s126_44, s126_45, s126_46, s126_47, s126_48, s126_49, s126_50, s126_51, s126_54, s126_57, s126_58, s126_59, Option.toList_some, Option.toList_none, List.cons_append, List.nil_append, if_true, if_false, eq_self, n1n0, ne10, c_noGlass x h1.2.1, if_neg h, if_pos h2, n1n0]
    · rintro X Q ⟨h1, -⟩
      simp (disch := first | omega | assumption | decide) only [e143, s143_0, s143_1, s143_2, s143_5, s143_8, s143_10, s143_11, s143_12, s143_15, s143_16, s143_17, s143_20, s143_22, s143_23, s143_24, s143_27, s143_28, s143_31, s143_32, s143_33, s143_34, s143_35, s143_36, s143_37, s143_38, s143_41, s143_42, s143_43, Option.toList_some, Option.toList_none, List.cons_append, List.nil_append, if_true, if_false, eq_self, n1n0, ne10, c_isGlass x h1.2.1, if_neg h, if_pos h2]
  · have rj := (hr.1 j (by omega)).1
    by_cases c1 : R j = 0
    · have c1' : ¬ 0 < R j := by omega
      refine ⟨_, -1000000003, ha, okC_ro ?_, okM_ro ?_⟩
      · rintro X Q ⟨nx, k, ns, ni, h1, h2, h3, h4, h5, h6, h7, h8⟩
        have e2 : X 58 j = nI (R j) := (h2.2.2.1 j hj).1
        simp (disch := first | omega | assumption | decide) only [e126, s126_0, s126_1, s126_2, s126_5, s126_8, s126_10, s126_11, s126_12, s126_15, s126_18, s126_19, s126_20, s126_23, s126_25, s126_26, s126_27, s126_30, s126_31, s126_34, s126_37, s126_38, s126_41, s126_44, s126_45, s126_46, s126_47, s126_48, s126_49, s126_50, s126_51, s126_54, s126_57, s126_58, s126_59, Option.toList_some, Option.toList_none, List.cons_append, List.nil_append, if_true, if_false, eq_self, n1n0, ne10, c_noGlass_in (j := j) h1.2.1 hj (by omega), e2, nI_ltI, c1']
      · rintro X Q ⟨h1, h2, h3, h4, h5, h6, h7⟩
        have e2 := at0 h2 (i := j) (by omega)
        simp (disch := first | omega | assumption | decide) only [e143, s143_0, s143_1, s143_2, s143_5, s143_8, s143_10, s143_11, s143_12, s143_15, s143_16, s143_17, s143_20, s143_22, s143_23, s143_24, s143_27, s143_28, s143_31, s143_32, s143_33, s143_34, s143_35, s143_36, s143_37, s143_38, s143_41, s143_42, s143_43, Option.toList_some, Option.toList_none, List.cons_append, List.nil_append, if_true, if_false, eq_self, n1n0, ne10, c_isGlass_in (j := j) h1.2.1 hj (by omega), n1n0, e2, nI_eq, c1]
    · have c1' : 0 < R j := by omega
      refine ⟨((D, G, B, C, W, lim, bear), upN R j (R j - 1), (min 30 (u + 1), psh u Rs R), (kb, Ri, si), sd, (t, tx, fa), (tn, tg, tr, en, eg, et)), nI (R j - 1), ⟨ha.1, ⟨okR_t hr (by omega) (by omega), ?_⟩, okS_psh hu ha.2.1 ha.2.2.1.2, ha.2.2.2⟩, ?_, ?_⟩
      · rw [upN_ne _ _ (by omega)]; exact ha.2.1.2
      · intro X Q hX hQ
        obtain ⟨nx, k, ns, ni, h1, h2, h3, h4, h5, h6, h7, h8⟩ := id hX
        have e2 : X 58 j = nI (R j) := (h2.2.2.1 j hj).1
        simp (disch := first | omega | assumption | decide) only [e126, s126_0, s126_1, s126_2, s126_5, s126_8, s126_10, s126_11, s126_12, s126_15, s126_18, s126_19, s126_20, s126_23, s126_25, s126_26, s126_27, s126_30, s126_31, s126_34, s126_37, s126_38, s126_41, s126_44, s126_45, s126_46, s126_47, s126_48, s126_49, s126_50, s126_51, s126_54, s126_57, s126_58, s126_59, Option.toList_some, Option.toList_none, List.cons_append, List.nil_append, if_true, if_false, eq_self, n1n0, ne10, c_noGlass_in (j := j) h1.2.1 hj (by omega), e2, nI_ltI, c1']
        refine CI_rem hG hB hX (fun Y hY fY => ?_)
        obtain ⟨nx1, k1, ns1, ni1, g1, g2, g3, g4, g5, g6, g7, g8⟩ := id hY
        have e2' : Y 58 j = nI (R j) := (g2.2.2.1 j hj).1
        simp (disch := first | omega | assumption | decide) only [e126, s126_0, s126_1, s126_2, s126_5, s126_8, s126_10, s126_11, s126_12, s126_15, s126_18, s126_19, s126_20, s126_23, s126_25, s126_26, s126_27, s126_30, s126_31, s126_34, s126_37, s126_38, s126_41, s126_44, s126_45, s126_46, s126_47, s126_48, s126_49, s126_50, s126_51, s126_54, s126_57, s126_58, s126_59, Option.toList_some, Option.toList_none, List.cons_append, List.nil_append, if_true, if_false, eq_self, n1n0, ne10, e2', pk_sub, zst_ne, zst_at, upd_at]
        refine hQ _ (CI_R hY (frC_57 _ _ _ (by omega) (by omega)) (cS_t g2 hG hj)) (fun c c1 c2 => ?_)
        rw [zst_ne _ _ (by omega)]; exact fY c c1 c2
      · intro X Q hX hQ
        obtain ⟨h1, h2, h3, h4, h5, h6, h7⟩ := id hX
        have e2 := at0 h2 (i := j) (by omega)
        simp (disch := first | omega | assumption | decide) only [e143, s143_0, s143_1, s143_2, s143_5, s143_8, s143_10, s143_11, s143_12, s143_15, s143_16, s143_17, s143_20, s143_22, s143_23, s143_24, s143_27, s143_28, s143_31, s143_32, s143_33, s143_34, s143_35, s143_36, s143_37, s143_38, s143_41, s143_42, s143_43, Option.toList_some, Option.toList_none, List.cons_append, List.nil_append, if_true, if_false, eq_self, n1n0, ne10, c_isGlass_in (j := j) h1.2.1 hj (by omega), n1n0, e2, nI_eq, c1]
        refine MI_rem hu hX (fun Y hY fY => ?_)
        obtain ⟨g1, g2, g3, g4, g5, g6, g7⟩ := id hY
        have e2 := at0 g2 (i := j) (by omega)
        simp (disch := first | omega | assumption | decide) only [e143, s143_0, s143_1, s143_2, s143_5, s143_8, s143_10, s143_11, s143_12, s143_15, s143_16, s143_17, s143_20, s143_22, s143_23, s143_24, s143_27, s143_28, s143_31, s143_32, s143_33, s143_34, s143_35, s143_36, s143_37, s143_38, s143_41, s143_42, s143_43, Option.toList_some, Option.toList_none, List.cons_append, List.nil_append, if_true, if_false, eq_self, n1n0, ne10, e2, pk_sub, zst_ne, zst_at, zst_zst, upd_at, upd_ne]
        refine hQ _ (MI_R hY (up0 g2) (fr0 frW.rf (by omega))) (fun c hc => ?_)
        rw [zst_ne _ _ (by omega)]; exact fY c hc
theorem ok_glad (x y : Int32) : okCall 127 167 [.int x, .int y] := by
  rintro ⟨⟨D, G, B, C, W, lim, bear⟩, R, ⟨u, Rs⟩, ⟨kb, Ri, si⟩, sd, ⟨t, tx, fa⟩, ⟨tn, tg, tr, en, eg, et⟩⟩ ha
  have hG := ha.1.2.1
  have hB := ha.1.2.2.1
  have hr := ha.2.1.1
  have hu := ha.2.2.1.1
  rcases rngm x G (by omega) with h | ⟨h, h2⟩ | ⟨j, hj, rfl, n1, n2⟩
  · refine ⟨_, -1000000001, ha, okC_ro ?_, okM_ro ?_⟩
    · rintro X Q ⟨nx, k, ns, ni, h1, -⟩
      simp (disch := first | omega | assumption | decide) only [e127, s127_0, s127_1, s127_2, s127_5, s127_8, s127_10, s127_11, s127_12, s127_13, s127_15, s127_18, s127_21, s127_23, s127_24, s127_25, s127_28, s127_29, s127_32, s127_35, s127_36, s127_39, s127_42, s127_43, s127_44, s127_45, s127_46, s127_49, s127_52, s127_53, s127_54, s127_55, s127_56, Option.toList_some, Option.toList_none, List.cons_append, List.nil_append, if_true, if_false, eq_self, n1n0, ne10, c_noGlass x h1.2.1, if_pos h, n1n0]
    · rintro X Q ⟨h1, -⟩
      simp (disch := first | omega | assumption | decide) only [e167, s167_0, s167_1, s167_2, s167_5, s167_8, s167_10, s167_11, s167_12, s167_13, s167_14, s167_17, s167_20, s167_23, s167_24, s167_26, s167_27, s167_28, s167_29, s167_32, s167_35, s167_37, Option.toList_some, Option.toList_none, List.cons_append, List.nil_append, if_true, if_false, eq_self, n1n0, ne10, c_isGlass x h1.2.1, if_pos h]
  · refine ⟨_, -1000000001, ha, okC_ro ?_, okM_ro ?_⟩
    · rintro X Q ⟨nx, k, ns, ni, h1, -⟩
      simp (disch := first | omega | assumption | decide) only [e127, s127_0, s127_1, s127_2, s127_5, s127_8, s127_10, s127_11, s127_12, s127_13, s127_15, s127_18, s127_21, s127_23, s127_24, s127_25, s127_28, s127_29, s127_32, s127_35, s127_36, s127_39, s127_42, s127_43, s127_44, s127_45, s127_46, s127_49, s127_52, s127_53, s127_54, s127_55, s127_56, Option.toList_some, Option.toList_none, List.cons_append, List.nil_append, if_true, if_false, eq_self, n1n0, ne10, c_noGlass x h1.2.1, if_neg h, if_pos h2, n1n0]
    · rintro X Q ⟨h1, -⟩
      simp (disch := first | omega | assumption | decide) only [e167, s167_0, s167_1, s167_2, s167_5, s167_8, s167_10, s167_11, s167_12, s167_13, s167_14, s167_17, s167_20, s167_23, s167_24, s167_26, s167_27, s167_28, s167_29, s167_32, s167_35, s167_37, Option.toList_some, Option.toList_none, List.cons_append, List.nil_append, if_true, if_false, eq_self, n1n0, ne10, c_isGlass x h1.2.1, if_neg h, if_pos h2]
  · rcases rng y 0 60 (by decide) (by decide) with h | ⟨h, h2⟩ | ⟨m, -, hm, rfl⟩
    · refine ⟨_, -1000000002, ha, okC_ro ?_, okM_ro ?_⟩
      · rintro X Q ⟨nx, k, ns, ni, h1, h2, h3, h4, h5, h6, h7, h8⟩
        simp (disch := first | omega | assumption | decide) only [e127, s127_0, s127_1, s127_2, s127_5, s127_8, s127_10, s127_11, s127_12, s127_13, s127_15, s127_18, s127_21, s127_23, s127_24, s127_25, s127_28, s127_29, s127_32, s127_35, s127_36, s127_39, s127_42, s127_43, s127_44, s127_45, s127_46, s127_49, s127_52, s127_53, s127_54, s127_55, s127_56, Option.toList_some, Option.toList_none, List.cons_append, List.nil_append, if_true, if_false, eq_self, n1n0, ne10, c_noGlass_in (j := j) h1.2.1 hj (by omega), c_isOut, if_pos h, n1n0]
      · rintro X Q ⟨h1, h2, h3, h4, h5, h6, h7⟩
        simp (disch := first | omega | assumption | decide) only [e167, s167_0, s167_1, s167_2, s167_5, s167_8, s167_10, s167_11, s167_12, s167_13, s167_14, s167_17, s167_20, s167_23, s167_24, s167_26, s167_27, s167_28, s167_29, s167_32, s167_35, s167_37, Option.toList_some, Option.toList_none, List.cons_append, List.nil_append, if_true, if_false, eq_self, n1n0, ne10, c_isGlass_in (j := j) h1.2.1 hj (by omega), n1n0, li_0, li_1, li_255, li_48, li_57, li_60, li_30, li_9, li_10, li_12, li_2, li_100, c_in, if_pos h]
    · refine ⟨_, -1000000002, ha, okC_ro ?_, okM_ro ?_⟩
      · rintro X Q ⟨nx, k, ns, ni, h1, -⟩
        simp (disch := first | omega | assumption | decide) only [e127, s127_0, s127_1, s127_2, s127_5, s127_8, s127_10, s127_11, s127_12, s127_13, s127_15, s127_18, s127_21, s127_23, s127_24, s127_25, s127_28, s127_29, s127_32, s127_35, s127_36, s127_39, s127_42, s127_43, s127_44, s127_45, s127_46, s127_49, s127_52, s127_53, s127_54, s127_55, s127_56, Option.toList_some, Option.toList_none, List.cons_append, List.nil_append, if_true, if_false, eq_self, n1n0, ne10, c_noGlass_in (j := j) h1.2.1 hj (by omega), c_isOut, if_neg h, if_pos h2, n1n0]
      · rintro X Q ⟨h1, -⟩
        simp (disch := first | omega | assumption | decide) only [e167, s167_0, s167_1, s167_2, s167_5, s167_8, s167_10, s167_11, s167_12, s167_13, s167_14, s167_17, s167_20, s167_23, s167_24, s167_26, s167_27, s167_28, s167_29, s167_32, s167_35, s167_37, Option.toList_some, Option.toList_none, List.cons_append, List.nil_append, if_true, if_false, eq_self, n1n0, ne10, c_isGlass_in (j := j) h1.2.1 hj (by omega), n1n0, li_0, li_1, li_255, li_48, li_57, li_60, li_30, li_9, li_10, li_12, li_2, li_100, c_in, if_neg h, if_pos h2]
    · have m1 : ¬ nI m < nI 0 := nI_pos (by omega)
      have m2 : ¬ nI 60 < nI m := fun q => absurd ((nI_ltI (by omega) (by omega)).mp q) (by omega)
      refine ⟨((D, G, B, C, W, lim, bear), upN R (14 + j) m, (min 30 (u + 1), psh u Rs R), (kb, Ri, si), sd, (t, tx, fa), (tn, tg, tr, en, eg, et)), nI (R (14 + j)), ⟨ha.1, ⟨okR_g hr (by omega) hm, ?_⟩, okS_psh hu ha.2.1 ha.2.2.1.2, ha.2.2.2⟩, ?_, ?_⟩
      · rw [upN_ne _ _ (by omega)]; exact ha.2.1.2
      · intro X Q hX hQ
        obtain ⟨nx, k, ns, ni, h1, h2, h3, h4, h5, h6, h7, h8⟩ := id hX
        simp (disch := first | omega | assumption | decide) only [e127, s127_0, s127_1, s127_2, s127_5, s127_8, s127_10, s127_11, s127_12, s127_13, s127_15, s127_18, s127_21, s127_23, s127_24, s127_25, s127_28, s127_29, s127_32, s127_35, s127_36, s127_39, s127_42, s127_43, s127_44, s127_45, s127_46, s127_49, s127_52, s127_53, s127_54, s127_55, s127_56, Option.toList_some, Option.toList_none, List.cons_append, List.nil_append, if_true, if_false, eq_self, n1n0, ne10, c_noGlass_in (j := j) h1.2.1 hj (by omega), c_isOut, if_neg m1, if_neg m2]
        refine CI_rem hG hB hX (fun Y hY fY => ?_)
        obtain ⟨nx1, k1, ns1, ni1, g1, g2, g3, g4, g5, g6, g7, g8⟩ := id hY
        have e2' : Y 60 j = nI (R (14 + j)) := (g2.2.2.1 j hj).2.2
        simp (disch := first | omega | assumption | decide) only [e127, s127_0, s127_1, s127_2, s127_5, s127_8, s127_10, s127_11, s127_12, s127_13, s127_15, s127_18, s127_21, s127_23, s127_24, s127_25, s127_28, s127_29, s127_32, s127_35, s127_36, s127_39, s127_42, s127_43, s127_44, s127_45, s127_46, s127_49, s127_52, s127_53, s127_54, s127_55, s127_56, Option.toList_some, Option.toList_none, List.cons_append, List.nil_append, if_true, if_false, eq_self, n1n0, ne10, e2', zst_ne, zst_at, upd_at]
        refine hQ _ (CI_R hY (frC_57 _ _ _ (by omega) (by omega)) (cS_g g2 hG hj)) (fun c c1 c2 => ?_)
        rw [zst_ne _ _ (by omega)]; exact fY c c1 c2
      · intro X Q hX hQ
        obtain ⟨h1, h2, h3, h4, h5, h6, h7⟩ := id hX
        simp (disch := first | omega | assumption | decide) only [e167, s167_0, s167_1, s167_2, s167_5, s167_8, s167_10, s167_11, s167_12, s167_13, s167_14, s167_17, s167_20, s167_23, s167_24, s167_26, s167_27, s167_28, s167_29, s167_32, s167_35, s167_37, e144, s144_0, s144_1, s144_4, s144_5, s144_8, s144_9, s144_10, s144_11, s144_12, s144_15, s144_16, s144_17, s144_18, s144_19, Option.toList_some, Option.toList_none, List.cons_append, List.nil_append, if_true, if_false, eq_self, n1n0, ne10, c_isGlass_in (j := j) h1.2.1 hj (by omega), n1n0, li_0, li_1, li_255, li_48, li_57, li_60, li_30, li_9, li_10, li_12, li_2, li_100, c_in, if_neg m1, if_neg m2, nI_add]
        refine MI_rem hu hX (fun Y hY fY => ?_)
        obtain ⟨g1, g2, g3, g4, g5, g6, g7⟩ := id hY
        have e2 := at0 g2 (i := 14 + j) (by omega)
        simp (disch := first | omega | assumption | decide) only [e167, s167_0, s167_1, s167_2, s167_5, s167_8, s167_10, s167_11, s167_12, s167_13, s167_14, s167_17, s167_20, s167_23, s167_24, s167_26, s167_27, s167_28, s167_29, s167_32, s167_35, s167_37, e144, s144_0, s144_1, s144_4, s144_5, s144_8, s144_9, s144_10, s144_11, s144_12, s144_15, s144_16, s144_17, s144_18, s144_19, Option.toList_some, Option.toList_none, List.cons_append, List.nil_append, if_true, if_false, eq_self, n1n0, ne10, e2, zst_ne, zst_at, zst_zst, upd_at, upd_ne]
        refine hQ _ (MI_R hY (up0 g2) (fr0 frW.rf (by omega))) (fun c hc => ?_)
        rw [zst_ne _ _ (by omega)]; exact fY c hc
theorem ok_weigh (x y : Int32) : okCall 128 168 [.int x, .int y] := by
  rintro ⟨⟨D, G, B, C, W, lim, bear⟩, R, ⟨u, Rs⟩, ⟨kb, Ri, si⟩, sd, ⟨t, tx, fa⟩, ⟨tn, tg, tr, en, eg, et⟩⟩ ha
  have hG := ha.1.2.1
  have hB := ha.1.2.2.1
  have hr := ha.2.1.1
  have hu := ha.2.2.1.1
  rcases rngm x G (by omega) with h | ⟨h, h2⟩ | ⟨j, hj, rfl, n1, n2⟩
  · refine ⟨_, -1000000001, ha, okC_ro ?_, okM_ro ?_⟩
    · rintro X Q ⟨nx, k, ns, ni, h1, -⟩
      simp (disch := first | omega | assumption | decide) only [e128, s128_0, s128_1, s128_2, s128_5, s128_8, s128_10, s128_11, s128_12, s128_13, s128_15, s128_18, s128_21, s128_23, s128_24, s128_25, s128_28, s128_29, s128_32, s128_35, s128_36, s128_39, s128_42, s128_43, s128_44, s128_45, s128_46, s128_49, s128_52, s128_53, s128_54, s128_55, s128_56, Option.toList_some, Option.toList_none, List.cons_append, List.nil_append, if_true, if_false, eq_self, n1n0, ne10, c_noGlass x h1.2.1, if_pos h, n1n0]
    · rintro X Q ⟨h1, -⟩
      simp (disch := first | omega | assumption | decide) only [e168, s168_0, s168_1, s168_2, s168_5, s168_8, s168_10, s168_11, s168_12, s168_13, s168_14, s168_17, s168_20, s168_23, s168_24, s168_26, s168_27, s168_28, s168_29, s168_32, s168_35, s168_37, Option.toList_some, Option.toList_none, List.cons_append, List.nil_append, if_true, if_false, eq_self, n1n0, ne10, c_isGlass x h1.2.1, if_pos h]
  · refine ⟨_, -1000000001, ha, okC_ro ?_, okM_ro ?_⟩
    · rintro X Q ⟨nx, k, ns, ni, h1, -⟩
      simp (disch := first | omega | assumption | decide) only [e128, s128_0, s128_1, s128_2, s128_5, s128_8, s128_10, s128_11, s128_12, s128_13, s128_15, s128_18, s128_21, s128_23, s128_24, s128_25, s128_28, s128_29, s128_32, s128_35, s128_36, s128_39, s128_42, s128_43, s128_44, s128_45, s128_46, s128_49, s128_52, s128_53, s128_54, s128_55, s128_56, Option.toList_some, Option.toList_none, List.cons_append, List.nil_append, if_true, if_false, eq_self, n1n0, ne10, c_noGlass x h1.2.1, if_neg h, if_pos h2, n1n0]
    · rintro X Q ⟨h1, -⟩
      simp (disch := first | omega | assumption | decide) only [e168, s168_0, s168_1, s168_2, s168_5, s168_8, s168_10, s168_11, s168_12, s168_13, s168_14, s168_17, s168_20, s168_23, s168_24, s168_26, s168_27, s168_28, s168_29, s168_32, s168_35, s168_37, Option.toList_some, Option.toList_none, List.cons_append, List.nil_append, if_true, if_false, eq_self, n1n0, ne10, c_isGlass x h1.2.1, if_neg h, if_pos h2]
  · rcases rng y 0 9 (by decide) (by decide) with h | ⟨h, h2⟩ | ⟨m, -, hm, rfl⟩
    · refine ⟨_, -1000000002, ha, okC_ro ?_, okM_ro ?_⟩
      · rintro X Q ⟨nx, k, ns, ni, h1, h2, h3, h4, h5, h6, h7, h8⟩
        simp (disch := first | omega | assumption | decide) only [e128, s128_0, s128_1, s128_2, s128_5, s128_8, s128_10, s128_11, s128_12, s128_13, s128_15, s128_18, s128_21, s128_23, s128_24, s128_25, s128_28, s128_29, s128_32, s128_35, s128_36, s128_39, s128_42, s128_43, s128_44, s128_45, s128_46, s128_49, s128_52, s128_53, s128_54, s128_55, s128_56, Option.toList_some, Option.toList_none, List.cons_append, List.nil_append, if_true, if_false, eq_self, n1n0, ne10, c_noGlass_in (j := j) h1.2.1 hj (by omega), c_isOut, if_pos h, n1n0]
      · rintro X Q ⟨h1, h2, h3, h4, h5, h6, h7⟩
        simp (disch := first | omega | assumption | decide) only [e168, s168_0, s168_1, s168_2, s168_5, s168_8, s168_10, s168_11, s168_12, s168_13, s168_14, s168_17, s168_20, s168_23, s168_24, s168_26, s168_27, s168_28, s168_29, s168_32, s168_35, s168_37, Option.toList_some, Option.toList_none, List.cons_append, List.nil_append, if_true, if_false, eq_self, n1n0, ne10, c_isGlass_in (j := j) h1.2.1 hj (by omega), n1n0, li_0, li_1, li_255, li_48, li_57, li_60, li_30, li_9, li_10, li_12, li_2, li_100, c_in, if_pos h]
    · refine ⟨_, -1000000002, ha, okC_ro ?_, okM_ro ?_⟩
      · rintro X Q ⟨nx, k, ns, ni, h1, -⟩
        simp (disch := first | omega | assumption | decide) only [e128, s128_0, s128_1, s128_2, s128_5, s128_8, s128_10, s128_11, s128_12, s128_13, s128_15, s128_18, s128_21, s128_23, s128_24, s128_25, s128_28, s128_29, s128_32, s128_35, s128_36, s128_39, s128_42, s128_43, s128_44, s128_45, s128_46, s128_49, s128_52, s128_53, s128_54, s128_55, s128_56, Option.toList_some, Option.toList_none, List.cons_append, List.nil_append, if_true, if_false, eq_self, n1n0, ne10, c_noGlass_in (j := j) h1.2.1 hj (by omega), c_isOut, if_neg h, if_pos h2, n1n0]
      · rintro X Q ⟨h1, -⟩
        simp (disch := first | omega | assumption | decide) only [e168, s168_0, s168_1, s168_2, s168_5, s168_8, s168_10, s168_11, s168_12, s168_13, s168_14, s168_17, s168_20, s168_23, s168_24, s168_26, s168_27, s168_28, s168_29, s168_32, s168_35, s168_37, Option.toList_some, Option.toList_none, List.cons_append, List.nil_append, if_true, if_false, eq_self, n1n0, ne10, c_isGlass_in (j := j) h1.2.1 hj (by omega), n1n0, li_0, li_1, li_255, li_48, li_57, li_60, li_30, li_9, li_10, li_12, li_2, li_100, c_in, if_neg h, if_pos h2]
    · have m1 : ¬ nI m < nI 0 := nI_pos (by omega)
      have m2 : ¬ nI 9 < nI m := fun q => absurd ((nI_ltI (by omega) (by omega)).mp q) (by omega)
      refine ⟨((D, G, B, C, W, lim, bear), upN R (7 + j) m, (min 30 (u + 1), psh u Rs R), (kb, Ri, si), sd, (t, tx, fa), (tn, tg, tr, en, eg, et)), nI (R (7 + j)), ⟨ha.1, ⟨okR_w hr (by omega) hm, ?_⟩, okS_psh hu ha.2.1 ha.2.2.1.2, ha.2.2.2⟩, ?_, ?_⟩
      · rw [upN_ne _ _ (by omega)]; exact ha.2.1.2
      · intro X Q hX hQ
        obtain ⟨nx, k, ns, ni, h1, h2, h3, h4, h5, h6, h7, h8⟩ := id hX
        simp (disch := first | omega | assumption | decide) only [e128, s128_0, s128_1, s128_2, s128_5, s128_8, s128_10, s128_11, s128_12, s128_13, s128_15, s128_18, s128_21, s128_23, s128_24, s128_25, s128_28, s128_29, s128_32, s128_35, s128_36, s128_39, s128_42, s128_43, s128_44, s128_45, s128_46, s128_49, s128_52, s128_53, s128_54, s128_55, s128_56, Option.toList_some, Option.toList_none, List.cons_append, List.nil_append, if_true, if_false, eq_self, n1n0, ne10, c_noGlass_in (j := j) h1.2.1 hj (by omega), c_isOut, if_neg m1, if_neg m2]
        refine CI_rem hG hB hX (fun Y hY fY => ?_)
        obtain ⟨nx1, k1, ns1, ni1, g1, g2, g3, g4, g5, g6, g7, g8⟩ := id hY
        have e2' : Y 59 j = nI (R (7 + j)) := (g2.2.2.1 j hj).2.1
        simp (disch := first | omega | assumption | decide) only [e128, s128_0, s128_1, s128_2, s128_5, s128_8, s128_10, s128_11, s128_12, s128_13, s128_15, s128_18, s128_21, s128_23, s128_24, s128_25, s128_28, s128_29, s128_32, s128_35, s128_36, s128_39, s128_42, s128_43, s128_44, s128_45, s128_46, s128_49, s128_52, s128_53, s128_54, s128_55, s128_56, Option.toList_some, Option.toList_none, List.cons_append, List.nil_append, if_true, if_false, eq_self, n1n0, ne10, e2', zst_ne, zst_at, upd_at]
        refine hQ _ (CI_R hY (frC_57 _ _ _ (by omega) (by omega)) (cS_w g2 hG hj)) (fun c c1 c2 => ?_)
        rw [zst_ne _ _ (by omega)]; exact fY c c1 c2
      · intro X Q hX hQ
        obtain ⟨h1, h2, h3, h4, h5, h6, h7⟩ := id hX
        simp (disch := first | omega | assumption | decide) only [e168, s168_0, s168_1, s168_2, s168_5, s168_8, s168_10, s168_11, s168_12, s168_13, s168_14, s168_17, s168_20, s168_23, s168_24, s168_26, s168_27, s168_28, s168_29, s168_32, s168_35, s168_37, e144, s144_0, s144_1, s144_4, s144_5, s144_8, s144_9, s144_10, s144_11, s144_12, s144_15, s144_16, s144_17, s144_18, s144_19, Option.toList_some, Option.toList_none, List.cons_append, List.nil_append, if_true, if_false, eq_self, n1n0, ne10, c_isGlass_in (j := j) h1.2.1 hj (by omega), n1n0, li_0, li_1, li_255, li_48, li_57, li_60, li_30, li_9, li_10, li_12, li_2, li_100, c_in, if_neg m1, if_neg m2, nI_add]
        refine MI_rem hu hX (fun Y hY fY => ?_)
        obtain ⟨g1, g2, g3, g4, g5, g6, g7⟩ := id hY
        have e2 := at0 g2 (i := 7 + j) (by omega)
        simp (disch := first | omega | assumption | decide) only [e168, s168_0, s168_1, s168_2, s168_5, s168_8, s168_10, s168_11, s168_12, s168_13, s168_14, s168_17, s168_20, s168_23, s168_24, s168_26, s168_27, s168_28, s168_29, s168_32, s168_35, s168_37, e144, s144_0, s144_1, s144_4, s144_5, s144_8, s144_9, s144_10, s144_11, s144_12, s144_15, s144_16, s144_17, s144_18, s144_19, Option.toList_some, Option.toList_none, List.cons_append, List.nil_append, if_true, if_false, eq_self, n1n0, ne10, e2, zst_ne, zst_at, zst_zst, upd_at, upd_ne]
        refine hQ _ (MI_R hY (up0 g2) (fr0 frW.rf (by omega))) (fun c hc => ?_)
        rw [zst_ne _ _ (by omega)]; exact fY c hc
