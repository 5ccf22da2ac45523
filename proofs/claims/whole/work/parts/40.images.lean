/-! keep, goBack, tap, write, tear, judge -/
theorem bt4 {kb : Nat} (h : kb < 4) {i : Nat} (hi : i < 2) : kb ||| 2 ^ i < 4 := by
  have : kb ||| 2 ^ i < 2 ^ 2 := Nat.or_lt_two_pow h (Nat.pow_lt_pow_right (by decide) hi)
  exact this
theorem ok_keep (x : Int32) : okCall 136 108 [.int x] := by
  rintro ⟨⟨D, G, B, C, W, lim, bear⟩, R, ⟨u, Rs⟩, ⟨kb, Ri, si⟩, sd, ⟨t, tx, fa⟩, ⟨tn, tg, tr, en, eg, et⟩⟩ ha
  have hG := ha.1.2.1
  have hB := ha.1.2.2.1
  have hkb := ha.2.2.2.1.1
  rcases rng x 0 1 (by decide) (by decide) with h | ⟨h, h2⟩ | ⟨j, -, hj, rfl⟩
  · refine ⟨_, -1000000001, ha, okC_ro ?_, okM_ro ?_⟩
    · intro X Q _
      simp (disch := first | omega | assumption | decide) only [e136, s136_0, s136_1, s136_2, s136_3, s136_6, s136_9, s136_11, s136_12, s136_13, s136_16, s136_17, s136_18, s136_21, s136_22, s136_25, s136_28, s136_29, s136_32, s136_35, s136_36, Option.toList_some, Option.toList_none, List.cons_append, List.nil_append, if_true, if_false, eq_self, n1n0, ne10, c_isOut, if_pos h]
    · intro X Q _
      simp (disch := first | omega | assumption | decide) only [e108, s108_0, s108_1, s108_2, s108_3, s108_4, s108_7, s108_10, s108_12, s108_13, s108_14, s108_15, s108_18, s108_20, s108_21, s108_22, s108_23, s108_26, s108_27, s108_30, s108_31, s108_32, s108_33, s108_34, s108_35, s108_38, s108_39, Option.toList_some, Option.toList_none, List.cons_append, List.nil_append, if_true, if_false, eq_self, n1n0, ne10, li_0, li_1, li_255, li_48, li_57, li_60, li_30, li_9, li_10, li_12, li_2, li_100, c_in, if_pos h]
  · refine ⟨_, -1000000001, ha, okC_ro ?_, okM_ro ?_⟩
    · intro X Q _
      simp (disch := first | omega | assumption | decide) only [e136, s136_0, s136_1, s136_2, s136_3, s136_6, s136_9, s136_11, s136_12, s136_13, s136_16, s136_17, s136_18, s136_21, s136_22, s136_25, s136_28, s136_29, s136_32, s136_35, s136_36, Option.toList_some, Option.toList_none, List.cons_append, List.nil_append, if_true, if_false, eq_self, n1n0, ne10, c_isOut, if_neg h, if_pos h2]
    · intro X Q _
      simp (disch := first | omega | assumption | decide) only [e108, s108_0, s108_1, s108_2, s108_3, s108_4, s108_7, s108_10, s108_12, s108_13, s108_14, s108_15, s108_18, s108_20, s108_21, s108_22, s108_23, s108_26, s108_27, s108_30, s108_31, s108_32, s108_33, s108_34, s108_35, s108_38, s108_39, Option.toList_some, Option.toList_none, List.cons_append, List.nil_append, if_true, if_false, eq_self, n1n0, ne10, li_0, li_1, li_255, li_48, li_57, li_60, li_30, li_9, li_10, li_12, li_2, li_100, c_in, if_neg h, if_pos h2]
  · have hio := fun X Q => c_isOut_in (X := X) (Q := Q) (j := j) (lo := 0) (hi := 1) (Nat.zero_le j) hj (by decide)
    have hii := fun X Q => c_in_in (X := X) (Q := Q) (j := j) (lo := 0) (hi := 1) (Nat.zero_le j) hj (by decide)
    have hj2 : j < 2 := by omega
    have hkd := zkd_305 hj2
    refine ⟨((D, G, B, C, W, lim, bear), R, (0, Rs), (kb ||| 2 ^ j, upF Ri j R, upF si j sd), sd, (t, tx, fa), (tn, tg, tr, en, eg, et)), nI 1, ⟨ha.1, ha.2.1, ⟨by omega, fun i hi => absurd hi (by omega)⟩, ⟨bt4 hkb hj2, fun i hi hb => ?_⟩, ha.2.2.2.2⟩, ?_, ?_⟩
    · by_cases hij : i = j
      · subst hij
        rw [upF_at, upF_at]
        exact ⟨ha.2.1, ha.2.2.2.2.1⟩
      · rw [bt_or2, if_neg hij] at hb
        rw [upF_ne _ _ hij, upF_ne _ _ hij]
        exact ha.2.2.2.1.2 i hi hb
    · intro X Q hX hQ
      obtain ⟨nx, k, ns, ni, h1, h2, h3, h4, h5, h6, h7, h8⟩ := id hX
      simp (disch := first | omega | assumption) only [e136, s136_0, s136_1, s136_2, s136_3, s136_6, s136_9, s136_11, s136_12, s136_13, s136_16, s136_17, s136_18, s136_21, s136_22, s136_25, s136_28, s136_29, s136_32, s136_35, s136_36, e64, s64_0, s64_1, s64_4, s64_5, s64_6, s64_7, s64_10, s64_11, s64_14, s64_15, s64_16, s64_17, s64_18, s64_19, s64_22, s64_23, s64_24, s64_25, s64_26, s64_29, Option.toList_some, Option.toList_none, List.cons_append, List.nil_append, if_true, if_false, eq_self, n1n0, ne10, hio, h5]
      refine c_copyFrom hkd rfl (by omega) (fun Y fY hE => ?_)
      have hS := cS_eq hG hB h2 hE
      have y36 : Y 36 2 = nI kb := by rw [fY 36 (by omega)]; exact h4.1
      simp (disch := first | omega | assumption) only [e136, s136_0, s136_1, s136_2, s136_3, s136_6, s136_9, s136_11, s136_12, s136_13, s136_16, s136_17, s136_18, s136_21, s136_22, s136_25, s136_28, s136_29, s136_32, s136_35, s136_36, e64, s64_0, s64_1, s64_4, s64_5, s64_6, s64_7, s64_10, s64_11, s64_14, s64_15, s64_16, s64_17, s64_18, s64_19, s64_22, s64_23, s64_24, s64_25, s64_26, s64_29, e6, s6_0, s6_1, s6_2, s6_5, Option.toList_some, Option.toList_none, List.cons_append, List.nil_append, if_true, if_false, eq_self, n1n0, ne10, zst_ne, zst_at, y36, shl_nI, or_nI]
      generalize hZ : zst (zst (zst Y 38 _) 36 _) 34 _ = Z
      have zc : ∀ c, c ≠ 34 → c ≠ 36 → c ≠ 38 → (c < 305 + 8 * j ∨ 305 + 8 * j + 8 ≤ c) → Z c = X c := fun c c1 c2 c3 c4 => by
        rw [← hZ, zst_ne _ _ c1, zst_ne _ _ c2, zst_ne _ _ c3, fY c c4]
      have z34 : Z 34 1 = nI 0 ∧ Z 34 2 = nI k := by
        rw [← hZ]
        refine ⟨by rw [zst_at, upd_at], ?_⟩
        rw [zst_at, upd_ne _ _ (by decide), fY 34 (by omega)]
        exact h3.2.1
      have z36 : Z 36 2 = nI (kb ||| 2 ^ j) := by
        rw [← hZ, zst_ne _ _ (by decide), zst_at, upd_at]
      have z38 : ∀ i, i < 2 → Z 38 i = if i = j then nI sd else X 38 i := by
        intro i hi
        rw [← hZ, zst_ne _ _ (by decide), zst_ne _ _ (by decide), zst_at]
        by_cases hij : i = j
        · subst hij
          rw [upd_at, if_pos rfl]
        · rw [upd_ne _ _ hij, if_neg hij, fY 38 (by omega)]
      refine hQ Z (CI_sd (k1 := k) (ns1 := ns) (ni1 := upF ni j nx) hX (fun c c0 c34 c36 c38 c57 => zc c c34 c36 c38 (by omega)) (cS_fr h2 (fun c c1 c2 => zc c (by omega) (by omega) (by omega) (by omega))) ⟨z34.1, z34.2, h3.2.2.1, by omega, fun i hi => absurd hi (by omega)⟩ ⟨z36, fun i hi hb => ?_⟩ (by rw [zc 0 (by omega) (by omega) (by omega) (by omega)]; exact h5)) (fun c c1 c2 => zc c (by omega) (by omega) (by omega) (by omega))
      by_cases hij : i = j
      · subst hij
        rw [upF_at, upF_at, upF_at]
        refine ⟨cS_fr hS (fun c c1 c2 => by rw [← hZ, zst_ne _ _ (by omega), zst_ne _ _ (by omega), zst_ne _ _ (by omega)]), ?_⟩
        rw [z38 i hi, if_pos rfl]
      · rw [bt_or2, if_neg hij] at hb
        rw [upF_ne _ _ hij, upF_ne _ _ hij, upF_ne _ _ hij]
        refine ⟨cS_fr (h4.2 i hi hb).1 (fun c c1 c2 => zc c (by omega) (by omega) (by omega) (by omega)), ?_⟩
        rw [z38 i hi, if_neg hij]
        exact (h4.2 i hi hb).2
    · intro X Q hX hQ
      obtain ⟨h1, h2, h3, h4, h5, h6, h7⟩ := id hX
      have hcp := fun Q => c_copy (X := X) (Q := Q) (x := 0) (y := 184 + 92 * j) (by omega) (by omega) (by omega)
      have hx1 : nI 1 = nI 0 ∨ nI 1 = nI 1 := Or.inr rfl
      simp (disch := first | omega | assumption) only [e108, s108_0, s108_1, s108_2, s108_3, s108_4, s108_7, s108_10, s108_12, s108_13, s108_14, s108_15, s108_18, s108_20, s108_21, s108_22, s108_23, s108_26, s108_27, s108_30, s108_31, s108_32, s108_33, s108_34, s108_35, s108_38, s108_39, Option.toList_some, Option.toList_none, List.cons_append, List.nil_append, if_true, if_false, eq_self, n1n0, ne10, li_0, li_1, hii, nI_add, pk_mul, hcp, zst_ne]
      refine hQ _ ⟨⟨?_, ?_, ?_, ?_, ?_, ?_⟩, fun i hi => ?_, ⟨?_, fun i hi => absurd hi (by omega)⟩, ⟨fun i hi => ?_, fun i hi hb => ⟨fun c hc => ?_, ?_⟩⟩, ?_, ⟨?_, ?_, ?_⟩, ⟨?_, ?_, ?_⟩⟩ (fun c hc => by rw [zst_ne _ _ (by omega), zst_ne _ _ (by omega), zst_ne _ _ (by omega)])
      · rw [zst_at, upd_ne _ _ (by decide)]; exact h1.1
      · rw [zst_at, upd_ne _ _ (by decide)]; exact h1.2.1
      · rw [zst_at, upd_ne _ _ (by decide)]; exact h1.2.2.1
      · rw [zst_at, upd_ne _ _ (by decide)]; exact h1.2.2.2.1
      · exact h1.2.2.2.2.1
      · exact h1.2.2.2.2.2
      · simp (disch := omega) only [zst_ne, zst_at]
        unfold va_cpy
        rw [if_neg (by omega)]
        exact h2 i hi
      · rw [zst_at, upd_at]
      · simp (disch := omega) only [zst_ne, zst_at]
        by_cases hij : i = j
        · subst hij
          rw [upd_at, bt_or2, if_pos rfl]
        · rw [upd_ne _ _ hij, bt_or2, if_neg hij]
          exact h4.1 i hi
      · simp (disch := omega) only [zst_ne, zst_at]
        unfold va_cpy
        by_cases hij : i = j
        · subst hij
          rw [upF_at, if_pos (by omega)]
          have := h2 c hc
          rwa [show 0 + (184 + 92 * i + c - (184 + 92 * i)) = 0 + c by omega]
        · rw [upF_ne _ _ hij, if_neg (by omega)]
          rw [bt_or2, if_neg hij] at hb
          exact (h4.2 i hi hb).1 c hc
      · simp (disch := omega) only [zst_ne, zst_at]
        unfold va_cpy
        by_cases hij : i = j
        · subst hij
          rw [upF_at, if_pos (by omega), show 0 + (184 + 92 * i + 91 - (184 + 92 * i)) = 91 by omega]
          exact h5
        · rw [upF_ne _ _ hij, if_neg (by omega)]
          rw [bt_or2, if_neg hij] at hb
          exact (h4.2 i hi hb).2
      · simp (disch := omega) only [zst_ne, zst_at]
        unfold va_cpy
        rw [if_neg (by omega)]
        exact h5
      · rw [zst_at, upd_ne _ _ (by decide)]; exact h6.1
      · rw [zst_at, upd_ne _ _ (by decide)]; exact h6.2.1
      · exact h6.2.2
      · rw [zst_at, upd_ne _ _ (by decide)]; exact h7.1
      · rw [zst_at, upd_ne _ _ (by decide)]; exact h7.2.1
      · exact h7.2.2
theorem ok_goBack (x : Int32) : okCall 137 109 [.int x] := by
  rintro ⟨⟨D, G, B, C, W, lim, bear⟩, R, ⟨u, Rs⟩, ⟨kb, Ri, si⟩, sd, ⟨t, tx, fa⟩, ⟨tn, tg, tr, en, eg, et⟩⟩ ha
  have hG := ha.1.2.1
  have hB := ha.1.2.2.1
  have hkb := ha.2.2.2.1.1
  rcases rng x 0 1 (by decide) (by decide) with h | ⟨h, h2⟩ | ⟨j, -, hj, rfl⟩
  · refine ⟨_, -1000000001, ha, okC_ro ?_, okM_ro ?_⟩
    · intro X Q _
      simp (disch := first | omega | assumption | decide) only [e137, s137_0, s137_1, s137_2, s137_3, s137_6, s137_9, s137_11, s137_12, s137_13, s137_16, s137_17, s137_20, s137_23, s137_25, s137_26, s137_27, s137_30, s137_31, s137_32, s137_35, s137_38, s137_39, s137_40, s137_43, s137_46, s137_47, s137_48, s137_51, s137_52, s137_55, s137_58, s137_59, Option.toList_some, Option.toList_none, List.cons_append, List.nil_append, if_true, if_false, eq_self, n1n0, ne10, c_isOut, if_pos h]
    · intro X Q _
      simp (disch := first | omega | assumption | decide) only [e109, s109_0, s109_1, s109_2, s109_3, s109_4, s109_7, s109_10, s109_12, s109_13, s109_14, s109_17, s109_18, s109_19, s109_22, s109_24, s109_25, s109_26, s109_29, s109_31, s109_32, s109_33, s109_34, s109_35, s109_38, s109_39, s109_40, s109_43, s109_44, Option.toList_some, Option.toList_none, List.cons_append, List.nil_append, if_true, if_false, eq_self, n1n0, ne10, li_0, li_1, li_255, li_48, li_57, li_60, li_30, li_9, li_10, li_12, li_2, li_100, c_in, if_pos h]
  · refine ⟨_, -1000000001, ha, okC_ro ?_, okM_ro ?_⟩
    · intro X Q _
      simp (disch := first | omega | assumption | decide) only [e137, s137_0, s137_1, s137_2, s137_3, s137_6, s137_9, s137_11, s137_12, s137_13, s137_16, s137_17, s137_20, s137_23, s137_25, s137_26, s137_27, s137_30, s137_31, s137_32, s137_35, s137_38, s137_39, s137_40, s137_43, s137_46, s137_47, s137_48, s137_51, s137_52, s137_55, s137_58, s137_59, Option.toList_some, Option.toList_none, List.cons_append, List.nil_append, if_true, if_false, eq_self, n1n0, ne10, c_isOut, if_neg h, if_pos h2]
    · intro X Q _
      simp (disch := first | omega | assumption | decide) only [e109, s109_0, s109_1, s109_2, s109_3, s109_4, s109_7, s109_10, s109_12, s109_13, s109_14, s109_17, s109_18, s109_19, s109_22, s109_24, s109_25, s109_26, s109_29, s109_31, s109_32, s109_33, s109_34, s109_35, s109_38, s109_39, s109_40, s109_43, s109_44, Option.toList_some, Option.toList_none, List.cons_append, List.nil_append, if_true, if_false, eq_self, n1n0, ne10, li_0, li_1, li_255, li_48, li_57, li_60, li_30, li_9, li_10, li_12, li_2, li_100, c_in, if_neg h, if_pos h2]
  · have hio := fun X Q => c_isOut_in (X := X) (Q := Q) (j := j) (lo := 0) (hi := 1) (Nat.zero_le j) hj (by decide)
    have hii := fun X Q => c_in_in (X := X) (Q := Q) (j := j) (lo := 0) (hi := 1) (Nat.zero_le j) hj (by decide)
    have hj2 : j < 2 := by omega
    have hkd := zkd_305 hj2
    have hbl := bt_lt kb j
    have hh := fun X Q => c_hasBitN (a := kb) (b := j) (by omega) (by omega) X Q
    by_cases c : bt kb j = 0
    · rw [c] at hh
      refine ⟨_, -1000000003, ha, okC_ro ?_, okM_ro ?_⟩
      · rintro X Q ⟨nx, k, ns, ni, h1, h2, h3, h4, h5, h6, h7, h8⟩
        have e := h4.1
        simp (disch := first | omega | assumption | decide) only [e137, s137_0, s137_1, s137_2, s137_3, s137_6, s137_9, s137_11, s137_12, s137_13, s137_16, s137_17, s137_20, s137_23, s137_25, s137_26, s137_27, s137_30, s137_31, s137_32, s137_35, s137_38, s137_39, s137_40, s137_43, s137_46, s137_47, s137_48, s137_51, s137_52, s137_55, s137_58, s137_59, e63, s63_0, s63_1, s63_4, s63_5, s63_8a, s63_8b, s63_8, Option.toList_some, Option.toList_none, List.cons_append, List.nil_append, if_true, if_false, eq_self, n1n0, ne10, hio, e, hh]
      · rintro X Q ⟨h1, h2, h3, h4, h5, h6, h7⟩
        have e := h4.1 j hj2
        rw [c] at e
        simp (disch := first | omega | assumption | decide) only [e109, s109_0, s109_1, s109_2, s109_3, s109_4, s109_7, s109_10, s109_12, s109_13, s109_14, s109_17, s109_18, s109_19, s109_22, s109_24, s109_25, s109_26, s109_29, s109_31, s109_32, s109_33, s109_34, s109_35, s109_38, s109_39, s109_40, s109_43, s109_44, Option.toList_some, Option.toList_none, List.cons_append, List.nil_append, if_true, if_false, eq_self, n1n0, ne10, li_0, li_1, hii, e]
    · have c1 : bt kb j = 1 := by omega
      rw [c1] at hh
      obtain ⟨o1, o2⟩ := ha.2.2.2.1.2 j hj2 c1
      refine ⟨((D, G, B, C, W, lim, bear), Ri j, (0, Rs), (kb, Ri, si), si j, (t, tx, fa), (tn, tg, tr, en, eg, et)), nI 1, ⟨ha.1, o1, ⟨by omega, fun i hi => absurd hi (by omega)⟩, ha.2.2.2.1, o2, ha.2.2.2.2.2⟩, ?_, ?_⟩
      · intro X Q hX hQ
        obtain ⟨nx, k, ns, ni, h1, h2, h3, h4, h5, h6, h7, h8⟩ := id hX
        have e := h4.1
        simp (disch := first | omega | assumption) only [e137, s137_0, s137_1, s137_2, s137_3, s137_6, s137_9, s137_11, s137_12, s137_13, s137_16, s137_17, s137_20, s137_23, s137_25, s137_26, s137_27, s137_30, s137_31, s137_32, s137_35, s137_38, s137_39, s137_40, s137_43, s137_46, s137_47, s137_48, s137_51, s137_52, s137_55, s137_58, s137_59, e63, s63_0, s63_1, s63_4, s63_5, s63_8a, s63_8b, s63_8, e65, s65_0, s65_1, s65_2, s65_5, s65_6, s65_7, s65_10, Option.toList_some, Option.toList_none, List.cons_append, List.nil_append, if_true, if_false, eq_self, n1n0, ne10, hio, e, hh]
        refine c_copyFrom rfl hkd (by omega) (fun Y fY hE => ?_)
        obtain ⟨i1, i2⟩ := h4.2 j hj2 c1
        have hS := cS_eq hG hB i1 hE
        have y38 : Y 38 j = nI (si j) := by rw [fY 38 (by omega)]; exact i2
        simp (disch := first | omega | assumption) only [e137, s137_0, s137_1, s137_2, s137_3, s137_6, s137_9, s137_11, s137_12, s137_13, s137_16, s137_17, s137_20, s137_23, s137_25, s137_26, s137_27, s137_30, s137_31, s137_32, s137_35, s137_38, s137_39, s137_40, s137_43, s137_46, s137_47, s137_48, s137_51, s137_52, s137_55, s137_58, s137_59, e65, s65_0, s65_1, s65_2, s65_5, s65_6, s65_7, s65_10, e6, s6_0, s6_1, s6_2, s6_5, Option.toList_some, Option.toList_none, List.cons_append, List.nil_append, if_true, if_false, eq_self, n1n0, ne10, zst_ne, zst_at, y38]
        generalize hZ : zst (zst Y 0 _) 34 _ = Z
        have zc : ∀ c, c ≠ 0 → c ≠ 34 → (c < 57 ∨ 65 ≤ c) → Z c = X c := fun c c1 c2 c3 => by
          rw [← hZ, zst_ne _ _ c2, zst_ne _ _ c1, fY c (by omega)]
        refine hQ Z (CI_sd (k1 := k) (ns1 := ns) (ni1 := ni) hX (fun c c0 c34 c36 c38 c57 => zc c c0 c34 (by omega)) (cS_fr hS (fun c c1 c2 => by rw [← hZ, zst_ne _ _ (by omega), zst_ne _ _ (by omega)])) ⟨?_, ?_, h3.2.2.1, by omega, fun i hi => absurd hi (by omega)⟩ (cIm_fr h4 (fun c hc => zc c (by omega) (by omega) (by omega))) ?_) (fun c c1 c2 => zc c (by omega) (by omega) (by omega))
        · rw [← hZ, zst_at, upd_at]
        · rw [← hZ, zst_at, upd_ne _ _ (by decide), fY 34 (by omega)]
          exact h3.2.1
        · rw [← hZ, zst_ne _ _ (by decide), zst_at, upd_at]
      · intro X Q hX hQ
        obtain ⟨h1, h2, h3, h4, h5, h6, h7⟩ := id hX
        have e := h4.1 j hj2
        rw [c1] at e
        obtain ⟨i1, i2⟩ := h4.2 j hj2 c1
        have hcp := fun Q => c_copy (X := X) (Q := Q) (x := 184 + 92 * j) (y := 0) (by omega) (by omega) (by omega)
        simp (disch := first | omega | assumption) only [e109, s109_0, s109_1, s109_2, s109_3, s109_4, s109_7, s109_10, s109_12, s109_13, s109_14, s109_17, s109_18, s109_19, s109_22, s109_24, s109_25, s109_26, s109_29, s109_31, s109_32, s109_33, s109_34, s109_35, s109_38, s109_39, s109_40, s109_43, s109_44, Option.toList_some, Option.toList_none, List.cons_append, List.nil_append, if_true, if_false, eq_self, n1n0, ne10, li_0, li_1, hii, nI_add, pk_mul, hcp, zst_ne, e]
        refine hQ _ (MI_w hX (fun i hi => upd_ne _ _ hi) (fun i hi => ?_) (upd_at _ _ _) (fun i hi => absurd hi (by omega)) (fun i hi hb => ⟨fun c hc => ?_, ?_⟩) ?_) (fun c hc => by rw [zst_ne _ _ (by omega), zst_ne _ _ (by omega)])
        · unfold va_cpy
          rw [if_pos (by omega)]
          have := i1 i hi
          rwa [show 184 + 92 * j + (0 + i - 0) = 184 + 92 * j + i by omega]
        · unfold va_cpy
          rw [if_neg (by omega)]
          exact (h4.2 i hi hb).1 c hc
        · unfold va_cpy
          rw [if_neg (by omega)]
          exact (h4.2 i hi hb).2
        · unfold va_cpy
          rw [if_pos (by omega)]
          exact i2
