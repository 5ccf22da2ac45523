/-! arguments in and out of range; the first calls -/
theorem n1n0 : ¬ nI 1 = nI 0 := by decide
theorem ne10 : ¬ (1 : Nat) = 0 := by decide
theorem rng (x : Int32) (lo hi : Nat) (h : hi < 2147483648) (hl : lo ≤ hi) : x < nI lo ∨ (¬ x < nI lo ∧ nI hi < x) ∨ ∃ j, lo ≤ j ∧ j ≤ hi ∧ x = nI j := by
  by_cases h1 : x < nI lo
  · exact Or.inl h1
  · by_cases h2 : nI hi < x
    · exact Or.inr (Or.inl ⟨h1, h2⟩)
    · refine Or.inr (Or.inr ?_)
      have e1 : nI lo ≤ x := Int32.not_lt.mp h1
      have e2 : x ≤ nI hi := Int32.not_lt.mp h2
      have e0 : ¬ x < 0 := fun q => by
        have : nI lo < 0 := Int32.lt_of_le_of_lt e1 q
        exact nI_pos (by omega) this
      obtain ⟨j, hj, rfl⟩ := nI_of e0
      exact ⟨j, (nI_leI (by omega) hj).mp e1, (nI_leI hj (by omega)).mp e2, rfl⟩
theorem rngm (x : Int32) (G : Nat) (h : G ≤ 1000) : x < nI 0 ∨ (¬ x < nI 0 ∧ nI G - nI 1 < x) ∨ ∃ j, j < G ∧ x = nI j ∧ ¬ nI j < nI 0 ∧ ¬ nI G - nI 1 < nI j := by
  by_cases h1 : x < nI 0
  · exact Or.inl h1
  · by_cases h2 : nI G - nI 1 < x
    · exact Or.inr (Or.inl ⟨h1, h2⟩)
    · refine Or.inr (Or.inr ?_)
      have e0 : ¬ x < 0 := h1
      obtain ⟨j, hj, rfl⟩ := nI_of e0
      by_cases hG : G = 0
      · subst hG
        exfalso
        apply h2
        have : nI 0 - nI 1 = -1 := by decide
        rw [this, Int32.lt_iff_toInt_lt, nI_toInt hj]
        have : (-1 : Int32).toInt = -1 := by decide
        rw [this]
        omega
      · refine ⟨j, ?_, rfl, h1, h2⟩
        rw [pk_sub (by omega)] at h2
        have := (nI_leI hj (by omega)).mp (Int32.not_lt.mp h2)
        omega
section EA
variable {X : zM} {Q : Option Value → zM → Prop} {G : Nat}
theorem c_noGlass (x : Int32) (h : X 9 1 = nI G) : zcl 84 [.ref 0, .int x] X Q = Q (some (.int (if x < nI 0 then nI 1 else if nI G - nI 1 < x then nI 1 else nI 0))) X := by
  simp only [e84, s84_0, s84_1, s84_2, s84_3, s84_6, s84_9, s84_10, s84_11, s84_14a, s84_14b, s84_14, Option.toList_some, Option.toList_none, List.cons_append, List.nil_append, nI_add, pk_mul, Nat.reduceAdd, Nat.reduceMul, Nat.add_zero, Nat.zero_add, if_true, if_false, ite_self, h, c_isOut]
  by_cases h1 : x < nI 0
  · simp only [if_pos h1, e84, s84_0, s84_1, s84_2, s84_3, s84_6, s84_9, s84_10, s84_11, s84_14a, s84_14b, s84_14]
  · simp only [if_neg h1]
    by_cases h2 : nI G - nI 1 < x
    · simp only [if_pos h2, e84, s84_0, s84_1, s84_2, s84_3, s84_6, s84_9, s84_10, s84_11, s84_14a, s84_14b, s84_14]
    · simp only [if_neg h2, e84, s84_0, s84_1, s84_2, s84_3, s84_6, s84_9, s84_10, s84_11, s84_14a, s84_14b, s84_14]
theorem c_noBoat (x : Int32) (h : X 9 2 = nI G) : zcl 85 [.ref 0, .int x] X Q = Q (some (.int (if x < nI 0 then nI 1 else if nI G - nI 1 < x then nI 1 else nI 0))) X := by
  simp only [e85, s85_0, s85_1, s85_2, s85_3, s85_6, s85_9, s85_10, s85_11, s85_14a, s85_14b, s85_14, Option.toList_some, Option.toList_none, List.cons_append, List.nil_append, nI_add, pk_mul, Nat.reduceAdd, Nat.reduceMul, Nat.add_zero, Nat.zero_add, if_true, if_false, ite_self, h, c_isOut]
  by_cases h1 : x < nI 0
  · simp only [if_pos h1, e85, s85_0, s85_1, s85_2, s85_3, s85_6, s85_9, s85_10, s85_11, s85_14a, s85_14b, s85_14]
  · simp only [if_neg h1]
    by_cases h2 : nI G - nI 1 < x
    · simp only [if_pos h2, e85, s85_0, s85_1, s85_2, s85_3, s85_6, s85_9, s85_10, s85_11, s85_14a, s85_14b, s85_14]
    · simp only [if_neg h2, e85, s85_0, s85_1, s85_2, s85_3, s85_6, s85_9, s85_10, s85_11, s85_14a, s85_14b, s85_14]
theorem c_isGlass (x : Int32) (h : X 39 9 = nI G) : zcl 91 [.ref 39, .int x] X Q = Q (some (.int (if x < nI 0 then nI 0 else if nI G - nI 1 < x then nI 0 else nI 1))) X := by
  simp only [e91, s91_0, s91_1, s91_2, s91_3, s91_4, s91_7, s91_8, s91_9, s91_10, s91_13a, s91_13b, s91_13, Option.toList_some, Option.toList_none, List.cons_append, List.nil_append, nI_add, pk_mul, Nat.reduceAdd, Nat.reduceMul, Nat.add_zero, Nat.zero_add, if_true, if_false, ite_self, h, li_0, li_1, li_255, li_48, li_57, li_60, li_30, li_9, li_10, li_12, li_2, li_100, c_in]
  by_cases h1 : x < nI 0
  · simp only [if_pos h1, e91, s91_0, s91_1, s91_2, s91_3, s91_4, s91_7, s91_8, s91_9, s91_10, s91_13a, s91_13b, s91_13]
  · simp only [if_neg h1]
    by_cases h2 : nI G - nI 1 < x
    · simp only [if_pos h2, e91, s91_0, s91_1, s91_2, s91_3, s91_4, s91_7, s91_8, s91_9, s91_10, s91_13a, s91_13b, s91_13]
    · simp only [if_neg h2, e91, s91_0, s91_1, s91_2, s91_3, s91_4, s91_7, s91_8, s91_9, s91_10, s91_13a, s91_13b, s91_13]
theorem c_isBoat (x : Int32) (h : X 39 11 = nI G) : zcl 92 [.ref 39, .int x] X Q = Q (some (.int (if x < nI 0 then nI 0 else if nI G - nI 1 < x then nI 0 else nI 1))) X := by
  simp only [e92, s92_0, s92_1, s92_2, s92_3, s92_4, s92_7, s92_8, s92_9, s92_10, s92_13a, s92_13b, s92_13, Option.toList_some, Option.toList_none, List.cons_append, List.nil_append, nI_add, pk_mul, Nat.reduceAdd, Nat.reduceMul, Nat.add_zero, Nat.zero_add, if_true, if_false, ite_self, h, li_0, li_1, li_255, li_48, li_57, li_60, li_30, li_9, li_10, li_12, li_2, li_100, c_in]
  by_cases h1 : x < nI 0
  · simp only [if_pos h1, e92, s92_0, s92_1, s92_2, s92_3, s92_4, s92_7, s92_8, s92_9, s92_10, s92_13a, s92_13b, s92_13]
  · simp only [if_neg h1]
    by_cases h2 : nI G - nI 1 < x
    · simp only [if_pos h2, e92, s92_0, s92_1, s92_2, s92_3, s92_4, s92_7, s92_8, s92_9, s92_10, s92_13a, s92_13b, s92_13]
    · simp only [if_neg h2, e92, s92_0, s92_1, s92_2, s92_3, s92_4, s92_7, s92_8, s92_9, s92_10, s92_13a, s92_13b, s92_13]
theorem c_noCoast (h : X 9 0 = nI G) (hG : G ≤ 12) : zcl 33 [.ref 0] X Q = Q (some (.int (if G = 0 then nI 1 else nI 0))) X := by
  by_cases h0 : G = 0
  · simp (disch := first | omega | assumption | decide) only [e33, s33_0, s33_1, s33_4, s33_7, s33_10, s33_11, s33_14, s33_15a, s33_15b, s33_15, Option.toList_some, Option.toList_none, List.cons_append, List.nil_append, nI_add, pk_mul, Nat.reduceAdd, Nat.reduceMul, Nat.add_zero, Nat.zero_add, if_true, if_false, ite_self, h, nI_add, pk_mul, pk_sub, zrem_nI, pk_div, nI_ltI, nI_eq, h0]
  · simp (disch := first | omega | assumption | decide) only [e33, s33_0, s33_1, s33_4, s33_7, s33_10, s33_11, s33_14, s33_15a, s33_15b, s33_15, Option.toList_some, Option.toList_none, List.cons_append, List.nil_append, nI_add, pk_mul, Nat.reduceAdd, Nat.reduceMul, Nat.add_zero, Nat.zero_add, if_true, if_false, ite_self, h, nI_add, pk_mul, pk_sub, zrem_nI, pk_div, nI_ltI, nI_eq, h0]
end EA
theorem ok_fault : okCall 31 46 [] := by
  rintro ⟨⟨D, G, B, C, W, lim, bear⟩, R, ⟨u, Rs⟩, ⟨kb, Ri, si⟩, sd, ⟨t, tx, fa⟩, ⟨tn, tg, tr, en, eg, et⟩⟩ ha
  refine ⟨_, fa, ha, okC_ro ?_, okM_ro ?_⟩
  · rintro X Q ⟨nx, k, ns, ni, h1, h2, h3, h4, h5, h6, h7, h8⟩
    simp only [e31, s31_0, s31_1, s31_4, s31_7, h6.2.1]
  · rintro X Q ⟨h1, h2, h3, h4, h5, h6, h7⟩
    simp only [e46, s46_0, s46_1, s46_4, h6.2.1]
theorem ok_seed (x : Int32) : okCall 32 56 [.int x] := by
  rintro ⟨⟨D, G, B, C, W, lim, bear⟩, R, ⟨u, Rs⟩, ⟨kb, Ri, si⟩, sd, ⟨t, tx, fa⟩, ⟨tn, tg, tr, en, eg, et⟩⟩ ha
  by_cases hx : x < nI 0
  · refine ⟨_, -1000000002, ha, okC_ro ?_, okM_ro ?_⟩
    · intro X Q _
      simp only [e32, s32_0, s32_1, s32_4, s32_6, s32_7, s32_8, s32_11, s32_12, s32_13, s32_14, s32_17, s32_18, if_pos hx]
    · intro X Q _
      simp only [e56, s56_0, s56_1, s56_4, s56_6, s56_7, s56_8, s56_11, s56_13, s56_14, s56_15, s56_16, s56_19, s56_21, s56_22, s56_23, s56_24, if_pos hx]
  · obtain ⟨j, hj, rfl⟩ := nI_of (show ¬ x < 0 from hx)
    refine ⟨((D, G, B, C, W, lim, bear), R, (u, Rs), (kb, Ri, si), j, (t, tx, fa), (tn, tg, tr, en, eg, et)), nI sd, ?_, ?_, ?_⟩
    · exact ⟨ha.1, ha.2.1, ha.2.2.1, ha.2.2.2.1, by omega, ha.2.2.2.2.2⟩
    · rintro X Q ⟨nx, k, ns, ni, h1, h2, h3, h4, h5, h6, h7, h8⟩ hQ
      simp only [e32, s32_0, s32_1, s32_4, s32_6, s32_7, s32_8, s32_11, s32_12, s32_13, s32_14, s32_17, s32_18, if_neg hx, h5]
      exact hQ _ ⟨nx, k, ns, ni, h1, cS_fr h2 (fun c c1 c2 => zst_ne _ _ (by omega)), ⟨h3.1, h3.2.1, h3.2.2.1, h3.2.2.2.1, fun i hi => cS_fr (h3.2.2.2.2 i hi) (fun c c1 c2 => zst_ne _ _ (by omega))⟩, ⟨h4.1, fun i hi hb => ⟨cS_fr (h4.2 i hi hb).1 (fun c c1 c2 => zst_ne _ _ (by omega)), (h4.2 i hi hb).2⟩⟩, by rw [zst_at, upd_at], h6, h7, h8⟩ (fun c c1 c2 => zst_ne _ _ (by omega))
    · rintro X Q ⟨h1, h2, h3, h4, h5, h6, h7⟩ hQ
      simp (disch := first | omega | assumption | decide) only [e56, s56_0, s56_1, s56_4, s56_6, s56_7, s56_8, s56_11, s56_13, s56_14, s56_15, s56_16, s56_19, s56_21, s56_22, s56_23, s56_24, if_neg hx, h5]
      refine hQ _ ⟨h1, fun i hi => ?_, ⟨h3.1, fun i hi => ?_⟩, ⟨h4.1, fun i hi hb => ⟨fun c hc => ?_, ?_⟩⟩, by rw [zst_at, upd_at], h6, h7⟩ (fun c hc => zst_ne _ _ (by omega))
      · rw [zst_at, upd_ne _ _ (by omega)]; exact h2 i hi
      · intro c hc
        rw [zst_at, upd_ne _ _ (by omega)]; exact h3.2 i hi c hc
      · rw [zst_at, upd_ne _ _ (by omega)]; exact (h4.2 i hi hb).1 c hc
      · rw [zst_at, upd_ne _ _ (by omega)]; exact (h4.2 i hi hb).2
theorem ok_feed (x : Int32) : okCall 78 89 [.int x] := by
  rintro ⟨⟨D, G, B, C, W, lim, bear⟩, R, ⟨u, Rs⟩, ⟨kb, Ri, si⟩, sd, ⟨t, tx, fa⟩, ⟨tn, tg, tr, en, eg, et⟩⟩ ha
  have ht := ha.2.2.2.2.2.1
  rcases rng x 0 255 (by decide) (by decide) with h | ⟨h, h2⟩ | ⟨j, -, hj, rfl⟩
  · refine ⟨_, -1000000002, ha, okC_ro ?_, okM_ro ?_⟩
    · intro X Q _
      simp (disch := first | omega | assumption | decide) only [e78, s78_0, s78_1, s78_2, s78_5, s78_8, s78_11, s78_13, s78_14, s78_15, s78_18, s78_19, s78_22, s78_25, s78_26, s78_29, s78_32, s78_35, s78_37, Option.toList_some, Option.toList_none, List.cons_append, List.nil_append, nI_add, pk_mul, Nat.reduceAdd, Nat.reduceMul, Nat.add_zero, Nat.zero_add, if_true, if_false, ite_self, c_isOut, if_pos h, show ¬ nI 1 = nI 0 by decide]
    · intro X Q _
      simp (disch := first | omega | assumption | decide) only [e89, s89_0, s89_1, s89_2, s89_3, s89_6, s89_9, s89_12, s89_14, s89_15, s89_16, s89_19, s89_22, s89_25, s89_27, s89_28, s89_29, s89_32, s89_33, s89_36, s89_37, s89_38, s89_39, s89_40, s89_43, s89_44, s89_45, s89_48, s89_49, s89_52, Option.toList_some, Option.toList_none, List.cons_append, List.nil_append, nI_add, pk_mul, Nat.reduceAdd, Nat.reduceMul, Nat.add_zero, Nat.zero_add, if_true, if_false, ite_self, li_0, li_1, li_255, li_48, li_57, li_60, li_30, li_9, li_10, li_12, li_2, li_100, c_in, if_pos h]
  · refine ⟨_, -1000000002, ha, okC_ro ?_, okM_ro ?_⟩
    · intro X Q _
      simp (disch := first | omega | assumption | decide) only [e78, s78_0, s78_1, s78_2, s78_5, s78_8, s78_11, s78_13, s78_14, s78_15, s78_18, s78_19, s78_22, s78_25, s78_26, s78_29, s78_32, s78_35, s78_37, Option.toList_some, Option.toList_none, List.cons_append, List.nil_append, nI_add, pk_mul, Nat.reduceAdd, Nat.reduceMul, Nat.add_zero, Nat.zero_add, if_true, if_false, ite_self, c_isOut, if_neg h, if_pos h2, show ¬ nI 1 = nI 0 by decide]
    · intro X Q _
      simp (disch := first | omega | assumption | decide) only [e89, s89_0, s89_1, s89_2, s89_3, s89_6, s89_9, s89_12, s89_14, s89_15, s89_16, s89_19, s89_22, s89_25, s89_27, s89_28, s89_29, s89_32, s89_33, s89_36, s89_37, s89_38, s89_39, s89_40, s89_43, s89_44, s89_45, s89_48, s89_49, s89_52, Option.toList_some, Option.toList_none, List.cons_append, List.nil_append, nI_add, pk_mul, Nat.reduceAdd, Nat.reduceMul, Nat.add_zero, Nat.zero_add, if_true, if_false, ite_self, li_0, li_1, li_255, li_48, li_57, li_60, li_30, li_9, li_10, li_12, li_2, li_100, c_in, if_neg h, if_pos h2]
  · have q2 : ¬ 255 < j := by omega
    by_cases hf : t = 240
    · refine ⟨_, -1000000004, ha, okC_ro ?_, okM_ro ?_⟩
      · rintro X Q ⟨nx, k, ns, ni, h1, h2, h3, h4, h5, h6, h7, h8⟩
        have e := h6.1
        rw [hf] at e
        simp (disch := first | omega | assumption | decide) only [e78, s78_0, s78_1, s78_2, s78_5, s78_8, s78_11, s78_13, s78_14, s78_15, s78_18, s78_19, s78_22, s78_25, s78_26, s78_29, s78_32, s78_35, s78_37, e16, s16_0, s16_1, s16_4, s16_7, s16_10, s16_11a, s16_11b, s16_11, s16_12, s16_13, s16_16, s16_17, s16_20, s16_21, s16_22, s16_23, s16_24, s16_27, s16_28, s16_29, s16_32, s16_33a, s16_33b, s16_33, Option.toList_some, Option.toList_none, List.cons_append, List.nil_append, nI_add, pk_mul, Nat.reduceAdd, Nat.reduceMul, Nat.add_zero, Nat.zero_add, if_true, if_false, ite_self, c_isOut, Nat.not_lt_zero, q2, e, nI_add, pk_mul, pk_sub, zrem_nI, pk_div, nI_ltI, nI_eq, Nat.lt_irrefl]
      · rintro X Q ⟨h1, h2, h3, h4, h5, h6, h7⟩
        have e := h6.1
        rw [hf] at e
        simp (disch := first | omega | assumption | decide) only [e89, s89_0, s89_1, s89_2, s89_3, s89_6, s89_9, s89_12, s89_14, s89_15, s89_16, s89_19, s89_22, s89_25, s89_27, s89_28, s89_29, s89_32, s89_33, s89_36, s89_37, s89_38, s89_39, s89_40, s89_43, s89_44, s89_45, s89_48, s89_49, s89_52, Option.toList_some, Option.toList_none, List.cons_append, List.nil_append, nI_add, pk_mul, Nat.reduceAdd, Nat.reduceMul, Nat.add_zero, Nat.zero_add, if_true, if_false, ite_self, li_0, li_1, li_255, li_48, li_57, li_60, li_30, li_9, li_10, li_12, li_2, li_100, c_in, Nat.not_lt_zero, q2, e, nI_add, pk_mul, pk_sub, zrem_nI, pk_div, nI_ltI, nI_eq, show ¬ (1 : Nat) = 0 by decide]
    · have hlt : t < 240 := by omega
      refine ⟨((D, G, B, C, W, lim, bear), R, (u, Rs), (kb, Ri, si), sd, (t + 1, upN tx t j, fa), (tn, tg, tr, en, eg, et)), nI (t + 1), ?_, ?_, ?_⟩
      · refine ⟨ha.1, ha.2.1, ha.2.2.1, ha.2.2.2.1, ha.2.2.2.2.1, ⟨by omega, fun k hk => ?_⟩, ha.2.2.2.2.2.2⟩
        by_cases hkt : k = t
        · subst hkt
          rw [upN_at]; exact hj
        · rw [upN_ne _ _ hkt]; exact ht.2 k (by omega)
      · intro X Q hX hQ
        obtain ⟨nx, k, ns, ni, h1, h2, h3, h4, h5, h6, h7, h8⟩ := id hX
        have e := h6.1
        simp (disch := first | omega | assumption | decide) only [e78, s78_0, s78_1, s78_2, s78_5, s78_8, s78_11, s78_13, s78_14, s78_15, s78_18, s78_19, s78_22, s78_25, s78_26, s78_29, s78_32, s78_35, s78_37, e16, s16_0, s16_1, s16_4, s16_7, s16_10, s16_11a, s16_11b, s16_11, s16_12, s16_13, s16_16, s16_17, s16_20, s16_21, s16_22, s16_23, s16_24, s16_27, s16_28, s16_29, s16_32, s16_33a, s16_33b, s16_33, Option.toList_some, Option.toList_none, List.cons_append, List.nil_append, nI_add, pk_mul, Nat.reduceAdd, Nat.reduceMul, Nat.add_zero, Nat.zero_add, if_true, if_false, ite_self, c_isOut, Nat.not_lt_zero, q2, e, nI_add, pk_mul, pk_sub, zrem_nI, pk_div, nI_ltI, nI_eq, hlt, zst_ne, zst_at, upd_at, show ¬ (1 : Nat) = 0 by decide]
        refine hQ _ (CI_txt hX (fun c c1 c2 => by rw [zst_ne _ _ c1, zst_ne _ _ c2]) ⟨?_, ?_, fun k hk => ?_⟩) (fun c c1 c2 => by rw [zst_ne _ _ (by omega), zst_ne _ _ (by omega)])
        · rw [zst_at, upd_at]
        · rw [zst_at, upd_ne _ _ (by decide)]; exact h6.2.1
        · rw [zst_ne _ _ (by decide), zst_at]
          show upd (X 2) t (nI j) k = nI (upN tx t j k)
          by_cases hkt : k = t
          · subst hkt
            rw [upN_at, upd_at]
          · rw [upN_ne _ _ hkt, upd_ne _ _ hkt]
            have : k < t + 1 := hk
            exact h6.2.2 k (by omega)
      · rintro X Q ⟨h1, h2, h3, h4, h5, h6, h7⟩ hQ
        have e := h6.1
        simp (disch := first | omega | assumption | decide) only [e89, s89_0, s89_1, s89_2, s89_3, s89_6, s89_9, s89_12, s89_14, s89_15, s89_16, s89_19, s89_22, s89_25, s89_27, s89_28, s89_29, s89_32, s89_33, s89_36, s89_37, s89_38, s89_39, s89_40, s89_43, s89_44, s89_45, s89_48, s89_49, s89_52, Option.toList_some, Option.toList_none, List.cons_append, List.nil_append, nI_add, pk_mul, Nat.reduceAdd, Nat.reduceMul, Nat.add_zero, Nat.zero_add, if_true, if_false, ite_self, li_0, li_1, li_255, li_48, li_57, li_60, li_30, li_9, li_10, li_12, li_2, li_100, c_in, Nat.not_lt_zero, q2, e, nI_add, pk_mul, pk_sub, zrem_nI, pk_div, nI_ltI, nI_eq, hf, zst_ne, zst_at, upd_at, show ¬ (1 : Nat) = 0 by decide]
        refine hQ _ ?_ (fun c hc => by rw [zst_ne _ _ (by omega), zst_ne _ _ (by omega)])
        refine ⟨h1, h2, h3, h4, h5, ⟨?_, ?_, fun k hk => ?_⟩, h7⟩
        · rw [zst_at, upd_at]
        · rw [zst_at, upd_ne _ _ (by decide)]; exact h6.2.1
        · rw [zst_ne _ _ (by decide), zst_at]
          by_cases hkt : k = t
          · subst hkt
            rw [upN_at, upd_at]
          · rw [upN_ne _ _ hkt, upd_ne _ _ hkt]; exact h6.2.2 k (by omega)
