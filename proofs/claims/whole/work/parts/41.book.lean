/-! tap, write, tear, judge -/
section MN
variable {p : pT} {R : Nat → Nat} {uu : Nat × (Nat → Nat → Nat)} {im : Nat × (Nat → Nat → Nat) × (Nat → Nat)} {sd : Nat} {tt : Nat × (Nat → Nat) × Int32} {nb nb1 : Nat × (Nat → Nat) × (Nat → Nat) × Nat × (Nat → Nat) × (Nat → Nat)} {X Y : zM}
theorem MI_nb (h : MI (p, R, uu, im, sd, tt, nb) X) (f : ∀ c, 39 < c → c < 53 → Y c = X c) (f39 : ∀ j, j ≠ 30 → j ≠ 33 → Y 39 j = X 39 j) (hn : mNb Y nb1.1 nb1.2.1 nb1.2.2.1 nb1.2.2.2.1 nb1.2.2.2.2.1 nb1.2.2.2.2.2) : MI (p, R, uu, im, sd, tt, nb1) Y := by
  obtain ⟨D, G, B, C, W, lim, bear⟩ := p
  obtain ⟨u, Rs⟩ := uu
  obtain ⟨kb, Ri, si⟩ := im
  obtain ⟨t, tx, fa⟩ := tt
  obtain ⟨h1, h2, h3, h4, h5, h6, h7⟩ := h
  have e40 := f 40 (by omega) (by omega)
  refine ⟨⟨?_, ?_, ?_, ?_, ?_, ?_⟩, ?_, ⟨?_, ?_⟩, ⟨?_, ?_⟩, ?_, ⟨?_, ?_, ?_⟩, hn⟩
  · rw [f39 _ (by decide) (by decide)]; exact h1.1
  · rw [f39 _ (by decide) (by decide)]; exact h1.2.1
  · rw [f39 _ (by decide) (by decide)]; exact h1.2.2.1
  · rw [f39 _ (by decide) (by decide)]; exact h1.2.2.2.1
  · rw [f 42 (by omega) (by omega)]; exact h1.2.2.2.2.1
  · rw [f 45 (by omega) (by omega), f 46 (by omega) (by omega)]; exact h1.2.2.2.2.2
  · rw [e40]; exact h2
  · rw [f39 _ (by decide) (by decide)]; exact h3.1
  · rw [e40]; exact h3.2
  · rw [f 41 (by omega) (by omega)]; exact h4.1
  · rw [e40]; exact h4.2
  · rw [e40]; exact h5
  · rw [f39 _ (by decide) (by decide)]; exact h6.1
  · rw [f39 _ (by decide) (by decide)]; exact h6.2.1
  · rw [f 47 (by omega) (by omega)]; exact h6.2.2
end MN
theorem nb_push {f : Nat → Int32} {h : Nat → Nat} {n v : Nat} (hf : ∀ i, i < n → f i = nI (h i)) : ∀ i, i < n + 1 → upd f n (nI v) i = nI (upN h n v i) := by
  intro i hi
  by_cases hin : i = n
  · subst hin
    rw [upd_at, upN_at]
  · rw [upd_ne _ _ hin, upN_ne _ _ hin]
    exact hf i (by omega)
theorem bd_push {P : Nat → Prop} {h : Nat → Nat} {n v : Nat} (hf : ∀ i, i < n → P (h i)) (hv : P v) : ∀ i, i < n + 1 → P (upN h n v i) := by
  intro i hi
  by_cases hin : i = n
  · subst hin
    rw [upN_at]; exact hv
  · rw [upN_ne _ _ hin]
    exact hf i (by omega)
theorem ok_tap (x y : Int32) : okCall 134 148 [.int x, .int y] := by
  rintro ⟨⟨D, G, B, C, W, lim, bear⟩, R, ⟨u, Rs⟩, ⟨kb, Ri, si⟩, sd, ⟨t, tx, fa⟩, ⟨tn, tg, tr, en, eg, et⟩⟩ ha
  have hG := ha.1.2.1
  have htn := ha.2.2.2.2.2.2.1
  rcases rngm x G (by omega) with h | ⟨h, h2⟩ | ⟨j, hj, rfl, n1, n2⟩
  · refine ⟨_, -1000000001, ha, okC_ro ?_, okM_ro ?_⟩
    · rintro X Q ⟨nx, k, ns, ni, h1, -⟩
      simp (disch := first | omega | assumption | decide) only [e134, s134_0, s134_1, s134_2, s134_5, s134_8, s134_10, s134_11, s134_12, s134_13, s134_15, s134_18, s134_21, s134_23, s134_24, s134_25, s134_28, s134_29, s134_30, s134_33, s134_36, s134_37, s134_40, s134_43, s134_46, s134_48, Option.toList_some, Option.toList_none, List.cons_append, List.nil_append, if_true, if_false, eq_self, n1n0, ne10, c_noGlass x h1.2.1, if_pos h, n1n0]
    · rintro X Q ⟨h1, -⟩
      simp (disch := first | omega | assumption | decide) only [e148, s148_0, s148_1, s148_2, s148_5, s148_8, s148_10, s148_11, s148_12, s148_13, s148_14, s148_17, s148_20, s148_23, s148_25, s148_26, s148_27, s148_30, s148_32, s148_35, s148_37, s148_38, s148_39, s148_42, s148_43, s148_46, s148_47, s148_48, s148_49, s148_52, s148_53, s148_56, s148_57, s148_58, s148_59, s148_60, s148_63, s148_64, s148_65, s148_68, s148_69, s148_72, Option.toList_some, Option.toList_none, List.cons_append, List.nil_append, if_true, if_false, eq_self, n1n0, ne10, c_isGlass x h1.2.1, if_pos h]
  · refine ⟨_, -1000000001, ha, okC_ro ?_, okM_ro ?_⟩
    · rintro X Q ⟨nx, k, ns, ni, h1, -⟩
      simp (disch := first | omega | assumption | decide) only [e134, s134_0, s134_1, s134_2, s134_5, s134_8, s134_10, s134_11, s134_12, s134_13, s134_15, s134_18, s134_21, s134_23, s134_24, s134_25, s134_28, s134_29, s134_30, s134_33, s134_36, s134_37, s134_40, s134_43, s134_46, s134_48, Option.toList_some, Option.toList_none, List.cons_append, List.nil_append, if_true, if_false, eq_self, n1n0, ne10, c_noGlass x h1.2.1, if_neg h, if_pos h2, n1n0]
    · rintro X Q ⟨h1, -⟩
      simp (disch := first | omega | assumption | decide) only [e148, s148_0, s148_1, s148_2, s148_5, s148_8, s148_10, s148_11, s148_12, s148_13, s148_14, s148_17, s148_20, s148_23, s148_25, s148_26, s148_27, s148_30, s148_32, s148_35, s148_37, s148_38, s148_39, s148_42, s148_43, s148_46, s148_47, s148_48, s148_49, s148_52, s148_53, s148_56, s148_57, s148_58, s148_59, s148_60, s148_63, s148_64, s148_65, s148_68, s148_69, s148_72, Option.toList_some, Option.toList_none, List.cons_append, List.nil_append, if_true, if_false, eq_self, n1n0, ne10, c_isGlass x h1.2.1, if_neg h, if_pos h2]
  · rcases rng y 0 9 (by decide) (by decide) with h | ⟨h, h2⟩ | ⟨m, -, hm, rfl⟩
    · refine ⟨_, -1000000002, ha, okC_ro ?_, okM_ro ?_⟩
      · rintro X Q ⟨nx, k, ns, ni, h1, h2, h3, h4, h5, h6, h7, h8⟩
        simp (disch := first | omega | assumption | decide) only [e134, s134_0, s134_1, s134_2, s134_5, s134_8, s134_10, s134_11, s134_12, s134_13, s134_15, s134_18, s134_21, s134_23, s134_24, s134_25, s134_28, s134_29, s134_30, s134_33, s134_36, s134_37, s134_40, s134_43, s134_46, s134_48, Option.toList_some, Option.toList_none, List.cons_append, List.nil_append, if_true, if_false, eq_self, n1n0, ne10, c_noGlass_in (j := j) h1.2.1 hj (by omega), c_isOut, if_pos h]
      · rintro X Q ⟨h1, h2, h3, h4, h5, h6, h7⟩
        simp (disch := first | omega | assumption | decide) only [e148, s148_0, s148_1, s148_2, s148_5, s148_8, s148_10, s148_11, s148_12, s148_13, s148_14, s148_17, s148_20, s148_23, s148_25, s148_26, s148_27, s148_30, s148_32, s148_35, s148_37, s148_38, s148_39, s148_42, s148_43, s148_46, s148_47, s148_48, s148_49, s148_52, s148_53, s148_56, s148_57, s148_58, s148_59, s148_60, s148_63, s148_64, s148_65, s148_68, s148_69, s148_72, Option.toList_some, Option.toList_none, List.cons_append, List.nil_append, if_true, if_false, eq_self, n1n0, ne10, c_isGlass_in (j := j) h1.2.1 hj (by omega), li_0, li_1, li_255, li_48, li_57, li_60, li_30, li_9, li_10, li_12, li_2, li_100, c_in, if_pos h]
    · refine ⟨_, -1000000002, ha, okC_ro ?_, okM_ro ?_⟩
      · rintro X Q ⟨nx, k, ns, ni, h1, -⟩
        simp (disch := first | omega | assumption | decide) only [e134, s134_0, s134_1, s134_2, s134_5, s134_8, s134_10, s134_11, s134_12, s134_13, s134_15, s134_18, s134_21, s134_23, s134_24, s134_25, s134_28, s134_29, s134_30, s134_33, s134_36, s134_37, s134_40, s134_43, s134_46, s134_48, Option.toList_some, Option.toList_none, List.cons_append, List.nil_append, if_true, if_false, eq_self, n1n0, ne10, c_noGlass_in (j := j) h1.2.1 hj (by omega), c_isOut, if_neg h, if_pos h2]
      · rintro X Q ⟨h1, -⟩
        simp (disch := first | omega | assumption | decide) only [e148, s148_0, s148_1, s148_2, s148_5, s148_8, s148_10, s148_11, s148_12, s148_13, s148_14, s148_17, s148_20, s148_23, s148_25, s148_26, s148_27, s148_30, s148_32, s148_35, s148_37, s148_38, s148_39, s148_42, s148_43, s148_46, s148_47, s148_48, s148_49, s148_52, s148_53, s148_56, s148_57, s148_58, s148_59, s148_60, s148_63, s148_64, s148_65, s148_68, s148_69, s148_72, Option.toList_some, Option.toList_none, List.cons_append, List.nil_append, if_true, if_false, eq_self, n1n0, ne10, c_isGlass_in (j := j) h1.2.1 hj (by omega), li_0, li_1, li_255, li_48, li_57, li_60, li_30, li_9, li_10, li_12, li_2, li_100, c_in, if_neg h, if_pos h2]
    · have hio := fun X Q => c_isOut_in (X := X) (Q := Q) (j := m) (lo := 0) (hi := 9) (Nat.zero_le m) hm (by decide)
      have hii := fun X Q => c_in_in (X := X) (Q := Q) (j := m) (lo := 0) (hi := 9) (Nat.zero_le m) hm (by decide)
      by_cases c : tn = 6
      · refine ⟨_, -1000000004, ha, okC_ro ?_, okM_ro ?_⟩
        · rintro X Q ⟨nx, k, ns, ni, h1, h2, h3, h4, h5, h6, h7, h8⟩
          have e := h7.1
          rw [c] at e
          simp (disch := first | omega | assumption | decide) only [e134, s134_0, s134_1, s134_2, s134_5, s134_8, s134_10, s134_11, s134_12, s134_13, s134_15, s134_18, s134_21, s134_23, s134_24, s134_25, s134_28, s134_29, s134_30, s134_33, s134_36, s134_37, s134_40, s134_43, s134_46, s134_48, e13, s13_0, s13_1, s13_4, s13_6, s13_9, s13_10a, s13_10b, s13_10, s13_11, s13_12, s13_15, s13_16, s13_19, s13_20, s13_21, s13_22, s13_25, s13_26, s13_29, s13_30, s13_31, s13_32, s13_33, s13_36, s13_37, s13_38, s13_41, s13_42a, s13_42b, s13_42, Option.toList_some, Option.toList_none, List.cons_append, List.nil_append, if_true, if_false, eq_self, n1n0, ne10, c_noGlass_in (j := j) h1.2.1 hj (by omega), hio, e, Int32.lt_irrefl]
        · rintro X Q ⟨h1, h2, h3, h4, h5, h6, h7⟩
          have e := h7.1
          rw [c] at e
          simp (disch := first | omega | assumption | decide) only [e148, s148_0, s148_1, s148_2, s148_5, s148_8, s148_10, s148_11, s148_12, s148_13, s148_14, s148_17, s148_20, s148_23, s148_25, s148_26, s148_27, s148_30, s148_32, s148_35, s148_37, s148_38, s148_39, s148_42, s148_43, s148_46, s148_47, s148_48, s148_49, s148_52, s148_53, s148_56, s148_57, s148_58, s148_59, s148_60, s148_63, s148_64, s148_65, s148_68, s148_69, s148_72, Option.toList_some, Option.toList_none, List.cons_append, List.nil_append, if_true, if_false, eq_self, n1n0, ne10, c_isGlass_in (j := j) h1.2.1 hj (by omega), li_0, li_9, hii, e]
      · have hlt : tn < 6 := by omega
        refine ⟨((D, G, B, C, W, lim, bear), R, (u, Rs), (kb, Ri, si), sd, (t, tx, fa), (tn + 1, upN tg tn j, upN tr tn m, en, eg, et)), nI (tn + 1), ⟨ha.1, ha.2.1, ha.2.2.1, ha.2.2.2.1, ha.2.2.2.2.1, ha.2.2.2.2.2.1, ⟨by omega, fun i hi => ⟨bd_push (P := fun z => z < G) (fun i hi => (htn.2 i hi).1) hj i hi, bd_push (P := fun z => z ≤ 9) (fun i hi => (htn.2 i hi).2) hm i hi⟩⟩, ha.2.2.2.2.2.2.2⟩, ?_, ?_⟩
        · intro X Q hX hQ
          obtain ⟨nx, k, ns, ni, h1, h2, h3, h4, h5, h6, h7, h8⟩ := id hX
          have e := h7.1
          simp (disch := first | omega | assumption | decide) only [e134, s134_0, s134_1, s134_2, s134_5, s134_8, s134_10, s134_11, s134_12, s134_13, s134_15, s134_18, s134_21, s134_23, s134_24, s134_25, s134_28, s134_29, s134_30, s134_33, s134_36, s134_37, s134_40, s134_43, s134_46, s134_48, e13, s13_0, s13_1, s13_4, s13_6, s13_9, s13_10a, s13_10b, s13_10, s13_11, s13_12, s13_15, s13_16, s13_19, s13_20, s13_21, s13_22, s13_25, s13_26, s13_29, s13_30, s13_31, s13_32, s13_33, s13_36, s13_37, s13_38, s13_41, s13_42a, s13_42b, s13_42, Option.toList_some, Option.toList_none, List.cons_append, List.nil_append, if_true, if_false, eq_self, n1n0, ne10, c_noGlass_in (j := j) h1.2.1 hj (by omega), hio, e, nI_ltI, hlt, zst_ne, zst_at, upd_at, nI_add]
          refine hQ _ (CI_nb (nb1 := (tn + 1, upN tg tn j, upN tr tn m, en, eg, et)) hX (fun c hc => by rw [zst_ne _ _ (by omega), zst_ne _ _ (by omega), zst_ne _ _ (by omega)]) ⟨?_, ?_, fun i hi => ⟨?_, ?_⟩, ?_⟩) (fun c c1 c2 => by rw [zst_ne _ _ (by omega), zst_ne _ _ (by omega), zst_ne _ _ (by omega)])
          · rw [zst_at, upd_at]
          · rw [zst_at, upd_ne _ _ (by decide)]; exact h7.2.1
          · exact nb_push (fun i hi => (h7.2.2.1 i hi).1) i hi
          · exact nb_push (fun i hi => (h7.2.2.1 i hi).2) i hi
          · exact h7.2.2.2
        · intro X Q hX hQ
          obtain ⟨h1, h2, h3, h4, h5, h6, h7⟩ := id hX
          have e := h7.1
          have c' : ¬ nI tn = nI 6 := fun q => c ((nI_eq (by omega) (by omega)).mp q)
          simp (disch := first | omega | assumption | decide) only [e148, s148_0, s148_1, s148_2, s148_5, s148_8, s148_10, s148_11, s148_12, s148_13, s148_14, s148_17, s148_20, s148_23, s148_25, s148_26, s148_27, s148_30, s148_32, s148_35, s148_37, s148_38, s148_39, s148_42, s148_43, s148_46, s148_47, s148_48, s148_49, s148_52, s148_53, s148_56, s148_57, s148_58, s148_59, s148_60, s148_63, s148_64, s148_65, s148_68, s148_69, s148_72, Option.toList_some, Option.toList_none, List.cons_append, List.nil_append, if_true, if_false, eq_self, n1n0, ne10, c_isGlass_in (j := j) h1.2.1 hj (by omega), li_0, li_9, hii, e, c', zst_ne, zst_at, upd_at, nI_add]
          refine hQ _ (MI_nb (nb1 := (tn + 1, upN tg tn j, upN tr tn m, en, eg, et)) hX (fun c c1 c2 => by rw [zst_ne _ _ (by omega), zst_ne _ _ (by omega), zst_ne _ _ (by omega)]) (fun i i1 i2 => by rw [zst_at, upd_ne _ _ i1]) ⟨?_, ?_, fun i hi => ⟨?_, ?_⟩, ?_⟩) (fun c hc => by rw [zst_ne _ _ (by omega), zst_ne _ _ (by omega), zst_ne _ _ (by omega)])
          · rw [zst_at, upd_at]
          · rw [zst_at, upd_ne _ _ (by decide)]; exact h7.2.1
          · exact nb_push (fun i hi => (h7.2.2.1 i hi).1) i hi
          · exact nb_push (fun i hi => (h7.2.2.1 i hi).2) i hi
          · exact h7.2.2.2
theorem ok_write (x y : Int32) : okCall 135 149 [.int x, .int y] := by
  rintro ⟨⟨D, G, B, C, W, lim, bear⟩, R, ⟨u, Rs⟩, ⟨kb, Ri, si⟩, sd, ⟨t, tx, fa⟩, ⟨tn, tg, tr, en, eg, et⟩⟩ ha
  have hG := ha.1.2.1
  have hen := ha.2.2.2.2.2.2.2
  rcases rngm x G (by omega) with h | ⟨h, h2⟩ | ⟨j, hj, rfl, n1, n2⟩
  · refine ⟨_, -1000000001, ha, okC_ro ?_, okM_ro ?_⟩
    · rintro X Q ⟨nx, k, ns, ni, h1, -⟩
      simp (disch := first | omega | assumption | decide) only [e135, s135_0, s135_1, s135_2, s135_5, s135_8, s135_10, s135_11, s135_12, s135_13, s135_15, s135_18, s135_21, s135_23, s135_24, s135_25, s135_28, s135_29, s135_30, s135_33, s135_36, s135_37, s135_40, s135_43, s135_46, s135_48, Option.toList_some, Option.toList_none, List.cons_append, List.nil_append, if_true, if_false, eq_self, n1n0, ne10, c_noGlass x h1.2.1, if_pos h, n1n0]
    · rintro X Q ⟨h1, -⟩
      simp (disch := first | omega | assumption | decide) only [e149, s149_0, s149_1, s149_2, s149_5, s149_8, s149_10, s149_11, s149_12, s149_13, s149_14, s149_17, s149_20, s149_23, s149_25, s149_26, s149_27, s149_30, s149_32, s149_35, s149_37, s149_38, s149_39, s149_42, s149_43, s149_46, s149_47, s149_48, s149_49, s149_52, s149_53, s149_56, s149_57, s149_58, s149_59, s149_60, s149_63, s149_64, s149_65, s149_68, s149_69, s149_72, Option.toList_some, Option.toList_none, List.cons_append, List.nil_append, if_true, if_false, eq_self, n1n0, ne10, c_isGlass x h1.2.1, if_pos h]
  · refine ⟨_, -1000000001, ha, okC_ro ?_, okM_ro ?_⟩
    · rintro X Q ⟨nx, k, ns, ni, h1, -⟩
      simp (disch := first | omega | assumption | decide) only [e135, s135_0, s135_1, s135_2, s135_5, s135_8, s135_10, s135_11, s135_12, s135_13, s135_15, s135_18, s135_21, s135_23, s135_24, s135_25, s135_28, s135_29, s135_30, s135_33, s135_36, s135_37, s135_40, s135_43, s135_46, s135_48, Option.toList_some, Option.toList_none, List.cons_append, List.nil_append, if_true, if_false, eq_self, n1n0, ne10, c_noGlass x h1.2.1, if_neg h, if_pos h2, n1n0]
    · rintro X Q ⟨h1, -⟩
      simp (disch := first | omega | assumption | decide) only [e149, s149_0, s149_1, s149_2, s149_5, s149_8, s149_10, s149_11, s149_12, s149_13, s149_14, s149_17, s149_20, s149_23, s149_25, s149_26, s149_27, s149_30, s149_32, s149_35, s149_37, s149_38, s149_39, s149_42, s149_43, s149_46, s149_47, s149_48, s149_49, s149_52, s149_53, s149_56, s149_57, s149_58, s149_59, s149_60, s149_63, s149_64, s149_65, s149_68, s149_69, s149_72, Option.toList_some, Option.toList_none, List.cons_append, List.nil_append, if_true, if_false, eq_self, n1n0, ne10, c_isGlass x h1.2.1, if_neg h, if_pos h2]
  · rcases rng y 0 10 (by decide) (by decide) with h | ⟨h, h2⟩ | ⟨m, -, hm, rfl⟩
    · refine ⟨_, -1000000002, ha, okC_ro ?_, okM_ro ?_⟩
      · rintro X Q ⟨nx, k, ns, ni, h1, h2, h3, h4, h5, h6, h7, h8⟩
        simp (disch := first | omega | assumption | decide) only [e135, s135_0, s135_1, s135_2, s135_5, s135_8, s135_10, s135_11, s135_12, s135_13, s135_15, s135_18, s135_21, s135_23, s135_24, s135_25, s135_28, s135_29, s135_30, s135_33, s135_36, s135_37, s135_40, s135_43, s135_46, s135_48, Option.toList_some, Option.toList_none, List.cons_append, List.nil_append, if_true, if_false, eq_self, n1n0, ne10, c_noGlass_in (j := j) h1.2.1 hj (by omega), c_isOut, if_pos h]
      · rintro X Q ⟨h1, h2, h3, h4, h5, h6, h7⟩
        simp (disch := first | omega | assumption | decide) only [e149, s149_0, s149_1, s149_2, s149_5, s149_8, s149_10, s149_11, s149_12, s149_13, s149_14, s149_17, s149_20, s149_23, s149_25, s149_26, s149_27, s149_30, s149_32, s149_35, s149_37, s149_38, s149_39, s149_42, s149_43, s149_46, s149_47, s149_48, s149_49, s149_52, s149_53, s149_56, s149_57, s149_58, s149_59, s149_60, s149_63, s149_64, s149_65, s149_68, s149_69, s149_72, Option.toList_some, Option.toList_none, List.cons_append, List.nil_append, if_true, if_false, eq_self, n1n0, ne10, c_isGlass_in (j := j) h1.2.1 hj (by omega), li_0, li_1, li_255, li_48, li_57, li_60, li_30, li_9, li_10, li_12, li_2, li_100, c_in, if_pos h]
    · refine ⟨_, -1000000002, ha, okC_ro ?_, okM_ro ?_⟩
      · rintro X Q ⟨nx, k, ns, ni, h1, -⟩
        simp (disch := first | omega | assumption | decide) only [e135, s135_0, s135_1, s135_2, s135_5, s135_8, s135_10, s135_11, s135_12, s135_13, s135_15, s135_18, s135_21, s135_23, s135_24, s135_25, s135_28, s135_29, s135_30, s135_33, s135_36, s135_37, s135_40, s135_43, s135_46, s135_48, Option.toList_some, Option.toList_none, List.cons_append, List.nil_append, if_true, if_false, eq_self, n1n0, ne10, c_noGlass_in (j := j) h1.2.1 hj (by omega), c_isOut, if_neg h, if_pos h2]
      · rintro X Q ⟨h1, -⟩
        simp (disch := first | omega | assumption | decide) only [e149, s149_0, s149_1, s149_2, s149_5, s149_8, s149_10, s149_11, s149_12, s149_13, s149_14, s149_17, s149_20, s149_23, s149_25, s149_26, s149_27, s149_30, s149_32, s149_35, s149_37, s149_38, s149_39, s149_42, s149_43, s149_46, s149_47, s149_48, s149_49, s149_52, s149_53, s149_56, s149_57, s149_58, s149_59, s149_60, s149_63, s149_64, s149_65, s149_68, s149_69, s149_72, Option.toList_some, Option.toList_none, List.cons_append, List.nil_append, if_true, if_false, eq_self, n1n0, ne10, c_isGlass_in (j := j) h1.2.1 hj (by omega), li_0, li_1, li_255, li_48, li_57, li_60, li_30, li_9, li_10, li_12, li_2, li_100, c_in, if_neg h, if_pos h2]
    · have hio := fun X Q => c_isOut_in (X := X) (Q := Q) (j := m) (lo := 0) (hi := 10) (Nat.zero_le m) hm (by decide)
      have hii := fun X Q => c_in_in (X := X) (Q := Q) (j := m) (lo := 0) (hi := 10) (Nat.zero_le m) hm (by decide)
      by_cases c : en = 20
      · refine ⟨_, -1000000004, ha, okC_ro ?_, okM_ro ?_⟩
        · rintro X Q ⟨nx, k, ns, ni, h1, h2, h3, h4, h5, h6, h7, h8⟩
          have e := h7.2.1
          rw [c] at e
          simp (disch := first | omega | assumption | decide) only [e135, s135_0, s135_1, s135_2, s135_5, s135_8, s135_10, s135_11, s135_12, s135_13, s135_15, s135_18, s135_21, s135_23, s135_24, s135_25, s135_28, s135_29, s135_30, s135_33, s135_36, s135_37, s135_40, s135_43, s135_46, s135_48, e14, s14_0, s14_1, s14_4, s14_6, s14_9, s14_10a, s14_10b, s14_10, s14_11, s14_12, s14_15, s14_16, s14_19, s14_20, s14_21, s14_22, s14_25, s14_26, s14_29, s14_30, s14_31, s14_32, s14_33, s14_36, s14_37, s14_38, s14_41, s14_42a, s14_42b, s14_42, Option.toList_some, Option.toList_none, List.cons_append, List.nil_append, if_true, if_false, eq_self, n1n0, ne10, c_noGlass_in (j := j) h1.2.1 hj (by omega), hio, e, Int32.lt_irrefl]
        · rintro X Q ⟨h1, h2, h3, h4, h5, h6, h7⟩
          have e := h7.2.1
          rw [c] at e
          simp (disch := first | omega | assumption | decide) only [e149, s149_0, s149_1, s149_2, s149_5, s149_8, s149_10, s149_11, s149_12, s149_13, s149_14, s149_17, s149_20, s149_23, s149_25, s149_26, s149_27, s149_30, s149_32, s149_35, s149_37, s149_38, s149_39, s149_42, s149_43, s149_46, s149_47, s149_48, s149_49, s149_52, s149_53, s149_56, s149_57, s149_58, s149_59, s149_60, s149_63, s149_64, s149_65, s149_68, s149_69, s149_72, Option.toList_some, Option.toList_none, List.cons_append, List.nil_append, if_true, if_false, eq_self, n1n0, ne10, c_isGlass_in (j := j) h1.2.1 hj (by omega), li_0, li_10, hii, e]
      · have hlt : en < 20 := by omega
        refine ⟨((D, G, B, C, W, lim, bear), R, (u, Rs), (kb, Ri, si), sd, (t, tx, fa), (tn, tg, tr, en + 1, upN eg en j, upN et en m)), nI (en + 1), ⟨ha.1, ha.2.1, ha.2.2.1, ha.2.2.2.1, ha.2.2.2.2.1, ha.2.2.2.2.2.1, ha.2.2.2.2.2.2.1, ⟨by omega, fun i hi => ⟨bd_push (P := fun z => z < G) (fun i hi => (hen.2 i hi).1) hj i hi, bd_push (P := fun z => z ≤ 10) (fun i hi => (hen.2 i hi).2) hm i hi⟩⟩⟩, ?_, ?_⟩
        · intro X Q hX hQ
          obtain ⟨nx, k, ns, ni, h1, h2, h3, h4, h5, h6, h7, h8⟩ := id hX
          have e := h7.2.1
          simp (disch := first | omega | assumption | decide) only [e135, s135_0, s135_1, s135_2, s135_5, s135_8, s135_10, s135_11, s135_12, s135_13, s135_15, s135_18, s135_21, s135_23, s135_24, s135_25, s135_28, s135_29, s135_30, s135_33, s135_36, s135_37, s135_40, s135_43, s135_46, s135_48, e14, s14_0, s14_1, s14_4, s14_6, s14_9, s14_10a, s14_10b, s14_10, s14_11, s14_12, s14_15, s14_16, s14_19, s14_20, s14_21, s14_22, s14_25, s14_26, s14_29, s14_30, s14_31, s14_32, s14_33, s14_36, s14_37, s14_38, s14_41, s14_42a, s14_42b, s14_42, Option.toList_some, Option.toList_none, List.cons_append, List.nil_append, if_true, if_false, eq_self, n1n0, ne10, c_noGlass_in (j := j) h1.2.1 hj (by omega), hio, e, nI_ltI, hlt, zst_ne, zst_at, upd_at, nI_add]
          refine hQ _ (CI_nb (nb1 := (tn, tg, tr, en + 1, upN eg en j, upN et en m)) hX (fun c hc => by rw [zst_ne _ _ (by omega), zst_ne _ _ (by omega), zst_ne _ _ (by omega)]) ⟨?_, ?_, ?_, fun i hi => ⟨?_, ?_⟩⟩) (fun c c1 c2 => by rw [zst_ne _ _ (by omega), zst_ne _ _ (by omega), zst_ne _ _ (by omega)])
          · rw [zst_at, upd_ne _ _ (by decide)]; exact h7.1
          · rw [zst_at, upd_at]
          · exact h7.2.2.1
          · exact nb_push (fun i hi => (h7.2.2.2 i hi).1) i hi
          · exact nb_push (fun i hi => (h7.2.2.2 i hi).2) i hi
        · intro X Q hX hQ
          obtain ⟨h1, h2, h3, h4, h5, h6, h7⟩ := id hX
          have e := h7.2.1
          have c' : ¬ nI en = nI 20 := fun q => c ((nI_eq (by omega) (by omega)).mp q)
          simp (disch := first | omega | assumption | decide) only [e149, s149_0, s149_1, s149_2, s149_5, s149_8, s149_10, s149_11, s149_12, s149_13, s149_14, s149_17, s149_20, s149_23, s149_25, s149_26, s149_27, s149_30, s149_32, s149_35, s149_37, s149_38, s149_39, s149_42, s149_43, s149_46, s149_47, s149_48, s149_49, s149_52, s149_53, s149_56, s149_57, s149_58, s149_59, s149_60, s149_63, s149_64, s149_65, s149_68, s149_69, s149_72, Option.toList_some, Option.toList_none, List.cons_append, List.nil_append, if_true, if_false, eq_self, n1n0, ne10, c_isGlass_in (j := j) h1.2.1 hj (by omega), li_0, li_10, hii, e, c', zst_ne, zst_at, upd_at, nI_add]
          refine hQ _ (MI_nb (nb1 := (tn, tg, tr, en + 1, upN eg en j, upN et en m)) hX (fun c c1 c2 => by rw [zst_ne _ _ (by omega), zst_ne _ _ (by omega), zst_ne _ _ (by omega)]) (fun i i1 i2 => by rw [zst_at, upd_ne _ _ i2]) ⟨?_, ?_, ?_, fun i hi => ⟨?_, ?_⟩⟩) (fun c hc => by rw [zst_ne _ _ (by omega), zst_ne _ _ (by omega), zst_ne _ _ (by omega)])
          · rw [zst_at, upd_ne _ _ (by decide)]; exact h7.1
          · rw [zst_at, upd_at]
          · exact h7.2.2.1
          · exact nb_push (fun i hi => (h7.2.2.2 i hi).1) i hi
          · exact nb_push (fun i hi => (h7.2.2.2 i hi).2) i hi
theorem ok_tear : okCall 83 55 [] := by
  rintro ⟨⟨D, G, B, C, W, lim, bear⟩, R, ⟨u, Rs⟩, ⟨kb, Ri, si⟩, sd, ⟨t, tx, fa⟩, ⟨tn, tg, tr, en, eg, et⟩⟩ ha
  refine ⟨((D, G, B, C, W, lim, bear), R, (u, Rs), (kb, Ri, si), sd, (t, tx, fa), (0, tg, tr, 0, eg, et)), nI (tn + en), ⟨ha.1, ha.2.1, ha.2.2.1, ha.2.2.2.1, ha.2.2.2.2.1, ha.2.2.2.2.2.1, ⟨by omega, fun i hi => absurd hi (by omega)⟩, ⟨by omega, fun i hi => absurd hi (by omega)⟩⟩, ?_, ?_⟩
  · intro X Q hX hQ
    obtain ⟨nx, k, ns, ni, h1, h2, h3, h4, h5, h6, h7, h8⟩ := id hX
    have e1 := h7.1
    have e2 := h7.2.1
    simp (disch := first | omega | assumption | decide) only [e83, s83_0, s83_1, s83_4, s83_7, s83_8, s83_11, s83_14, s83_15, s83_16, s83_17, s83_20, s83_23, s83_24, e12, s12_0, s12_1, s12_2, s12_5, s12_6, s12_7, s12_10, Option.toList_some, Option.toList_none, List.cons_append, List.nil_append, if_true, if_false, eq_self, n1n0, ne10, e1, e2, nI_add, zst_at, zst_zst]
    refine hQ _ (CI_nb (nb1 := (0, tg, tr, 0, eg, et)) hX (fun c hc => by rw [zst_ne _ _ (by omega)]) ⟨?_, ?_, fun i hi => absurd hi (Nat.not_lt_zero i), fun i hi => absurd hi (Nat.not_lt_zero i)⟩) (fun c c1 c2 => by rw [zst_ne _ _ (by omega)])
    · rw [zst_at, upd_ne _ _ (by decide), upd_at]
    · rw [zst_at, upd_at]
  · intro X Q hX hQ
    obtain ⟨h1, h2, h3, h4, h5, h6, h7⟩ := id hX
    have e1 := h7.1
    have e2 := h7.2.1
    simp (disch := first | omega | assumption | decide) only [e55, s55_0, s55_1, s55_4, s55_5, s55_8, s55_9, s55_10, s55_11, s55_12, s55_15, s55_16, s55_17, s55_20, s55_21, Option.toList_some, Option.toList_none, List.cons_append, List.nil_append, if_true, if_false, eq_self, n1n0, ne10, e1, e2, nI_add, zst_at, zst_zst]
    refine hQ _ (MI_nb (nb1 := (0, tg, tr, 0, eg, et)) hX (fun c c1 c2 => by rw [zst_ne _ _ (by omega)]) (fun i i1 i2 => by rw [zst_at, upd_ne _ _ i2, upd_ne _ _ i1]) ⟨?_, ?_, fun i hi => absurd hi (Nat.not_lt_zero i), fun i hi => absurd hi (Nat.not_lt_zero i)⟩) (fun c hc => by rw [zst_ne _ _ (by omega)])
    · rw [zst_at, upd_ne _ _ (by decide), upd_at]
    · rw [zst_at, upd_at]
def jdF (p : Nat → Bool) : Nat → Nat → Int32
  | 0, _ => -1
  | n + 1, i => if p i then jdF p n (i + 1) else nI i
theorem ok_judge : okCall 82 54 [] := by
  rintro ⟨⟨D, G, B, C, W, lim, bear⟩, R, ⟨u, Rs⟩, ⟨kb, Ri, si⟩, sd, ⟨t, tx, fa⟩, ⟨tn, tg, tr, en, eg, et⟩⟩ ha
  have hG := ha.1.2.1
  have hr := ha.2.1.1
  have hen := ha.2.2.2.2.2.2.2
  refine ⟨_, jdF (fun i => R (eg i) == et i) en 0, ha, okC_ro ?_, okM_ro ?_⟩
  · rintro X Q ⟨nx, k, ns, ni, h1, h2, h3, h4, h5, h6, h7, h8⟩
    have e := h7.2.1
    have key : ∀ n i : Nat, i + n = en → ∀ Q, zev 15 2 [.ref 28, .int (nI i)] [] X Q = Q (some (.int (jdF (fun i => R (eg i) == et i) n i))) X := by
      intro n
      induction n with
      | zero =>
        intro i hi Q
        have e0 : i = en := by omega
        subst e0
        rw [s15_2]
        simp (disch := first | omega | assumption | decide) only [e15, s15_0, s15_1, s15_3, s15_4, s15_7, s15_10, s15_11, s15_14, s15_17, s15_18, s15_21, s15_22, s15_23, s15_24, s15_25, s15_28, s15_29, s15_30, s15_33, s15_34, s15_35, s15_38, s15_41, s15_42, Option.toList_some, Option.toList_none, List.cons_append, List.nil_append, if_true, if_false, eq_self, n1n0, ne10, e, nI_ltI, Nat.lt_irrefl, jdF]
      | succ n ih =>
        intro i hi Q
        have hlt : i < en := by omega
        obtain ⟨b1, b2⟩ := hen.2 i hlt
        obtain ⟨f1, f2⟩ := h7.2.2.2 i hlt
        have g1 : X 58 (eg i) = nI (R (eg i)) := (h2.2.2.1 (eg i) b1).1
        have hb := (hr.1 (eg i) (by omega)).1
        rw [s15_2, jdF]
        by_cases c : R (eg i) = et i
        · have c2 : (R (eg i) == et i) = true := beq_iff_eq.mpr c
          simp only [c2, if_true]
          refine Eq.trans ?_ (ih (i + 1) (by omega) Q)
          simp (disch := first | omega | assumption | decide) only [e15, s15_0, s15_1, s15_3, s15_4, s15_7, s15_10, s15_11, s15_14, s15_17, s15_18, s15_21, s15_22, s15_23, s15_24, s15_25, s15_28, s15_29, s15_30, s15_33, s15_34, s15_35, s15_38, s15_41, s15_42, Option.toList_some, Option.toList_none, List.cons_append, List.nil_append, if_true, if_false, eq_self, n1n0, ne10, e, nI_ltI, hlt, f1, f2, g1, nI_eq, c, nI_add]
        · have c2 : (R (eg i) == et i) = false := beq_eq_false_iff_ne.mpr c
          simp only [c2]
          simp (disch := first | omega | assumption | decide) only [e15, s15_0, s15_1, s15_3, s15_4, s15_7, s15_10, s15_11, s15_14, s15_17, s15_18, s15_21, s15_22, s15_23, s15_24, s15_25, s15_28, s15_29, s15_30, s15_33, s15_34, s15_35, s15_38, s15_41, s15_42, Option.toList_some, Option.toList_none, List.cons_append, List.nil_append, if_true, if_false, eq_self, n1n0, ne10, e, nI_ltI, hlt, f1, f2, g1, nI_eq, c, nI_add]
          rfl
    simp (disch := first | omega | assumption | decide) only [e82, s82_0, s82_1, s82_4, s82_7, e15, s15_0, s15_1, s15_3, s15_4, s15_7, s15_10, s15_11, s15_14, s15_17, s15_18, s15_21, s15_22, s15_23, s15_24, s15_25, s15_28, s15_29, s15_30, s15_33, s15_34, s15_35, s15_38, s15_41, s15_42, Option.toList_some, Option.toList_none, List.cons_append, List.nil_append, if_true, if_false, eq_self, n1n0, ne10, key en 0 (by omega)]
  · rintro X Q ⟨h1, h2, h3, h4, h5, h6, h7⟩
    have e := h7.2.1
    have key : ∀ n i : Nat, i + n = en → zev 54 2 [.ref 39, .int (nI i)] [] X Q = Q (some (.int (jdF (fun i => R (eg i) == et i) n i))) X := by
      intro n
      induction n with
      | zero =>
        intro i hi
        have e0 : i = en := by omega
        subst e0
        rw [s54_2]
        simp (disch := first | omega | assumption | decide) only [e54, s54_0, s54_1, s54_3, s54_4, s54_7, s54_10, s54_11, s54_14, s54_15, s54_18, s54_19, s54_20, s54_21, s54_22, s54_25, s54_26, s54_27, s54_30, s54_31, s54_32, s54_35, s54_38, s54_39, Option.toList_some, Option.toList_none, List.cons_append, List.nil_append, if_true, if_false, eq_self, n1n0, ne10, e, nI_ltI, Nat.lt_irrefl, jdF]
      | succ n ih =>
        intro i hi
        have hlt : i < en := by omega
        obtain ⟨b1, b2⟩ := hen.2 i hlt
        obtain ⟨f1, f2⟩ := h7.2.2.2 i hlt
        have g1 := at0 h2 (i := eg i) (by omega)
        have hb := (hr.1 (eg i) (by omega)).1
        rw [s54_2, jdF]
        by_cases c : R (eg i) = et i
        · have c2 : (R (eg i) == et i) = true := beq_iff_eq.mpr c
          simp only [c2, if_true]
          refine Eq.trans ?_ (ih (i + 1) (by omega))
          simp (disch := first | omega | assumption | decide) only [e54, s54_0, s54_1, s54_3, s54_4, s54_7, s54_10, s54_11, s54_14, s54_15, s54_18, s54_19, s54_20, s54_21, s54_22, s54_25, s54_26, s54_27, s54_30, s54_31, s54_32, s54_35, s54_38, s54_39, Option.toList_some, Option.toList_none, List.cons_append, List.nil_append, if_true, if_false, eq_self, n1n0, ne10, e, nI_ltI, hlt, f1, f2, g1, nI_eq, c, nI_add]
        · have c2 : (R (eg i) == et i) = false := beq_eq_false_iff_ne.mpr c
          simp only [c2]
          simp (disch := first | omega | assumption | decide) only [e54, s54_0, s54_1, s54_3, s54_4, s54_7, s54_10, s54_11, s54_14, s54_15, s54_18, s54_19, s54_20, s54_21, s54_22, s54_25, s54_26, s54_27, s54_30, s54_31, s54_32, s54_35, s54_38, s54_39, Option.toList_some, Option.toList_none, List.cons_append, List.nil_append, if_true, if_false, eq_self, n1n0, ne10, e, nI_ltI, hlt, f1, f2, g1, nI_eq, c, nI_add]
          rfl
    simp (disch := first | omega | assumption | decide) only [e54, s54_0, s54_1, s54_3, s54_4, s54_7, s54_10, s54_11, s54_14, s54_15, s54_18, s54_19, s54_20, s54_21, s54_22, s54_25, s54_26, s54_27, s54_30, s54_31, s54_32, s54_35, s54_38, s54_39, Option.toList_some, Option.toList_none, List.cons_append, List.nil_append, if_true, if_false, eq_self, n1n0, ne10, key en 0 (by omega)]
