/-! undo, keep, goBack -/
def upF {α : Type} (f : Nat → α) (i : Nat) (a : α) : Nat → α := fun c => if c = i then a else f c
theorem upF_at {α : Type} (f : Nat → α) (i : Nat) (a : α) : upF f i a i = a := if_pos rfl
theorem upF_ne {α : Type} (f : Nat → α) {i c : Nat} (a : α) (h : c ≠ i) : upF f i a c = f c := if_neg h
theorem ok_undo (x : Int32) : okCall 131 103 [.int x] := by
  rintro ⟨⟨D, G, B, C, W, lim, bear⟩, R, ⟨u, Rs⟩, ⟨kb, Ri, si⟩, sd, ⟨t, tx, fa⟩, ⟨tn, tg, tr, en, eg, et⟩⟩ ha
  have hG := ha.1.2.1
  have hB := ha.1.2.2.1
  have hu := ha.2.2.1.1
  rcases rng x 1 30 (by decide) (by decide) with h | ⟨h, h2⟩ | ⟨j, hj1, hj, rfl⟩
  · refine ⟨_, -1000000002, ha, okC_ro ?_, okM_ro ?_⟩
    · intro X Q _
      simp (disch := first | omega | assumption | decide) only [e131, s131_0, s131_1, s131_2, s131_4, s131_7, s131_10, s131_12, s131_13, s131_14, s131_17, s131_18, s131_19, s131_22, s131_25, s131_28, s131_29, s131_32, s131_35, s131_38, s131_40, Option.toList_some, Option.toList_none, List.cons_append, List.nil_append, if_true, if_false, eq_self, n1n0, ne10, c_isOut, if_pos h]
    · intro X Q _
      simp (disch := first | omega | assumption | decide) only [e103, s103_0, s103_1, s103_2, s103_3, s103_6, s103_9, s103_12, s103_14, s103_15, s103_16, s103_17, s103_20, s103_23, s103_25, s103_26, s103_27, s103_28, s103_31, s103_32, s103_33, s103_36, s103_37, s103_40, s103_42, s103_43, s103_44, s103_45, s103_48, s103_50, s103_51, s103_54, s103_55, s103_56, s103_57, s103_60, s103_61, s103_64, s103_66, s103_67, s103_68, s103_69, s103_72, s103_74, s103_75, Option.toList_some, Option.toList_none, List.cons_append, List.nil_append, if_true, if_false, eq_self, n1n0, ne10, li_0, li_1, li_255, li_48, li_57, li_60, li_30, li_9, li_10, li_12, li_2, li_100, c_in, if_pos h]
  · refine ⟨_, -1000000002, ha, okC_ro ?_, okM_ro ?_⟩
    · intro X Q _
      simp (disch := first | omega | assumption | decide) only [e131, s131_0, s131_1, s131_2, s131_4, s131_7, s131_10, s131_12, s131_13, s131_14, s131_17, s131_18, s131_19, s131_22, s131_25, s131_28, s131_29, s131_32, s131_35, s131_38, s131_40, Option.toList_some, Option.toList_none, List.cons_append, List.nil_append, if_true, if_false, eq_self, n1n0, ne10, c_isOut, if_neg h, if_pos h2]
    · intro X Q _
      simp (disch := first | omega | assumption | decide) only [e103, s103_0, s103_1, s103_2, s103_3, s103_6, s103_9, s103_12, s103_14, s103_15, s103_16, s103_17, s103_20, s103_23, s103_25, s103_26, s103_27, s103_28, s103_31, s103_32, s103_33, s103_36, s103_37, s103_40, s103_42, s103_43, s103_44, s103_45, s103_48, s103_50, s103_51, s103_54, s103_55, s103_56, s103_57, s103_60, s103_61, s103_64, s103_66, s103_67, s103_68, s103_69, s103_72, s103_74, s103_75, Option.toList_some, Option.toList_none, List.cons_append, List.nil_append, if_true, if_false, eq_self, n1n0, ne10, li_0, li_1, li_255, li_48, li_57, li_60, li_30, li_9, li_10, li_12, li_2, li_100, c_in, if_neg h, if_pos h2]
  · have hio := fun X Q => c_isOut_in (X := X) (Q := Q) (j := j) (lo := 1) (hi := 30) hj1 hj (by decide)
    have hii := fun X Q => c_in_in (X := X) (Q := Q) (j := j) (lo := 1) (hi := 30) hj1 hj (by decide)
    have c0 : ¬ j < 1 := by omega
    by_cases c : u < j
    · refine ⟨_, -1000000003, ha, okC_ro ?_, okM_ro ?_⟩
      · rintro X Q ⟨nx, k, ns, ni, h1, h2, h3, h4, h5, h6, h7, h8⟩
        have e := h3.1
        simp (disch := first | omega | assumption | decide) only [e131, s131_0, s131_1, s131_2, s131_4, s131_7, s131_10, s131_12, s131_13, s131_14, s131_17, s131_18, s131_19, s131_22, s131_25, s131_28, s131_29, s131_32, s131_35, s131_38, s131_40, e60, s60_0, s60_1, s60_2, s60_5, s60_6, s60_7, s60_10, s60_13, s60_14a, s60_14b, s60_14, s60_15, s60_16, s60_17, s60_20, s60_21, s60_22, s60_24, s60_25, s60_27, s60_28, s60_31, s60_32, s60_33, s60_36, s60_37, s60_38, s60_41, s60_42, s60_43, s60_46, s60_47, s60_50, s60_51, s60_54, s60_55a, s60_55b, s60_55, Option.toList_some, Option.toList_none, List.cons_append, List.nil_append, if_true, if_false, eq_self, n1n0, ne10, hio, nI_ltI, c0, e, c]
      · rintro X Q ⟨h1, h2, h3, h4, h5, h6, h7⟩
        have e := h3.1
        have c' : nI u < nI j := (nI_ltI (by omega) (by omega)).mpr c
        simp (disch := first | omega | assumption | decide) only [e103, s103_0, s103_1, s103_2, s103_3, s103_6, s103_9, s103_12, s103_14, s103_15, s103_16, s103_17, s103_20, s103_23, s103_25, s103_26, s103_27, s103_28, s103_31, s103_32, s103_33, s103_36, s103_37, s103_40, s103_42, s103_43, s103_44, s103_45, s103_48, s103_50, s103_51, s103_54, s103_55, s103_56, s103_57, s103_60, s103_61, s103_64, s103_66, s103_67, s103_68, s103_69, s103_72, s103_74, s103_75, Option.toList_some, Option.toList_none, List.cons_append, List.nil_append, if_true, if_false, eq_self, n1n0, ne10, li_1, li_30, hii, e, c']
    · have hlt : u - j < u := by omega
      obtain ⟨o1, o2⟩ := ha.2.2.1.2 (u - j) hlt
      refine ⟨((D, G, B, C, W, lim, bear), Rs (u - j), (u - j, Rs), (kb, Ri, si), sd, (t, tx, fa), (tn, tg, tr, en, eg, et)), nI (Rs (u - j) 29), ⟨ha.1, ⟨o1, o2⟩, ⟨by omega, fun i hi => ha.2.2.1.2 i (by omega)⟩, ha.2.2.2⟩, ?_, ?_⟩
      · intro X Q hX hQ
        obtain ⟨nx, k, ns, ni, h1, h2, h3, h4, h5, h6, h7, h8⟩ := id hX
        obtain ⟨u1, u2, u3, u4, u5⟩ := h3
        have hk : (k + 30 - j) % 30 < 30 := Nat.mod_lt _ (by decide)
        have hkd := zkd_65 hk
        have hre : zrem (nI k - nI j + nI 30) (nI 30) = nI ((k + 30 - j) % 30) := by
          have : nI k - nI j + nI 30 = nI (k + 30 - j) := by
            apply Int32.toInt_inj.mp
            have a1 := nI_toInt (n := k) (by omega)
            have a2 := nI_toInt (n := j) (by omega)
            have a4 : (nI 30).toInt = 30 := by decide
            have a5 := nI_toInt (n := k + 30 - j) (by omega)
            have b1 : (nI k - nI j).toInt = (k : Int) - j := by
              rw [Int32.toInt_sub, a1, a2]
              exact Int.bmod_eq_of_le (by omega) (by omega)
            rw [Int32.toInt_add, b1, a4, a5, Int.bmod_eq_of_le (by omega) (by omega)]
            omega
          rw [this, zrem_nI (by omega) (by decide) (by decide)]
        have h30 : ¬ nI 30 = nI 0 := by decide
        have hsl := u5 (u - j) hlt
        have hsx : (k + 30 - u + (u - j)) % 30 = (k + 30 - j) % 30 := by omega
        rw [hsx] at hsl
        simp (disch := first | omega | assumption) only [e131, s131_0, s131_1, s131_2, s131_4, s131_7, s131_10, s131_12, s131_13, s131_14, s131_17, s131_18, s131_19, s131_22, s131_25, s131_28, s131_29, s131_32, s131_35, s131_38, s131_40, e60, s60_0, s60_1, s60_2, s60_5, s60_6, s60_7, s60_10, s60_13, s60_14a, s60_14b, s60_14, s60_15, s60_16, s60_17, s60_20, s60_21, s60_22, s60_24, s60_25, s60_27, s60_28, s60_31, s60_32, s60_33, s60_36, s60_37, s60_38, s60_41, s60_42, s60_43, s60_46, s60_47, s60_50, s60_51, s60_54, s60_55a, s60_55b, s60_55, Option.toList_some, Option.toList_none, List.cons_append, List.nil_append, if_true, if_false, eq_self, n1n0, ne10, hio, nI_ltI, c0, u1, u2, c, hre, zst_at, zst_zst, upd_ne, upd_at, pk_sub]
        refine c_copyFrom rfl hkd (by omega) (fun Y fY hE => ?_)
        have hE2 : stEq Y X 57 (65 + 8 * ((k + 30 - j) % 30)) := by
          obtain ⟨q1, q2, q3, q4⟩ := hE
          have hz : ∀ (f : Nat → Int32) c, 57 ≤ c → zst X 34 f c = X c := fun f c hc => zst_ne _ _ (by omega)
          simp (disch := omega) only [zst_ne] at q1 q2 q3 q4
          exact ⟨q1, q2, q3, q4⟩
        have hS := cS_eq hG hB hsl hE2
        have y0 : Y 57 0 = nI (Rs (u - j) 29) := hS.1.1
        simp (disch := first | omega | assumption | decide) only [e131, s131_0, s131_1, s131_2, s131_4, s131_7, s131_10, s131_12, s131_13, s131_14, s131_17, s131_18, s131_19, s131_22, s131_25, s131_28, s131_29, s131_32, s131_35, s131_38, s131_40, e60, s60_0, s60_1, s60_2, s60_5, s60_6, s60_7, s60_10, s60_13, s60_14a, s60_14b, s60_14, s60_15, s60_16, s60_17, s60_20, s60_21, s60_22, s60_24, s60_25, s60_27, s60_28, s60_31, s60_32, s60_33, s60_36, s60_37, s60_38, s60_41, s60_42, s60_43, s60_46, s60_47, s60_50, s60_51, s60_54, s60_55a, s60_55b, s60_55, Option.toList_some, Option.toList_none, List.cons_append, List.nil_append, if_true, if_false, eq_self, n1n0, ne10, y0]
        have y34 : Y 34 = upd (upd (X 34) 2 (nI ((k + 30 - j) % 30))) 1 (nI (u - j)) := by rw [fY 34 (by omega), zst_at]
        have yc : ∀ c, c ≠ 34 → (c < 57 ∨ 65 ≤ c) → Y c = X c := fun c c1 c2 => by rw [fY c (by omega), zst_ne _ _ c1]
        refine hQ Y (CI_sd (k1 := (k + 30 - j) % 30) (ns1 := ns) hX (fun c c0 c34 c36 c38 c57 => yc c c34 (by omega)) hS ⟨?_, ?_, hk, by omega, fun i hi => ?_⟩ (cIm_fr h4 (fun c hc => yc c (by omega) (by omega))) (by rw [yc 0 (by omega) (by omega)]; exact h5)) (fun c c1 c2 => yc c (by omega) (by omega))
        · rw [y34, upd_at]
        · rw [y34, upd_ne _ _ (by decide), upd_at]
        · have hs2 := u5 i (by omega)
          have : ((k + 30 - j) % 30 + 30 - (u - j) + i) % 30 = (k + 30 - u + i) % 30 := by omega
          rw [this]
          exact cS_fr hs2 (fun c c1 c2 => yc c (by omega) (by omega))
      · intro X Q hX hQ
        obtain ⟨h1, h2, h3, h4, h5, h6, h7⟩ := id hX
        have e := h3.1
        have c' : ¬ nI u < nI j := fun q => c ((nI_ltI (by omega) (by omega)).mp q)
        have hcp := fun (f : Nat → Int32) Q => c_copy (X := zst X 39 f) (Q := Q) (x := 368 + 92 * (u - j)) (y := 0) (by omega) (by omega) (by omega)
        have e29 : va_cpy (X 40) (X 40) (368 + 92 * (u - j)) 0 92 29 = nI (Rs (u - j) 29) := by
          unfold va_cpy
          rw [if_pos (by omega)]
          exact h3.2 (u - j) hlt 29 (by omega)
        simp (disch := first | omega | assumption) only [e103, s103_0, s103_1, s103_2, s103_3, s103_6, s103_9, s103_12, s103_14, s103_15, s103_16, s103_17, s103_20, s103_23, s103_25, s103_26, s103_27, s103_28, s103_31, s103_32, s103_33, s103_36, s103_37, s103_40, s103_42, s103_43, s103_44, s103_45, s103_48, s103_50, s103_51, s103_54, s103_55, s103_56, s103_57, s103_60, s103_61, s103_64, s103_66, s103_67, s103_68, s103_69, s103_72, s103_74, s103_75, Option.toList_some, Option.toList_none, List.cons_append, List.nil_append, if_true, if_false, eq_self, n1n0, ne10, li_1, li_30, hii, e, if_neg c', pk_sub, zst_at, zst_ne, upd_at, nI_add, pk_mul, hcp, zst_zst, upd_ne, e29]
        have hpos : zst (zst X 39 (upd (X 39) 22 (nI (u - j)))) 40 (upd (va_cpy (X 40) (X 40) (368 + 92 * (u - j)) 0 92) 91 (X 40 91)) = zst (zst X 40 (upd (va_cpy (X 40) (X 40) (368 + 92 * (u - j)) 0 92) 91 (X 40 91))) 39 (upd (X 39) 22 (nI (u - j))) := by
          funext i
          unfold zst
          by_cases i1 : i = 40
          · rw [if_pos i1, if_neg (by omega), if_pos i1]
          · rw [if_neg i1, if_neg i1]
        rw [hpos]
        refine hQ _ (MI_w hX (fun i hi => upd_ne _ _ hi) (fun i hi => ?_) (upd_at _ _ _) (fun i hi c hc => ?_) (fun i hi hb => ⟨fun c hc => ?_, ?_⟩) ?_) (fun c hc => by rw [zst_ne _ _ (by omega), zst_ne _ _ (by omega)])
        · rw [upd_ne _ _ (by omega)]
          unfold va_cpy
          rw [if_pos (by omega)]
          have := h3.2 (u - j) hlt i hi
          rwa [show 368 + 92 * (u - j) + (0 + i - 0) = 368 + 92 * (u - j) + i by omega]
        · rw [upd_ne _ _ (by omega)]
          unfold va_cpy
          rw [if_neg (by omega)]
          exact h3.2 i (by omega) c hc
        · rw [upd_ne _ _ (by omega)]
          unfold va_cpy
          rw [if_neg (by omega)]
          exact (h4.2 i hi hb).1 c hc
        · rw [upd_ne _ _ (by omega)]
          unfold va_cpy
          rw [if_neg (by omega)]
          exact (h4.2 i hi hb).2
        · rw [upd_at]; exact h5
