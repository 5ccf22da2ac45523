/-! hold, find, day -/
def hmN (a : Nat) : Nat → Nat
  | 0 => 0
  | b + 1 => hmN a b + (if bt a b = 0 then 1 else 0)
theorem hm_pc (a : Nat) : ∀ n, hmN a n + pcn a n = n
  | 0 => rfl
  | n + 1 => by
    have ih := hm_pc a n
    have hb := bt_lt a n
    simp only [hmN, pcn]
    unfold bt at hb ⊢
    split <;> omega
theorem pcn_big {a B : Nat} (h : a < 2 ^ B) : ∀ n, B ≤ n → pcn a n = pcn a B := by
  intro n hn
  induction hn with
  | refl => rfl
  | step hm ih =>
    rename_i m
    rw [pcn, ih]
    have : a < 2 ^ m := Nat.lt_of_lt_of_le h (Nat.pow_le_pow_right (by decide) hm)
    rw [Nat.div_eq_of_lt this]
    rfl
theorem homes_loop {X : zM} {Q : Option Value → zM → Prop} {B a : Nat} (hB : B ≤ 5) (h11 : X 39 11 = nI B) (h21 : X 40 21 = nI a) (ha : a < 32) : ∀ n b : Nat, b + n = B → zev 102 4 [.ref 39, .int (nI (hmN a b)), .int (nI b)] [] X Q = Q (some (.int (nI (hmN a B)))) X := by
  intro n
  induction n with
  | zero =>
    intro b hb
    have e : b = B := by omega
    subst e
    rw [s102_4]
    simp (disch := first | omega | assumption | decide) only [e102, s102_0, s102_1, s102_2, s102_3, s102_5, s102_6, s102_9, s102_12, s102_13, s102_14, s102_17, s102_19, s102_20, s102_21, s102_24, s102_27, s102_28, s102_31, s102_32, s102_35, s102_36, s102_37, s102_40, s102_43, s102_44, Option.toList_some, Option.toList_none, List.cons_append, List.nil_append, if_true, if_false, eq_self, n1n0, ne10, h11, nI_ltI, Nat.lt_irrefl]
  | succ n ih =>
    intro b hb
    have hlt : b < B := by omega
    have hb2 := bt_lt a b
    have hh := fun Q => c_hasN (a := a) (b := b) (by omega) (by omega) X Q
    refine Eq.trans ?_ (ih (b + 1) (by omega))
    rw [s102_4]
    simp only [hmN]
    by_cases c : bt a b = 0
    · simp (disch := first | omega | assumption | decide) only [e102, s102_0, s102_1, s102_2, s102_3, s102_5, s102_6, s102_9, s102_12, s102_13, s102_14, s102_17, s102_19, s102_20, s102_21, s102_24, s102_27, s102_28, s102_31, s102_32, s102_35, s102_36, s102_37, s102_40, s102_43, s102_44, Option.toList_some, Option.toList_none, List.cons_append, List.nil_append, if_true, if_false, eq_self, n1n0, ne10, h11, h21, nI_ltI, hlt, hh, c, nI_eq, c_one, nI_add]
    · simp (disch := first | omega | assumption | decide) only [e102, s102_0, s102_1, s102_2, s102_3, s102_5, s102_6, s102_9, s102_12, s102_13, s102_14, s102_17, s102_19, s102_20, s102_21, s102_24, s102_27, s102_28, s102_31, s102_32, s102_35, s102_36, s102_37, s102_40, s102_43, s102_44, Option.toList_some, Option.toList_none, List.cons_append, List.nil_append, if_true, if_false, eq_self, n1n0, ne10, h11, h21, nI_ltI, hlt, hh, c, nI_eq, c_one, nI_add]
theorem c_homes {X : zM} {Q : Option Value → zM → Prop} {B a : Nat} (hB : B ≤ 5) (h11 : X 39 11 = nI B) (h21 : X 40 21 = nI a) (ha : a < 32) : zcl 102 [.ref 39] X Q = Q (some (.int (nI (hmN a B)))) X := by
  have := homes_loop (X := X) (Q := Q) hB h11 h21 ha B 0 (by omega)
  simp (disch := first | omega | assumption | decide) only [e102, s102_0, s102_1, s102_2, s102_3, s102_5, s102_6, s102_9, s102_12, s102_13, s102_14, s102_17, s102_19, s102_20, s102_21, s102_24, s102_27, s102_28, s102_31, s102_32, s102_35, s102_36, s102_37, s102_40, s102_43, s102_44]
  exact this
theorem c_homeCount {X : zM} {Q : Option Value → zM → Prop} {B a : Nat} (hB : B ≤ 5) (h11 : X 9 2 = nI B) (h21 : X 57 2 = nI a) (ha : a < 2 ^ B) : zcl 61 [.ref 16] X Q = Q (some (.int (nI (hmN a B)))) X := by
  have h32 := two_pow_le hB
  have h1 := hm_pc a B
  have h2 := pcn_big ha 10 (by omega)
  simp (disch := first | omega | assumption | decide) only [e61, s61_0, s61_1, s61_4, s61_7, s61_8, s61_11, s61_14, s61_17, s61_18, Option.toList_some, Option.toList_none, List.cons_append, List.nil_append, if_true, if_false, eq_self, n1n0, ne10, h11, h21, c_bitCount, pk_sub]
  rw [h2, show B - pcn a B = hmN a B by omega]
theorem clr_lt {a b B : Nat} (h : a < 2 ^ B) : clr a b < 2 ^ B := by
  unfold clr
  split
  · exact Nat.lt_of_le_of_lt (Nat.sub_le _ _) h
  · exact h
theorem or_lt {a b B : Nat} (h : a < 2 ^ B) (hb : b < B) : a ||| 2 ^ b < 2 ^ B := Nat.or_lt_two_pow h (Nat.pow_lt_pow_right (by decide) hb)
theorem ok_hold (x y : Int32) : okCall 129 169 [.int x, .int y] := by
  rintro ⟨⟨D, G, B, C, W, lim, bear⟩, R, ⟨u, Rs⟩, ⟨kb, Ri, si⟩, sd, ⟨t, tx, fa⟩, ⟨tn, tg, tr, en, eg, et⟩⟩ ha
  have hG := ha.1.2.1
  have hB := ha.1.2.2.1
  have hr := ha.2.1.1
  have hu := ha.2.2.1.1
  have r22 := hr.2.2.1
  have h32 := two_pow_le hB
  rcases rngm x B (by omega) with h | ⟨h, h2⟩ | ⟨j, hj, rfl, n1, n2⟩
  · refine ⟨_, -1000000001, ha, okC_ro ?_, okM_ro ?_⟩
    · rintro X Q ⟨nx, k, ns, ni, h1, -⟩
      simp (disch := first | omega | assumption | decide) only [e129, s129_0, s129_1, s129_2, s129_5, s129_8, s129_10, s129_11, s129_12, s129_15, s129_16, s129_19, s129_22, s129_23, s129_26, s129_29, s129_30, s129_33, s129_36, s129_37, s129_40, s129_41, s129_42, s129_43, s129_46, s129_47, s129_50, s129_51, s129_54, s129_57, s129_58, s129_59, s129_60, s129_61, s129_64, s129_65, s129_68, s129_71, s129_72, s129_73, s129_74, s129_75, s129_76, s129_77, s129_80, s129_81, Option.toList_some, Option.toList_none, List.cons_append, List.nil_append, if_true, if_false, eq_self, n1n0, ne10, c_noBoat x h1.2.2.1, if_pos h, n1n0]
    · rintro X Q ⟨h1, -⟩
      simp (disch := first | omega | assumption | decide) only [e169, s169_0, s169_1, s169_2, s169_5, s169_8, s169_10, s169_11, s169_12, s169_15, s169_17, s169_18, s169_19, s169_20, s169_22, s169_23, s169_26, s169_27, s169_28, s169_29, s169_30, s169_31, s169_34, s169_35, s169_36, s169_37, s169_38, s169_39, s169_40, s169_41, s169_44, s169_46, s169_48, s169_49, s169_52, s169_55, Option.toList_some, Option.toList_none, List.cons_append, List.nil_append, if_true, if_false, eq_self, n1n0, ne10, c_isBoat x h1.2.2.1, if_pos h]
  · refine ⟨_, -1000000001, ha, okC_ro ?_, okM_ro ?_⟩
    · rintro X Q ⟨nx, k, ns, ni, h1, -⟩
      simp (disch := first | omega | assumption | decide) only [e129, s129_0, s129_1, s129_2, s129_5, s129_8, s129_10, s129_11, s129_12, s129_15, s129_16, s129_19, s129_22, s129_23, s129_26, s129_29, s129_30, s129_33, s129_36, s129_37, s129_40, s129_41, s129_42, s129_43, s129_46, s129_47, s129_50, s129_51, s129_54, s129_57, s129_58, s129_59, s129_60, s129_61, s129_64, s129_65, s129_68, s129_71, s129_72, s129_73, s129_74, s129_75, s129_76, s129_77, s129_80, s129_81, Option.toList_some, Option.toList_none, List.cons_append, List.nil_append, if_true, if_false, eq_self, n1n0, ne10, c_noBoat x h1.2.2.1, if_neg h, if_pos h2, n1n0]
    · rintro X Q ⟨h1, -⟩
      simp (disch := first | omega | assumption | decide) only [e169, s169_0, s169_1, s169_2, s169_5, s169_8, s169_10, s169_11, s169_12, s169_15, s169_17, s169_18, s169_19, s169_20, s169_22, s169_23, s169_26, s169_27, s169_28, s169_29, s169_30, s169_31, s169_34, s169_35, s169_36, s169_37, s169_38, s169_39, s169_40, s169_41, s169_44, s169_46, s169_48, s169_49, s169_52, s169_55, Option.toList_some, Option.toList_none, List.cons_append, List.nil_append, if_true, if_false, eq_self, n1n0, ne10, c_isBoat x h1.2.2.1, if_neg h, if_pos h2]
  · have hb2 := bt_lt (R 22) j
    have hcl := clr_nI j (by omega) (R 22) (by omega)
    have hlt1 := or_lt r22 hj
    have hlt2 := clr_lt (b := j) r22
    refine ⟨((D, G, B, C, W, lim, bear), upN R 22 (if y = nI 0 then clr (R 22) j else R 22 ||| 2 ^ j), (min 30 (u + 1), psh u Rs R), (kb, Ri, si), sd, (t, tx, fa), (tn, tg, tr, en, eg, et)), nI (bt (R 22) j), ⟨ha.1, ⟨okR_f hr ?_, ?_⟩, okS_psh hu ha.2.1 ha.2.2.1.2, ha.2.2.2⟩, ?_, ?_⟩
    · refine Or.inr (Or.inr ⟨rfl, ?_⟩)
      split
      · exact hlt2
      · exact hlt1
    · rw [upN_ne _ _ (by omega)]; exact ha.2.1.2
    · intro X Q hX hQ
      obtain ⟨nx, k, ns, ni, h1, h2, h3, h4, h5, h6, h7, h8⟩ := id hX
      simp (disch := first | omega | assumption | decide) only [e129, s129_0, s129_1, s129_2, s129_5, s129_8, s129_10, s129_11, s129_12, s129_15, s129_16, s129_19, s129_22, s129_23, s129_26, s129_29, s129_30, s129_33, s129_36, s129_37, s129_40, s129_41, s129_42, s129_43, s129_46, s129_47, s129_50, s129_51, s129_54, s129_57, s129_58, s129_59, s129_60, s129_61, s129_64, s129_65, s129_68, s129_71, s129_72, s129_73, s129_74, s129_75, s129_76, s129_77, s129_80, s129_81, Option.toList_some, Option.toList_none, List.cons_append, List.nil_append, if_true, if_false, eq_self, n1n0, ne10, c_noBoat_in (j := j) h1.2.2.1 hj (by omega)]
      refine CI_rem hG hB hX (fun Y hY fY => ?_)
      obtain ⟨nx1, k1, ns1, ni1, g1, g2, g3, g4, g5, g6, g7, g8⟩ := id hY
      have e2 := g2.1.2.2.2
      have hh := fun Q => c_hasBitN (a := R 22) (b := j) (by omega) (by omega) Y Q
      have key : ∀ v : Nat, v = (if y = nI 0 then clr (R 22) j else R 22 ||| 2 ^ j) → Q (some (.int (nI (bt (R 22) j)))) (zst Y 57 (upd (Y 57) 3 (nI v))) := by
        rintro v rfl
        exact hQ _ (CI_R hY (frC_57 _ _ _ (by omega) (by omega)) (cS_f g2 hG hB (by omega))) (fun c c1 c2 => by rw [zst_ne _ _ (by omega)]; exact fY c c1 c2)
      have hbt : bt (R 22) j = 0 ∨ bt (R 22) j = 1 := by omega
      by_cases cy : y = nI 0
      · rw [if_pos cy] at key
        rcases hbt with hb | hb
        · rw [hb] at key hh
          simp (disch := first | omega | assumption | decide) only [e129, s129_0, s129_1, s129_2, s129_5, s129_8, s129_10, s129_11, s129_12, s129_15, s129_16, s129_19, s129_22, s129_23, s129_26, s129_29, s129_30, s129_33, s129_36, s129_37, s129_40, s129_41, s129_42, s129_43, s129_46, s129_47, s129_50, s129_51, s129_54, s129_57, s129_58, s129_59, s129_60, s129_61, s129_64, s129_65, s129_68, s129_71, s129_72, s129_73, s129_74, s129_75, s129_76, s129_77, s129_80, s129_81, Option.toList_some, Option.toList_none, List.cons_append, List.nil_append, if_true, if_false, eq_self, n1n0, ne10, e2, hh, cy, shl_nI, hcl]
          exact key _ rfl
        · rw [hb] at key hh
          simp (disch := first | omega | assumption | decide) only [e129, s129_0, s129_1, s129_2, s129_5, s129_8, s129_10, s129_11, s129_12, s129_15, s129_16, s129_19, s129_22, s129_23, s129_26, s129_29, s129_30, s129_33, s129_36, s129_37, s129_40, s129_41, s129_42, s129_43, s129_46, s129_47, s129_50, s129_51, s129_54, s129_57, s129_58, s129_59, s129_60, s129_61, s129_64, s129_65, s129_68, s129_71, s129_72, s129_73, s129_74, s129_75, s129_76, s129_77, s129_80, s129_81, Option.toList_some, Option.toList_none, List.cons_append, List.nil_append, if_true, if_false, eq_self, n1n0, ne10, e2, hh, cy, shl_nI, hcl]
          exact key _ rfl
      · rw [if_neg cy] at key
        rcases hbt with hb | hb
        · rw [hb] at key hh
          simp (disch := first | omega | assumption | decide) only [e129, s129_0, s129_1, s129_2, s129_5, s129_8, s129_10, s129_11, s129_12, s129_15, s129_16, s129_19, s129_22, s129_23, s129_26, s129_29, s129_30, s129_33, s129_36, s129_37, s129_40, s129_41, s129_42, s129_43, s129_46, s129_47, s129_50, s129_51, s129_54, s129_57, s129_58, s129_59, s129_60, s129_61, s129_64, s129_65, s129_68, s129_71, s129_72, s129_73, s129_74, s129_75, s129_76, s129_77, s129_80, s129_81, Option.toList_some, Option.toList_none, List.cons_append, List.nil_append, if_true, if_false, eq_self, n1n0, ne10, e2, hh, cy, shl_nI, or_nI]
          exact key _ rfl
        · rw [hb] at key hh
          simp (disch := first | omega | assumption | decide) only [e129, s129_0, s129_1, s129_2, s129_5, s129_8, s129_10, s129_11, s129_12, s129_15, s129_16, s129_19, s129_22, s129_23, s129_26, s129_29, s129_30, s129_33, s129_36, s129_37, s129_40, s129_41, s129_42, s129_43, s129_46, s129_47, s129_50, s129_51, s129_54, s129_57, s129_58, s129_59, s129_60, s129_61, s129_64, s129_65, s129_68, s129_71, s129_72, s129_73, s129_74, s129_75, s129_76, s129_77, s129_80, s129_81, Option.toList_some, Option.toList_none, List.cons_append, List.nil_append, if_true, if_false, eq_self, n1n0, ne10, e2, hh, cy, shl_nI, or_nI]
          exact key _ rfl
    · intro X Q hX hQ
      obtain ⟨h1, h2, h3, h4, h5, h6, h7⟩ := id hX
      have e2 := at0 h2 (i := 22) (by omega)
      have key : ∀ (Y : zM) (v : Nat), v = (if y = nI 0 then clr (R 22) j else R 22 ||| 2 ^ j) → MI ((D, G, B, C, W, lim, bear), R, (min 30 (u + 1), psh u Rs R), (kb, Ri, si), sd, (t, tx, fa), (tn, tg, tr, en, eg, et)) Y → frK X Y → Q (some (.int (nI (bt (R 22) j)))) (zst Y 40 (upd (Y 40) 22 (nI v))) := by
        rintro Y v rfl hY fY
        exact hQ _ (MI_R hY (up0 hY.2.1) (fr0 frW.rf (by omega))) (fun c hc => by rw [zst_ne _ _ (by omega)]; exact fY c hc)
      have hbt : bt (R 22) j = 0 ∨ bt (R 22) j = 1 := by omega
      have hh := fun X Q => c_hasN (a := R 22) (b := j) (by omega) (by omega) X Q
      by_cases cy : y = nI 0
      · rw [if_pos cy] at key
        simp (disch := first | omega | assumption | decide) only [e169, s169_0, s169_1, s169_2, s169_5, s169_8, s169_10, s169_11, s169_12, s169_15, s169_17, s169_18, s169_19, s169_20, s169_22, s169_23, s169_26, s169_27, s169_28, s169_29, s169_30, s169_31, s169_34, s169_35, s169_36, s169_37, s169_38, s169_39, s169_40, s169_41, s169_44, s169_46, s169_48, s169_49, s169_52, s169_55, e144, s144_0, s144_1, s144_4, s144_5, s144_8, s144_9, s144_10, s144_11, s144_12, s144_15, s144_16, s144_17, s144_18, s144_19, Option.toList_some, Option.toList_none, List.cons_append, List.nil_append, if_true, if_false, eq_self, n1n0, ne10, c_isBoat_in (j := j) h1.2.2.1 hj (by omega), e2, cy, shl_nI, hcl]
        refine MI_rem hu hX (fun Y hY fY => ?_)
        have f2 := at0 hY.2.1 (i := 22) (by omega)
        rcases hbt with hb | hb
        · rw [hb] at key hh
          simp (disch := first | omega | assumption | decide) only [e169, s169_0, s169_1, s169_2, s169_5, s169_8, s169_10, s169_11, s169_12, s169_15, s169_17, s169_18, s169_19, s169_20, s169_22, s169_23, s169_26, s169_27, s169_28, s169_29, s169_30, s169_31, s169_34, s169_35, s169_36, s169_37, s169_38, s169_39, s169_40, s169_41, s169_44, s169_46, s169_48, s169_49, s169_52, s169_55, e144, s144_0, s144_1, s144_4, s144_5, s144_8, s144_9, s144_10, s144_11, s144_12, s144_15, s144_16, s144_17, s144_18, s144_19, Option.toList_some, Option.toList_none, List.cons_append, List.nil_append, if_true, if_false, eq_self, n1n0, ne10, f2, hh, c_one]
          exact key Y _ rfl hY fY
        · rw [hb] at key hh
          simp (disch := first | omega | assumption | decide) only [e169, s169_0, s169_1, s169_2, s169_5, s169_8, s169_10, s169_11, s169_12, s169_15, s169_17, s169_18, s169_19, s169_20, s169_22, s169_23, s169_26, s169_27, s169_28, s169_29, s169_30, s169_31, s169_34, s169_35, s169_36, s169_37, s169_38, s169_39, s169_40, s169_41, s169_44, s169_46, s169_48, s169_49, s169_52, s169_55, e144, s144_0, s144_1, s144_4, s144_5, s144_8, s144_9, s144_10, s144_11, s144_12, s144_15, s144_16, s144_17, s144_18, s144_19, Option.toList_some, Option.toList_none, List.cons_append, List.nil_append, if_true, if_false, eq_self, n1n0, ne10, f2, hh, c_one]
          exact key Y _ rfl hY fY
      · rw [if_neg cy] at key
        simp (disch := first | omega | assumption | decide) only [e169, s169_0, s169_1, s169_2, s169_5, s169_8, s169_10, s169_11, s169_12, s169_15, s169_17, s169_18, s169_19, s169_20, s169_22, s169_23, s169_26, s169_27, s169_28, s169_29, s169_30, s169_31, s169_34, s169_35, s169_36, s169_37, s169_38, s169_39, s169_40, s169_41, s169_44, s169_46, s169_48, s169_49, s169_52, s169_55, e144, s144_0, s144_1, s144_4, s144_5, s144_8, s144_9, s144_10, s144_11, s144_12, s144_15, s144_16, s144_17, s144_18, s144_19, Option.toList_some, Option.toList_none, List.cons_append, List.nil_append, if_true, if_false, eq_self, n1n0, ne10, c_isBoat_in (j := j) h1.2.2.1 hj (by omega), e2, cy, shl_nI, or_nI]
        refine MI_rem hu hX (fun Y hY fY => ?_)
        have f2 := at0 hY.2.1 (i := 22) (by omega)
        rcases hbt with hb | hb
        · rw [hb] at key hh
          simp (disch := first | omega | assumption | decide) only [e169, s169_0, s169_1, s169_2, s169_5, s169_8, s169_10, s169_11, s169_12, s169_15, s169_17, s169_18, s169_19, s169_20, s169_22, s169_23, s169_26, s169_27, s169_28, s169_29, s169_30, s169_31, s169_34, s169_35, s169_36, s169_37, s169_38, s169_39, s169_40, s169_41, s169_44, s169_46, s169_48, s169_49, s169_52, s169_55, e144, s144_0, s144_1, s144_4, s144_5, s144_8, s144_9, s144_10, s144_11, s144_12, s144_15, s144_16, s144_17, s144_18, s144_19, Option.toList_some, Option.toList_none, List.cons_append, List.nil_append, if_true, if_false, eq_self, n1n0, ne10, f2, hh, c_one]
          exact key Y _ rfl hY fY
        · rw [hb] at key hh
          simp (disch := first | omega | assumption | decide) only [e169, s169_0, s169_1, s169_2, s169_5, s169_8, s169_10, s169_11, s169_12, s169_15, s169_17, s169_18, s169_19, s169_20, s169_22, s169_23, s169_26, s169_27, s169_28, s169_29, s169_30, s169_31, s169_34, s169_35, s169_36, s169_37, s169_38, s169_39, s169_40, s169_41, s169_44, s169_46, s169_48, s169_49, s169_52, s169_55, e144, s144_0, s144_1, s144_4, s144_5, s144_8, s144_9, s144_10, s144_11, s144_12, s144_15, s144_16, s144_17, s144_18, s144_19, Option.toList_some, Option.toList_none, List.cons_append, List.nil_append, if_true, if_false, eq_self, n1n0, ne10, f2, hh, c_one]
          exact key Y _ rfl hY fY
theorem ok_find (x : Int32) : okCall 130 145 [.int x] := by
  rintro ⟨⟨D, G, B, C, W, lim, bear⟩, R, ⟨u, Rs⟩, ⟨kb, Ri, si⟩, sd, ⟨t, tx, fa⟩, ⟨tn, tg, tr, en, eg, et⟩⟩ ha
  have hG := ha.1.2.1
  have hB := ha.1.2.2.1
  have hr := ha.2.1.1
  have hu := ha.2.2.1.1
  have r21 := hr.2.1
  have h32 := two_pow_le hB
  rcases rngm x B (by omega) with h | ⟨h, h2⟩ | ⟨j, hj, rfl, n1, n2⟩
  · refine ⟨_, -1000000001, ha, okC_ro ?_, okM_ro ?_⟩
    · rintro X Q ⟨nx, k, ns, ni, h1, -⟩
      simp (disch := first | omega | assumption | decide) only [e130, s130_0, s130_1, s130_2, s130_5, s130_8, s130_10, s130_11, s130_12, s130_15, s130_18, s130_19, s130_22, s130_25, s130_27, s130_28, s130_29, s130_32, s130_33, s130_36, s130_39, s130_40, s130_43, s130_44, s130_47, s130_50, s130_51, s130_52, s130_53, s130_54, s130_55, s130_56, s130_59, s130_60, s130_63, s130_66, s130_69, Option.toList_some, Option.toList_none, List.cons_append, List.nil_append, if_true, if_false, eq_self, n1n0, ne10, c_noBoat x h1.2.2.1, if_pos h, n1n0]
    · rintro X Q ⟨h1, -⟩
      simp (disch := first | omega | assumption | decide) only [e145, s145_0, s145_1, s145_2, s145_5, s145_8, s145_10, s145_11, s145_12, s145_15, s145_17, s145_18, s145_19, s145_22, s145_25, s145_27, s145_28, s145_29, s145_32, s145_33, s145_36, s145_38, s145_39, s145_40, s145_41, s145_42, s145_43, s145_44, s145_45, s145_46, s145_47, s145_48, s145_51, s145_52, s145_55, s145_56, Option.toList_some, Option.toList_none, List.cons_append, List.nil_append, if_true, if_false, eq_self, n1n0, ne10, c_isBoat x h1.2.2.1, if_pos h]
  · refine ⟨_, -1000000001, ha, okC_ro ?_, okM_ro ?_⟩
    · rintro X Q ⟨nx, k, ns, ni, h1, -⟩
      simp (disch := first | omega | assumption | decide) only [e130, s130_0, s130_1, s130_2, s130_5, s130_8, s130_10, s130_11, s130_12, s130_15, s130_18, s130_19, s130_22, s130_25, s130_27, s130_28, s130_29, s130_32, s130_33, s130_36, s130_39, s130_40, s130_43, s130_44, s130_47, s130_50, s130_51, s130_52, s130_53, s130_54, s130_55, s130_56, s130_59, s130_60, s130_63, s130_66, s130_69, Option.toList_some, Option.toList_none, List.cons_append, List.nil_append, if_true, if_false, eq_self, n1n0, ne10, c_noBoat x h1.2.2.1, if_neg h, if_pos h2, n1n0]
    · rintro X Q ⟨h1, -⟩
      simp (disch := first | omega | assumption | decide) only [e145, s145_0, s145_1, s145_2, s145_5, s145_8, s145_10, s145_11, s145_12, s145_15, s145_17, s145_18, s145_19, s145_22, s145_25, s145_27, s145_28, s145_29, s145_32, s145_33, s145_36, s145_38, s145_39, s145_40, s145_41, s145_42, s145_43, s145_44, s145_45, s145_46, s145_47, s145_48, s145_51, s145_52, s145_55, s145_56, Option.toList_some, Option.toList_none, List.cons_append, List.nil_append, if_true, if_false, eq_self, n1n0, ne10, c_isBoat x h1.2.2.1, if_neg h, if_pos h2]
  · have hb2 := bt_lt (R 21) j
    have hcl := clr_nI j (by omega) (R 21) (by omega)
    have hlt2 := clr_lt (b := j) r21
    by_cases c : bt (R 21) j = 0
    · refine ⟨_, -1000000003, ha, okC_ro ?_, okM_ro ?_⟩
      · rintro X Q ⟨nx, k, ns, ni, h1, h2, h3, h4, h5, h6, h7, h8⟩
        have e2 := h2.1.2.2.1
        have hh := fun Q => c_hasBitN (a := R 21) (b := j) (by omega) (by omega) X Q
        rw [c] at hh
        simp (disch := first | omega | assumption | decide) only [e130, s130_0, s130_1, s130_2, s130_5, s130_8, s130_10, s130_11, s130_12, s130_15, s130_18, s130_19, s130_22, s130_25, s130_27, s130_28, s130_29, s130_32, s130_33, s130_36, s130_39, s130_40, s130_43, s130_44, s130_47, s130_50, s130_51, s130_52, s130_53, s130_54, s130_55, s130_56, s130_59, s130_60, s130_63, s130_66, s130_69, Option.toList_some, Option.toList_none, List.cons_append, List.nil_append, if_true, if_false, eq_self, n1n0, ne10, c_noBoat_in (j := j) h1.2.2.1 hj (by omega), e2, hh]
      · rintro X Q ⟨h1, h2, h3, h4, h5, h6, h7⟩
        have e2 := at0 h2 (i := 21) (by omega)
        have hh := fun Q => c_hasN (a := R 21) (b := j) (by omega) (by omega) X Q
        rw [c] at hh
        simp (disch := first | omega | assumption | decide) only [e145, s145_0, s145_1, s145_2, s145_5, s145_8, s145_10, s145_11, s145_12, s145_15, s145_17, s145_18, s145_19, s145_22, s145_25, s145_27, s145_28, s145_29, s145_32, s145_33, s145_36, s145_38, s145_39, s145_40, s145_41, s145_42, s145_43, s145_44, s145_45, s145_46, s145_47, s145_48, s145_51, s145_52, s145_55, s145_56, Option.toList_some, Option.toList_none, List.cons_append, List.nil_append, if_true, if_false, eq_self, n1n0, ne10, c_isBoat_in (j := j) h1.2.2.1 hj (by omega), e2, hh]
    · have c' : bt (R 21) j = 1 := by omega
      have hp := pcn_big hlt2 10 (by omega)
      have hm := hm_pc (clr (R 21) j) B
      refine ⟨((D, G, B, C, W, lim, bear), upN R 21 (clr (R 21) j), (min 30 (u + 1), psh u Rs R), (kb, Ri, si), sd, (t, tx, fa), (tn, tg, tr, en, eg, et)), nI (pcn (clr (R 21) j) 10), ⟨ha.1, ⟨okR_f hr (Or.inr (Or.inl ⟨rfl, hlt2⟩)), ?_⟩, okS_psh hu ha.2.1 ha.2.2.1.2, ha.2.2.2⟩, ?_, ?_⟩
      · rw [upN_ne _ _ (by omega)]; exact ha.2.1.2
      · intro X Q hX hQ
        obtain ⟨nx, k, ns, ni, h1, h2, h3, h4, h5, h6, h7, h8⟩ := id hX
        have e2 := h2.1.2.2.1
        have hh := fun Q => c_hasBitN (a := R 21) (b := j) (by omega) (by omega) X Q
        rw [c'] at hh
        simp (disch := first | omega | assumption | decide) only [e130, s130_0, s130_1, s130_2, s130_5, s130_8, s130_10, s130_11, s130_12, s130_15, s130_18, s130_19, s130_22, s130_25, s130_27, s130_28, s130_29, s130_32, s130_33, s130_36, s130_39, s130_40, s130_43, s130_44, s130_47, s130_50, s130_51, s130_52, s130_53, s130_54, s130_55, s130_56, s130_59, s130_60, s130_63, s130_66, s130_69, Option.toList_some, Option.toList_none, List.cons_append, List.nil_append, if_true, if_false, eq_self, n1n0, ne10, c_noBoat_in (j := j) h1.2.2.1 hj (by omega), e2, hh]
        refine CI_rem hG hB hX (fun Y hY fY => ?_)
        obtain ⟨nx1, k1, ns1, ni1, g1, g2, g3, g4, g5, g6, g7, g8⟩ := id hY
        have e2 := g2.1.2.2.1
        simp (disch := first | omega | assumption | decide) only [e130, s130_0, s130_1, s130_2, s130_5, s130_8, s130_10, s130_11, s130_12, s130_15, s130_18, s130_19, s130_22, s130_25, s130_27, s130_28, s130_29, s130_32, s130_33, s130_36, s130_39, s130_40, s130_43, s130_44, s130_47, s130_50, s130_51, s130_52, s130_53, s130_54, s130_55, s130_56, s130_59, s130_60, s130_63, s130_66, s130_69, Option.toList_some, Option.toList_none, List.cons_append, List.nil_append, if_true, if_false, eq_self, n1n0, ne10, e2, shl_nI, hcl, zst_at, upd_at, c_bitCount]
        exact hQ _ (CI_R hY (frC_57 _ _ _ (by omega) (by omega)) (cS_f g2 hG hB (by omega))) (fun c c1 c2 => by rw [zst_ne _ _ (by omega)]; exact fY c c1 c2)
      · intro X Q hX hQ
        obtain ⟨h1, h2, h3, h4, h5, h6, h7⟩ := id hX
        have e2 := at0 h2 (i := 21) (by omega)
        have hh := fun Q => c_hasN (a := R 21) (b := j) (by omega) (by omega) X Q
        rw [c'] at hh
        simp (disch := first | omega | assumption | decide) only [e145, s145_0, s145_1, s145_2, s145_5, s145_8, s145_10, s145_11, s145_12, s145_15, s145_17, s145_18, s145_19, s145_22, s145_25, s145_27, s145_28, s145_29, s145_32, s145_33, s145_36, s145_38, s145_39, s145_40, s145_41, s145_42, s145_43, s145_44, s145_45, s145_46, s145_47, s145_48, s145_51, s145_52, s145_55, s145_56, Option.toList_some, Option.toList_none, List.cons_append, List.nil_append, if_true, if_false, eq_self, n1n0, ne10, c_isBoat_in (j := j) h1.2.2.1 hj (by omega), e2, hh]
        refine MI_rem hu hX (fun Y hY fY => ?_)
        have f2 := at0 hY.2.1 (i := 21) (by omega)
        have hm2 := MI_R hY (up0 (k := 21) (v := clr (R 21) j) hY.2.1) (fr0 frW.rf (by omega))
        have hho := fun Q => c_homes (X := zst Y 40 (upd (Y 40) 21 (nI (clr (R 21) j)))) (Q := Q) (a := clr (R 21) j) hB hm2.1.2.2.1 (by rw [zst_at, upd_at]) (by omega)
        have fB := hm2.1.2.2.1
        simp (disch := first | omega | assumption | decide) only [e145, s145_0, s145_1, s145_2, s145_5, s145_8, s145_10, s145_11, s145_12, s145_15, s145_17, s145_18, s145_19, s145_22, s145_25, s145_27, s145_28, s145_29, s145_32, s145_33, s145_36, s145_38, s145_39, s145_40, s145_41, s145_42, s145_43, s145_44, s145_45, s145_46, s145_47, s145_48, s145_51, s145_52, s145_55, s145_56, Option.toList_some, Option.toList_none, List.cons_append, List.nil_append, if_true, if_false, eq_self, n1n0, ne10, f2, shl_nI, hcl, hho, fB]
        rw [pk_sub (by omega), show B - hmN (clr (R 21) j) B = pcn (clr (R 21) j) 10 by omega]
        exact hQ _ hm2 (fun c hc => by rw [zst_ne _ _ (by omega)]; exact fY c hc)
