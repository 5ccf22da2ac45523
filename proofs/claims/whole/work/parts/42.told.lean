/-! told -/
/-- a set, glass by glass -/
def stN (p : Nat → Bool) : Nat → Nat
  | 0 => 0
  | g + 1 => if p g then stN p g ||| 2 ^ g else stN p g
section TO
variable {D G B C : Nat} {W lim bear : Nat → Nat} {X : zM} {R : Nat → Nat} {nx x : Nat} {Q : Option Value → zM → Prop}
theorem gladSet_loop (ho : okP D G B C W lim bear) (hc : cP D G B C W lim bear X) (hs : cS G B X 57 R nx) (hr : okR B R) : ∀ n i : Nat, i + n = G → zev 24 4 [.ref 15, .int (nI (stN (fun g => decide (0 < R (14 + g))) i)), .int (nI i)] [] X Q = Q (some (.int (nI (stN (fun g => decide (0 < R (14 + g))) G)))) X := by
  have hG := ho.2.1
  have hGe := hc.2.1
  intro n
  induction n with
  | zero =>
    intro i hi
    have e : i = G := by omega
    subst e
    rw [s24_4]
    simp (disch := first | omega | assumption | decide) only [e24, s24_0, s24_1, s24_2, s24_3, s24_5, s24_6, s24_9, s24_12, s24_15, s24_16, s24_19, s24_22, s24_23, s24_24, s24_27, s24_28, s24_29, s24_30, s24_31, s24_32, s24_33, s24_36, s24_39, s24_40, Option.toList_some, Option.toList_none, List.cons_append, List.nil_append, if_true, if_false, eq_self, n1n0, ne10, hGe, nI_ltI, Nat.lt_irrefl]
  | succ n ih =>
    intro i hi
    have hlt : i < G := by omega
    have e1 : X 60 i = nI (R (14 + i)) := (hs.2.2.1 i hlt).2.2
    have hb := (hr.1 i (by omega)).2.2
    refine Eq.trans ?_ (ih (i + 1) (by omega))
    rw [s24_4]
    simp only [stN]
    by_cases c : 0 < R (14 + i)
    · simp (disch := first | omega | assumption | decide) only [e24, s24_0, s24_1, s24_2, s24_3, s24_5, s24_6, s24_9, s24_12, s24_15, s24_16, s24_19, s24_22, s24_23, s24_24, s24_27, s24_28, s24_29, s24_30, s24_31, s24_32, s24_33, s24_36, s24_39, s24_40, Option.toList_some, Option.toList_none, List.cons_append, List.nil_append, if_true, if_false, eq_self, n1n0, ne10, hGe, nI_ltI, hlt, e1, c, shl_nI, or_nI, nI_add, decide_true]
    · simp (disch := first | omega | assumption | decide) only [e24, s24_0, s24_1, s24_2, s24_3, s24_5, s24_6, s24_9, s24_12, s24_15, s24_16, s24_19, s24_22, s24_23, s24_24, s24_27, s24_28, s24_29, s24_30, s24_31, s24_32, s24_33, s24_36, s24_39, s24_40, Option.toList_some, Option.toList_none, List.cons_append, List.nil_append, if_true, if_false, eq_self, n1n0, ne10, hGe, nI_ltI, hlt, e1, c, nI_add, decide_false, Bool.false_eq_true]
theorem gladOnes_loop (ho : okP D G B C W lim bear) (hm : mP D G B C W lim bear X) (hs : mW (X 40) 0 R) (hr : okR B R) : ∀ n i : Nat, i + n = G → zev 97 4 [.ref 39, .int (nI (stN (fun g => decide (0 < R (14 + g))) i)), .int (nI i)] [] X Q = Q (some (.int (nI (stN (fun g => decide (0 < R (14 + g))) G)))) X := by
  have hG := ho.2.1
  have hGe := hm.2.1
  intro n
  induction n with
  | zero =>
    intro i hi
    have e : i = G := by omega
    subst e
    rw [s97_4]
    simp (disch := first | omega | assumption | decide) only [e97, s97_0, s97_1, s97_2, s97_3, s97_5, s97_6, s97_9, s97_12, s97_13, s97_14, s97_17, s97_19, s97_20, s97_21, s97_22, s97_25, s97_26, s97_29, s97_30, s97_33, s97_34, s97_35, s97_36, s97_37, s97_40, s97_43, s97_44, Option.toList_some, Option.toList_none, List.cons_append, List.nil_append, if_true, if_false, eq_self, n1n0, ne10, hGe, nI_ltI, Nat.lt_irrefl]
  | succ n ih =>
    intro i hi
    have hlt : i < G := by omega
    have e1 := at0 hs (i := 14 + i) (by omega)
    have hb := (hr.1 i (by omega)).2.2
    refine Eq.trans ?_ (ih (i + 1) (by omega))
    rw [s97_4]
    simp only [stN]
    by_cases c : 0 < R (14 + i)
    · simp (disch := first | omega | assumption | decide) only [e97, s97_0, s97_1, s97_2, s97_3, s97_5, s97_6, s97_9, s97_12, s97_13, s97_14, s97_17, s97_19, s97_20, s97_21, s97_22, s97_25, s97_26, s97_29, s97_30, s97_33, s97_34, s97_35, s97_36, s97_37, s97_40, s97_43, s97_44, Option.toList_some, Option.toList_none, List.cons_append, List.nil_append, if_true, if_false, eq_self, n1n0, ne10, hGe, nI_ltI, hlt, e1, c, c_one, shl_nI, or_nI, nI_add, decide_true]
    · simp (disch := first | omega | assumption | decide) only [e97, s97_0, s97_1, s97_2, s97_3, s97_5, s97_6, s97_9, s97_12, s97_13, s97_14, s97_17, s97_19, s97_20, s97_21, s97_22, s97_25, s97_26, s97_29, s97_30, s97_33, s97_34, s97_35, s97_36, s97_37, s97_40, s97_43, s97_44, Option.toList_some, Option.toList_none, List.cons_append, List.nil_append, if_true, if_false, eq_self, n1n0, ne10, hGe, nI_ltI, hlt, e1, c, c_one, shl0, or_nI, Nat.or_zero, nI_add, decide_false, Bool.false_eq_true]
theorem caughtC_loop (ho : okP D G B C W lim bear) (hc : cP D G B C W lim bear X) (hs : cS G B X 57 R nx) : ∀ n i : Nat, i + n = B → zev 7 4 [.ref 16, .int (nI (smN (fun b => R (23 + b)) i)), .int (nI i)] [] X Q = Q (some (.int (nI (smN (fun b => R (23 + b)) B)))) X := by
  have hB := ho.2.2.1
  have hBe := hc.2.2.1
  intro n
  induction n with
  | zero =>
    intro i hi
    have e : i = B := by omega
    subst e
    rw [s7_4]
    simp (disch := first | omega | assumption | decide) only [e7, s7_0, s7_1, s7_2, s7_3, s7_5, s7_6, s7_9, s7_12, s7_15, s7_16, s7_17, s7_20, s7_23, s7_24, s7_25, s7_26, s7_27, s7_30, s7_33, s7_34, Option.toList_some, Option.toList_none, List.cons_append, List.nil_append, if_true, if_false, eq_self, n1n0, ne10, hBe, nI_ltI, Nat.lt_irrefl]
  | succ n ih =>
    intro i hi
    have hlt : i < B := by omega
    have e1 : X 61 i = nI (R (23 + i)) := hs.2.2.2.1 i hlt
    refine Eq.trans ?_ (ih (i + 1) (by omega))
    rw [s7_4]
    simp (disch := first | omega | assumption | decide) only [e7, s7_0, s7_1, s7_2, s7_3, s7_5, s7_6, s7_9, s7_12, s7_15, s7_16, s7_17, s7_20, s7_23, s7_24, s7_25, s7_26, s7_27, s7_30, s7_33, s7_34, Option.toList_some, Option.toList_none, List.cons_append, List.nil_append, if_true, if_false, eq_self, n1n0, ne10, hBe, nI_ltI, hlt, e1, nI_add, smN]
theorem caughtM_loop (ho : okP D G B C W lim bear) (hm : mP D G B C W lim bear X) (hs : mW (X 40) 0 R) : ∀ n i : Nat, i + n = B → zev 48 4 [.ref 39, .int (nI (smN (fun b => R (23 + b)) i)), .int (nI i)] [] X Q = Q (some (.int (nI (smN (fun b => R (23 + b)) B)))) X := by
  have hB := ho.2.2.1
  have hBe := hm.2.2.1
  intro n
  induction n with
  | zero =>
    intro i hi
    have e : i = B := by omega
    subst e
    rw [s48_4]
    simp (disch := first | omega | assumption | decide) only [e48, s48_0, s48_1, s48_2, s48_3, s48_5, s48_6, s48_9, s48_12, s48_13, s48_14, s48_17, s48_19, s48_20, s48_21, s48_22, s48_23, s48_24, s48_27, s48_30, s48_31, Option.toList_some, Option.toList_none, List.cons_append, List.nil_append, if_true, if_false, eq_self, n1n0, ne10, hBe, nI_ltI, Nat.lt_irrefl]
  | succ n ih =>
    intro i hi
    have hlt : i < B := by omega
    have e1 := at0 hs (i := 23 + i) (by omega)
    refine Eq.trans ?_ (ih (i + 1) (by omega))
    rw [s48_4]
    simp (disch := first | omega | assumption | decide) only [e48, s48_0, s48_1, s48_2, s48_3, s48_5, s48_6, s48_9, s48_12, s48_13, s48_14, s48_17, s48_19, s48_20, s48_21, s48_22, s48_23, s48_24, s48_27, s48_30, s48_31, Option.toList_some, Option.toList_none, List.cons_append, List.nil_append, if_true, if_false, eq_self, n1n0, ne10, hBe, nI_ltI, hlt, e1, nI_add, smN]
theorem sailM_loop {t : Nat} (ho : okP D G B C W lim bear) (hm : mP D G B C W lim bear X) (hs : mW (X 40) 0 R) (hr : okR B R) (ht : t ≤ 9) : ∀ n b : Nat, b + n = B → zev 198 21 [.ref 39, .int (nI (outN lim R t b)), .int (nI t), .int (nI b)] [] X Q = Q (some (.int (nI (outN lim R t B)))) X := by
  have hB := ho.2.2.1
  have hBe := hm.2.2.1
  have h32 := two_pow_le hB
  have r1 := hr.2.1
  have r2 := hr.2.2.1
  intro n
  induction n with
  | zero =>
    intro b hb
    have e : b = B := by omega
    subst e
    rw [s198_21]
    simp (disch := first | omega | assumption | decide) only [e198, s198_0, s198_1, s198_2, s198_3, s198_6, s198_9, s198_10, s198_13, s198_14, s198_15, s198_18, s198_19, s198_20, s198_22, s198_23, s198_26, s198_29, s198_30, s198_31, s198_32, s198_33, s198_34, s198_37, s198_40, s198_41, s198_42, s198_43, s198_44, s198_47, s198_50, s198_51, Option.toList_some, Option.toList_none, List.cons_append, List.nil_append, if_true, if_false, eq_self, n1n0, ne10, hBe, nI_ltI, Nat.lt_irrefl]
  | succ n ih =>
    intro b hb
    have hlt : b < B := by omega
    have hsl := fun Q => c_sails (X := X) (Q := Q) (x := 0) (b := b) (t := t) ho hm hs (by omega) (by omega) (by omega) hlt (by omega)
    refine Eq.trans ?_ (ih (b + 1) (by omega))
    rw [s198_21]
    simp only [outN]
    by_cases c : bt (R 21 ||| R 22) b = 0 ∧ lim b ≤ t
    · have c2 := (bt_or (R 21) (R 22) b).mp c.1
      have c3 : bt (R 21) b = 0 ∧ bt (R 22) b = 0 ∧ lim b ≤ t := ⟨c2.1, c2.2, c.2⟩
      simp (disch := first | omega | assumption | decide) only [e198, s198_0, s198_1, s198_2, s198_3, s198_6, s198_9, s198_10, s198_13, s198_14, s198_15, s198_18, s198_19, s198_20, s198_22, s198_23, s198_26, s198_29, s198_30, s198_31, s198_32, s198_33, s198_34, s198_37, s198_40, s198_41, s198_42, s198_43, s198_44, s198_47, s198_50, s198_51, Option.toList_some, Option.toList_none, List.cons_append, List.nil_append, if_true, if_false, eq_self, n1n0, ne10, hBe, nI_ltI, hlt, hsl, if_pos c3, if_pos c, c_one, shl_nI, or_nI, nI_add]
    · have c3 : ¬ (bt (R 21) b = 0 ∧ bt (R 22) b = 0 ∧ lim b ≤ t) := fun q => c ⟨(bt_or (R 21) (R 22) b).mpr ⟨q.1, q.2.1⟩, q.2.2⟩
      simp (disch := first | omega | assumption | decide) only [e198, s198_0, s198_1, s198_2, s198_3, s198_6, s198_9, s198_10, s198_13, s198_14, s198_15, s198_18, s198_19, s198_20, s198_22, s198_23, s198_26, s198_29, s198_30, s198_31, s198_32, s198_33, s198_34, s198_37, s198_40, s198_41, s198_42, s198_43, s198_44, s198_47, s198_50, s198_51, Option.toList_some, Option.toList_none, List.cons_append, List.nil_append, if_true, if_false, eq_self, n1n0, ne10, hBe, nI_ltI, hlt, hsl, if_neg c3, if_neg c, c_one, shl0, or_nI, Nat.or_zero, nI_add]
theorem mm_sailing (ho : okP D G B C W lim bear) (hm : mP D G B C W lim bear X) (hs : mW (X 40) 0 R) (hr : okR B R) : zcl 198 [.ref 39] X Q = Q (some (.int (nI (outN lim R (tN D G W R 0) B)))) X := by
  have hD2 := ho.1
  by_cases h0 : D = 0
  · have hB0 := (ho.2.2.2.2.2.2.2 h0).2.1
    have e := hm.1
    have hBe := hm.2.2.1
    rw [h0] at e
    rw [hB0] at hBe ⊢
    simp (disch := first | omega | assumption | decide) only [e198, s198_0, s198_1, s198_2, s198_3, s198_6, s198_9, s198_10, s198_13, s198_14, s198_15, s198_18, s198_19, s198_20, s198_22, s198_23, s198_26, s198_29, s198_30, s198_31, s198_32, s198_33, s198_34, s198_37, s198_40, s198_41, s198_42, s198_43, s198_44, s198_47, s198_50, s198_51, Option.toList_some, Option.toList_none, List.cons_append, List.nil_append, if_true, if_false, eq_self, n1n0, ne10, e]
    rw [s198_21]
    simp (disch := first | omega | assumption | decide) only [e198, s198_0, s198_1, s198_2, s198_3, s198_6, s198_9, s198_10, s198_13, s198_14, s198_15, s198_18, s198_19, s198_20, s198_22, s198_23, s198_26, s198_29, s198_30, s198_31, s198_32, s198_33, s198_34, s198_37, s198_40, s198_41, s198_42, s198_43, s198_44, s198_47, s198_50, s198_51, Option.toList_some, Option.toList_none, List.cons_append, List.nil_append, if_true, if_false, eq_self, n1n0, ne10, hBe, Int32.lt_irrefl, outN]
  · have c1 : ¬ nI D = nI 0 := fun q => h0 ((nI_eq (by omega) (by omega)).mp q)
    have e := hm.1
    have hl := sailM_loop (X := X) (Q := Q) ho hm hs hr (tN_le (D := D) (G := G) (W := W) R 0) B 0 (by omega)
    have hrt := fun Q => mm_rowTells (X := X) (Q := Q) (x := 0) ho hm hs hr (by omega) (by omega)
    simp only [outN] at hl
    simp (disch := first | omega | assumption | decide) only [e198, s198_0, s198_1, s198_2, s198_3, s198_6, s198_9, s198_10, s198_13, s198_14, s198_15, s198_18, s198_19, s198_20, s198_22, s198_23, s198_26, s198_29, s198_30, s198_31, s198_32, s198_33, s198_34, s198_37, s198_40, s198_41, s198_42, s198_43, s198_44, s198_47, s198_50, s198_51, Option.toList_some, Option.toList_none, List.cons_append, List.nil_append, if_true, if_false, eq_self, n1n0, ne10, e, c1, hrt, hl]
end TO
theorem ok_told (x : Int32) : okCall 177 201 [.int x] := by
  rintro ⟨⟨D, G, B, C, W, lim, bear⟩, R, ⟨u, Rs⟩, ⟨kb, Ri, si⟩, sd, ⟨t, tx, fa⟩, ⟨tn, tg, tr, en, eg, et⟩⟩ ha
  have hr := ha.2.1.1
  have hD2 := ha.1.1
  refine ⟨_, (if x = nI 0 then nI D else if x = nI 1 then nI G else if x = nI 2 then nI B else if x = nI 3 then nI t else if x = nI 4 then nI (R 29) else if x = nI 5 then (if D = 0 then -1 else nI (tN D G W R 0)) else if x = nI 6 then nI (R 28) else if x = nI 7 then nI (outN lim R (tN D G W R 0) B) else if x = nI 8 then nI (R 21) else if x = nI 9 then nI (R 22) else if x = nI 10 then nI (stN (fun g => decide (0 < R (14 + g))) G) else if x = nI 11 then nI (smN (fun b => R (23 + b)) B) else if x = nI 12 then nI (R 30) else if x = nI 13 then nI tn else if x = nI 14 then nI en else if x = nI 15 then nI u else -1000000002), ha, okC_ro ?_, okM_ro ?_⟩
  · rintro X Q ⟨nx, k, ns, ni, h1, h2, h3, h4, h5, h6, h7, h8⟩
    obtain ⟨s0, s1, s2, s3⟩ := h2.1
    have s8 := h2.2.1.1
    obtain ⟨p0, p1, p2, p3, -⟩ := id h1
    have hnc := fun Q => c_noCoast (X := X) (Q := Q) p0 hD2
    have hgl := fun Q => gladSet_loop (X := X) (Q := Q) ha.1 h1 h2 hr G 0 (by omega)
    have hca := fun Q => caughtC_loop (X := X) (Q := Q) ha.1 h1 h2 B 0 (by omega)
    have hsa := fun Q => cc_sailing (X := X) (Q := Q) ha.1 h1 h2 hr
    have hte := fun Q => cc_telling (X := X) (Q := Q) (n := 0) ha.1 h1 h2 hr (by omega)
    simp only [stN] at hgl
    simp only [smN] at hca
    have q6 := h6.1
    have q7 := h7.1
    have q8 := h7.2.1
    have q3 := h3.1
    by_cases h0 : D = 0
    · have hz : 0 = 0 := rfl
      have b0 : zev 177 80 [.ref 0, .int x] [] X Q = Q (some (.int (nI D))) X := by
        simp (disch := first | omega | assumption | decide) only [e177, s177_0, s177_1, s177_80, s177_81, s177_84, s177_87, s177_88, s177_89, s177_92, s177_95, s177_96, s177_97, s177_100, s177_103, s177_104, s177_105, s177_108, s177_111, s177_112, s177_113, s177_116, s177_119, s177_120, s177_121, s177_124, s177_127, s177_128, s177_131, s177_132, s177_135, s177_136, s177_139, s177_140, s177_141, s177_144, s177_147, s177_148, s177_149, s177_152, s177_155, s177_156, s177_157, s177_160, s177_163, s177_164, s177_165, s177_168, s177_171, s177_172, s177_173, s177_176, s177_179, s177_180, s177_181, s177_184, s177_187, s177_188, s177_189, s177_192, s177_195, s177_196, s177_197, s177_200, s177_203, s177_204, s177_205, s177_208, s177_211, s177_212, s177_213, s177_216, s177_219, s177_220, s177_222, e24, s24_0, s24_1, s24_2, s24_3, e7, s7_0, s7_1, s7_2, s7_3, Option.toList_some, Option.toList_none, List.cons_append, List.nil_append, if_true, if_false, eq_self, n1n0, ne10, p0, p1, p2, s0, s1, s2, s3, s8, q6, q7, q8, q3, hnc, hgl, hca, hsa, hte, if_pos h0]
      have b1 : zev 177 88 [.ref 0, .int x] [] X Q = Q (some (.int (nI G))) X := by
        simp (disch := first | omega | assumption | decide) only [e177, s177_0, s177_1, s177_80, s177_81, s177_84, s177_87, s177_88, s177_89, s177_92, s177_95, s177_96, s177_97, s177_100, s177_103, s177_104, s177_105, s177_108, s177_111, s177_112, s177_113, s177_116, s177_119, s177_120, s177_121, s177_124, s177_127, s177_128, s177_131, s177_132, s177_135, s177_136, s177_139, s177_140, s177_141, s177_144, s177_147, s177_148, s177_149, s177_152, s177_155, s177_156, s177_157, s177_160, s177_163, s177_164, s177_165, s177_168, s177_171, s177_172, s177_173, s177_176, s177_179, s177_180, s177_181, s177_184, s177_187, s177_188, s177_189, s177_192, s177_195, s177_196, s177_197, s177_200, s177_203, s177_204, s177_205, s177_208, s177_211, s177_212, s177_213, s177_216, s177_219, s177_220, s177_222, e24, s24_0, s24_1, s24_2, s24_3, e7, s7_0, s7_1, s7_2, s7_3, Option.toList_some, Option.toList_none, List.cons_append, List.nil_append, if_true, if_false, eq_self, n1n0, ne10, p0, p1, p2, s0, s1, s2, s3, s8, q6, q7, q8, q3, hnc, hgl, hca, hsa, hte, if_pos h0]
      have b2 : zev 177 96 [.ref 0, .int x] [] X Q = Q (some (.int (nI B))) X := by
        simp (disch := first | omega | assumption | decide) only [e177, s177_0, s177_1, s177_80, s177_81, s177_84, s177_87, s177_88, s177_89, s177_92, s177_95, s177_96, s177_97, s177_100, s177_103, s177_104, s177_105, s177_108, s177_111, s177_112, s177_113, s177_116, s177_119, s177_120, s177_121, s177_124, s177_127, s177_128, s177_131, s177_132, s177_135, s177_136, s177_139, s177_140, s177_141, s177_144, s177_147, s177_148, s177_149, s177_152, s177_155, s177_156, s177_157, s177_160, s177_163, s177_164, s177_165, s177_168, s177_171, s177_172, s177_173, s177_176, s177_179, s177_180, s177_181, s177_184, s177_187, s177_188, s177_189, s177_192, s177_195, s177_196, s177_197, s177_200, s177_203, s177_204, s177_205, s177_208, s177_211, s177_212, s177_213, s177_216, s177_219, s177_220, s177_222, e24, s24_0, s24_1, s24_2, s24_3, e7, s7_0, s7_1, s7_2, s7_3, Option.toList_some, Option.toList_none, List.cons_append, List.nil_append, if_true, if_false, eq_self, n1n0, ne10, p0, p1, p2, s0, s1, s2, s3, s8, q6, q7, q8, q3, hnc, hgl, hca, hsa, hte, if_pos h0]
      have b3 : zev 177 104 [.ref 0, .int x] [] X Q = Q (some (.int (nI t))) X := by
        simp (disch := first | omega | assumption | decide) only [e177, s177_0, s177_1, s177_80, s177_81, s177_84, s177_87, s177_88, s177_89, s177_92, s177_95, s177_96, s177_97, s177_100, s177_103, s177_104, s177_105, s177_108, s177_111, s177_112, s177_113, s177_116, s177_119, s177_120, s177_121, s177_124, s177_127, s177_128, s177_131, s177_132, s177_135, s177_136, s177_139, s177_140, s177_141, s177_144, s177_147, s177_148, s177_149, s177_152, s177_155, s177_156, s177_157, s177_160, s177_163, s177_164, s177_165, s177_168, s177_171, s177_172, s177_173, s177_176, s177_179, s177_180, s177_181, s177_184, s177_187, s177_188, s177_189, s177_192, s177_195, s177_196, s177_197, s177_200, s177_203, s177_204, s177_205, s177_208, s177_211, s177_212, s177_213, s177_216, s177_219, s177_220, s177_222, e24, s24_0, s24_1, s24_2, s24_3, e7, s7_0, s7_1, s7_2, s7_3, Option.toList_some, Option.toList_none, List.cons_append, List.nil_append, if_true, if_false, eq_self, n1n0, ne10, p0, p1, p2, s0, s1, s2, s3, s8, q6, q7, q8, q3, hnc, hgl, hca, hsa, hte, if_pos h0]
      have b4 : zev 177 112 [.ref 0, .int x] [] X Q = Q (some (.int (nI (R 29)))) X := by
        simp (disch := first | omega | assumption | decide) only [e177, s177_0, s177_1, s177_80, s177_81, s177_84, s177_87, s177_88, s177_89, s177_92, s177_95, s177_96, s177_97, s177_100, s177_103, s177_104, s177_105, s177_108, s177_111, s177_112, s177_113, s177_116, s177_119, s177_120, s177_121, s177_124, s177_127, s177_128, s177_131, s177_132, s177_135, s177_136, s177_139, s177_140, s177_141, s177_144, s177_147, s177_148, s177_149, s177_152, s177_155, s177_156, s177_157, s177_160, s177_163, s177_164, s177_165, s177_168, s177_171, s177_172, s177_173, s177_176, s177_179, s177_180, s177_181, s177_184, s177_187, s177_188, s177_189, s177_192, s177_195, s177_196, s177_197, s177_200, s177_203, s177_204, s177_205, s177_208, s177_211, s177_212, s177_213, s177_216, s177_219, s177_220, s177_222, e24, s24_0, s24_1, s24_2, s24_3, e7, s7_0, s7_1, s7_2, s7_3, Option.toList_some, Option.toList_none, List.cons_append, List.nil_append, if_true, if_false, eq_self, n1n0, ne10, p0, p1, p2, s0, s1, s2, s3, s8, q6, q7, q8, q3, hnc, hgl, hca, hsa, hte, if_pos h0]
      have b5 : zev 177 120 [.ref 0, .int x] [] X Q = Q (some (.int (-1))) X := by
        simp (disch := first | omega | assumption | decide) only [e177, s177_0, s177_1, s177_80, s177_81, s177_84, s177_87, s177_88, s177_89, s177_92, s177_95, s177_96, s177_97, s177_100, s177_103, s177_104, s177_105, s177_108, s177_111, s177_112, s177_113, s177_116, s177_119, s177_120, s177_121, s177_124, s177_127, s177_128, s177_131, s177_132, s177_135, s177_136, s177_139, s177_140, s177_141, s177_144, s177_147, s177_148, s177_149, s177_152, s177_155, s177_156, s177_157, s177_160, s177_163, s177_164, s177_165, s177_168, s177_171, s177_172, s177_173, s177_176, s177_179, s177_180, s177_181, s177_184, s177_187, s177_188, s177_189, s177_192, s177_195, s177_196, s177_197, s177_200, s177_203, s177_204, s177_205, s177_208, s177_211, s177_212, s177_213, s177_216, s177_219, s177_220, s177_222, e24, s24_0, s24_1, s24_2, s24_3, e7, s7_0, s7_1, s7_2, s7_3, Option.toList_some, Option.toList_none, List.cons_append, List.nil_append, if_true, if_false, eq_self, n1n0, ne10, p0, p1, p2, s0, s1, s2, s3, s8, q6, q7, q8, q3, hnc, hgl, hca, hsa, hte, if_pos h0]
      have b6 : zev 177 140 [.ref 0, .int x] [] X Q = Q (some (.int (nI (R 28)))) X := by
        simp (disch := first | omega | assumption | decide) only [e177, s177_0, s177_1, s177_80, s177_81, s177_84, s177_87, s177_88, s177_89, s177_92, s177_95, s177_96, s177_97, s177_100, s177_103, s177_104, s177_105, s177_108, s177_111, s177_112, s177_113, s177_116, s177_119, s177_120, s177_121, s177_124, s177_127, s177_128, s177_131, s177_132, s177_135, s177_136, s177_139, s177_140, s177_141, s177_144, s177_147, s177_148, s177_149, s177_152, s177_155, s177_156, s177_157, s177_160, s177_163, s177_164, s177_165, s177_168, s177_171, s177_172, s177_173, s177_176, s177_179, s177_180, s177_181, s177_184, s177_187, s177_188, s177_189, s177_192, s177_195, s177_196, s177_197, s177_200, s177_203, s177_204, s177_205, s177_208, s177_211, s177_212, s177_213, s177_216, s177_219, s177_220, s177_222, e24, s24_0, s24_1, s24_2, s24_3, e7, s7_0, s7_1, s7_2, s7_3, Option.toList_some, Option.toList_none, List.cons_append, List.nil_append, if_true, if_false, eq_self, n1n0, ne10, p0, p1, p2, s0, s1, s2, s3, s8, q6, q7, q8, q3, hnc, hgl, hca, hsa, hte, if_pos h0]
      have b7 : zev 177 148 [.ref 0, .int x] [] X Q = Q (some (.int (nI (outN lim R (tN D G W R 0) B)))) X := by
        simp (disch := first | omega | assumption | decide) only [e177, s177_0, s177_1, s177_80, s177_81, s177_84, s177_87, s177_88, s177_89, s177_92, s177_95, s177_96, s177_97, s177_100, s177_103, s177_104, s177_105, s177_108, s177_111, s177_112, s177_113, s177_116, s177_119, s177_120, s177_121, s177_124, s177_127, s177_128, s177_131, s177_132, s177_135, s177_136, s177_139, s177_140, s177_141, s177_144, s177_147, s177_148, s177_149, s177_152, s177_155, s177_156, s177_157, s177_160, s177_163, s177_164, s177_165, s177_168, s177_171, s177_172, s177_173, s177_176, s177_179, s177_180, s177_181, s177_184, s177_187, s177_188, s177_189, s177_192, s177_195, s177_196, s177_197, s177_200, s177_203, s177_204, s177_205, s177_208, s177_211, s177_212, s177_213, s177_216, s177_219, s177_220, s177_222, e24, s24_0, s24_1, s24_2, s24_3, e7, s7_0, s7_1, s7_2, s7_3, Option.toList_some, Option.toList_none, List.cons_append, List.nil_append, if_true, if_false, eq_self, n1n0, ne10, p0, p1, p2, s0, s1, s2, s3, s8, q6, q7, q8, q3, hnc, hgl, hca, hsa, hte, if_pos h0]
      have b8 : zev 177 156 [.ref 0, .int x] [] X Q = Q (some (.int (nI (R 21)))) X := by
        simp (disch := first | omega | assumption | decide) only [e177, s177_0, s177_1, s177_80, s177_81, s177_84, s177_87, s177_88, s177_89, s177_92, s177_95, s177_96, s177_97, s177_100, s177_103, s177_104, s177_105, s177_108, s177_111, s177_112, s177_113, s177_116, s177_119, s177_120, s177_121, s177_124, s177_127, s177_128, s177_131, s177_132, s177_135, s177_136, s177_139, s177_140, s177_141, s177_144, s177_147, s177_148, s177_149, s177_152, s177_155, s177_156, s177_157, s177_160, s177_163, s177_164, s177_165, s177_168, s177_171, s177_172, s177_173, s177_176, s177_179, s177_180, s177_181, s177_184, s177_187, s177_188, s177_189, s177_192, s177_195, s177_196, s177_197, s177_200, s177_203, s177_204, s177_205, s177_208, s177_211, s177_212, s177_213, s177_216, s177_219, s177_220, s177_222, e24, s24_0, s24_1, s24_2, s24_3, e7, s7_0, s7_1, s7_2, s7_3, Option.toList_some, Option.toList_none, List.cons_append, List.nil_append, if_true, if_false, eq_self, n1n0, ne10, p0, p1, p2, s0, s1, s2, s3, s8, q6, q7, q8, q3, hnc, hgl, hca, hsa, hte, if_pos h0]
      have b9 : zev 177 164 [.ref 0, .int x] [] X Q = Q (some (.int (nI (R 22)))) X := by
        simp (disch := first | omega | assumption | decide) only [e177, s177_0, s177_1, s177_80, s177_81, s177_84, s177_87, s177_88, s177_89, s177_92, s177_95, s177_96, s177_97, s177_100, s177_103, s177_104, s177_105, s177_108, s177_111, s177_112, s177_113, s177_116, s177_119, s177_120, s177_121, s177_124, s177_127, s177_128, s177_131, s177_132, s177_135, s177_136, s177_139, s177_140, s177_141, s177_144, s177_147, s177_148, s177_149, s177_152, s177_155, s177_156, s177_157, s177_160, s177_163, s177_164, s177_165, s177_168, s177_171, s177_172, s177_173, s177_176, s177_179, s177_180, s177_181, s177_184, s177_187, s177_188, s177_189, s177_192, s177_195, s177_196, s177_197, s177_200, s177_203, s177_204, s177_205, s177_208, s177_211, s177_212, s177_213, s177_216, s177_219, s177_220, s177_222, e24, s24_0, s24_1, s24_2, s24_3, e7, s7_0, s7_1, s7_2, s7_3, Option.toList_some, Option.toList_none, List.cons_append, List.nil_append, if_true, if_false, eq_self, n1n0, ne10, p0, p1, p2, s0, s1, s2, s3, s8, q6, q7, q8, q3, hnc, hgl, hca, hsa, hte, if_pos h0]
      have b10 : zev 177 172 [.ref 0, .int x] [] X Q = Q (some (.int (nI (stN (fun g => decide (0 < R (14 + g))) G)))) X := by
        simp (disch := first | omega | assumption | decide) only [e177, s177_0, s177_1, s177_80, s177_81, s177_84, s177_87, s177_88, s177_89, s177_92, s177_95, s177_96, s177_97, s177_100, s177_103, s177_104, s177_105, s177_108, s177_111, s177_112, s177_113, s177_116, s177_119, s177_120, s177_121, s177_124, s177_127, s177_128, s177_131, s177_132, s177_135, s177_136, s177_139, s177_140, s177_141, s177_144, s177_147, s177_148, s177_149, s177_152, s177_155, s177_156, s177_157, s177_160, s177_163, s177_164, s177_165, s177_168, s177_171, s177_172, s177_173, s177_176, s177_179, s177_180, s177_181, s177_184, s177_187, s177_188, s177_189, s177_192, s177_195, s177_196, s177_197, s177_200, s177_203, s177_204, s177_205, s177_208, s177_211, s177_212, s177_213, s177_216, s177_219, s177_220, s177_222, e24, s24_0, s24_1, s24_2, s24_3, e7, s7_0, s7_1, s7_2, s7_3, Option.toList_some, Option.toList_none, List.cons_append, List.nil_append, if_true, if_false, eq_self, n1n0, ne10, p0, p1, p2, s0, s1, s2, s3, s8, q6, q7, q8, q3, hnc, hgl, hca, hsa, hte, if_pos h0]
      have b11 : zev 177 180 [.ref 0, .int x] [] X Q = Q (some (.int (nI (smN (fun b => R (23 + b)) B)))) X := by
        simp (disch := first | omega | assumption | decide) only [e177, s177_0, s177_1, s177_80, s177_81, s177_84, s177_87, s177_88, s177_89, s177_92, s177_95, s177_96, s177_97, s177_100, s177_103, s177_104, s177_105, s177_108, s177_111, s177_112, s177_113, s177_116, s177_119, s177_120, s177_121, s177_124, s177_127, s177_128, s177_131, s177_132, s177_135, s177_136, s177_139, s177_140, s177_141, s177_144, s177_147, s177_148, s177_149, s177_152, s177_155, s177_156, s177_157, s177_160, s177_163, s177_164, s177_165, s177_168, s177_171, s177_172, s177_173, s177_176, s177_179, s177_180, s177_181, s177_184, s177_187, s177_188, s177_189, s177_192, s177_195, s177_196, s177_197, s177_200, s177_203, s177_204, s177_205, s177_208, s177_211, s177_212, s177_213, s177_216, s177_219, s177_220, s177_222, e24, s24_0, s24_1, s24_2, s24_3, e7, s7_0, s7_1, s7_2, s7_3, Option.toList_some, Option.toList_none, List.cons_append, List.nil_append, if_true, if_false, eq_self, n1n0, ne10, p0, p1, p2, s0, s1, s2, s3, s8, q6, q7, q8, q3, hnc, hgl, hca, hsa, hte, if_pos h0]
      have b12 : zev 177 188 [.ref 0, .int x] [] X Q = Q (some (.int (nI (R 30)))) X := by
        simp (disch := first | omega | assumption | decide) only [e177, s177_0, s177_1, s177_80, s177_81, s177_84, s177_87, s177_88, s177_89, s177_92, s177_95, s177_96, s177_97, s177_100, s177_103, s177_104, s177_105, s177_108, s177_111, s177_112, s177_113, s177_116, s177_119, s177_120, s177_121, s177_124, s177_127, s177_128, s177_131, s177_132, s177_135, s177_136, s177_139, s177_140, s177_141, s177_144, s177_147, s177_148, s177_149, s177_152, s177_155, s177_156, s177_157, s177_160, s177_163, s177_164, s177_165, s177_168, s177_171, s177_172, s177_173, s177_176, s177_179, s177_180, s177_181, s177_184, s177_187, s177_188, s177_189, s177_192, s177_195, s177_196, s177_197, s177_200, s177_203, s177_204, s177_205, s177_208, s177_211, s177_212, s177_213, s177_216, s177_219, s177_220, s177_222, e24, s24_0, s24_1, s24_2, s24_3, e7, s7_0, s7_1, s7_2, s7_3, Option.toList_some, Option.toList_none, List.cons_append, List.nil_append, if_true, if_false, eq_self, n1n0, ne10, p0, p1, p2, s0, s1, s2, s3, s8, q6, q7, q8, q3, hnc, hgl, hca, hsa, hte, if_pos h0]
      have b13 : zev 177 196 [.ref 0, .int x] [] X Q = Q (some (.int (nI tn))) X := by
        simp (disch := first | omega | assumption | decide) only [e177, s177_0, s177_1, s177_80, s177_81, s177_84, s177_87, s177_88, s177_89, s177_92, s177_95, s177_96, s177_97, s177_100, s177_103, s177_104, s177_105, s177_108, s177_111, s177_112, s177_113, s177_116, s177_119, s177_120, s177_121, s177_124, s177_127, s177_128, s177_131, s177_132, s177_135, s177_136, s177_139, s177_140, s177_141, s177_144, s177_147, s177_148, s177_149, s177_152, s177_155, s177_156, s177_157, s177_160, s177_163, s177_164, s177_165, s177_168, s177_171, s177_172, s177_173, s177_176, s177_179, s177_180, s177_181, s177_184, s177_187, s177_188, s177_189, s177_192, s177_195, s177_196, s177_197, s177_200, s177_203, s177_204, s177_205, s177_208, s177_211, s177_212, s177_213, s177_216, s177_219, s177_220, s177_222, e24, s24_0, s24_1, s24_2, s24_3, e7, s7_0, s7_1, s7_2, s7_3, Option.toList_some, Option.toList_none, List.cons_append, List.nil_append, if_true, if_false, eq_self, n1n0, ne10, p0, p1, p2, s0, s1, s2, s3, s8, q6, q7, q8, q3, hnc, hgl, hca, hsa, hte, if_pos h0]
      have b14 : zev 177 204 [.ref 0, .int x] [] X Q = Q (some (.int (nI en))) X := by
        simp (disch := first | omega | assumption | decide) only [e177, s177_0, s177_1, s177_80, s177_81, s177_84, s177_87, s177_88, s177_89, s177_92, s177_95, s177_96, s177_97, s177_100, s177_103, s177_104, s177_105, s177_108, s177_111, s177_112, s177_113, s177_116, s177_119, s177_120, s177_121, s177_124, s177_127, s177_128, s177_131, s177_132, s177_135, s177_136, s177_139, s177_140, s177_141, s177_144, s177_147, s177_148, s177_149, s177_152, s177_155, s177_156, s177_157, s177_160, s177_163, s177_164, s177_165, s177_168, s177_171, s177_172, s177_173, s177_176, s177_179, s177_180, s177_181, s177_184, s177_187, s177_188, s177_189, s177_192, s177_195, s177_196, s177_197, s177_200, s177_203, s177_204, s177_205, s177_208, s177_211, s177_212, s177_213, s177_216, s177_219, s177_220, s177_222, e24, s24_0, s24_1, s24_2, s24_3, e7, s7_0, s7_1, s7_2, s7_3, Option.toList_some, Option.toList_none, List.cons_append, List.nil_append, if_true, if_false, eq_self, n1n0, ne10, p0, p1, p2, s0, s1, s2, s3, s8, q6, q7, q8, q3, hnc, hgl, hca, hsa, hte, if_pos h0]
      have b15 : zev 177 212 [.ref 0, .int x] [] X Q = Q (some (.int (nI u))) X := by
        simp (disch := first | omega | assumption | decide) only [e177, s177_0, s177_1, s177_80, s177_81, s177_84, s177_87, s177_88, s177_89, s177_92, s177_95, s177_96, s177_97, s177_100, s177_103, s177_104, s177_105, s177_108, s177_111, s177_112, s177_113, s177_116, s177_119, s177_120, s177_121, s177_124, s177_127, s177_128, s177_131, s177_132, s177_135, s177_136, s177_139, s177_140, s177_141, s177_144, s177_147, s177_148, s177_149, s177_152, s177_155, s177_156, s177_157, s177_160, s177_163, s177_164, s177_165, s177_168, s177_171, s177_172, s177_173, s177_176, s177_179, s177_180, s177_181, s177_184, s177_187, s177_188, s177_189, s177_192, s177_195, s177_196, s177_197, s177_200, s177_203, s177_204, s177_205, s177_208, s177_211, s177_212, s177_213, s177_216, s177_219, s177_220, s177_222, e24, s24_0, s24_1, s24_2, s24_3, e7, s7_0, s7_1, s7_2, s7_3, Option.toList_some, Option.toList_none, List.cons_append, List.nil_append, if_true, if_false, eq_self, n1n0, ne10, p0, p1, p2, s0, s1, s2, s3, s8, q6, q7, q8, q3, hnc, hgl, hca, hsa, hte, if_pos h0]
      have b99 : zev 177 220 [.ref 0, .int x] [] X Q = Q (some (.int (-1000000002))) X := by
        simp (disch := first | omega | assumption | decide) only [e177, s177_0, s177_1, s177_80, s177_81, s177_84, s177_87, s177_88, s177_89, s177_92, s177_95, s177_96, s177_97, s177_100, s177_103, s177_104, s177_105, s177_108, s177_111, s177_112, s177_113, s177_116, s177_119, s177_120, s177_121, s177_124, s177_127, s177_128, s177_131, s177_132, s177_135, s177_136, s177_139, s177_140, s177_141, s177_144, s177_147, s177_148, s177_149, s177_152, s177_155, s177_156, s177_157, s177_160, s177_163, s177_164, s177_165, s177_168, s177_171, s177_172, s177_173, s177_176, s177_179, s177_180, s177_181, s177_184, s177_187, s177_188, s177_189, s177_192, s177_195, s177_196, s177_197, s177_200, s177_203, s177_204, s177_205, s177_208, s177_211, s177_212, s177_213, s177_216, s177_219, s177_220, s177_222, e24, s24_0, s24_1, s24_2, s24_3, e7, s7_0, s7_1, s7_2, s7_3, Option.toList_some, Option.toList_none, List.cons_append, List.nil_append, if_true, if_false, eq_self, n1n0, ne10, p0, p1, p2, s0, s1, s2, s3, s8, q6, q7, q8, q3, hnc, hgl, hca, hsa, hte, if_pos h0]
      simp only [e177, s177_0, s177_1, b0, b1, b2, b3, b4, b5, b6, b7, b8, b9, b10, b11, b12, b13, b14, b15, b99, if_pos h0]
      by_cases x0 : x = nI 0
      · rw [if_pos x0, if_pos x0]
      rw [if_neg x0, if_neg x0]
      by_cases x1 : x = nI 1
      · rw [if_pos x1, if_pos x1]
      rw [if_neg x1, if_neg x1]
      by_cases x2 : x = nI 2
      · rw [if_pos x2, if_pos x2]
      rw [if_neg x2, if_neg x2]
      by_cases x3 : x = nI 3
      · rw [if_pos x3, if_pos x3]
      rw [if_neg x3, if_neg x3]
      by_cases x4 : x = nI 4
      · rw [if_pos x4, if_pos x4]
      rw [if_neg x4, if_neg x4]
      by_cases x5 : x = nI 5
      · rw [if_pos x5, if_pos x5]
      rw [if_neg x5, if_neg x5]
      by_cases x6 : x = nI 6
      · rw [if_pos x6, if_pos x6]
      rw [if_neg x6, if_neg x6]
      by_cases x7 : x = nI 7
      · rw [if_pos x7, if_pos x7]
      rw [if_neg x7, if_neg x7]
      by_cases x8 : x = nI 8
      · rw [if_pos x8, if_pos x8]
      rw [if_neg x8, if_neg x8]
      by_cases x9 : x = nI 9
      · rw [if_pos x9, if_pos x9]
      rw [if_neg x9, if_neg x9]
      by_cases x10 : x = nI 10
      · rw [if_pos x10, if_pos x10]
      rw [if_neg x10, if_neg x10]
      by_cases x11 : x = nI 11
      · rw [if_pos x11, if_pos x11]
      rw [if_neg x11, if_neg x11]
      by_cases x12 : x = nI 12
      · rw [if_pos x12, if_pos x12]
      rw [if_neg x12, if_neg x12]
      by_cases x13 : x = nI 13
      · rw [if_pos x13, if_pos x13]
      rw [if_neg x13, if_neg x13]
      by_cases x14 : x = nI 14
      · rw [if_pos x14, if_pos x14]
      rw [if_neg x14, if_neg x14]
      by_cases x15 : x = nI 15
      · rw [if_pos x15, if_pos x15]
      rw [if_neg x15, if_neg x15]
    · have hz : 0 = 0 := rfl
      have b0 : zev 177 80 [.ref 0, .int x] [] X Q = Q (some (.int (nI D))) X := by
        simp (disch := first | omega | assumption | decide) only [e177, s177_0, s177_1, s177_80, s177_81, s177_84, s177_87, s177_88, s177_89, s177_92, s177_95, s177_96, s177_97, s177_100, s177_103, s177_104, s177_105, s177_108, s177_111, s177_112, s177_113, s177_116, s177_119, s177_120, s177_121, s177_124, s177_127, s177_128, s177_131, s177_132, s177_135, s177_136, s177_139, s177_140, s177_141, s177_144, s177_147, s177_148, s177_149, s177_152, s177_155, s177_156, s177_157, s177_160, s177_163, s177_164, s177_165, s177_168, s177_171, s177_172, s177_173, s177_176, s177_179, s177_180, s177_181, s177_184, s177_187, s177_188, s177_189, s177_192, s177_195, s177_196, s177_197, s177_200, s177_203, s177_204, s177_205, s177_208, s177_211, s177_212, s177_213, s177_216, s177_219, s177_220, s177_222, e24, s24_0, s24_1, s24_2, s24_3, e7, s7_0, s7_1, s7_2, s7_3, Option.toList_some, Option.toList_none, List.cons_append, List.nil_append, if_true, if_false, eq_self, n1n0, ne10, p0, p1, p2, s0, s1, s2, s3, s8, q6, q7, q8, q3, hnc, hgl, hca, hsa, hte, if_neg h0]
      have b1 : zev 177 88 [.ref 0, .int x] [] X Q = Q (some (.int (nI G))) X := by
        simp (disch := first | omega | assumption | decide) only [e177, s177_0, s177_1, s177_80, s177_81, s177_84, s177_87, s177_88, s177_89, s177_92, s177_95, s177_96, s177_97, s177_100, s177_103, s177_104, s177_105, s177_108, s177_111, s177_112, s177_113, s177_116, s177_119, s177_120, s177_121, s177_124, s177_127, s177_128, s177_131, s177_132, s177_135, s177_136, s177_139, s177_140, s177_141, s177_144, s177_147, s177_148, s177_149, s177_152, s177_155, s177_156, s177_157, s177_160, s177_163, s177_164, s177_165, s177_168, s177_171, s177_172, s177_173, s177_176, s177_179, s177_180, s177_181, s177_184, s177_187, s177_188, s177_189, s177_192, s177_195, s177_196, s177_197, s177_200, s177_203, s177_204, s177_205, s177_208, s177_211, s177_212, s177_213, s177_216, s177_219, s177_220, s177_222, e24, s24_0, s24_1, s24_2, s24_3, e7, s7_0, s7_1, s7_2, s7_3, Option.toList_some, Option.toList_none, List.cons_append, List.nil_append, if_true, if_false, eq_self, n1n0, ne10, p0, p1, p2, s0, s1, s2, s3, s8, q6, q7, q8, q3, hnc, hgl, hca, hsa, hte, if_neg h0]
      have b2 : zev 177 96 [.ref 0, .int x] [] X Q = Q (some (.int (nI B))) X := by
        simp (disch := first | omega | assumption | decide) only [e177, s177_0, s177_1, s177_80, s177_81, s177_84, s177_87, s177_88, s177_89, s177_92, s177_95, s177_96, s177_97, s177_100, s177_103, s177_104, s177_105, s177_108, s177_111, s177_112, s177_113, s177_116, s177_119, s177_120, s177_121, s177_124, s177_127, s177_128, s177_131, s177_132, s177_135, s177_136, s177_139, s177_140, s177_141, s177_144, s177_147, s177_148, s177_149, s177_152, s177_155, s177_156, s177_157, s177_160, s177_163, s177_164, s177_165, s177_168, s177_171, s177_172, s177_173, s177_176, s177_179, s177_180, s177_181, s177_184, s177_187, s177_188, s177_189, s177_192, s177_195, s177_196, s177_197, s177_200, s177_203, s177_204, s177_205, s177_208, s177_211, s177_212, s177_213, s177_216, s177_219, s177_220, s177_222, e24, s24_0, s24_1, s24_2, s24_3, e7, s7_0, s7_1, s7_2, s7_3, Option.toList_some, Option.toList_none, List.cons_append, List.nil_append, if_true, if_false, eq_self, n1n0, ne10, p0, p1, p2, s0, s1, s2, s3, s8, q6, q7, q8, q3, hnc, hgl, hca, hsa, hte, if_neg h0]
      have b3 : zev 177 104 [.ref 0, .int x] [] X Q = Q (some (.int (nI t))) X := by
        simp (disch := first | omega | assumption | decide) only [e177, s177_0, s177_1, s177_80, s177_81, s177_84, s177_87, s177_88, s177_89, s177_92, s177_95, s177_96, s177_97, s177_100, s177_103, s177_104, s177_105, s177_108, s177_111, s177_112, s177_113, s177_116, s177_119, s177_120, s177_121, s177_124, s177_127, s177_128, s177_131, s177_132, s177_135, s177_136, s177_139, s177_140, s177_141, s177_144, s177_147, s177_148, s177_149, s177_152, s177_155, s177_156, s177_157, s177_160, s177_163, s177_164, s177_165, s177_168, s177_171, s177_172, s177_173, s177_176, s177_179, s177_180, s177_181, s177_184, s177_187, s177_188, s177_189, s177_192, s177_195, s177_196, s177_197, s177_200, s177_203, s177_204, s177_205, s177_208, s177_211, s177_212, s177_213, s177_216, s177_219, s177_220, s177_222, e24, s24_0, s24_1, s24_2, s24_3, e7, s7_0, s7_1, s7_2, s7_3, Option.toList_some, Option.toList_none, List.cons_append, List.nil_append, if_true, if_false, eq_self, n1n0, ne10, p0, p1, p2, s0, s1, s2, s3, s8, q6, q7, q8, q3, hnc, hgl, hca, hsa, hte, if_neg h0]
      have b4 : zev 177 112 [.ref 0, .int x] [] X Q = Q (some (.int (nI (R 29)))) X := by
        simp (disch := first | omega | assumption | decide) only [e177, s177_0, s177_1, s177_80, s177_81, s177_84, s177_87, s177_88, s177_89, s177_92, s177_95, s177_96, s177_97, s177_100, s177_103, s177_104, s177_105, s177_108, s177_111, s177_112, s177_113, s177_116, s177_119, s177_120, s177_121, s177_124, s177_127, s177_128, s177_131, s177_132, s177_135, s177_136, s177_139, s177_140, s177_141, s177_144, s177_147, s177_148, s177_149, s177_152, s177_155, s177_156, s177_157, s177_160, s177_163, s177_164, s177_165, s177_168, s177_171, s177_172, s177_173, s177_176, s177_179, s177_180, s177_181, s177_184, s177_187, s177_188, s177_189, s177_192, s177_195, s177_196, s177_197, s177_200, s177_203, s177_204, s177_205, s177_208, s177_211, s177_212, s177_213, s177_216, s177_219, s177_220, s177_222, e24, s24_0, s24_1, s24_2, s24_3, e7, s7_0, s7_1, s7_2, s7_3, Option.toList_some, Option.toList_none, List.cons_append, List.nil_append, if_true, if_false, eq_self, n1n0, ne10, p0, p1, p2, s0, s1, s2, s3, s8, q6, q7, q8, q3, hnc, hgl, hca, hsa, hte, if_neg h0]
      have b5 : zev 177 120 [.ref 0, .int x] [] X Q = Q (some (.int (nI (tN D G W R 0)))) X := by
        simp (disch := first | omega | assumption | decide) only [e177, s177_0, s177_1, s177_80, s177_81, s177_84, s177_87, s177_88, s177_89, s177_92, s177_95, s177_96, s177_97, s177_100, s177_103, s177_104, s177_105, s177_108, s177_111, s177_112, s177_113, s177_116, s177_119, s177_120, s177_121, s177_124, s177_127, s177_128, s177_131, s177_132, s177_135, s177_136, s177_139, s177_140, s177_141, s177_144, s177_147, s177_148, s177_149, s177_152, s177_155, s177_156, s177_157, s177_160, s177_163, s177_164, s177_165, s177_168, s177_171, s177_172, s177_173, s177_176, s177_179, s177_180, s177_181, s177_184, s177_187, s177_188, s177_189, s177_192, s177_195, s177_196, s177_197, s177_200, s177_203, s177_204, s177_205, s177_208, s177_211, s177_212, s177_213, s177_216, s177_219, s177_220, s177_222, e24, s24_0, s24_1, s24_2, s24_3, e7, s7_0, s7_1, s7_2, s7_3, Option.toList_some, Option.toList_none, List.cons_append, List.nil_append, if_true, if_false, eq_self, n1n0, ne10, p0, p1, p2, s0, s1, s2, s3, s8, q6, q7, q8, q3, hnc, hgl, hca, hsa, hte, if_neg h0]
      have b6 : zev 177 140 [.ref 0, .int x] [] X Q = Q (some (.int (nI (R 28)))) X := by
        simp (disch := first | omega | assumption | decide) only [e177, s177_0, s177_1, s177_80, s177_81, s177_84, s177_87, s177_88, s177_89, s177_92, s177_95, s177_96, s177_97, s177_100, s177_103, s177_104, s177_105, s177_108, s177_111, s177_112, s177_113, s177_116, s177_119, s177_120, s177_121, s177_124, s177_127, s177_128, s177_131, s177_132, s177_135, s177_136, s177_139, s177_140, s177_141, s177_144, s177_147, s177_148, s177_149, s177_152, s177_155, s177_156, s177_157, s177_160, s177_163, s177_164, s177_165, s177_168, s177_171, s177_172, s177_173, s177_176, s177_179, s177_180, s177_181, s177_184, s177_187, s177_188, s177_189, s177_192, s177_195, s177_196, s177_197, s177_200, s177_203, s177_204, s177_205, s177_208, s177_211, s177_212, s177_213, s177_216, s177_219, s177_220, s177_222, e24, s24_0, s24_1, s24_2, s24_3, e7, s7_0, s7_1, s7_2, s7_3, Option.toList_some, Option.toList_none, List.cons_append, List.nil_append, if_true, if_false, eq_self, n1n0, ne10, p0, p1, p2, s0, s1, s2, s3, s8, q6, q7, q8, q3, hnc, hgl, hca, hsa, hte, if_neg h0]
      have b7 : zev 177 148 [.ref 0, .int x] [] X Q = Q (some (.int (nI (outN lim R (tN D G W R 0) B)))) X := by
        simp (disch := first | omega | assumption | decide) only [e177, s177_0, s177_1, s177_80, s177_81, s177_84, s177_87, s177_88, s177_89, s177_92, s177_95, s177_96, s177_97, s177_100, s177_103, s177_104, s177_105, s177_108, s177_111, s177_112, s177_113, s177_116, s177_119, s177_120, s177_121, s177_124, s177_127, s177_128, s177_131, s177_132, s177_135, s177_136, s177_139, s177_140, s177_141, s177_144, s177_147, s177_148, s177_149, s177_152, s177_155, s177_156, s177_157, s177_160, s177_163, s177_164, s177_165, s177_168, s177_171, s177_172, s177_173, s177_176, s177_179, s177_180, s177_181, s177_184, s177_187, s177_188, s177_189, s177_192, s177_195, s177_196, s177_197, s177_200, s177_203, s177_204, s177_205, s177_208, s177_211, s177_212, s177_213, s177_216, s177_219, s177_220, s177_222, e24, s24_0, s24_1, s24_2, s24_3, e7, s7_0, s7_1, s7_2, s7_3, Option.toList_some, Option.toList_none, List.cons_append, List.nil_append, if_true, if_false, eq_self, n1n0, ne10, p0, p1, p2, s0, s1, s2, s3, s8, q6, q7, q8, q3, hnc, hgl, hca, hsa, hte, if_neg h0]
      have b8 : zev 177 156 [.ref 0, .int x] [] X Q = Q (some (.int (nI (R 21)))) X := by
        simp (disch := first | omega | assumption | decide) only [e177, s177_0, s177_1, s177_80, s177_81, s177_84, s177_87, s177_88, s177_89, s177_92, s177_95, s177_96, s177_97, s177_100, s177_103, s177_104, s177_105, s177_108, s177_111, s177_112, s177_113, s177_116, s177_119, s177_120, s177_121, s177_124, s177_127, s177_128, s177_131, s177_132, s177_135, s177_136, s177_139, s177_140, s177_141, s177_144, s177_147, s177_148, s177_149, s177_152, s177_155, s177_156, s177_157, s177_160, s177_163, s177_164, s177_165, s177_168, s177_171, s177_172, s177_173, s177_176, s177_179, s177_180, s177_181, s177_184, s177_187, s177_188, s177_189, s177_192, s177_195, s177_196, s177_197, s177_200, s177_203, s177_204, s177_205, s177_208, s177_211, s177_212, s177_213, s177_216, s177_219, s177_220, s177_222, e24, s24_0, s24_1, s24_2, s24_3, e7, s7_0, s7_1, s7_2, s7_3, Option.toList_some, Option.toList_none, List.cons_append, List.nil_append, if_true, if_false, eq_self, n1n0, ne10, p0, p1, p2, s0, s1, s2, s3, s8, q6, q7, q8, q3, hnc, hgl, hca, hsa, hte, if_neg h0]
      have b9 : zev 177 164 [.ref 0, .int x] [] X Q = Q (some (.int (nI (R 22)))) X := by
        simp (disch := first | omega | assumption | decide) only [e177, s177_0, s177_1, s177_80, s177_81, s177_84, s177_87, s177_88, s177_89, s177_92, s177_95, s177_96, s177_97, s177_100, s177_103, s177_104, s177_105, s177_108, s177_111, s177_112, s177_113, s177_116, s177_119, s177_120, s177_121, s177_124, s177_127, s177_128, s177_131, s177_132, s177_135, s177_136, s177_139, s177_140, s177_141, s177_144, s177_147, s177_148, s177_149, s177_152, s177_155, s177_156, s177_157, s177_160, s177_163, s177_164, s177_165, s177_168, s177_171, s177_172, s177_173, s177_176, s177_179, s177_180, s177_181, s177_184, s177_187, s177_188, s177_189, s177_192, s177_195, s177_196, s177_197, s177_200, s177_203, s177_204, s177_205, s177_208, s177_211, s177_212, s177_213, s177_216, s177_219, s177_220, s177_222, e24, s24_0, s24_1, s24_2, s24_3, e7, s7_0, s7_1, s7_2, s7_3, Option.toList_some, Option.toList_none, List.cons_append, List.nil_append, if_true, if_false, eq_self, n1n0, ne10, p0, p1, p2, s0, s1, s2, s3, s8, q6, q7, q8, q3, hnc, hgl, hca, hsa, hte, if_neg h0]
      have b10 : zev 177 172 [.ref 0, .int x] [] X Q = Q (some (.int (nI (stN (fun g => decide (0 < R (14 + g))) G)))) X := by
        simp (disch := first | omega | assumption | decide) only [e177, s177_0, s177_1, s177_80, s177_81, s177_84, s177_87, s177_88, s177_89, s177_92, s177_95, s177_96, s177_97, s177_100, s177_103, s177_104, s177_105, s177_108, s177_111, s177_112, s177_113, s177_116, s177_119, s177_120, s177_121, s177_124, s177_127, s177_128, s177_131, s177_132, s177_135, s177_136, s177_139, s177_140, s177_141, s177_144, s177_147, s177_148, s177_149, s177_152, s177_155, s177_156, s177_157, s177_160, s177_163, s177_164, s177_165, s177_168, s177_171, s177_172, s177_173, s177_176, s177_179, s177_180, s177_181, s177_184, s177_187, s177_188, s177_189, s177_192, s177_195, s177_196, s177_197, s177_200, s177_203, s177_204, s177_205, s177_208, s177_211, s177_212, s177_213, s177_216, s177_219, s177_220, s177_222, e24, s24_0, s24_1, s24_2, s24_3, e7, s7_0, s7_1, s7_2, s7_3, Option.toList_some, Option.toList_none, List.cons_append, List.nil_append, if_true, if_false, eq_self, n1n0, ne10, p0, p1, p2, s0, s1, s2, s3, s8, q6, q7, q8, q3, hnc, hgl, hca, hsa, hte, if_neg h0]
      have b11 : zev 177 180 [.ref 0, .int x] [] X Q = Q (some (.int (nI (smN (fun b => R (23 + b)) B)))) X := by
        simp (disch := first | omega | assumption | decide) only [e177, s177_0, s177_1, s177_80, s177_81, s177_84, s177_87, s177_88, s177_89, s177_92, s177_95, s177_96, s177_97, s177_100, s177_103, s177_104, s177_105, s177_108, s177_111, s177_112, s177_113, s177_116, s177_119, s177_120, s177_121, s177_124, s177_127, s177_128, s177_131, s177_132, s177_135, s177_136, s177_139, s177_140, s177_141, s177_144, s177_147, s177_148, s177_149, s177_152, s177_155, s177_156, s177_157, s177_160, s177_163, s177_164, s177_165, s177_168, s177_171, s177_172, s177_173, s177_176, s177_179, s177_180, s177_181, s177_184, s177_187, s177_188, s177_189, s177_192, s177_195, s177_196, s177_197, s177_200, s177_203, s177_204, s177_205, s177_208, s177_211, s177_212, s177_213, s177_216, s177_219, s177_220, s177_222, e24, s24_0, s24_1, s24_2, s24_3, e7, s7_0, s7_1, s7_2, s7_3, Option.toList_some, Option.toList_none, List.cons_append, List.nil_append, if_true, if_false, eq_self, n1n0, ne10, p0, p1, p2, s0, s1, s2, s3, s8, q6, q7, q8, q3, hnc, hgl, hca, hsa, hte, if_neg h0]
      have b12 : zev 177 188 [.ref 0, .int x] [] X Q = Q (some (.int (nI (R 30)))) X := by
        simp (disch := first | omega | assumption | decide) only [e177, s177_0, s177_1, s177_80, s177_81, s177_84, s177_87, s177_88, s177_89, s177_92, s177_95, s177_96, s177_97, s177_100, s177_103, s177_104, s177_105, s177_108, s177_111, s177_112, s177_113, s177_116, s177_119, s177_120, s177_121, s177_124, s177_127, s177_128, s177_131, s177_132, s177_135, s177_136, s177_139, s177_140, s177_141, s177_144, s177_147, s177_148, s177_149, s177_152, s177_155, s177_156, s177_157, s177_160, s177_163, s177_164, s177_165, s177_168, s177_171, s177_172, s177_173, s177_176, s177_179, s177_180, s177_181, s177_184, s177_187, s177_188, s177_189, s177_192, s177_195, s177_196, s177_197, s177_200, s177_203, s177_204, s177_205, s177_208, s177_211, s177_212, s177_213, s177_216, s177_219, s177_220, s177_222, e24, s24_0, s24_1, s24_2, s24_3, e7, s7_0, s7_1, s7_2, s7_3, Option.toList_some, Option.toList_none, List.cons_append, List.nil_append, if_true, if_false, eq_self, n1n0, ne10, p0, p1, p2, s0, s1, s2, s3, s8, q6, q7, q8, q3, hnc, hgl, hca, hsa, hte, if_neg h0]
      have b13 : zev 177 196 [.ref 0, .int x] [] X Q = Q (some (.int (nI tn))) X := by
        simp (disch := first | omega | assumption | decide) only [e177, s177_0, s177_1, s177_80, s177_81, s177_84, s177_87, s177_88, s177_89, s177_92, s177_95, s177_96, s177_97, s177_100, s177_103, s177_104, s177_105, s177_108, s177_111, s177_112, s177_113, s177_116, s177_119, s177_120, s177_121, s177_124, s177_127, s177_128, s177_131, s177_132, s177_135, s177_136, s177_139, s177_140, s177_141, s177_144, s177_147, s177_148, s177_149, s177_152, s177_155, s177_156, s177_157, s177_160, s177_163, s177_164, s177_165, s177_168, s177_171, s177_172, s177_173, s177_176, s177_179, s177_180, s177_181, s177_184, s177_187, s177_188, s177_189, s177_192, s177_195, s177_196, s177_197, s177_200, s177_203, s177_204, s177_205, s177_208, s177_211, s177_212, s177_213, s177_216, s177_219, s177_220, s177_222, e24, s24_0, s24_1, s24_2, s24_3, e7, s7_0, s7_1, s7_2, s7_3, Option.toList_some, Option.toList_none, List.cons_append, List.nil_append, if_true, if_false, eq_self, n1n0, ne10, p0, p1, p2, s0, s1, s2, s3, s8, q6, q7, q8, q3, hnc, hgl, hca, hsa, hte, if_neg h0]
      have b14 : zev 177 204 [.ref 0, .int x] [] X Q = Q (some (.int (nI en))) X := by
        simp (disch := first | omega | assumption | decide) only [e177, s177_0, s177_1, s177_80, s177_81, s177_84, s177_87, s177_88, s177_89, s177_92, s177_95, s177_96, s177_97, s177_100, s177_103, s177_104, s177_105, s177_108, s177_111, s177_112, s177_113, s177_116, s177_119, s177_120, s177_121, s177_124, s177_127, s177_128, s177_131, s177_132, s177_135, s177_136, s177_139, s177_140, s177_141, s177_144, s177_147, s177_148, s177_149, s177_152, s177_155, s177_156, s177_157, s177_160, s177_163, s177_164, s177_165, s177_168, s177_171, s177_172, s177_173, s177_176, s177_179, s177_180, s177_181, s177_184, s177_187, s177_188, s177_189, s177_192, s177_195, s177_196, s177_197, s177_200, s177_203, s177_204, s177_205, s177_208, s177_211, s177_212, s177_213, s177_216, s177_219, s177_220, s177_222, e24, s24_0, s24_1, s24_2, s24_3, e7, s7_0, s7_1, s7_2, s7_3, Option.toList_some, Option.toList_none, List.cons_append, List.nil_append, if_true, if_false, eq_self, n1n0, ne10, p0, p1, p2, s0, s1, s2, s3, s8, q6, q7, q8, q3, hnc, hgl, hca, hsa, hte, if_neg h0]
      have b15 : zev 177 212 [.ref 0, .int x] [] X Q = Q (some (.int (nI u))) X := by
        simp (disch := first | omega | assumption | decide) only [e177, s177_0, s177_1, s177_80, s177_81, s177_84, s177_87, s177_88, s177_89, s177_92, s177_95, s177_96, s177_97, s177_100, s177_103, s177_104, s177_105, s177_108, s177_111, s177_112, s177_113, s177_116, s177_119, s177_120, s177_121, s177_124, s177_127, s177_128, s177_131, s177_132, s177_135, s177_136, s177_139, s177_140, s177_141, s177_144, s177_147, s177_148, s177_149, s177_152, s177_155, s177_156, s177_157, s177_160, s177_163, s177_164, s177_165, s177_168, s177_171, s177_172, s177_173, s177_176, s177_179, s177_180, s177_181, s177_184, s177_187, s177_188, s177_189, s177_192, s177_195, s177_196, s177_197, s177_200, s177_203, s177_204, s177_205, s177_208, s177_211, s177_212, s177_213, s177_216, s177_219, s177_220, s177_222, e24, s24_0, s24_1, s24_2, s24_3, e7, s7_0, s7_1, s7_2, s7_3, Option.toList_some, Option.toList_none, List.cons_append, List.nil_append, if_true, if_false, eq_self, n1n0, ne10, p0, p1, p2, s0, s1, s2, s3, s8, q6, q7, q8, q3, hnc, hgl, hca, hsa, hte, if_neg h0]
      have b99 : zev 177 220 [.ref 0, .int x] [] X Q = Q (some (.int (-1000000002))) X := by
        simp (disch := first | omega | assumption | decide) only [e177, s177_0, s177_1, s177_80, s177_81, s177_84, s177_87, s177_88, s177_89, s177_92, s177_95, s177_96, s177_97, s177_100, s177_103, s177_104, s177_105, s177_108, s177_111, s177_112, s177_113, s177_116, s177_119, s177_120, s177_121, s177_124, s177_127, s177_128, s177_131, s177_132, s177_135, s177_136, s177_139, s177_140, s177_141, s177_144, s177_147, s177_148, s177_149, s177_152, s177_155, s177_156, s177_157, s177_160, s177_163, s177_164, s177_165, s177_168, s177_171, s177_172, s177_173, s177_176, s177_179, s177_180, s177_181, s177_184, s177_187, s177_188, s177_189, s177_192, s177_195, s177_196, s177_197, s177_200, s177_203, s177_204, s177_205, s177_208, s177_211, s177_212, s177_213, s177_216, s177_219, s177_220, s177_222, e24, s24_0, s24_1, s24_2, s24_3, e7, s7_0, s7_1, s7_2, s7_3, Option.toList_some, Option.toList_none, List.cons_append, List.nil_append, if_true, if_false, eq_self, n1n0, ne10, p0, p1, p2, s0, s1, s2, s3, s8, q6, q7, q8, q3, hnc, hgl, hca, hsa, hte, if_neg h0]
      simp only [e177, s177_0, s177_1, b0, b1, b2, b3, b4, b5, b6, b7, b8, b9, b10, b11, b12, b13, b14, b15, b99, if_neg h0]
      by_cases x0 : x = nI 0
      · rw [if_pos x0, if_pos x0]
      rw [if_neg x0, if_neg x0]
      by_cases x1 : x = nI 1
      · rw [if_pos x1, if_pos x1]
      rw [if_neg x1, if_neg x1]
      by_cases x2 : x = nI 2
      · rw [if_pos x2, if_pos x2]
      rw [if_neg x2, if_neg x2]
      by_cases x3 : x = nI 3
      · rw [if_pos x3, if_pos x3]
      rw [if_neg x3, if_neg x3]
      by_cases x4 : x = nI 4
      · rw [if_pos x4, if_pos x4]
      rw [if_neg x4, if_neg x4]
      by_cases x5 : x = nI 5
      · rw [if_pos x5, if_pos x5]
      rw [if_neg x5, if_neg x5]
      by_cases x6 : x = nI 6
      · rw [if_pos x6, if_pos x6]
      rw [if_neg x6, if_neg x6]
      by_cases x7 : x = nI 7
      · rw [if_pos x7, if_pos x7]
      rw [if_neg x7, if_neg x7]
      by_cases x8 : x = nI 8
      · rw [if_pos x8, if_pos x8]
      rw [if_neg x8, if_neg x8]
      by_cases x9 : x = nI 9
      · rw [if_pos x9, if_pos x9]
      rw [if_neg x9, if_neg x9]
      by_cases x10 : x = nI 10
      · rw [if_pos x10, if_pos x10]
      rw [if_neg x10, if_neg x10]
      by_cases x11 : x = nI 11
      · rw [if_pos x11, if_pos x11]
      rw [if_neg x11, if_neg x11]
      by_cases x12 : x = nI 12
      · rw [if_pos x12, if_pos x12]
      rw [if_neg x12, if_neg x12]
      by_cases x13 : x = nI 13
      · rw [if_pos x13, if_pos x13]
      rw [if_neg x13, if_neg x13]
      by_cases x14 : x = nI 14
      · rw [if_pos x14, if_pos x14]
      rw [if_neg x14, if_neg x14]
      by_cases x15 : x = nI 15
      · rw [if_pos x15, if_pos x15]
      rw [if_neg x15, if_neg x15]
  · rintro X Q ⟨h1, h2, h3, h4, h5, h6, h7⟩
    have s0 := at0 h2 (i := 29) (by omega)
    have s1 := at0 h2 (i := 28) (by omega)
    have s2 := at0 h2 (i := 21) (by omega)
    have s3 := at0 h2 (i := 22) (by omega)
    have s8 := at0 h2 (i := 30) (by omega)
    obtain ⟨p0, p1, p2, p3, -⟩ := id h1
    have hgl := fun Q => gladOnes_loop (X := X) (Q := Q) ha.1 h1 h2 hr G 0 (by omega)
    have hca := fun Q => caughtM_loop (X := X) (Q := Q) ha.1 h1 h2 B 0 (by omega)
    have hsa := fun Q => mm_sailing (X := X) (Q := Q) ha.1 h1 h2 hr
    simp only [stN] at hgl
    simp only [smN] at hca
    have q6 := h6.1
    have q7 := h7.1
    have q8 := h7.2.1
    have q3 := h3.1
    by_cases h0 : D = 0
    · have p00 := p0
      rw [h0] at p00
      have b0 : zev 201 80 [.ref 39, .int x] [] X Q = Q (some (.int (nI D))) X := by
        simp (disch := first | omega | assumption | decide) only [e201, s201_0, s201_1, s201_80, s201_81, s201_84, s201_85, s201_86, s201_89, s201_90, s201_91, s201_94, s201_95, s201_96, s201_99, s201_100, s201_101, s201_104, s201_106, s201_107, s201_108, s201_109, s201_112, s201_115, s201_116, s201_119, s201_120, s201_121, s201_124, s201_125, s201_126, s201_129, s201_131, s201_132, s201_133, s201_134, s201_137, s201_138, s201_139, s201_142, s201_144, s201_145, s201_146, s201_147, s201_150, s201_152, s201_153, s201_154, s201_155, s201_158, s201_159, s201_160, s201_163, s201_164, s201_165, s201_168, s201_170, s201_171, s201_172, s201_173, s201_176, s201_177, s201_178, s201_181, s201_182, s201_183, s201_186, s201_187, s201_189, e97, s97_0, s97_1, s97_2, s97_3, e48, s48_0, s48_1, s48_2, s48_3, Option.toList_some, Option.toList_none, List.cons_append, List.nil_append, if_true, if_false, eq_self, n1n0, ne10, p0, p1, p2, s0, s1, s2, s3, s8, q6, q7, q8, q3, hgl, hca, hsa, h0]
      have b1 : zev 201 85 [.ref 39, .int x] [] X Q = Q (some (.int (nI G))) X := by
        simp (disch := first | omega | assumption | decide) only [e201, s201_0, s201_1, s201_80, s201_81, s201_84, s201_85, s201_86, s201_89, s201_90, s201_91, s201_94, s201_95, s201_96, s201_99, s201_100, s201_101, s201_104, s201_106, s201_107, s201_108, s201_109, s201_112, s201_115, s201_116, s201_119, s201_120, s201_121, s201_124, s201_125, s201_126, s201_129, s201_131, s201_132, s201_133, s201_134, s201_137, s201_138, s201_139, s201_142, s201_144, s201_145, s201_146, s201_147, s201_150, s201_152, s201_153, s201_154, s201_155, s201_158, s201_159, s201_160, s201_163, s201_164, s201_165, s201_168, s201_170, s201_171, s201_172, s201_173, s201_176, s201_177, s201_178, s201_181, s201_182, s201_183, s201_186, s201_187, s201_189, e97, s97_0, s97_1, s97_2, s97_3, e48, s48_0, s48_1, s48_2, s48_3, Option.toList_some, Option.toList_none, List.cons_append, List.nil_append, if_true, if_false, eq_self, n1n0, ne10, p0, p1, p2, s0, s1, s2, s3, s8, q6, q7, q8, q3, hgl, hca, hsa, h0]
      have b2 : zev 201 90 [.ref 39, .int x] [] X Q = Q (some (.int (nI B))) X := by
        simp (disch := first | omega | assumption | decide) only [e201, s201_0, s201_1, s201_80, s201_81, s201_84, s201_85, s201_86, s201_89, s201_90, s201_91, s201_94, s201_95, s201_96, s201_99, s201_100, s201_101, s201_104, s201_106, s201_107, s201_108, s201_109, s201_112, s201_115, s201_116, s201_119, s201_120, s201_121, s201_124, s201_125, s201_126, s201_129, s201_131, s201_132, s201_133, s201_134, s201_137, s201_138, s201_139, s201_142, s201_144, s201_145, s201_146, s201_147, s201_150, s201_152, s201_153, s201_154, s201_155, s201_158, s201_159, s201_160, s201_163, s201_164, s201_165, s201_168, s201_170, s201_171, s201_172, s201_173, s201_176, s201_177, s201_178, s201_181, s201_182, s201_183, s201_186, s201_187, s201_189, e97, s97_0, s97_1, s97_2, s97_3, e48, s48_0, s48_1, s48_2, s48_3, Option.toList_some, Option.toList_none, List.cons_append, List.nil_append, if_true, if_false, eq_self, n1n0, ne10, p0, p1, p2, s0, s1, s2, s3, s8, q6, q7, q8, q3, hgl, hca, hsa, h0]
      have b3 : zev 201 95 [.ref 39, .int x] [] X Q = Q (some (.int (nI t))) X := by
        simp (disch := first | omega | assumption | decide) only [e201, s201_0, s201_1, s201_80, s201_81, s201_84, s201_85, s201_86, s201_89, s201_90, s201_91, s201_94, s201_95, s201_96, s201_99, s201_100, s201_101, s201_104, s201_106, s201_107, s201_108, s201_109, s201_112, s201_115, s201_116, s201_119, s201_120, s201_121, s201_124, s201_125, s201_126, s201_129, s201_131, s201_132, s201_133, s201_134, s201_137, s201_138, s201_139, s201_142, s201_144, s201_145, s201_146, s201_147, s201_150, s201_152, s201_153, s201_154, s201_155, s201_158, s201_159, s201_160, s201_163, s201_164, s201_165, s201_168, s201_170, s201_171, s201_172, s201_173, s201_176, s201_177, s201_178, s201_181, s201_182, s201_183, s201_186, s201_187, s201_189, e97, s97_0, s97_1, s97_2, s97_3, e48, s48_0, s48_1, s48_2, s48_3, Option.toList_some, Option.toList_none, List.cons_append, List.nil_append, if_true, if_false, eq_self, n1n0, ne10, p0, p1, p2, s0, s1, s2, s3, s8, q6, q7, q8, q3, hgl, hca, hsa, h0]
      have b4 : zev 201 100 [.ref 39, .int x] [] X Q = Q (some (.int (nI (R 29)))) X := by
        simp (disch := first | omega | assumption | decide) only [e201, s201_0, s201_1, s201_80, s201_81, s201_84, s201_85, s201_86, s201_89, s201_90, s201_91, s201_94, s201_95, s201_96, s201_99, s201_100, s201_101, s201_104, s201_106, s201_107, s201_108, s201_109, s201_112, s201_115, s201_116, s201_119, s201_120, s201_121, s201_124, s201_125, s201_126, s201_129, s201_131, s201_132, s201_133, s201_134, s201_137, s201_138, s201_139, s201_142, s201_144, s201_145, s201_146, s201_147, s201_150, s201_152, s201_153, s201_154, s201_155, s201_158, s201_159, s201_160, s201_163, s201_164, s201_165, s201_168, s201_170, s201_171, s201_172, s201_173, s201_176, s201_177, s201_178, s201_181, s201_182, s201_183, s201_186, s201_187, s201_189, e97, s97_0, s97_1, s97_2, s97_3, e48, s48_0, s48_1, s48_2, s48_3, Option.toList_some, Option.toList_none, List.cons_append, List.nil_append, if_true, if_false, eq_self, n1n0, ne10, p0, p1, p2, s0, s1, s2, s3, s8, q6, q7, q8, q3, hgl, hca, hsa, h0]
      have b5 : zev 201 108 [.ref 39, .int x] [] X Q = Q (some (.int (-1))) X := by
        simp (disch := first | omega | assumption | decide) only [e201, s201_0, s201_1, s201_80, s201_81, s201_84, s201_85, s201_86, s201_89, s201_90, s201_91, s201_94, s201_95, s201_96, s201_99, s201_100, s201_101, s201_104, s201_106, s201_107, s201_108, s201_109, s201_112, s201_115, s201_116, s201_119, s201_120, s201_121, s201_124, s201_125, s201_126, s201_129, s201_131, s201_132, s201_133, s201_134, s201_137, s201_138, s201_139, s201_142, s201_144, s201_145, s201_146, s201_147, s201_150, s201_152, s201_153, s201_154, s201_155, s201_158, s201_159, s201_160, s201_163, s201_164, s201_165, s201_168, s201_170, s201_171, s201_172, s201_173, s201_176, s201_177, s201_178, s201_181, s201_182, s201_183, s201_186, s201_187, s201_189, e97, s97_0, s97_1, s97_2, s97_3, e48, s48_0, s48_1, s48_2, s48_3, Option.toList_some, Option.toList_none, List.cons_append, List.nil_append, if_true, if_false, eq_self, n1n0, ne10, p0, p1, p2, s0, s1, s2, s3, s8, q6, q7, q8, q3, hgl, hca, hsa, h0]
      have b6 : zev 201 125 [.ref 39, .int x] [] X Q = Q (some (.int (nI (R 28)))) X := by
        simp (disch := first | omega | assumption | decide) only [e201, s201_0, s201_1, s201_80, s201_81, s201_84, s201_85, s201_86, s201_89, s201_90, s201_91, s201_94, s201_95, s201_96, s201_99, s201_100, s201_101, s201_104, s201_106, s201_107, s201_108, s201_109, s201_112, s201_115, s201_116, s201_119, s201_120, s201_121, s201_124, s201_125, s201_126, s201_129, s201_131, s201_132, s201_133, s201_134, s201_137, s201_138, s201_139, s201_142, s201_144, s201_145, s201_146, s201_147, s201_150, s201_152, s201_153, s201_154, s201_155, s201_158, s201_159, s201_160, s201_163, s201_164, s201_165, s201_168, s201_170, s201_171, s201_172, s201_173, s201_176, s201_177, s201_178, s201_181, s201_182, s201_183, s201_186, s201_187, s201_189, e97, s97_0, s97_1, s97_2, s97_3, e48, s48_0, s48_1, s48_2, s48_3, Option.toList_some, Option.toList_none, List.cons_append, List.nil_append, if_true, if_false, eq_self, n1n0, ne10, p0, p1, p2, s0, s1, s2, s3, s8, q6, q7, q8, q3, hgl, hca, hsa, h0]
      have b7 : zev 201 133 [.ref 39, .int x] [] X Q = Q (some (.int (nI (outN lim R (tN D G W R 0) B)))) X := by
        simp (disch := first | omega | assumption | decide) only [e201, s201_0, s201_1, s201_80, s201_81, s201_84, s201_85, s201_86, s201_89, s201_90, s201_91, s201_94, s201_95, s201_96, s201_99, s201_100, s201_101, s201_104, s201_106, s201_107, s201_108, s201_109, s201_112, s201_115, s201_116, s201_119, s201_120, s201_121, s201_124, s201_125, s201_126, s201_129, s201_131, s201_132, s201_133, s201_134, s201_137, s201_138, s201_139, s201_142, s201_144, s201_145, s201_146, s201_147, s201_150, s201_152, s201_153, s201_154, s201_155, s201_158, s201_159, s201_160, s201_163, s201_164, s201_165, s201_168, s201_170, s201_171, s201_172, s201_173, s201_176, s201_177, s201_178, s201_181, s201_182, s201_183, s201_186, s201_187, s201_189, e97, s97_0, s97_1, s97_2, s97_3, e48, s48_0, s48_1, s48_2, s48_3, Option.toList_some, Option.toList_none, List.cons_append, List.nil_append, if_true, if_false, eq_self, n1n0, ne10, p0, p1, p2, s0, s1, s2, s3, s8, q6, q7, q8, q3, hgl, hca, hsa, h0]
      have b8 : zev 201 138 [.ref 39, .int x] [] X Q = Q (some (.int (nI (R 21)))) X := by
        simp (disch := first | omega | assumption | decide) only [e201, s201_0, s201_1, s201_80, s201_81, s201_84, s201_85, s201_86, s201_89, s201_90, s201_91, s201_94, s201_95, s201_96, s201_99, s201_100, s201_101, s201_104, s201_106, s201_107, s201_108, s201_109, s201_112, s201_115, s201_116, s201_119, s201_120, s201_121, s201_124, s201_125, s201_126, s201_129, s201_131, s201_132, s201_133, s201_134, s201_137, s201_138, s201_139, s201_142, s201_144, s201_145, s201_146, s201_147, s201_150, s201_152, s201_153, s201_154, s201_155, s201_158, s201_159, s201_160, s201_163, s201_164, s201_165, s201_168, s201_170, s201_171, s201_172, s201_173, s201_176, s201_177, s201_178, s201_181, s201_182, s201_183, s201_186, s201_187, s201_189, e97, s97_0, s97_1, s97_2, s97_3, e48, s48_0, s48_1, s48_2, s48_3, Option.toList_some, Option.toList_none, List.cons_append, List.nil_append, if_true, if_false, eq_self, n1n0, ne10, p0, p1, p2, s0, s1, s2, s3, s8, q6, q7, q8, q3, hgl, hca, hsa, h0]
      have b9 : zev 201 146 [.ref 39, .int x] [] X Q = Q (some (.int (nI (R 22)))) X := by
        simp (disch := first | omega | assumption | decide) only [e201, s201_0, s201_1, s201_80, s201_81, s201_84, s201_85, s201_86, s201_89, s201_90, s201_91, s201_94, s201_95, s201_96, s201_99, s201_100, s201_101, s201_104, s201_106, s201_107, s201_108, s201_109, s201_112, s201_115, s201_116, s201_119, s201_120, s201_121, s201_124, s201_125, s201_126, s201_129, s201_131, s201_132, s201_133, s201_134, s201_137, s201_138, s201_139, s201_142, s201_144, s201_145, s201_146, s201_147, s201_150, s201_152, s201_153, s201_154, s201_155, s201_158, s201_159, s201_160, s201_163, s201_164, s201_165, s201_168, s201_170, s201_171, s201_172, s201_173, s201_176, s201_177, s201_178, s201_181, s201_182, s201_183, s201_186, s201_187, s201_189, e97, s97_0, s97_1, s97_2, s97_3, e48, s48_0, s48_1, s48_2, s48_3, Option.toList_some, Option.toList_none, List.cons_append, List.nil_append, if_true, if_false, eq_self, n1n0, ne10, p0, p1, p2, s0, s1, s2, s3, s8, q6, q7, q8, q3, hgl, hca, hsa, h0]
      have b10 : zev 201 154 [.ref 39, .int x] [] X Q = Q (some (.int (nI (stN (fun g => decide (0 < R (14 + g))) G)))) X := by
        simp (disch := first | omega | assumption | decide) only [e201, s201_0, s201_1, s201_80, s201_81, s201_84, s201_85, s201_86, s201_89, s201_90, s201_91, s201_94, s201_95, s201_96, s201_99, s201_100, s201_101, s201_104, s201_106, s201_107, s201_108, s201_109, s201_112, s201_115, s201_116, s201_119, s201_120, s201_121, s201_124, s201_125, s201_126, s201_129, s201_131, s201_132, s201_133, s201_134, s201_137, s201_138, s201_139, s201_142, s201_144, s201_145, s201_146, s201_147, s201_150, s201_152, s201_153, s201_154, s201_155, s201_158, s201_159, s201_160, s201_163, s201_164, s201_165, s201_168, s201_170, s201_171, s201_172, s201_173, s201_176, s201_177, s201_178, s201_181, s201_182, s201_183, s201_186, s201_187, s201_189, e97, s97_0, s97_1, s97_2, s97_3, e48, s48_0, s48_1, s48_2, s48_3, Option.toList_some, Option.toList_none, List.cons_append, List.nil_append, if_true, if_false, eq_self, n1n0, ne10, p0, p1, p2, s0, s1, s2, s3, s8, q6, q7, q8, q3, hgl, hca, hsa, h0]
      have b11 : zev 201 159 [.ref 39, .int x] [] X Q = Q (some (.int (nI (smN (fun b => R (23 + b)) B)))) X := by
        simp (disch := first | omega | assumption | decide) only [e201, s201_0, s201_1, s201_80, s201_81, s201_84, s201_85, s201_86, s201_89, s201_90, s201_91, s201_94, s201_95, s201_96, s201_99, s201_100, s201_101, s201_104, s201_106, s201_107, s201_108, s201_109, s201_112, s201_115, s201_116, s201_119, s201_120, s201_121, s201_124, s201_125, s201_126, s201_129, s201_131, s201_132, s201_133, s201_134, s201_137, s201_138, s201_139, s201_142, s201_144, s201_145, s201_146, s201_147, s201_150, s201_152, s201_153, s201_154, s201_155, s201_158, s201_159, s201_160, s201_163, s201_164, s201_165, s201_168, s201_170, s201_171, s201_172, s201_173, s201_176, s201_177, s201_178, s201_181, s201_182, s201_183, s201_186, s201_187, s201_189, e97, s97_0, s97_1, s97_2, s97_3, e48, s48_0, s48_1, s48_2, s48_3, Option.toList_some, Option.toList_none, List.cons_append, List.nil_append, if_true, if_false, eq_self, n1n0, ne10, p0, p1, p2, s0, s1, s2, s3, s8, q6, q7, q8, q3, hgl, hca, hsa, h0]
      have b12 : zev 201 164 [.ref 39, .int x] [] X Q = Q (some (.int (nI (R 30)))) X := by
        simp (disch := first | omega | assumption | decide) only [e201, s201_0, s201_1, s201_80, s201_81, s201_84, s201_85, s201_86, s201_89, s201_90, s201_91, s201_94, s201_95, s201_96, s201_99, s201_100, s201_101, s201_104, s201_106, s201_107, s201_108, s201_109, s201_112, s201_115, s201_116, s201_119, s201_120, s201_121, s201_124, s201_125, s201_126, s201_129, s201_131, s201_132, s201_133, s201_134, s201_137, s201_138, s201_139, s201_142, s201_144, s201_145, s201_146, s201_147, s201_150, s201_152, s201_153, s201_154, s201_155, s201_158, s201_159, s201_160, s201_163, s201_164, s201_165, s201_168, s201_170, s201_171, s201_172, s201_173, s201_176, s201_177, s201_178, s201_181, s201_182, s201_183, s201_186, s201_187, s201_189, e97, s97_0, s97_1, s97_2, s97_3, e48, s48_0, s48_1, s48_2, s48_3, Option.toList_some, Option.toList_none, List.cons_append, List.nil_append, if_true, if_false, eq_self, n1n0, ne10, p0, p1, p2, s0, s1, s2, s3, s8, q6, q7, q8, q3, hgl, hca, hsa, h0]
      have b13 : zev 201 172 [.ref 39, .int x] [] X Q = Q (some (.int (nI tn))) X := by
        simp (disch := first | omega | assumption | decide) only [e201, s201_0, s201_1, s201_80, s201_81, s201_84, s201_85, s201_86, s201_89, s201_90, s201_91, s201_94, s201_95, s201_96, s201_99, s201_100, s201_101, s201_104, s201_106, s201_107, s201_108, s201_109, s201_112, s201_115, s201_116, s201_119, s201_120, s201_121, s201_124, s201_125, s201_126, s201_129, s201_131, s201_132, s201_133, s201_134, s201_137, s201_138, s201_139, s201_142, s201_144, s201_145, s201_146, s201_147, s201_150, s201_152, s201_153, s201_154, s201_155, s201_158, s201_159, s201_160, s201_163, s201_164, s201_165, s201_168, s201_170, s201_171, s201_172, s201_173, s201_176, s201_177, s201_178, s201_181, s201_182, s201_183, s201_186, s201_187, s201_189, e97, s97_0, s97_1, s97_2, s97_3, e48, s48_0, s48_1, s48_2, s48_3, Option.toList_some, Option.toList_none, List.cons_append, List.nil_append, if_true, if_false, eq_self, n1n0, ne10, p0, p1, p2, s0, s1, s2, s3, s8, q6, q7, q8, q3, hgl, hca, hsa, h0]
      have b14 : zev 201 177 [.ref 39, .int x] [] X Q = Q (some (.int (nI en))) X := by
        simp (disch := first | omega | assumption | decide) only [e201, s201_0, s201_1, s201_80, s201_81, s201_84, s201_85, s201_86, s201_89, s201_90, s201_91, s201_94, s201_95, s201_96, s201_99, s201_100, s201_101, s201_104, s201_106, s201_107, s201_108, s201_109, s201_112, s201_115, s201_116, s201_119, s201_120, s201_121, s201_124, s201_125, s201_126, s201_129, s201_131, s201_132, s201_133, s201_134, s201_137, s201_138, s201_139, s201_142, s201_144, s201_145, s201_146, s201_147, s201_150, s201_152, s201_153, s201_154, s201_155, s201_158, s201_159, s201_160, s201_163, s201_164, s201_165, s201_168, s201_170, s201_171, s201_172, s201_173, s201_176, s201_177, s201_178, s201_181, s201_182, s201_183, s201_186, s201_187, s201_189, e97, s97_0, s97_1, s97_2, s97_3, e48, s48_0, s48_1, s48_2, s48_3, Option.toList_some, Option.toList_none, List.cons_append, List.nil_append, if_true, if_false, eq_self, n1n0, ne10, p0, p1, p2, s0, s1, s2, s3, s8, q6, q7, q8, q3, hgl, hca, hsa, h0]
      have b15 : zev 201 182 [.ref 39, .int x] [] X Q = Q (some (.int (nI u))) X := by
        simp (disch := first | omega | assumption | decide) only [e201, s201_0, s201_1, s201_80, s201_81, s201_84, s201_85, s201_86, s201_89, s201_90, s201_91, s201_94, s201_95, s201_96, s201_99, s201_100, s201_101, s201_104, s201_106, s201_107, s201_108, s201_109, s201_112, s201_115, s201_116, s201_119, s201_120, s201_121, s201_124, s201_125, s201_126, s201_129, s201_131, s201_132, s201_133, s201_134, s201_137, s201_138, s201_139, s201_142, s201_144, s201_145, s201_146, s201_147, s201_150, s201_152, s201_153, s201_154, s201_155, s201_158, s201_159, s201_160, s201_163, s201_164, s201_165, s201_168, s201_170, s201_171, s201_172, s201_173, s201_176, s201_177, s201_178, s201_181, s201_182, s201_183, s201_186, s201_187, s201_189, e97, s97_0, s97_1, s97_2, s97_3, e48, s48_0, s48_1, s48_2, s48_3, Option.toList_some, Option.toList_none, List.cons_append, List.nil_append, if_true, if_false, eq_self, n1n0, ne10, p0, p1, p2, s0, s1, s2, s3, s8, q6, q7, q8, q3, hgl, hca, hsa, h0]
      have b99 : zev 201 187 [.ref 39, .int x] [] X Q = Q (some (.int (-1000000002))) X := by
        simp (disch := first | omega | assumption | decide) only [e201, s201_0, s201_1, s201_80, s201_81, s201_84, s201_85, s201_86, s201_89, s201_90, s201_91, s201_94, s201_95, s201_96, s201_99, s201_100, s201_101, s201_104, s201_106, s201_107, s201_108, s201_109, s201_112, s201_115, s201_116, s201_119, s201_120, s201_121, s201_124, s201_125, s201_126, s201_129, s201_131, s201_132, s201_133, s201_134, s201_137, s201_138, s201_139, s201_142, s201_144, s201_145, s201_146, s201_147, s201_150, s201_152, s201_153, s201_154, s201_155, s201_158, s201_159, s201_160, s201_163, s201_164, s201_165, s201_168, s201_170, s201_171, s201_172, s201_173, s201_176, s201_177, s201_178, s201_181, s201_182, s201_183, s201_186, s201_187, s201_189, e97, s97_0, s97_1, s97_2, s97_3, e48, s48_0, s48_1, s48_2, s48_3, Option.toList_some, Option.toList_none, List.cons_append, List.nil_append, if_true, if_false, eq_self, n1n0, ne10, p0, p1, p2, s0, s1, s2, s3, s8, q6, q7, q8, q3, hgl, hca, hsa, h0]
      simp only [e201, s201_0, s201_1, b0, b1, b2, b3, b4, b5, b6, b7, b8, b9, b10, b11, b12, b13, b14, b15, b99, if_pos h0]
      by_cases x0 : x = nI 0
      · rw [if_pos x0, if_pos x0]
      rw [if_neg x0, if_neg x0]
      by_cases x1 : x = nI 1
      · rw [if_pos x1, if_pos x1]
      rw [if_neg x1, if_neg x1]
      by_cases x2 : x = nI 2
      · rw [if_pos x2, if_pos x2]
      rw [if_neg x2, if_neg x2]
      by_cases x3 : x = nI 3
      · rw [if_pos x3, if_pos x3]
      rw [if_neg x3, if_neg x3]
      by_cases x4 : x = nI 4
      · rw [if_pos x4, if_pos x4]
      rw [if_neg x4, if_neg x4]
      by_cases x5 : x = nI 5
      · rw [if_pos x5, if_pos x5]
      rw [if_neg x5, if_neg x5]
      by_cases x6 : x = nI 6
      · rw [if_pos x6, if_pos x6]
      rw [if_neg x6, if_neg x6]
      by_cases x7 : x = nI 7
      · rw [if_pos x7, if_pos x7]
      rw [if_neg x7, if_neg x7]
      by_cases x8 : x = nI 8
      · rw [if_pos x8, if_pos x8]
      rw [if_neg x8, if_neg x8]
      by_cases x9 : x = nI 9
      · rw [if_pos x9, if_pos x9]
      rw [if_neg x9, if_neg x9]
      by_cases x10 : x = nI 10
      · rw [if_pos x10, if_pos x10]
      rw [if_neg x10, if_neg x10]
      by_cases x11 : x = nI 11
      · rw [if_pos x11, if_pos x11]
      rw [if_neg x11, if_neg x11]
      by_cases x12 : x = nI 12
      · rw [if_pos x12, if_pos x12]
      rw [if_neg x12, if_neg x12]
      by_cases x13 : x = nI 13
      · rw [if_pos x13, if_pos x13]
      rw [if_neg x13, if_neg x13]
      by_cases x14 : x = nI 14
      · rw [if_pos x14, if_pos x14]
      rw [if_neg x14, if_neg x14]
      by_cases x15 : x = nI 15
      · rw [if_pos x15, if_pos x15]
      rw [if_neg x15, if_neg x15]
    · have c0 : ¬ nI D = nI 0 := fun q => h0 ((nI_eq (by omega) (by omega)).mp q)
      have hte := fun Q => mm_rowTells (X := X) (Q := Q) (x := 0) ha.1 h1 h2 hr (by omega) (by omega)
      have b0 : zev 201 80 [.ref 39, .int x] [] X Q = Q (some (.int (nI D))) X := by
        simp (disch := first | omega | assumption | decide) only [e201, s201_0, s201_1, s201_80, s201_81, s201_84, s201_85, s201_86, s201_89, s201_90, s201_91, s201_94, s201_95, s201_96, s201_99, s201_100, s201_101, s201_104, s201_106, s201_107, s201_108, s201_109, s201_112, s201_115, s201_116, s201_119, s201_120, s201_121, s201_124, s201_125, s201_126, s201_129, s201_131, s201_132, s201_133, s201_134, s201_137, s201_138, s201_139, s201_142, s201_144, s201_145, s201_146, s201_147, s201_150, s201_152, s201_153, s201_154, s201_155, s201_158, s201_159, s201_160, s201_163, s201_164, s201_165, s201_168, s201_170, s201_171, s201_172, s201_173, s201_176, s201_177, s201_178, s201_181, s201_182, s201_183, s201_186, s201_187, s201_189, e97, s97_0, s97_1, s97_2, s97_3, e48, s48_0, s48_1, s48_2, s48_3, Option.toList_some, Option.toList_none, List.cons_append, List.nil_append, if_true, if_false, eq_self, n1n0, ne10, p0, p1, p2, s0, s1, s2, s3, s8, q6, q7, q8, q3, hgl, hca, hsa, hte, if_neg h0, c0]
      have b1 : zev 201 85 [.ref 39, .int x] [] X Q = Q (some (.int (nI G))) X := by
        simp (disch := first | omega | assumption | decide) only [e201, s201_0, s201_1, s201_80, s201_81, s201_84, s201_85, s201_86, s201_89, s201_90, s201_91, s201_94, s201_95, s201_96, s201_99, s201_100, s201_101, s201_104, s201_106, s201_107, s201_108, s201_109, s201_112, s201_115, s201_116, s201_119, s201_120, s201_121, s201_124, s201_125, s201_126, s201_129, s201_131, s201_132, s201_133, s201_134, s201_137, s201_138, s201_139, s201_142, s201_144, s201_145, s201_146, s201_147, s201_150, s201_152, s201_153, s201_154, s201_155, s201_158, s201_159, s201_160, s201_163, s201_164, s201_165, s201_168, s201_170, s201_171, s201_172, s201_173, s201_176, s201_177, s201_178, s201_181, s201_182, s201_183, s201_186, s201_187, s201_189, e97, s97_0, s97_1, s97_2, s97_3, e48, s48_0, s48_1, s48_2, s48_3, Option.toList_some, Option.toList_none, List.cons_append, List.nil_append, if_true, if_false, eq_self, n1n0, ne10, p0, p1, p2, s0, s1, s2, s3, s8, q6, q7, q8, q3, hgl, hca, hsa, hte, if_neg h0, c0]
      have b2 : zev 201 90 [.ref 39, .int x] [] X Q = Q (some (.int (nI B))) X := by
        simp (disch := first | omega | assumption | decide) only [e201, s201_0, s201_1, s201_80, s201_81, s201_84, s201_85, s201_86, s201_89, s201_90, s201_91, s201_94, s201_95, s201_96, s201_99, s201_100, s201_101, s201_104, s201_106, s201_107, s201_108, s201_109, s201_112, s201_115, s201_116, s201_119, s201_120, s201_121, s201_124, s201_125, s201_126, s201_129, s201_131, s201_132, s201_133, s201_134, s201_137, s201_138, s201_139, s201_142, s201_144, s201_145, s201_146, s201_147, s201_150, s201_152, s201_153, s201_154, s201_155, s201_158, s201_159, s201_160, s201_163, s201_164, s201_165, s201_168, s201_170, s201_171, s201_172, s201_173, s201_176, s201_177, s201_178, s201_181, s201_182, s201_183, s201_186, s201_187, s201_189, e97, s97_0, s97_1, s97_2, s97_3, e48, s48_0, s48_1, s48_2, s48_3, Option.toList_some, Option.toList_none, List.cons_append, List.nil_append, if_true, if_false, eq_self, n1n0, ne10, p0, p1, p2, s0, s1, s2, s3, s8, q6, q7, q8, q3, hgl, hca, hsa, hte, if_neg h0, c0]
      have b3 : zev 201 95 [.ref 39, .int x] [] X Q = Q (some (.int (nI t))) X := by
        simp (disch := first | omega | assumption | decide) only [e201, s201_0, s201_1, s201_80, s201_81, s201_84, s201_85, s201_86, s201_89, s201_90, s201_91, s201_94, s201_95, s201_96, s201_99, s201_100, s201_101, s201_104, s201_106, s201_107, s201_108, s201_109, s201_112, s201_115, s201_116, s201_119, s201_120, s201_121, s201_124, s201_125, s201_126, s201_129, s201_131, s201_132, s201_133, s201_134, s201_137, s201_138, s201_139, s201_142, s201_144, s201_145, s201_146, s201_147, s201_150, s201_152, s201_153, s201_154, s201_155, s201_158, s201_159, s201_160, s201_163, s201_164, s201_165, s201_168, s201_170, s201_171, s201_172, s201_173, s201_176, s201_177, s201_178, s201_181, s201_182, s201_183, s201_186, s201_187, s201_189, e97, s97_0, s97_1, s97_2, s97_3, e48, s48_0, s48_1, s48_2, s48_3, Option.toList_some, Option.toList_none, List.cons_append, List.nil_append, if_true, if_false, eq_self, n1n0, ne10, p0, p1, p2, s0, s1, s2, s3, s8, q6, q7, q8, q3, hgl, hca, hsa, hte, if_neg h0, c0]
      have b4 : zev 201 100 [.ref 39, .int x] [] X Q = Q (some (.int (nI (R 29)))) X := by
        simp (disch := first | omega | assumption | decide) only [e201, s201_0, s201_1, s201_80, s201_81, s201_84, s201_85, s201_86, s201_89, s201_90, s201_91, s201_94, s201_95, s201_96, s201_99, s201_100, s201_101, s201_104, s201_106, s201_107, s201_108, s201_109, s201_112, s201_115, s201_116, s201_119, s201_120, s201_121, s201_124, s201_125, s201_126, s201_129, s201_131, s201_132, s201_133, s201_134, s201_137, s201_138, s201_139, s201_142, s201_144, s201_145, s201_146, s201_147, s201_150, s201_152, s201_153, s201_154, s201_155, s201_158, s201_159, s201_160, s201_163, s201_164, s201_165, s201_168, s201_170, s201_171, s201_172, s201_173, s201_176, s201_177, s201_178, s201_181, s201_182, s201_183, s201_186, s201_187, s201_189, e97, s97_0, s97_1, s97_2, s97_3, e48, s48_0, s48_1, s48_2, s48_3, Option.toList_some, Option.toList_none, List.cons_append, List.nil_append, if_true, if_false, eq_self, n1n0, ne10, p0, p1, p2, s0, s1, s2, s3, s8, q6, q7, q8, q3, hgl, hca, hsa, hte, if_neg h0, c0]
      have b5 : zev 201 108 [.ref 39, .int x] [] X Q = Q (some (.int (nI (tN D G W R 0)))) X := by
        simp (disch := first | omega | assumption | decide) only [e201, s201_0, s201_1, s201_80, s201_81, s201_84, s201_85, s201_86, s201_89, s201_90, s201_91, s201_94, s201_95, s201_96, s201_99, s201_100, s201_101, s201_104, s201_106, s201_107, s201_108, s201_109, s201_112, s201_115, s201_116, s201_119, s201_120, s201_121, s201_124, s201_125, s201_126, s201_129, s201_131, s201_132, s201_133, s201_134, s201_137, s201_138, s201_139, s201_142, s201_144, s201_145, s201_146, s201_147, s201_150, s201_152, s201_153, s201_154, s201_155, s201_158, s201_159, s201_160, s201_163, s201_164, s201_165, s201_168, s201_170, s201_171, s201_172, s201_173, s201_176, s201_177, s201_178, s201_181, s201_182, s201_183, s201_186, s201_187, s201_189, e97, s97_0, s97_1, s97_2, s97_3, e48, s48_0, s48_1, s48_2, s48_3, Option.toList_some, Option.toList_none, List.cons_append, List.nil_append, if_true, if_false, eq_self, n1n0, ne10, p0, p1, p2, s0, s1, s2, s3, s8, q6, q7, q8, q3, hgl, hca, hsa, hte, if_neg h0, c0]
      have b6 : zev 201 125 [.ref 39, .int x] [] X Q = Q (some (.int (nI (R 28)))) X := by
        simp (disch := first | omega | assumption | decide) only [e201, s201_0, s201_1, s201_80, s201_81, s201_84, s201_85, s201_86, s201_89, s201_90, s201_91, s201_94, s201_95, s201_96, s201_99, s201_100, s201_101, s201_104, s201_106, s201_107, s201_108, s201_109, s201_112, s201_115, s201_116, s201_119, s201_120, s201_121, s201_124, s201_125, s201_126, s201_129, s201_131, s201_132, s201_133, s201_134, s201_137, s201_138, s201_139, s201_142, s201_144, s201_145, s201_146, s201_147, s201_150, s201_152, s201_153, s201_154, s201_155, s201_158, s201_159, s201_160, s201_163, s201_164, s201_165, s201_168, s201_170, s201_171, s201_172, s201_173, s201_176, s201_177, s201_178, s201_181, s201_182, s201_183, s201_186, s201_187, s201_189, e97, s97_0, s97_1, s97_2, s97_3, e48, s48_0, s48_1, s48_2, s48_3, Option.toList_some, Option.toList_none, List.cons_append, List.nil_append, if_true, if_false, eq_self, n1n0, ne10, p0, p1, p2, s0, s1, s2, s3, s8, q6, q7, q8, q3, hgl, hca, hsa, hte, if_neg h0, c0]
      have b7 : zev 201 133 [.ref 39, .int x] [] X Q = Q (some (.int (nI (outN lim R (tN D G W R 0) B)))) X := by
        simp (disch := first | omega | assumption | decide) only [e201, s201_0, s201_1, s201_80, s201_81, s201_84, s201_85, s201_86, s201_89, s201_90, s201_91, s201_94, s201_95, s201_96, s201_99, s201_100, s201_101, s201_104, s201_106, s201_107, s201_108, s201_109, s201_112, s201_115, s201_116, s201_119, s201_120, s201_121, s201_124, s201_125, s201_126, s201_129, s201_131, s201_132, s201_133, s201_134, s201_137, s201_138, s201_139, s201_142, s201_144, s201_145, s201_146, s201_147, s201_150, s201_152, s201_153, s201_154, s201_155, s201_158, s201_159, s201_160, s201_163, s201_164, s201_165, s201_168, s201_170, s201_171, s201_172, s201_173, s201_176, s201_177, s201_178, s201_181, s201_182, s201_183, s201_186, s201_187, s201_189, e97, s97_0, s97_1, s97_2, s97_3, e48, s48_0, s48_1, s48_2, s48_3, Option.toList_some, Option.toList_none, List.cons_append, List.nil_append, if_true, if_false, eq_self, n1n0, ne10, p0, p1, p2, s0, s1, s2, s3, s8, q6, q7, q8, q3, hgl, hca, hsa, hte, if_neg h0, c0]
      have b8 : zev 201 138 [.ref 39, .int x] [] X Q = Q (some (.int (nI (R 21)))) X := by
        simp (disch := first | omega | assumption | decide) only [e201, s201_0, s201_1, s201_80, s201_81, s201_84, s201_85, s201_86, s201_89, s201_90, s201_91, s201_94, s201_95, s201_96, s201_99, s201_100, s201_101, s201_104, s201_106, s201_107, s201_108, s201_109, s201_112, s201_115, s201_116, s201_119, s201_120, s201_121, s201_124, s201_125, s201_126, s201_129, s201_131, s201_132, s201_133, s201_134, s201_137, s201_138, s201_139, s201_142, s201_144, s201_145, s201_146, s201_147, s201_150, s201_152, s201_153, s201_154, s201_155, s201_158, s201_159, s201_160, s201_163, s201_164, s201_165, s201_168, s201_170, s201_171, s201_172, s201_173, s201_176, s201_177, s201_178, s201_181, s201_182, s201_183, s201_186, s201_187, s201_189, e97, s97_0, s97_1, s97_2, s97_3, e48, s48_0, s48_1, s48_2, s48_3, Option.toList_some, Option.toList_none, List.cons_append, List.nil_append, if_true, if_false, eq_self, n1n0, ne10, p0, p1, p2, s0, s1, s2, s3, s8, q6, q7, q8, q3, hgl, hca, hsa, hte, if_neg h0, c0]
      have b9 : zev 201 146 [.ref 39, .int x] [] X Q = Q (some (.int (nI (R 22)))) X := by
        simp (disch := first | omega | assumption | decide) only [e201, s201_0, s201_1, s201_80, s201_81, s201_84, s201_85, s201_86, s201_89, s201_90, s201_91, s201_94, s201_95, s201_96, s201_99, s201_100, s201_101, s201_104, s201_106, s201_107, s201_108, s201_109, s201_112, s201_115, s201_116, s201_119, s201_120, s201_121, s201_124, s201_125, s201_126, s201_129, s201_131, s201_132, s201_133, s201_134, s201_137, s201_138, s201_139, s201_142, s201_144, s201_145, s201_146, s201_147, s201_150, s201_152, s201_153, s201_154, s201_155, s201_158, s201_159, s201_160, s201_163, s201_164, s201_165, s201_168, s201_170, s201_171, s201_172, s201_173, s201_176, s201_177, s201_178, s201_181, s201_182, s201_183, s201_186, s201_187, s201_189, e97, s97_0, s97_1, s97_2, s97_3, e48, s48_0, s48_1, s48_2, s48_3, Option.toList_some, Option.toList_none, List.cons_append, List.nil_append, if_true, if_false, eq_self, n1n0, ne10, p0, p1, p2, s0, s1, s2, s3, s8, q6, q7, q8, q3, hgl, hca, hsa, hte, if_neg h0, c0]
      have b10 : zev 201 154 [.ref 39, .int x] [] X Q = Q (some (.int (nI (stN (fun g => decide (0 < R (14 + g))) G)))) X := by
        simp (disch := first | omega | assumption | decide) only [e201, s201_0, s201_1, s201_80, s201_81, s201_84, s201_85, s201_86, s201_89, s201_90, s201_91, s201_94, s201_95, s201_96, s201_99, s201_100, s201_101, s201_104, s201_106, s201_107, s201_108, s201_109, s201_112, s201_115, s201_116, s201_119, s201_120, s201_121, s201_124, s201_125, s201_126, s201_129, s201_131, s201_132, s201_133, s201_134, s201_137, s201_138, s201_139, s201_142, s201_144, s201_145, s201_146, s201_147, s201_150, s201_152, s201_153, s201_154, s201_155, s201_158, s201_159, s201_160, s201_163, s201_164, s201_165, s201_168, s201_170, s201_171, s201_172, s201_173, s201_176, s201_177, s201_178, s201_181, s201_182, s201_183, s201_186, s201_187, s201_189, e97, s97_0, s97_1, s97_2, s97_3, e48, s48_0, s48_1, s48_2, s48_3, Option.toList_some, Option.toList_none, List.cons_append, List.nil_append, if_true, if_false, eq_self, n1n0, ne10, p0, p1, p2, s0, s1, s2, s3, s8, q6, q7, q8, q3, hgl, hca, hsa, hte, if_neg h0, c0]
      have b11 : zev 201 159 [.ref 39, .int x] [] X Q = Q (some (.int (nI (smN (fun b => R (23 + b)) B)))) X := by
        simp (disch := first | omega | assumption | decide) only [e201, s201_0, s201_1, s201_80, s201_81, s201_84, s201_85, s201_86, s201_89, s201_90, s201_91, s201_94, s201_95, s201_96, s201_99, s201_100, s201_101, s201_104, s201_106, s201_107, s201_108, s201_109, s201_112, s201_115, s201_116, s201_119, s201_120, s201_121, s201_124, s201_125, s201_126, s201_129, s201_131, s201_132, s201_133, s201_134, s201_137, s201_138, s201_139, s201_142, s201_144, s201_145, s201_146, s201_147, s201_150, s201_152, s201_153, s201_154, s201_155, s201_158, s201_159, s201_160, s201_163, s201_164, s201_165, s201_168, s201_170, s201_171, s201_172, s201_173, s201_176, s201_177, s201_178, s201_181, s201_182, s201_183, s201_186, s201_187, s201_189, e97, s97_0, s97_1, s97_2, s97_3, e48, s48_0, s48_1, s48_2, s48_3, Option.toList_some, Option.toList_none, List.cons_append, List.nil_append, if_true, if_false, eq_self, n1n0, ne10, p0, p1, p2, s0, s1, s2, s3, s8, q6, q7, q8, q3, hgl, hca, hsa, hte, if_neg h0, c0]
      have b12 : zev 201 164 [.ref 39, .int x] [] X Q = Q (some (.int (nI (R 30)))) X := by
        simp (disch := first | omega | assumption | decide) only [e201, s201_0, s201_1, s201_80, s201_81, s201_84, s201_85, s201_86, s201_89, s201_90, s201_91, s201_94, s201_95, s201_96, s201_99, s201_100, s201_101, s201_104, s201_106, s201_107, s201_108, s201_109, s201_112, s201_115, s201_116, s201_119, s201_120, s201_121, s201_124, s201_125, s201_126, s201_129, s201_131, s201_132, s201_133, s201_134, s201_137, s201_138, s201_139, s201_142, s201_144, s201_145, s201_146, s201_147, s201_150, s201_152, s201_153, s201_154, s201_155, s201_158, s201_159, s201_160, s201_163, s201_164, s201_165, s201_168, s201_170, s201_171, s201_172, s201_173, s201_176, s201_177, s201_178, s201_181, s201_182, s201_183, s201_186, s201_187, s201_189, e97, s97_0, s97_1, s97_2, s97_3, e48, s48_0, s48_1, s48_2, s48_3, Option.toList_some, Option.toList_none, List.cons_append, List.nil_append, if_true, if_false, eq_self, n1n0, ne10, p0, p1, p2, s0, s1, s2, s3, s8, q6, q7, q8, q3, hgl, hca, hsa, hte, if_neg h0, c0]
      have b13 : zev 201 172 [.ref 39, .int x] [] X Q = Q (some (.int (nI tn))) X := by
        simp (disch := first | omega | assumption | decide) only [e201, s201_0, s201_1, s201_80, s201_81, s201_84, s201_85, s201_86, s201_89, s201_90, s201_91, s201_94, s201_95, s201_96, s201_99, s201_100, s201_101, s201_104, s201_106, s201_107, s201_108, s201_109, s201_112, s201_115, s201_116, s201_119, s201_120, s201_121, s201_124, s201_125, s201_126, s201_129, s201_131, s201_132, s201_133, s201_134, s201_137, s201_138, s201_139, s201_142, s201_144, s201_145, s201_146, s201_147, s201_150, s201_152, s201_153, s201_154, s201_155, s201_158, s201_159, s201_160, s201_163, s201_164, s201_165, s201_168, s201_170, s201_171, s201_172, s201_173, s201_176, s201_177, s201_178, s201_181, s201_182, s201_183, s201_186, s201_187, s201_189, e97, s97_0, s97_1, s97_2, s97_3, e48, s48_0, s48_1, s48_2, s48_3, Option.toList_some, Option.toList_none, List.cons_append, List.nil_append, if_true, if_false, eq_self, n1n0, ne10, p0, p1, p2, s0, s1, s2, s3, s8, q6, q7, q8, q3, hgl, hca, hsa, hte, if_neg h0, c0]
      have b14 : zev 201 177 [.ref 39, .int x] [] X Q = Q (some (.int (nI en))) X := by
        simp (disch := first | omega | assumption | decide) only [e201, s201_0, s201_1, s201_80, s201_81, s201_84, s201_85, s201_86, s201_89, s201_90, s201_91, s201_94, s201_95, s201_96, s201_99, s201_100, s201_101, s201_104, s201_106, s201_107, s201_108, s201_109, s201_112, s201_115, s201_116, s201_119, s201_120, s201_121, s201_124, s201_125, s201_126, s201_129, s201_131, s201_132, s201_133, s201_134, s201_137, s201_138, s201_139, s201_142, s201_144, s201_145, s201_146, s201_147, s201_150, s201_152, s201_153, s201_154, s201_155, s201_158, s201_159, s201_160, s201_163, s201_164, s201_165, s201_168, s201_170, s201_171, s201_172, s201_173, s201_176, s201_177, s201_178, s201_181, s201_182, s201_183, s201_186, s201_187, s201_189, e97, s97_0, s97_1, s97_2, s97_3, e48, s48_0, s48_1, s48_2, s48_3, Option.toList_some, Option.toList_none, List.cons_append, List.nil_append, if_true, if_false, eq_self, n1n0, ne10, p0, p1, p2, s0, s1, s2, s3, s8, q6, q7, q8, q3, hgl, hca, hsa, hte, if_neg h0, c0]
      have b15 : zev 201 182 [.ref 39, .int x] [] X Q = Q (some (.int (nI u))) X := by
        simp (disch := first | omega | assumption | decide) only [e201, s201_0, s201_1, s201_80, s201_81, s201_84, s201_85, s201_86, s201_89, s201_90, s201_91, s201_94, s201_95, s201_96, s201_99, s201_100, s201_101, s201_104, s201_106, s201_107, s201_108, s201_109, s201_112, s201_115, s201_116, s201_119, s201_120, s201_121, s201_124, s201_125, s201_126, s201_129, s201_131, s201_132, s201_133, s201_134, s201_137, s201_138, s201_139, s201_142, s201_144, s201_145, s201_146, s201_147, s201_150, s201_152, s201_153, s201_154, s201_155, s201_158, s201_159, s201_160, s201_163, s201_164, s201_165, s201_168, s201_170, s201_171, s201_172, s201_173, s201_176, s201_177, s201_178, s201_181, s201_182, s201_183, s201_186, s201_187, s201_189, e97, s97_0, s97_1, s97_2, s97_3, e48, s48_0, s48_1, s48_2, s48_3, Option.toList_some, Option.toList_none, List.cons_append, List.nil_append, if_true, if_false, eq_self, n1n0, ne10, p0, p1, p2, s0, s1, s2, s3, s8, q6, q7, q8, q3, hgl, hca, hsa, hte, if_neg h0, c0]
      have b99 : zev 201 187 [.ref 39, .int x] [] X Q = Q (some (.int (-1000000002))) X := by
        simp (disch := first | omega | assumption | decide) only [e201, s201_0, s201_1, s201_80, s201_81, s201_84, s201_85, s201_86, s201_89, s201_90, s201_91, s201_94, s201_95, s201_96, s201_99, s201_100, s201_101, s201_104, s201_106, s201_107, s201_108, s201_109, s201_112, s201_115, s201_116, s201_119, s201_120, s201_121, s201_124, s201_125, s201_126, s201_129, s201_131, s201_132, s201_133, s201_134, s201_137, s201_138, s201_139, s201_142, s201_144, s201_145, s201_146, s201_147, s201_150, s201_152, s201_153, s201_154, s201_155, s201_158, s201_159, s201_160, s201_163, s201_164, s201_165, s201_168, s201_170, s201_171, s201_172, s201_173, s201_176, s201_177, s201_178, s201_181, s201_182, s201_183, s201_186, s201_187, s201_189, e97, s97_0, s97_1, s97_2, s97_3, e48, s48_0, s48_1, s48_2, s48_3, Option.toList_some, Option.toList_none, List.cons_append, List.nil_append, if_true, if_false, eq_self, n1n0, ne10, p0, p1, p2, s0, s1, s2, s3, s8, q6, q7, q8, q3, hgl, hca, hsa, hte, if_neg h0, c0]
      simp only [e201, s201_0, s201_1, b0, b1, b2, b3, b4, b5, b6, b7, b8, b9, b10, b11, b12, b13, b14, b15, b99, if_neg h0]
      by_cases x0 : x = nI 0
      · rw [if_pos x0, if_pos x0]
      rw [if_neg x0, if_neg x0]
      by_cases x1 : x = nI 1
      · rw [if_pos x1, if_pos x1]
      rw [if_neg x1, if_neg x1]
      by_cases x2 : x = nI 2
      · rw [if_pos x2, if_pos x2]
      rw [if_neg x2, if_neg x2]
      by_cases x3 : x = nI 3
      · rw [if_pos x3, if_pos x3]
      rw [if_neg x3, if_neg x3]
      by_cases x4 : x = nI 4
      · rw [if_pos x4, if_pos x4]
      rw [if_neg x4, if_neg x4]
      by_cases x5 : x = nI 5
      · rw [if_pos x5, if_pos x5]
      rw [if_neg x5, if_neg x5]
      by_cases x6 : x = nI 6
      · rw [if_pos x6, if_pos x6]
      rw [if_neg x6, if_neg x6]
      by_cases x7 : x = nI 7
      · rw [if_pos x7, if_pos x7]
      rw [if_neg x7, if_neg x7]
      by_cases x8 : x = nI 8
      · rw [if_pos x8, if_pos x8]
      rw [if_neg x8, if_neg x8]
      by_cases x9 : x = nI 9
      · rw [if_pos x9, if_pos x9]
      rw [if_neg x9, if_neg x9]
      by_cases x10 : x = nI 10
      · rw [if_pos x10, if_pos x10]
      rw [if_neg x10, if_neg x10]
      by_cases x11 : x = nI 11
      · rw [if_pos x11, if_pos x11]
      rw [if_neg x11, if_neg x11]
      by_cases x12 : x = nI 12
      · rw [if_pos x12, if_pos x12]
      rw [if_neg x12, if_neg x12]
      by_cases x13 : x = nI 13
      · rw [if_pos x13, if_pos x13]
      rw [if_neg x13, if_neg x13]
      by_cases x14 : x = nI 14
      · rw [if_pos x14, if_pos x14]
      rw [if_neg x14, if_neg x14]
      by_cases x15 : x = nI 15
      · rw [if_pos x15, if_pos x15]
      rw [if_neg x15, if_neg x15]
