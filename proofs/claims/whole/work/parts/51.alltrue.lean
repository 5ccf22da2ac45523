/-! allTrue -/
theorem and_in {x m : Int32} (h : x &&& (m ^^^ (-1)) = nI 0) : x &&& m = x := by
  apply Int32.toBitVec_inj.mp
  have h2 := congrArg Int32.toBitVec h
  simp only [Int32.toBitVec_and, Int32.toBitVec_xor] at h2 ⊢
  have h3 : (-1 : Int32).toBitVec = BitVec.allOnes 32 := by decide
  have h5 : (nI 0).toBitVec = 0#32 := by decide
  rw [h3, BitVec.xor_allOnes, h5] at h2
  apply BitVec.eq_of_getLsbD_eq
  intro i hi
  have h4 := congrArg (fun b => b.getLsbD i) h2
  simp only [BitVec.getLsbD_and, BitVec.getLsbD_not, BitVec.getLsbD_zero, hi, decide_true, Bool.true_and] at h4 ⊢
  revert h4
  cases x.toBitVec.getLsbD i <;> cases m.toBitVec.getLsbD i <;> decide
theorem set_sub : ∀ G, G < 8 → nI (2 ^ G) - nI 1 = nI (2 ^ G - 1) := by decide +kernel
theorem set_in : ∀ G, G < 8 → ∀ j, j < 128 → j < 2 ^ G → nI j &&& (nI (2 ^ G - 1) ^^^ (-1)) = nI 0 := by decide +kernel
theorem set_out {x : Int32} {G : Nat} (hG : G < 8) (h : x &&& (nI (2 ^ G - 1) ^^^ (-1)) = nI 0) : ∃ j, j < 2 ^ G ∧ x = nI j := by
  have k := and_in h
  have hm : ∀ G, G < 8 → (nI (2 ^ G - 1)).toBitVec.toNat = 2 ^ G - 1 := by decide +kernel
  rw [pk_and _ G (hm G hG)] at k
  exact ⟨_, Nat.mod_lt _ (Nat.two_pow_pos G), k.symm⟩
theorem sh_lem : ∀ t, t < 11 → (if nI 5 - nI t < nI 0 then nI 0 else nI 5 - nI t) = nI (5 - t) ∧ (if nI t - nI 5 < nI 0 then nI 0 else nI t - nI 5) = nI (t - 5) := by decide +kernel
theorem gv_lem : ∀ n, n < 64 → ∀ d, d < 21 → (if nI n - nI d < nI 0 then nI 0 else nI n - nI d) = nI (n - d) ∧ ((nI 0 < nI n - nI d) ↔ d < n) := by decide +kernel
section AL
variable {D G B C : Nat} {W lim bear : Nat → Nat} {X : zM} {R : Nat → Nat} {nx x : Nat} {Q : Option Value → zM → Prop}
def shF (s : Nat) (R : Nat → Nat) (g : Nat) : Nat := if bt s g = 1 then 5 - R g else 0
def ovF (s : Nat) (R : Nat → Nat) (g : Nat) : Nat := if bt s g = 1 then R g - 5 else 0
theorem short_loop {s : Nat} (ho : okP D G B C W lim bear) (hc : cP D G B C W lim bear X) (hs : cS G B X 57 R nx) (hr : okR B R) (hs2 : s < 128) : ∀ n i : Nat, i + n = G → zev 76 4 [.ref 19, .int (nI s), .int (nI (smN (shF s R) i)), .int (nI i)] [] X Q = Q (some (.int (nI (smN (shF s R) G)))) X := by
  have hG := ho.2.1
  intro n
  induction n with
  | zero =>
    intro i hi
    have q : i = G := by omega
    subst q
    rw [s76_4]
    simp (disch := first | omega | assumption | decide) only [e76, s76_0, s76_1, s76_2, s76_3, s76_5, s76_6, s76_9, s76_12, s76_15, s76_16, s76_17, s76_20, s76_23, s76_24, s76_25, s76_26, s76_29, s76_32, s76_33, s76_34, s76_35, s76_36, s76_39, s76_40, s76_41, s76_44, s76_47, s76_48, Option.toList_some, Option.toList_none, List.cons_append, List.nil_append, if_true, if_false, eq_self, n1n0, ne10, hc.2.1, nI_ltI, Nat.lt_irrefl]
  | succ n ih =>
    intro i hi
    have hlt : i < G := by omega
    have hhb := fun X Q => c_hasBitN (a := s) (b := i) (by omega) (by omega) X Q
    have hb2 := bt_lt s i
    have e1 := (hs.2.2.1 i hlt).1
    have hl := (sh_lem (R i) (by have := (hr.1 i (by omega)).1; omega)).1
    refine Eq.trans ?_ (ih (i + 1) (by omega))
    rw [s76_4]
    show _ = zev 76 4 [.ref 19, .int (nI s), .int (nI (smN (shF s R) i + shF s R i)), .int (nI (i + 1))] [] X Q
    unfold shF
    by_cases c : bt s i = 1
    · rw [c] at hhb
      rw [if_pos c]
      simp (disch := first | omega | assumption | decide) only [e76, s76_0, s76_1, s76_2, s76_3, s76_5, s76_6, s76_9, s76_12, s76_15, s76_16, s76_17, s76_20, s76_23, s76_24, s76_25, s76_26, s76_29, s76_32, s76_33, s76_34, s76_35, s76_36, s76_39, s76_40, s76_41, s76_44, s76_47, s76_48, Option.toList_some, Option.toList_none, List.cons_append, List.nil_append, if_true, if_false, eq_self, n1n0, ne10, hc.2.1, nI_ltI, hlt, hhb, e1, hl, nI_add]
    · rw [show bt s i = 0 by omega] at hhb
      rw [if_neg c]
      simp (disch := first | omega | assumption | decide) only [e76, s76_0, s76_1, s76_2, s76_3, s76_5, s76_6, s76_9, s76_12, s76_15, s76_16, s76_17, s76_20, s76_23, s76_24, s76_25, s76_26, s76_29, s76_32, s76_33, s76_34, s76_35, s76_36, s76_39, s76_40, s76_41, s76_44, s76_47, s76_48, Option.toList_some, Option.toList_none, List.cons_append, List.nil_append, if_true, if_false, eq_self, n1n0, ne10, hc.2.1, nI_ltI, hlt, hhb, nI_add, Nat.add_zero]
theorem over_loop {s : Nat} (ho : okP D G B C W lim bear) (hc : cP D G B C W lim bear X) (hs : cS G B X 57 R nx) (hr : okR B R) (hs2 : s < 128) : ∀ n i : Nat, i + n = G → zev 77 4 [.ref 19, .int (nI s), .int (nI (smN (ovF s R) i)), .int (nI i)] [] X Q = Q (some (.int (nI (smN (ovF s R) G)))) X := by
  have hG := ho.2.1
  intro n
  induction n with
  | zero =>
    intro i hi
    have q : i = G := by omega
    subst q
    rw [s77_4]
    simp (disch := first | omega | assumption | decide) only [e77, s77_0, s77_1, s77_2, s77_3, s77_5, s77_6, s77_9, s77_12, s77_15, s77_16, s77_17, s77_20, s77_23, s77_24, s77_25, s77_28, s77_31, s77_32, s77_33, s77_34, s77_35, s77_36, s77_39, s77_40, s77_41, s77_44, s77_47, s77_48, Option.toList_some, Option.toList_none, List.cons_append, List.nil_append, if_true, if_false, eq_self, n1n0, ne10, hc.2.1, nI_ltI, Nat.lt_irrefl]
  | succ n ih =>
    intro i hi
    have hlt : i < G := by omega
    have hhb := fun X Q => c_hasBitN (a := s) (b := i) (by omega) (by omega) X Q
    have hb2 := bt_lt s i
    have e1 := (hs.2.2.1 i hlt).1
    have hl := (sh_lem (R i) (by have := (hr.1 i (by omega)).1; omega)).2
    refine Eq.trans ?_ (ih (i + 1) (by omega))
    rw [s77_4]
    show _ = zev 77 4 [.ref 19, .int (nI s), .int (nI (smN (ovF s R) i + ovF s R i)), .int (nI (i + 1))] [] X Q
    unfold ovF
    by_cases c : bt s i = 1
    · rw [c] at hhb
      rw [if_pos c]
      simp (disch := first | omega | assumption | decide) only [e77, s77_0, s77_1, s77_2, s77_3, s77_5, s77_6, s77_9, s77_12, s77_15, s77_16, s77_17, s77_20, s77_23, s77_24, s77_25, s77_28, s77_31, s77_32, s77_33, s77_34, s77_35, s77_36, s77_39, s77_40, s77_41, s77_44, s77_47, s77_48, Option.toList_some, Option.toList_none, List.cons_append, List.nil_append, if_true, if_false, eq_self, n1n0, ne10, hc.2.1, nI_ltI, hlt, hhb, e1, hl, nI_add]
    · rw [show bt s i = 0 by omega] at hhb
      rw [if_neg c]
      simp (disch := first | omega | assumption | decide) only [e77, s77_0, s77_1, s77_2, s77_3, s77_5, s77_6, s77_9, s77_12, s77_15, s77_16, s77_17, s77_20, s77_23, s77_24, s77_25, s77_28, s77_31, s77_32, s77_33, s77_34, s77_35, s77_36, s77_39, s77_40, s77_41, s77_44, s77_47, s77_48, Option.toList_some, Option.toList_none, List.cons_append, List.nil_append, if_true, if_false, eq_self, n1n0, ne10, hc.2.1, nI_ltI, hlt, hhb, nI_add, Nat.add_zero]
theorem cc_short {s : Nat} (ho : okP D G B C W lim bear) (hc : cP D G B C W lim bear X) (hs : cS G B X 57 R nx) (hr : okR B R) (hs2 : s < 128) : zcl 76 [.ref 19, .int (nI s)] X Q = Q (some (.int (nI (smN (shF s R) G)))) X := by
  refine Eq.trans ?_ (short_loop ho hc hs hr hs2 G 0 (by omega))
  simp (disch := first | omega | assumption | decide) only [e76, s76_0, s76_1, s76_2, s76_3, s76_5, s76_6, s76_9, s76_12, s76_15, s76_16, s76_17, s76_20, s76_23, s76_24, s76_25, s76_26, s76_29, s76_32, s76_33, s76_34, s76_35, s76_36, s76_39, s76_40, s76_41, s76_44, s76_47, s76_48, Option.toList_some, Option.toList_none, List.cons_append, List.nil_append, if_true, if_false, eq_self, n1n0, ne10]
  rfl
theorem cc_over {s : Nat} (ho : okP D G B C W lim bear) (hc : cP D G B C W lim bear X) (hs : cS G B X 57 R nx) (hr : okR B R) (hs2 : s < 128) : zcl 77 [.ref 19, .int (nI s)] X Q = Q (some (.int (nI (smN (ovF s R) G)))) X := by
  refine Eq.trans ?_ (over_loop ho hc hs hr hs2 G 0 (by omega))
  simp (disch := first | omega | assumption | decide) only [e77, s77_0, s77_1, s77_2, s77_3, s77_5, s77_6, s77_9, s77_12, s77_15, s77_16, s77_17, s77_20, s77_23, s77_24, s77_25, s77_28, s77_31, s77_32, s77_33, s77_34, s77_35, s77_36, s77_39, s77_40, s77_41, s77_44, s77_47, s77_48, Option.toList_some, Option.toList_none, List.cons_append, List.nil_append, if_true, if_false, eq_self, n1n0, ne10]
  rfl
def dgI (n d C : Nat) : Int32 := if n = 0 then nI 0 else if n ≤ d then nI 1 else if C = 0 then -1 else nI (1 + (n - d + C - 1) / C)
theorem cc_give {n d : Nat} (hn : n < 64) (hd : d ≤ 20) (hC : C ≤ 20) (h28 : X 57 1 = nI d) (h3 : X 9 3 = nI C) : zcl 30 [.ref 19, .int (nI n)] X Q = Q (some (.int (dgI n d C))) X := by
  have hg := (gv_lem n hn d (by omega)).1
  unfold dgI
  by_cases c0 : n = 0
  · rw [if_pos c0]
    simp (disch := first | omega | assumption | decide) only [e30, s30_0, s30_1, s30_4, s30_5, s30_6, s30_7, s30_8, s30_11, s30_14, s30_15, s30_16, s30_19, s30_20, s30_21, s30_24, s30_25, s30_26, s30_27, s30_30, s30_33, s30_34, s30_35, s30_38, s30_39, s30_42, s30_43, s30_44, s30_45, s30_46, s30_47, s30_48, s30_49, s30_50, s30_51, Option.toList_some, Option.toList_none, List.cons_append, List.nil_append, if_true, if_false, eq_self, n1n0, ne10, nI_eq, c0]
  · rw [if_neg c0]
    by_cases c1 : n ≤ d
    · rw [if_pos c1]
      simp (disch := first | omega | assumption | decide) only [e30, s30_0, s30_1, s30_4, s30_5, s30_6, s30_7, s30_8, s30_11, s30_14, s30_15, s30_16, s30_19, s30_20, s30_21, s30_24, s30_25, s30_26, s30_27, s30_30, s30_33, s30_34, s30_35, s30_38, s30_39, s30_42, s30_43, s30_44, s30_45, s30_46, s30_47, s30_48, s30_49, s30_50, s30_51, Option.toList_some, Option.toList_none, List.cons_append, List.nil_append, if_true, if_false, eq_self, n1n0, ne10, nI_eq, c0, h28, hg, show n - d = 0 by omega]
    · rw [if_neg c1]
      have c2 : ¬ n - d = 0 := by omega
      by_cases c3 : C = 0
      · rw [if_pos c3]
        rw [c3] at h3
        simp (disch := first | omega | assumption | decide) only [e30, s30_0, s30_1, s30_4, s30_5, s30_6, s30_7, s30_8, s30_11, s30_14, s30_15, s30_16, s30_19, s30_20, s30_21, s30_24, s30_25, s30_26, s30_27, s30_30, s30_33, s30_34, s30_35, s30_38, s30_39, s30_42, s30_43, s30_44, s30_45, s30_46, s30_47, s30_48, s30_49, s30_50, s30_51, Option.toList_some, Option.toList_none, List.cons_append, List.nil_append, if_true, if_false, eq_self, n1n0, ne10, nI_eq, c0, h28, hg, c2, h3, nI_ltI, Nat.lt_irrefl]
      · rw [if_neg c3]
        have c4 : 0 < C := by omega
        have hne : ¬ nI C = nI 0 := fun q => c3 ((nI_eq (by omega) (by omega)).mp q)
        have e1 : nI (n - d + C) - nI 1 = nI (n - d + C - 1) := pk_sub (by omega)
        have e2 : nI (n - d + C - 1) / nI C = nI ((n - d + C - 1) / C) := pk_div (by omega) (by omega) (by omega)
        simp (disch := first | omega | assumption | decide) only [e30, s30_0, s30_1, s30_4, s30_5, s30_6, s30_7, s30_8, s30_11, s30_14, s30_15, s30_16, s30_19, s30_20, s30_21, s30_24, s30_25, s30_26, s30_27, s30_30, s30_33, s30_34, s30_35, s30_38, s30_39, s30_42, s30_43, s30_44, s30_45, s30_46, s30_47, s30_48, s30_49, s30_50, s30_51, Option.toList_some, Option.toList_none, List.cons_append, List.nil_append, if_true, if_false, eq_self, n1n0, ne10, nI_eq, c0, h28, hg, c2, h3, nI_ltI, c4, nI_add, e1, hne, c3, e2]
theorem allM_loop {s : Nat} {v : Int32} (ho : okP D G B C W lim bear) (hm : mP D G B C W lim bear X) (hs : mW (X 40) 0 R) (hr : okR B R) (hs2 : s < 128) : ∀ n i : Nat, i + n = G → zev 146 34 [.ref 39, .int (nI s), .int v, .int (nI (smN (shF s R) i)), .int (nI (smN (ovF s R) i)), .int (nI i)] [] X Q = zev 146 109 [.ref 39, .int (nI s), .int v, .int (nI (smN (shF s R) G)), .int (nI (smN (ovF s R) G)), .int (nI G)] [] X Q := by
  have hG := ho.2.1
  intro n
  induction n with
  | zero =>
    intro i hi
    have q : i = G := by omega
    subst q
    rw [s146_34]
    simp (disch := first | omega | assumption | decide) only [s146_36, s146_37, s146_40, hm.2.1, nI_ltI, Nat.lt_irrefl, if_false]
  | succ n ih =>
    intro i hi
    have hlt : i < G := by omega
    have hhb := fun X Q => c_hasN (a := s) (b := i) (by omega) (by omega) X Q
    have hb2 := bt_lt s i
    have e1 := at0 hs (i := i) (by omega)
    obtain ⟨l1, l2⟩ := sh_lem (R i) (by have := (hr.1 i (by omega)).1; omega)
    refine Eq.trans ?_ (ih (i + 1) (by omega))
    rw [s146_34]
    show _ = zev 146 34 [.ref 39, .int (nI s), .int v, .int (nI (smN (shF s R) i + shF s R i)), .int (nI (smN (ovF s R) i + ovF s R i)), .int (nI (i + 1))] [] X Q
    unfold shF ovF
    by_cases c : bt s i = 1
    · rw [c] at hhb
      rw [if_pos c, if_pos c]
      simp (disch := first | omega | assumption | decide) only [e146, s146_0, s146_1, s146_2, s146_5, s146_8, s146_10, s146_11, s146_12, s146_13, s146_14, s146_17, s146_20, s146_23, s146_25, s146_26, s146_27, s146_28, s146_29, s146_31, s146_32, s146_36, s146_37, s146_40, s146_43, s146_44, s146_45, s146_47, s146_50, s146_53, s146_54, s146_55, s146_56, s146_59, s146_61, s146_62, s146_63, s146_66, s146_69, s146_70, s146_71, s146_72, s146_74, s146_75, s146_77, s146_80, s146_83, s146_84, s146_85, s146_88, s146_90, s146_91, s146_92, s146_93, s146_96, s146_99, s146_100, s146_101, s146_103, s146_106, s146_109, s146_110, s146_111, s146_114, s146_115, s146_118, s146_119, s146_122, s146_124, s146_125, s146_126, s146_127, s146_130, s146_132, s146_133, s146_134, s146_136, s146_137, s146_140, s146_142, s146_145, s146_146, s146_149, s146_150, s146_153, s146_154, s146_155, s146_156, s146_159, s146_162, s146_163, s146_166, s146_167, s146_169, s146_170, s146_173, s146_174, s146_175, s146_176, s146_177, s146_180, s146_181, s146_182, Option.toList_some, Option.toList_none, List.cons_append, List.nil_append, if_true, if_false, eq_self, n1n0, ne10, hm.2.1, nI_ltI, hlt, hhb, e1, c_most, l1, l2, nI_add]
    · rw [show bt s i = 0 by omega] at hhb
      rw [if_neg c, if_neg c]
      simp (disch := first | omega | assumption | decide) only [e146, s146_0, s146_1, s146_2, s146_5, s146_8, s146_10, s146_11, s146_12, s146_13, s146_14, s146_17, s146_20, s146_23, s146_25, s146_26, s146_27, s146_28, s146_29, s146_31, s146_32, s146_36, s146_37, s146_40, s146_43, s146_44, s146_45, s146_47, s146_50, s146_53, s146_54, s146_55, s146_56, s146_59, s146_61, s146_62, s146_63, s146_66, s146_69, s146_70, s146_71, s146_72, s146_74, s146_75, s146_77, s146_80, s146_83, s146_84, s146_85, s146_88, s146_90, s146_91, s146_92, s146_93, s146_96, s146_99, s146_100, s146_101, s146_103, s146_106, s146_109, s146_110, s146_111, s146_114, s146_115, s146_118, s146_119, s146_122, s146_124, s146_125, s146_126, s146_127, s146_130, s146_132, s146_133, s146_134, s146_136, s146_137, s146_140, s146_142, s146_145, s146_146, s146_149, s146_150, s146_153, s146_154, s146_155, s146_156, s146_159, s146_162, s146_163, s146_166, s146_167, s146_169, s146_170, s146_173, s146_174, s146_175, s146_176, s146_177, s146_180, s146_181, s146_182, Option.toList_some, Option.toList_none, List.cons_append, List.nil_append, if_true, if_false, eq_self, n1n0, ne10, hm.2.1, nI_ltI, hlt, hhb, nI_add, Nat.add_zero]
theorem allM_end {a0 a1 a4 l5 : Value} {n d : Nat} (hn : n < 64) (hd : d ≤ 20) (hC : C ≤ 20) (h28 : X 40 28 = nI d) (h3 : X 39 13 = nI C) : zev 146 125 [.ref 39, a1, a0, .int (nI n), a4, l5] [] X Q = Q (some (.int (dgI n d C))) X := by
  have hg := (gv_lem n hn d (by omega)).2
  unfold dgI
  by_cases c0 : n = 0
  · rw [if_pos c0, c0]
    simp (disch := first | omega | assumption | decide) only [e146, s146_0, s146_1, s146_2, s146_5, s146_8, s146_10, s146_11, s146_12, s146_13, s146_14, s146_17, s146_20, s146_23, s146_25, s146_26, s146_27, s146_28, s146_29, s146_31, s146_32, s146_36, s146_37, s146_40, s146_43, s146_44, s146_45, s146_47, s146_50, s146_53, s146_54, s146_55, s146_56, s146_59, s146_61, s146_62, s146_63, s146_66, s146_69, s146_70, s146_71, s146_72, s146_74, s146_75, s146_77, s146_80, s146_83, s146_84, s146_85, s146_88, s146_90, s146_91, s146_92, s146_93, s146_96, s146_99, s146_100, s146_101, s146_103, s146_106, s146_109, s146_110, s146_111, s146_114, s146_115, s146_118, s146_119, s146_122, s146_124, s146_125, s146_126, s146_127, s146_130, s146_132, s146_133, s146_134, s146_136, s146_137, s146_140, s146_142, s146_145, s146_146, s146_149, s146_150, s146_153, s146_154, s146_155, s146_156, s146_159, s146_162, s146_163, s146_166, s146_167, s146_169, s146_170, s146_173, s146_174, s146_175, s146_176, s146_177, s146_180, s146_181, s146_182, Option.toList_some, Option.toList_none, List.cons_append, List.nil_append, if_true, if_false, eq_self, n1n0, ne10, h28]
  · rw [if_neg c0]
    have c0' : ¬ nI n = nI 0 := fun q => c0 ((nI_eq (by omega) (by omega)).mp q)
    by_cases c1 : n ≤ d
    · rw [if_pos c1]
      have hg' : ¬ nI 0 < nI n - nI d := fun q => absurd (hg.mp q) (by omega)
      simp (disch := first | omega | assumption | decide) only [e146, s146_0, s146_1, s146_2, s146_5, s146_8, s146_10, s146_11, s146_12, s146_13, s146_14, s146_17, s146_20, s146_23, s146_25, s146_26, s146_27, s146_28, s146_29, s146_31, s146_32, s146_36, s146_37, s146_40, s146_43, s146_44, s146_45, s146_47, s146_50, s146_53, s146_54, s146_55, s146_56, s146_59, s146_61, s146_62, s146_63, s146_66, s146_69, s146_70, s146_71, s146_72, s146_74, s146_75, s146_77, s146_80, s146_83, s146_84, s146_85, s146_88, s146_90, s146_91, s146_92, s146_93, s146_96, s146_99, s146_100, s146_101, s146_103, s146_106, s146_109, s146_110, s146_111, s146_114, s146_115, s146_118, s146_119, s146_122, s146_124, s146_125, s146_126, s146_127, s146_130, s146_132, s146_133, s146_134, s146_136, s146_137, s146_140, s146_142, s146_145, s146_146, s146_149, s146_150, s146_153, s146_154, s146_155, s146_156, s146_159, s146_162, s146_163, s146_166, s146_167, s146_169, s146_170, s146_173, s146_174, s146_175, s146_176, s146_177, s146_180, s146_181, s146_182, Option.toList_some, Option.toList_none, List.cons_append, List.nil_append, if_true, if_false, eq_self, n1n0, ne10, h28, c0', hg']
    · rw [if_neg c1]
      have hg' : nI 0 < nI n - nI d := hg.mpr (by omega)
      have e0 : nI n - nI d = nI (n - d) := pk_sub (by omega)
      by_cases c3 : C = 0
      · rw [if_pos c3]
        rw [c3] at h3
        simp (disch := first | omega | assumption | decide) only [e146, s146_0, s146_1, s146_2, s146_5, s146_8, s146_10, s146_11, s146_12, s146_13, s146_14, s146_17, s146_20, s146_23, s146_25, s146_26, s146_27, s146_28, s146_29, s146_31, s146_32, s146_36, s146_37, s146_40, s146_43, s146_44, s146_45, s146_47, s146_50, s146_53, s146_54, s146_55, s146_56, s146_59, s146_61, s146_62, s146_63, s146_66, s146_69, s146_70, s146_71, s146_72, s146_74, s146_75, s146_77, s146_80, s146_83, s146_84, s146_85, s146_88, s146_90, s146_91, s146_92, s146_93, s146_96, s146_99, s146_100, s146_101, s146_103, s146_106, s146_109, s146_110, s146_111, s146_114, s146_115, s146_118, s146_119, s146_122, s146_124, s146_125, s146_126, s146_127, s146_130, s146_132, s146_133, s146_134, s146_136, s146_137, s146_140, s146_142, s146_145, s146_146, s146_149, s146_150, s146_153, s146_154, s146_155, s146_156, s146_159, s146_162, s146_163, s146_166, s146_167, s146_169, s146_170, s146_173, s146_174, s146_175, s146_176, s146_177, s146_180, s146_181, s146_182, Option.toList_some, Option.toList_none, List.cons_append, List.nil_append, if_true, if_false, eq_self, n1n0, ne10, h28, c0', hg', h3]
      · rw [if_neg c3]
        have hne : ¬ nI C = nI 0 := fun q => c3 ((nI_eq (by omega) (by omega)).mp q)
        have e1 : nI (n - d + C) - nI 1 = nI (n - d + C - 1) := pk_sub (by omega)
        have e2 : nI (n - d + C - 1) / nI C = nI ((n - d + C - 1) / C) := pk_div (by omega) (by omega) (by omega)
        rw [e0] at hg'
        simp (disch := first | omega | assumption | decide) only [e146, s146_0, s146_1, s146_2, s146_5, s146_8, s146_10, s146_11, s146_12, s146_13, s146_14, s146_17, s146_20, s146_23, s146_25, s146_26, s146_27, s146_28, s146_29, s146_31, s146_32, s146_36, s146_37, s146_40, s146_43, s146_44, s146_45, s146_47, s146_50, s146_53, s146_54, s146_55, s146_56, s146_59, s146_61, s146_62, s146_63, s146_66, s146_69, s146_70, s146_71, s146_72, s146_74, s146_75, s146_77, s146_80, s146_83, s146_84, s146_85, s146_88, s146_90, s146_91, s146_92, s146_93, s146_96, s146_99, s146_100, s146_101, s146_103, s146_106, s146_109, s146_110, s146_111, s146_114, s146_115, s146_118, s146_119, s146_122, s146_124, s146_125, s146_126, s146_127, s146_130, s146_132, s146_133, s146_134, s146_136, s146_137, s146_140, s146_142, s146_145, s146_146, s146_149, s146_150, s146_153, s146_154, s146_155, s146_156, s146_159, s146_162, s146_163, s146_166, s146_167, s146_169, s146_170, s146_173, s146_174, s146_175, s146_176, s146_177, s146_180, s146_181, s146_182, Option.toList_some, Option.toList_none, List.cons_append, List.nil_append, if_true, if_false, eq_self, n1n0, ne10, h28, c0', e0, hg', h3, hne, nI_add, e1, e2]
end AL
theorem ok_allTrue (x y : Int32) : okCall 132 146 [.int x, .int y] := by
  rintro ⟨⟨D, G, B, C, W, lim, bear⟩, R, ⟨u, Rs⟩, ⟨kb, Ri, si⟩, sd, ⟨t, tx, fa⟩, ⟨tn, tg, tr, en, eg, et⟩⟩ ha
  have hG := ha.1.2.1
  have hC := ha.1.2.2.2.1
  have hr := ha.2.1.1
  have hp7 : 2 ^ G ≤ 128 := Nat.pow_le_pow_right (n := 2) (by decide) (show G ≤ 7 from hG)
  have hp0 : 0 < 2 ^ G := Nat.two_pow_pos G
  have hsub := set_sub G (by omega)
  have hshl := shl_nI (b := G) (by omega)
  rcases rng x 0 (2 ^ G - 1) (by omega) (by omega) with h | ⟨h, hh2⟩ | ⟨j, -, hj, rfl⟩
  · have hne : ¬ x &&& (nI (2 ^ G - 1) ^^^ (-1)) = nI 0 := fun q => by
      obtain ⟨j, hj, rfl⟩ := set_out (by omega) q
      exact absurd ((nI_ltI (by omega) (by omega)).mp h) (by omega)
    refine ⟨_, -1000000001, ha, okC_ro ?_, okM_ro ?_⟩
    · rintro X Q ⟨nx, k, ns, ni, h1, h2, h3, h4, h5, h6, h7, h8⟩
      simp (disch := first | omega | assumption | decide) only [e132, s132_0, s132_1, s132_2, s132_3, s132_6, s132_9, s132_10, s132_11, s132_12, s132_13, s132_14, s132_15, s132_18, s132_20, s132_21, s132_22, s132_48, s132_49, s132_52, s132_53, s132_56, s132_57, s132_58, s132_61, s132_62, s132_65, s132_66, s132_67, s132_70, s132_71, s132_74, s132_75, s132_78, s132_81, s132_82, s132_84, Option.toList_some, Option.toList_none, List.cons_append, List.nil_append, if_true, if_false, eq_self, n1n0, ne10, h1.2.1, hshl, hsub, hne]
    · rintro X Q ⟨h1, h2, h3, h4, h5, h6, h7⟩
      simp (disch := first | omega | assumption | decide) only [e146, s146_0, s146_1, s146_2, s146_5, s146_8, s146_10, s146_11, s146_12, s146_13, s146_14, s146_17, s146_20, s146_23, s146_25, s146_26, s146_27, s146_28, s146_29, s146_31, s146_32, s146_36, s146_37, s146_40, s146_43, s146_44, s146_45, s146_47, s146_50, s146_53, s146_54, s146_55, s146_56, s146_59, s146_61, s146_62, s146_63, s146_66, s146_69, s146_70, s146_71, s146_72, s146_74, s146_75, s146_77, s146_80, s146_83, s146_84, s146_85, s146_88, s146_90, s146_91, s146_92, s146_93, s146_96, s146_99, s146_100, s146_101, s146_103, s146_106, s146_109, s146_110, s146_111, s146_114, s146_115, s146_118, s146_119, s146_122, s146_124, s146_125, s146_126, s146_127, s146_130, s146_132, s146_133, s146_134, s146_136, s146_137, s146_140, s146_142, s146_145, s146_146, s146_149, s146_150, s146_153, s146_154, s146_155, s146_156, s146_159, s146_162, s146_163, s146_166, s146_167, s146_169, s146_170, s146_173, s146_174, s146_175, s146_176, s146_177, s146_180, s146_181, s146_182, e93, s93_0, s93_1, s93_2, s93_3, s93_4, s93_5, s93_8, s93_9, s93_10, s93_11, s93_12, s93_15a, s93_15b, s93_15, Option.toList_some, Option.toList_none, List.cons_append, List.nil_append, if_true, if_false, eq_self, n1n0, ne10, h1.2.1, hshl, hsub, li_0, c_in, if_pos h]
  · have hne : ¬ x &&& (nI (2 ^ G - 1) ^^^ (-1)) = nI 0 := fun q => by
      obtain ⟨j, hj, rfl⟩ := set_out (by omega) q
      exact absurd ((nI_ltI (by omega) (by omega)).mp hh2) (by omega)
    refine ⟨_, -1000000001, ha, okC_ro ?_, okM_ro ?_⟩
    · rintro X Q ⟨nx, k, ns, ni, h1, h2, h3, h4, h5, h6, h7, h8⟩
      simp (disch := first | omega | assumption | decide) only [e132, s132_0, s132_1, s132_2, s132_3, s132_6, s132_9, s132_10, s132_11, s132_12, s132_13, s132_14, s132_15, s132_18, s132_20, s132_21, s132_22, s132_48, s132_49, s132_52, s132_53, s132_56, s132_57, s132_58, s132_61, s132_62, s132_65, s132_66, s132_67, s132_70, s132_71, s132_74, s132_75, s132_78, s132_81, s132_82, s132_84, Option.toList_some, Option.toList_none, List.cons_append, List.nil_append, if_true, if_false, eq_self, n1n0, ne10, h1.2.1, hshl, hsub, hne]
    · rintro X Q ⟨h1, h2, h3, h4, h5, h6, h7⟩
      simp (disch := first | omega | assumption | decide) only [e146, s146_0, s146_1, s146_2, s146_5, s146_8, s146_10, s146_11, s146_12, s146_13, s146_14, s146_17, s146_20, s146_23, s146_25, s146_26, s146_27, s146_28, s146_29, s146_31, s146_32, s146_36, s146_37, s146_40, s146_43, s146_44, s146_45, s146_47, s146_50, s146_53, s146_54, s146_55, s146_56, s146_59, s146_61, s146_62, s146_63, s146_66, s146_69, s146_70, s146_71, s146_72, s146_74, s146_75, s146_77, s146_80, s146_83, s146_84, s146_85, s146_88, s146_90, s146_91, s146_92, s146_93, s146_96, s146_99, s146_100, s146_101, s146_103, s146_106, s146_109, s146_110, s146_111, s146_114, s146_115, s146_118, s146_119, s146_122, s146_124, s146_125, s146_126, s146_127, s146_130, s146_132, s146_133, s146_134, s146_136, s146_137, s146_140, s146_142, s146_145, s146_146, s146_149, s146_150, s146_153, s146_154, s146_155, s146_156, s146_159, s146_162, s146_163, s146_166, s146_167, s146_169, s146_170, s146_173, s146_174, s146_175, s146_176, s146_177, s146_180, s146_181, s146_182, e93, s93_0, s93_1, s93_2, s93_3, s93_4, s93_5, s93_8, s93_9, s93_10, s93_11, s93_12, s93_15a, s93_15b, s93_15, Option.toList_some, Option.toList_none, List.cons_append, List.nil_append, if_true, if_false, eq_self, n1n0, ne10, h1.2.1, hshl, hsub, li_0, c_in, if_neg h, if_pos hh2]
  · have heq := set_in G (by omega) j (by omega) (by omega)
    have hall := fun X Q => c_in_in (X := X) (Q := Q) (j := j) (lo := 0) (hi := 2 ^ G - 1) (Nat.zero_le j) hj (by omega)
    have hsh : smN (shF j R) G < 64 := by
      have := smN_le (f := shF j R) (c := 5) (n := G) (fun i hi => by unfold shF; split <;> omega)
      omega
    have h28 := hr.2.2.2.2.1
    rcases rng y 0 2 (by decide) (by decide) with h | ⟨h, hh2⟩ | ⟨kk, -, hk, rfl⟩
    · have y0 : ¬ y = nI 0 := fun q => by rw [q] at h; exact absurd h Int32.lt_irrefl
      have y1 : ¬ y = nI 1 := fun q => by rw [q] at h; exact absurd h (by decide)
      have y2 : ¬ y = nI 2 := fun q => by rw [q] at h; exact absurd h (by decide)
      refine ⟨_, -1000000002, ha, okC_ro ?_, okM_ro ?_⟩
      · rintro X Q ⟨nx, k, ns, ni, h1, h2, h3, h4, h5, h6, h7, h8⟩
        simp (disch := first | omega | assumption | decide) only [e132, s132_0, s132_1, s132_2, s132_3, s132_6, s132_9, s132_10, s132_11, s132_12, s132_13, s132_14, s132_15, s132_18, s132_20, s132_21, s132_22, s132_48, s132_49, s132_52, s132_53, s132_56, s132_57, s132_58, s132_61, s132_62, s132_65, s132_66, s132_67, s132_70, s132_71, s132_74, s132_75, s132_78, s132_81, s132_82, s132_84, Option.toList_some, Option.toList_none, List.cons_append, List.nil_append, if_true, if_false, eq_self, n1n0, ne10, h1.2.1, hshl, hsub, heq, y0, y1, y2]
      · rintro X Q ⟨h1, h2, h3, h4, h5, h6, h7⟩
        simp (disch := first | omega | assumption | decide) only [e146, s146_0, s146_1, s146_2, s146_5, s146_8, s146_10, s146_11, s146_12, s146_13, s146_14, s146_17, s146_20, s146_23, s146_25, s146_26, s146_27, s146_28, s146_29, s146_31, s146_32, s146_36, s146_37, s146_40, s146_43, s146_44, s146_45, s146_47, s146_50, s146_53, s146_54, s146_55, s146_56, s146_59, s146_61, s146_62, s146_63, s146_66, s146_69, s146_70, s146_71, s146_72, s146_74, s146_75, s146_77, s146_80, s146_83, s146_84, s146_85, s146_88, s146_90, s146_91, s146_92, s146_93, s146_96, s146_99, s146_100, s146_101, s146_103, s146_106, s146_109, s146_110, s146_111, s146_114, s146_115, s146_118, s146_119, s146_122, s146_124, s146_125, s146_126, s146_127, s146_130, s146_132, s146_133, s146_134, s146_136, s146_137, s146_140, s146_142, s146_145, s146_146, s146_149, s146_150, s146_153, s146_154, s146_155, s146_156, s146_159, s146_162, s146_163, s146_166, s146_167, s146_169, s146_170, s146_173, s146_174, s146_175, s146_176, s146_177, s146_180, s146_181, s146_182, e93, s93_0, s93_1, s93_2, s93_3, s93_4, s93_5, s93_8, s93_9, s93_10, s93_11, s93_12, s93_15a, s93_15b, s93_15, Option.toList_some, Option.toList_none, List.cons_append, List.nil_append, if_true, if_false, eq_self, n1n0, ne10, h1.2.1, hshl, hsub, li_0, hall, li_2, c_in, if_pos h]
    · have y0 : ¬ y = nI 0 := fun q => by rw [q] at hh2; exact absurd hh2 (by decide)
      have y1 : ¬ y = nI 1 := fun q => by rw [q] at hh2; exact absurd hh2 (by decide)
      have y2 : ¬ y = nI 2 := fun q => by rw [q] at hh2; exact absurd hh2 Int32.lt_irrefl
      refine ⟨_, -1000000002, ha, okC_ro ?_, okM_ro ?_⟩
      · rintro X Q ⟨nx, k, ns, ni, h1, h2, h3, h4, h5, h6, h7, h8⟩
        simp (disch := first | omega | assumption | decide) only [e132, s132_0, s132_1, s132_2, s132_3, s132_6, s132_9, s132_10, s132_11, s132_12, s132_13, s132_14, s132_15, s132_18, s132_20, s132_21, s132_22, s132_48, s132_49, s132_52, s132_53, s132_56, s132_57, s132_58, s132_61, s132_62, s132_65, s132_66, s132_67, s132_70, s132_71, s132_74, s132_75, s132_78, s132_81, s132_82, s132_84, Option.toList_some, Option.toList_none, List.cons_append, List.nil_append, if_true, if_false, eq_self, n1n0, ne10, h1.2.1, hshl, hsub, heq, y0, y1, y2]
      · rintro X Q ⟨h1, h2, h3, h4, h5, h6, h7⟩
        simp (disch := first | omega | assumption | decide) only [e146, s146_0, s146_1, s146_2, s146_5, s146_8, s146_10, s146_11, s146_12, s146_13, s146_14, s146_17, s146_20, s146_23, s146_25, s146_26, s146_27, s146_28, s146_29, s146_31, s146_32, s146_36, s146_37, s146_40, s146_43, s146_44, s146_45, s146_47, s146_50, s146_53, s146_54, s146_55, s146_56, s146_59, s146_61, s146_62, s146_63, s146_66, s146_69, s146_70, s146_71, s146_72, s146_74, s146_75, s146_77, s146_80, s146_83, s146_84, s146_85, s146_88, s146_90, s146_91, s146_92, s146_93, s146_96, s146_99, s146_100, s146_101, s146_103, s146_106, s146_109, s146_110, s146_111, s146_114, s146_115, s146_118, s146_119, s146_122, s146_124, s146_125, s146_126, s146_127, s146_130, s146_132, s146_133, s146_134, s146_136, s146_137, s146_140, s146_142, s146_145, s146_146, s146_149, s146_150, s146_153, s146_154, s146_155, s146_156, s146_159, s146_162, s146_163, s146_166, s146_167, s146_169, s146_170, s146_173, s146_174, s146_175, s146_176, s146_177, s146_180, s146_181, s146_182, e93, s93_0, s93_1, s93_2, s93_3, s93_4, s93_5, s93_8, s93_9, s93_10, s93_11, s93_12, s93_15a, s93_15b, s93_15, Option.toList_some, Option.toList_none, List.cons_append, List.nil_append, if_true, if_false, eq_self, n1n0, ne10, h1.2.1, hshl, hsub, li_0, hall, li_2, c_in, if_neg h, if_pos hh2]
    · have hii := fun X Q => c_in_in (X := X) (Q := Q) (j := kk) (lo := 0) (hi := 2) (Nat.zero_le kk) hk (by decide)
      have hlo : ∀ (X : zM) (Q : Option Value → zM → Prop), mP D G B C W lim bear X → mW (X 40) 0 R → zev 146 34 [.ref 39, .int (nI j), .int (nI kk), .int (nI 0), .int (nI 0), .int (nI 0)] [] X Q = zev 146 109 [.ref 39, .int (nI j), .int (nI kk), .int (nI (smN (shF j R) G)), .int (nI (smN (ovF j R) G)), .int (nI G)] [] X Q := fun X Q h1 h2 => allM_loop ha.1 h1 h2 hr (by omega) G 0 (by omega)
      refine ⟨_, if kk = 0 then nI (smN (shF j R) G) else if kk = 1 then nI (smN (ovF j R) G) else dgI (smN (shF j R) G) (R 28) C, ha, okC_ro ?_, okM_ro ?_⟩
      · rintro X Q ⟨nx, k, ns, ni, h1, h2, h3, h4, h5, h6, h7, h8⟩
        have hcs := fun Q => cc_short (X := X) (Q := Q) ha.1 h1 h2 hr (show j < 128 by omega)
        have hco := fun Q => cc_over (X := X) (Q := Q) ha.1 h1 h2 hr (show j < 128 by omega)
        have hcg := fun Q => cc_give (X := X) (Q := Q) (C := C) hsh h28 hC h2.1.2.1 h1.2.2.2.1
        by_cases k0 : kk = 0
        · rw [k0]
          simp (disch := first | omega | assumption | decide) only [e132, s132_0, s132_1, s132_2, s132_3, s132_6, s132_9, s132_10, s132_11, s132_12, s132_13, s132_14, s132_15, s132_18, s132_20, s132_21, s132_22, s132_48, s132_49, s132_52, s132_53, s132_56, s132_57, s132_58, s132_61, s132_62, s132_65, s132_66, s132_67, s132_70, s132_71, s132_74, s132_75, s132_78, s132_81, s132_82, s132_84, Option.toList_some, Option.toList_none, List.cons_append, List.nil_append, if_true, if_false, eq_self, n1n0, ne10, h1.2.1, hshl, hsub, heq, hcs]
        · by_cases k1 : kk = 1
          · rw [k1]
            simp (disch := first | omega | assumption | decide) only [e132, s132_0, s132_1, s132_2, s132_3, s132_6, s132_9, s132_10, s132_11, s132_12, s132_13, s132_14, s132_15, s132_18, s132_20, s132_21, s132_22, s132_48, s132_49, s132_52, s132_53, s132_56, s132_57, s132_58, s132_61, s132_62, s132_65, s132_66, s132_67, s132_70, s132_71, s132_74, s132_75, s132_78, s132_81, s132_82, s132_84, Option.toList_some, Option.toList_none, List.cons_append, List.nil_append, if_true, if_false, eq_self, n1n0, ne10, h1.2.1, hshl, hsub, heq, hco]
          · have k2 : kk = 2 := by omega
            rw [k2]
            simp (disch := first | omega | assumption | decide) only [e132, s132_0, s132_1, s132_2, s132_3, s132_6, s132_9, s132_10, s132_11, s132_12, s132_13, s132_14, s132_15, s132_18, s132_20, s132_21, s132_22, s132_48, s132_49, s132_52, s132_53, s132_56, s132_57, s132_58, s132_61, s132_62, s132_65, s132_66, s132_67, s132_70, s132_71, s132_74, s132_75, s132_78, s132_81, s132_82, s132_84, Option.toList_some, Option.toList_none, List.cons_append, List.nil_append, if_true, if_false, eq_self, n1n0, ne10, h1.2.1, hshl, hsub, heq, hcs, hcg, show ¬ nI 2 = nI 0 by decide, show ¬ nI 2 = nI 1 by decide, show ¬ 2 = 0 by decide, show ¬ 2 = 1 by decide]
      · rintro X Q ⟨h1, h2, h3, h4, h5, h6, h7⟩
        have hl := hlo X Q h1 h2
        have he := fun (a0 a1 a4 l5 : Value) => allM_end (X := X) (Q := Q) (a0 := a0) (a1 := a1) (a4 := a4) (l5 := l5) (C := C) hsh h28 hC (at0 h2 (by omega)) h1.2.2.2.1
        by_cases k0 : kk = 0
        · rw [k0] at hl hii ⊢
          simp (disch := first | omega | assumption | decide) only [e146, s146_0, s146_1, s146_2, s146_5, s146_8, s146_10, s146_11, s146_12, s146_13, s146_14, s146_17, s146_20, s146_23, s146_25, s146_26, s146_27, s146_28, s146_29, s146_31, s146_32, s146_36, s146_37, s146_40, s146_43, s146_44, s146_45, s146_47, s146_50, s146_53, s146_54, s146_55, s146_56, s146_59, s146_61, s146_62, s146_63, s146_66, s146_69, s146_70, s146_71, s146_72, s146_74, s146_75, s146_77, s146_80, s146_83, s146_84, s146_85, s146_88, s146_90, s146_91, s146_92, s146_93, s146_96, s146_99, s146_100, s146_101, s146_103, s146_106, s146_109, s146_110, s146_111, s146_114, s146_115, s146_118, s146_119, s146_122, s146_124, s146_125, s146_126, s146_127, s146_130, s146_132, s146_133, s146_134, s146_136, s146_137, s146_140, s146_142, s146_145, s146_146, s146_149, s146_150, s146_153, s146_154, s146_155, s146_156, s146_159, s146_162, s146_163, s146_166, s146_167, s146_169, s146_170, s146_173, s146_174, s146_175, s146_176, s146_177, s146_180, s146_181, s146_182, e93, s93_0, s93_1, s93_2, s93_3, s93_4, s93_5, s93_8, s93_9, s93_10, s93_11, s93_12, s93_15a, s93_15b, s93_15, Option.toList_some, Option.toList_none, List.cons_append, List.nil_append, if_true, if_false, eq_self, n1n0, ne10, h1.2.1, hshl, hsub, li_0, hall, li_2, hii, hl, nI_ltI, show 0 < 2 by decide]
        · by_cases k1 : kk = 1
          · rw [k1] at hl hii ⊢
            simp (disch := first | omega | assumption | decide) only [e146, s146_0, s146_1, s146_2, s146_5, s146_8, s146_10, s146_11, s146_12, s146_13, s146_14, s146_17, s146_20, s146_23, s146_25, s146_26, s146_27, s146_28, s146_29, s146_31, s146_32, s146_36, s146_37, s146_40, s146_43, s146_44, s146_45, s146_47, s146_50, s146_53, s146_54, s146_55, s146_56, s146_59, s146_61, s146_62, s146_63, s146_66, s146_69, s146_70, s146_71, s146_72, s146_74, s146_75, s146_77, s146_80, s146_83, s146_84, s146_85, s146_88, s146_90, s146_91, s146_92, s146_93, s146_96, s146_99, s146_100, s146_101, s146_103, s146_106, s146_109, s146_110, s146_111, s146_114, s146_115, s146_118, s146_119, s146_122, s146_124, s146_125, s146_126, s146_127, s146_130, s146_132, s146_133, s146_134, s146_136, s146_137, s146_140, s146_142, s146_145, s146_146, s146_149, s146_150, s146_153, s146_154, s146_155, s146_156, s146_159, s146_162, s146_163, s146_166, s146_167, s146_169, s146_170, s146_173, s146_174, s146_175, s146_176, s146_177, s146_180, s146_181, s146_182, e93, s93_0, s93_1, s93_2, s93_3, s93_4, s93_5, s93_8, s93_9, s93_10, s93_11, s93_12, s93_15a, s93_15b, s93_15, Option.toList_some, Option.toList_none, List.cons_append, List.nil_append, if_true, if_false, eq_self, n1n0, ne10, h1.2.1, hshl, hsub, li_0, hall, li_2, hii, hl, nI_ltI, show 1 < 2 by decide]
          · have k2 : kk = 2 := by omega
            rw [k2] at hl hii ⊢
            refine Eq.trans ?_ (he (.int (nI 2)) (.int (nI j)) (.int (nI (smN (ovF j R) G))) (.int (nI G)))
            simp (disch := first | omega | assumption | decide) only [e146, s146_0, s146_1, s146_2, s146_5, s146_8, s146_10, s146_11, s146_12, s146_13, s146_14, s146_17, s146_20, s146_23, s146_25, s146_26, s146_27, s146_28, s146_29, s146_31, s146_32, s146_36, s146_37, s146_40, s146_43, s146_44, s146_45, s146_47, s146_50, s146_53, s146_54, s146_55, s146_56, s146_59, s146_61, s146_62, s146_63, s146_66, s146_69, s146_70, s146_71, s146_72, s146_74, s146_75, s146_77, s146_80, s146_83, s146_84, s146_85, s146_88, s146_90, s146_91, s146_92, s146_93, s146_96, s146_99, s146_100, s146_101, s146_103, s146_106, s146_109, s146_110, s146_111, s146_114, s146_115, s146_118, s146_119, s146_122, s146_124, s146_125, s146_126, s146_127, s146_130, s146_132, s146_133, s146_134, s146_136, s146_137, s146_140, s146_142, s146_145, s146_146, s146_149, s146_150, s146_153, s146_154, s146_155, s146_156, s146_159, s146_162, s146_163, s146_166, s146_167, s146_169, s146_170, s146_173, s146_174, s146_175, s146_176, s146_177, s146_180, s146_181, s146_182, e93, s93_0, s93_1, s93_2, s93_3, s93_4, s93_5, s93_8, s93_9, s93_10, s93_11, s93_12, s93_15a, s93_15b, s93_15, Option.toList_some, Option.toList_none, List.cons_append, List.nil_append, if_true, if_false, eq_self, n1n0, ne10, h1.2.1, hshl, hsub, li_0, hall, li_2, hii, hl, nI_ltI, Nat.lt_irrefl, show ¬ 2 = 0 by decide, show ¬ 2 = 1 by decide]
