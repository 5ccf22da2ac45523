/-! the reference: who sails, the log, a day -/
def bt (a b : Nat) : Nat := a / 2 ^ b % 2
theorem bt_lt (a b : Nat) : bt a b < 2 := Nat.mod_lt _ (by decide)
theorem c_hasN {a b : Nat} (ha : a < 2 ^ 31) (hb : b < 32) (X : zM) (Q : Option Value → zM → Prop) : zcl 42 [.int (nI a), .int (nI b)] X Q = Q (some (.int (nI (bt a b)))) X := by
  have h2 := bt_lt a b
  rw [c_has, bit_nI ha hb]
  have h3 : bt a b = 0 ∨ bt a b = 1 := by omega
  unfold bt at h3 ⊢
  rcases h3 with h | h
  · rw [h]; rfl
  · rw [h]; rfl
theorem c_hasBitN {a b : Nat} (ha : a < 2 ^ 31) (hb : b < 32) (X : zM) (Q : Option Value → zM → Prop) : zcl 36 [.int (nI a), .int (nI b)] X Q = Q (some (.int (nI (bt a b)))) X := by
  have h2 := bt_lt a b
  rw [c_hasBit, bit_nI ha hb]
  have h3 : bt a b = 0 ∨ bt a b = 1 := by omega
  unfold bt at h3 ⊢
  rcases h3 with h | h
  · rw [h]; rfl
  · rw [h]; rfl
def upN (R : Nat → Nat) (k v : Nat) : Nat → Nat := fun j => if j = k then v else R j
theorem upN_at (R : Nat → Nat) (k v : Nat) : upN R k v k = v := if_pos rfl
theorem upN_ne (R : Nat → Nat) {k j : Nat} (v : Nat) (h : j ≠ k) : upN R k v j = R j := if_neg h
def mW (w : Nat → Int32) (x : Nat) (R : Nat → Nat) : Prop := ∀ i, i < 91 → w (x + i) = nI (R i)
def frW (w v : Nat → Int32) (x : Nat) : Prop := ∀ i, (i < x ∨ x + 91 ≤ i) → v i = w i
theorem frW.rf {w : Nat → Int32} {x : Nat} : frW w w x := fun _ _ => rfl
theorem frW.tr {w v u : Nat → Int32} {x : Nat} (h : frW w v x) (h2 : frW v u x) : frW w u x := fun i hi => (h2 i hi).trans (h i hi)
theorem frW.up {w v : Nat → Int32} {x k : Nat} {z : Int32} (h : frW w v x) (hk : x ≤ k) (hk2 : k < x + 91) : frW w (upd v k z) x := fun i hi => by
  rw [upd_ne v z (by omega)]
  exact h i hi
theorem mW.up {w : Nat → Int32} {x k v : Nat} {R : Nat → Nat} (h : mW w x R) : mW (upd w (x + k) (nI v)) x (upN R k v) := by
  intro i hi
  by_cases hik : i = k
  · subst hik
    rw [upd_at, upN_at]
  · rw [upd_ne w _ (by omega), upN_ne R v hik]
    exact h i hi
theorem mW.cg {w : Nat → Int32} {x : Nat} {R R1 : Nat → Nat} (h : mW w x R) (hR : ∀ i, i < 91 → R1 i = R i) : mW w x R1 := fun i hi => by rw [hR i hi]; exact h i hi
section MD
variable {D G B C : Nat} {W lim bear : Nat → Nat} {X : zM} {R : Nat → Nat} {nx x : Nat} {Q : Option Value → zM → Prop}
def slN (lim : Nat → Nat) (R : Nat → Nat) (b t : Nat) : Prop := bt (R 21) b = 0 ∧ bt (R 22) b = 0 ∧ lim b ≤ t
theorem c_sails {b t : Nat} (ho : okP D G B C W lim bear) (hm : mP D G B C W lim bear X) (hs : mW (X 40) x R) (h1 : R 21 < 32) (h2 : R 22 < 32) (hx : x < 1000) (hb : b < B) (ht : t < 1000) : zcl 96 [.ref 39, .int (nI x), .int (nI b), .int (nI t)] X Q = Q (some (.int (if bt (R 21) b = 0 ∧ bt (R 22) b = 0 ∧ lim b ≤ t then nI 1 else nI 0))) X := by
  have hB := ho.2.2.1
  have b1 := bt_lt (R 21) b
  have b2 := bt_lt (R 22) b
  have hl := (hm.2.2.2.2.2 b hb).1
  have hl2 := ho.2.2.2.2.2.1 b
  have e1 := hs 21 (by omega)
  have e2 := hs 22 (by omega)
  by_cases c1 : bt (R 21) b = 0
  · by_cases c2 : bt (R 22) b = 0
    · by_cases c3 : lim b ≤ t
      · have c4 : ¬ t < lim b := by omega
        simp (disch := first | omega | assumption | decide) only [e96, s96_0, s96_1, s96_4, s96_5, s96_7, s96_8, s96_9, s96_10, s96_13, s96_16, s96_17, s96_20, s96_21, s96_23, s96_24, s96_25, s96_26, s96_29, s96_32, s96_33, s96_34, s96_37, s96_38, s96_39, s96_42, s96_43, s96_46, s96_47a, s96_47b, s96_47, Option.toList_some, Option.toList_none, List.cons_append, List.nil_append, nI_add, pk_mul, Nat.reduceAdd, Nat.reduceMul, Nat.add_zero, Nat.zero_add, if_true, if_false, ite_self, nI_add, pk_mul, pk_sub, zrem_nI, pk_div, nI_ltI, nI_eq, e1, e2, hl, c_hasN, c1, c2, c3, c4, and_self]
      · have c4 : t < lim b := by omega
        simp (disch := first | omega | assumption | decide) only [e96, s96_0, s96_1, s96_4, s96_5, s96_7, s96_8, s96_9, s96_10, s96_13, s96_16, s96_17, s96_20, s96_21, s96_23, s96_24, s96_25, s96_26, s96_29, s96_32, s96_33, s96_34, s96_37, s96_38, s96_39, s96_42, s96_43, s96_46, s96_47a, s96_47b, s96_47, Option.toList_some, Option.toList_none, List.cons_append, List.nil_append, nI_add, pk_mul, Nat.reduceAdd, Nat.reduceMul, Nat.add_zero, Nat.zero_add, if_true, if_false, ite_self, nI_add, pk_mul, pk_sub, zrem_nI, pk_div, nI_ltI, nI_eq, e1, e2, hl, c_hasN, c1, c2, c3, c4, and_false]
    · simp (disch := first | omega | assumption | decide) only [e96, s96_0, s96_1, s96_4, s96_5, s96_7, s96_8, s96_9, s96_10, s96_13, s96_16, s96_17, s96_20, s96_21, s96_23, s96_24, s96_25, s96_26, s96_29, s96_32, s96_33, s96_34, s96_37, s96_38, s96_39, s96_42, s96_43, s96_46, s96_47a, s96_47b, s96_47, Option.toList_some, Option.toList_none, List.cons_append, List.nil_append, nI_add, pk_mul, Nat.reduceAdd, Nat.reduceMul, Nat.add_zero, Nat.zero_add, if_true, if_false, ite_self, nI_add, pk_mul, pk_sub, zrem_nI, pk_div, nI_ltI, nI_eq, e1, e2, hl, c_hasN, c1, c2, false_and, and_false]
  · simp (disch := first | omega | assumption | decide) only [e96, s96_0, s96_1, s96_4, s96_5, s96_7, s96_8, s96_9, s96_10, s96_13, s96_16, s96_17, s96_20, s96_21, s96_23, s96_24, s96_25, s96_26, s96_29, s96_32, s96_33, s96_34, s96_37, s96_38, s96_39, s96_42, s96_43, s96_46, s96_47a, s96_47b, s96_47, Option.toList_some, Option.toList_none, List.cons_append, List.nil_append, nI_add, pk_mul, Nat.reduceAdd, Nat.reduceMul, Nat.add_zero, Nat.zero_add, if_true, if_false, ite_self, nI_add, pk_mul, pk_sub, zrem_nI, pk_div, nI_ltI, nI_eq, e1, e2, hl, c_hasN, c1, false_and]
def shW (w : Nat → Int32) (x k : Nat) : Nat → Int32 := fun i => if x + 31 ≤ i ∧ i + 3 < x + 31 + k then w (i + 3) else w i
theorem shW_step (w : Nat → Int32) {x k : Nat} (h : 3 ≤ k) : upd (shW w x k) (x + 31 + k - 3) (shW w x k (x + 31 + k)) = shW w x (k + 1) := by
  funext i
  unfold upd shW
  by_cases hi : i = x + 31 + k - 3
  · subst hi
    rw [if_pos rfl, if_neg (by omega), if_pos (by omega)]
    congr 1
    omega
  · rw [if_neg hi]
    by_cases h2 : x + 31 ≤ i ∧ i + 3 < x + 31 + k
    · rw [if_pos h2, if_pos (by omega)]
    · rw [if_neg h2, if_neg (by omega)]
theorem shW_3 (w : Nat → Int32) (x : Nat) : shW w x 3 = w := by
  funext i
  unfold shW
  exact if_neg (by omega)
theorem log_loop {a b c : Int32} (w : Nat → Int32) (hx : x < 1000) : ∀ n k : Nat, k + n = 60 → 3 ≤ k → zev 50 17 [.ref 39, .int (nI x), .int a, .int b, .int c, .int (nI k)] [] (zst X 40 (shW w x k)) Q = zev 50 56 [.ref 39, .int (nI x), .int a, .int b, .int c, .int (nI 60)] [] (zst X 40 (shW w x 60)) Q := by
  intro n
  induction n with
  | zero =>
    intro i hi h3
    have e : i = 60 := by omega
    subst e
    rw [s50_17]
    simp (disch := first | omega | assumption) only [s50_19, s50_21, nI_add, pk_mul, pk_sub, zrem_nI, pk_div, nI_ltI, nI_eq, Nat.lt_irrefl, if_false]
  | succ n ih =>
    intro k hk h3
    have hlt : k < 60 := by omega
    refine Eq.trans ?_ (ih (k + 1) (by omega) (by omega))
    rw [s50_17]
    simp (disch := first | omega | assumption | decide) only [e50, s50_0, s50_1, s50_4, s50_5, s50_7, s50_8, s50_9, s50_11, s50_14, s50_15, s50_19, s50_21, s50_24, s50_25, s50_28, s50_29, s50_31, s50_32, s50_34, s50_35, s50_36, s50_37, s50_38, s50_41, s50_42, s50_44, s50_45, s50_47, s50_48, s50_49, s50_50, s50_53, s50_56, s50_57, s50_60, s50_61, s50_63, s50_64, s50_65, s50_66, s50_67, s50_68, s50_69, s50_70, s50_72, s50_73, s50_74, s50_75, s50_78, s50_79, s50_81, s50_82, s50_83, s50_84, s50_85, s50_87, s50_88, s50_91, s50_93, s50_94, s50_95, s50_96, s50_99, s50_101, s50_102, s50_103, s50_104, s50_105, s50_106, s50_109, s50_111, s50_112, s50_113, s50_115, s50_116, s50_117, s50_120, s50_121, s50_123, s50_124, s50_125, s50_126, s50_127, s50_128, s50_129, Option.toList_some, Option.toList_none, List.cons_append, List.nil_append, nI_add, pk_mul, Nat.reduceAdd, Nat.reduceMul, Nat.add_zero, Nat.zero_add, if_true, if_false, ite_self, nI_add, pk_mul, pk_sub, zrem_nI, pk_div, nI_ltI, nI_eq, hlt, zst_at, zst_zst, shW_step]
/-- a log entry behind the others -/
def logN (R : Nat → Nat) (t v s : Nat) : Nat → Nat := if R 30 = 20 then fun j => if 31 ≤ j ∧ j < 88 then R (j + 3) else if j = 88 then t else if j = 89 then v else if j = 90 then s else R j
  else upN (upN (upN (upN R (31 + 3 * R 30) t) (31 + 3 * R 30 + 1) v) (31 + 3 * R 30 + 2) s) 30 (R 30 + 1)
theorem c_log {t v s : Nat} (hs : mW (X 40) x R) (h30 : R 30 ≤ 20) (hx : x < 1000) (hQ : ∀ w, mW w x (logN R t v s) → frW (X 40) w x → Q none (zst X 40 w)) : zcl 50 [.ref 39, .int (nI x), .int (nI t), .int (nI v), .int (nI s)] X Q := by
  have e30 := hs 30 (by omega)
  by_cases h : R 30 = 20
  · have hl := log_loop (X := X) (Q := Q) (a := nI t) (b := nI v) (c := nI s) (X 40) hx 57 3 (by omega) (by omega)
    rw [shW_3, zst_self] at hl
    have e1 : shW (X 40) x 60 (x + 30) = nI 20 := by
      unfold shW
      rw [if_neg (by omega), e30, h]
    simp (disch := first | omega | assumption | decide) only [e50, s50_0, s50_1, s50_4, s50_5, s50_7, s50_8, s50_9, s50_11, s50_14, s50_15, s50_19, s50_21, s50_24, s50_25, s50_28, s50_29, s50_31, s50_32, s50_34, s50_35, s50_36, s50_37, s50_38, s50_41, s50_42, s50_44, s50_45, s50_47, s50_48, s50_49, s50_50, s50_53, s50_56, s50_57, s50_60, s50_61, s50_63, s50_64, s50_65, s50_66, s50_67, s50_68, s50_69, s50_70, s50_72, s50_73, s50_74, s50_75, s50_78, s50_79, s50_81, s50_82, s50_83, s50_84, s50_85, s50_87, s50_88, s50_91, s50_93, s50_94, s50_95, s50_96, s50_99, s50_101, s50_102, s50_103, s50_104, s50_105, s50_106, s50_109, s50_111, s50_112, s50_113, s50_115, s50_116, s50_117, s50_120, s50_121, s50_123, s50_124, s50_125, s50_126, s50_127, s50_128, s50_129, Option.toList_some, Option.toList_none, List.cons_append, List.nil_append, nI_add, pk_mul, Nat.reduceAdd, Nat.reduceMul, Nat.add_zero, Nat.zero_add, if_true, if_false, ite_self, nI_add, pk_mul, pk_sub, zrem_nI, pk_div, nI_ltI, nI_eq, e30, h, hl, zst_at, zst_zst, e1, upd_at]
    have e2 : upd (shW (X 40) x 60) (x + 30) (nI 19) (x + 30) = nI 19 := upd_at _ _ _
    simp (disch := first | omega | assumption | decide) only [e50, s50_0, s50_1, s50_4, s50_5, s50_7, s50_8, s50_9, s50_11, s50_14, s50_15, s50_19, s50_21, s50_24, s50_25, s50_28, s50_29, s50_31, s50_32, s50_34, s50_35, s50_36, s50_37, s50_38, s50_41, s50_42, s50_44, s50_45, s50_47, s50_48, s50_49, s50_50, s50_53, s50_56, s50_57, s50_60, s50_61, s50_63, s50_64, s50_65, s50_66, s50_67, s50_68, s50_69, s50_70, s50_72, s50_73, s50_74, s50_75, s50_78, s50_79, s50_81, s50_82, s50_83, s50_84, s50_85, s50_87, s50_88, s50_91, s50_93, s50_94, s50_95, s50_96, s50_99, s50_101, s50_102, s50_103, s50_104, s50_105, s50_106, s50_109, s50_111, s50_112, s50_113, s50_115, s50_116, s50_117, s50_120, s50_121, s50_123, s50_124, s50_125, s50_126, s50_127, s50_128, s50_129, Option.toList_some, Option.toList_none, List.cons_append, List.nil_append, nI_add, pk_mul, Nat.reduceAdd, Nat.reduceMul, Nat.add_zero, Nat.zero_add, if_true, if_false, ite_self, nI_add, pk_mul, pk_sub, zrem_nI, pk_div, nI_ltI, nI_eq, zst_at, zst_zst, e2, upd_ne, upd_at]
    apply hQ
    · intro i hi
      unfold logN
      rw [if_pos h]
      by_cases i1 : i = 30
      · subst i1
        rw [upd_at]
        simp [h]
      · rw [upd_ne _ _ (by omega)]
        by_cases i2 : i = 90
        · subst i2
          rw [show x + 31 + 57 + 2 = x + 90 by omega, upd_at]
          simp
        · rw [upd_ne _ _ (by omega)]
          by_cases i3 : i = 89
          · subst i3
            rw [show x + 31 + 57 + 1 = x + 89 by omega, upd_at]
            simp
          · rw [upd_ne _ _ (by omega)]
            by_cases i4 : i = 88
            · subst i4
              rw [show x + 31 + 57 = x + 88 by omega, upd_at]
              simp
            · rw [upd_ne _ _ (by omega), upd_ne _ _ (by omega)]
              unfold shW
              by_cases i5 : 31 ≤ i ∧ i < 88
              · rw [if_pos (by omega)]
                simp only [if_pos i5]
                rw [show x + i + 3 = x + (i + 3) by omega]
                exact hs (i + 3) (by omega)
              · rw [if_neg (by omega)]
                simp only [if_neg i5, if_neg i4, if_neg i3, if_neg i2]
                exact hs i hi
    · intro i hi
      rw [upd_ne _ _ (by omega), upd_ne _ _ (by omega), upd_ne _ _ (by omega), upd_ne _ _ (by omega), upd_ne _ _ (by omega)]
      unfold shW
      rw [if_neg (by omega)]
  · have hne : ¬ nI (R 30) = nI 20 := fun q => h ((nI_eq (by omega) (by omega)).mp q)
    simp (disch := first | omega | assumption | decide) only [e50, s50_0, s50_1, s50_4, s50_5, s50_7, s50_8, s50_9, s50_11, s50_14, s50_15, s50_19, s50_21, s50_24, s50_25, s50_28, s50_29, s50_31, s50_32, s50_34, s50_35, s50_36, s50_37, s50_38, s50_41, s50_42, s50_44, s50_45, s50_47, s50_48, s50_49, s50_50, s50_53, s50_56, s50_57, s50_60, s50_61, s50_63, s50_64, s50_65, s50_66, s50_67, s50_68, s50_69, s50_70, s50_72, s50_73, s50_74, s50_75, s50_78, s50_79, s50_81, s50_82, s50_83, s50_84, s50_85, s50_87, s50_88, s50_91, s50_93, s50_94, s50_95, s50_96, s50_99, s50_101, s50_102, s50_103, s50_104, s50_105, s50_106, s50_109, s50_111, s50_112, s50_113, s50_115, s50_116, s50_117, s50_120, s50_121, s50_123, s50_124, s50_125, s50_126, s50_127, s50_128, s50_129, Option.toList_some, Option.toList_none, List.cons_append, List.nil_append, nI_add, pk_mul, Nat.reduceAdd, Nat.reduceMul, Nat.add_zero, Nat.zero_add, if_true, if_false, ite_self, nI_add, pk_mul, pk_sub, zrem_nI, pk_div, nI_ltI, nI_eq, e30, hne, zst_at, zst_zst, upd_ne, upd_at]
    apply hQ
    · unfold logN
      rw [if_neg h]
      have := (((hs.up (k := 31 + 3 * R 30) (v := t)).up (k := 31 + 3 * R 30 + 1) (v := v)).up (k := 31 + 3 * R 30 + 2) (v := s)).up (k := 30) (v := R 30 + 1)
      rw [show x + (31 + 3 * R 30) = x + 31 + 3 * R 30 by omega, show x + (31 + 3 * R 30 + 1) = x + 31 + 3 * R 30 + 1 by omega, show x + (31 + 3 * R 30 + 2) = x + 31 + 3 * R 30 + 2 by omega] at this
      exact this
    · exact (((frW.rf.up (by omega) (by omega)).up (by omega) (by omega)).up (by omega) (by omega)).up (by omega) (by omega)
end MD
