/-! holds, allTrue -/
def pmI (b : Nat) : Int32 := if b = 0 then -1 else nI (b - 1)
theorem pm_max : ∀ b, b < 11 → ∀ t, t < 10 → (if pmI b < nI t then nI t else pmI b) = pmI (max b (t + 1)) := by decide +kernel
theorem pm_1 : ∀ b, b < 11 → pmI b + nI 1 = nI b := by decide +kernel
/-- one more than the most that was told before weather below w -/
def bmN (pt pw : Nat → Nat) (w : Nat) : Nat → Nat
  | 0 => 0
  | r + 1 => if pw r < w then max (bmN pt pw w r) (pt r + 1) else bmN pt pw w r
theorem bmN_le {pt pw : Nat → Nat} {w L : Nat} : ∀ {n : Nat}, bmN pt pw w n ≤ L ↔ ∀ r, r < n → pw r < w → pt r < L
  | 0 => ⟨fun _ r hr => absurd hr (by omega), fun _ => Nat.zero_le _⟩
  | n + 1 => by
    have ih := bmN_le (pt := pt) (pw := pw) (w := w) (L := L) (n := n)
    unfold bmN
    by_cases c : pw n < w
    · rw [if_pos c]
      constructor
      · intro h r hr hp
        by_cases c2 : r = n
        · rw [c2]; omega
        · exact (ih.mp (by omega)) r (by omega) hp
      · intro h
        have h1 := ih.mpr (fun r hr hp => h r (by omega) hp)
        have h2 := h n (by omega) c
        omega
    · rw [if_neg c]
      rw [ih]
      constructor
      · intro h r hr hp
        by_cases c2 : r = n
        · rw [c2] at hp; exact absurd hp c
        · exact h r (by omega) hp
      · exact fun h r hr hp => h r (by omega) hp
theorem stN_cg {p q : Nat → Bool} : ∀ {n : Nat}, (∀ i, i < n → p i = q i) → stN p n = stN q n
  | 0, _ => rfl
  | n + 1, h => by
    unfold stN
    rw [h n (by omega), stN_cg (fun i hi => h i (by omega))]
theorem stN_lo {b : Nat} : ∀ {n : Nat}, n ≤ b → stN (fun L => decide (b ≤ L)) n = 0
  | 0, _ => rfl
  | n + 1, h => by
    unfold stN
    rw [decide_eq_false (by omega), stN_lo (by omega)]
    rfl
theorem stN_y {p : Nat → Bool} {n : Nat} (h : p n = true) : stN p (n + 1) = stN p n ||| 2 ^ n := by
  show (if p n then _ else _) = _
  rw [if_pos h]
theorem stN_n {p : Nat → Bool} {n : Nat} (h : p n = false) : stN p (n + 1) = stN p n := by
  show (if p n then _ else _) = _
  rw [h]
  rfl
section HO
variable {D G B C : Nat} {W lim bear : Nat → Nat} {X : zM} {R : Nat → Nat} {nx x : Nat} {Q : Option Value → zM → Prop}
theorem rul_bits {l0 l1 l2 : Value} {b : Nat} : ∀ n L : Nat, L + n = 10 → b ≤ L → zev 28 46 [l0, l1, l2, .int (nI (stN (fun L => decide (b ≤ L)) L)), .int (nI L)] [] X Q = Q (some (.int (nI (stN (fun L => decide (b ≤ L)) 10)))) X := by
  intro n
  induction n with
  | zero =>
    intro L hL hb
    have q : L = 10 := by omega
    subst q
    rw [s28_46]
    simp (disch := first | omega | assumption | decide) only [e28, s28_0, s28_1, s28_2, s28_3, s28_5, s28_6, s28_9, s28_12, s28_13, s28_16, s28_17, s28_18, s28_19, s28_22, s28_23, s28_24, s28_27, s28_28, s28_29, s28_32, s28_33, s28_36, s28_39, s28_40, s28_41, s28_42, s28_43, s28_44, s28_48, s28_50, s28_53, s28_54, s28_55, s28_57, s28_58, s28_59, s28_60, s28_63, s28_66, s28_67, Option.toList_some, Option.toList_none, List.cons_append, List.nil_append, if_true, if_false, eq_self, n1n0, ne10, nI_ltI, show 9 < 10 by omega]
  | succ n ih =>
    intro L hL hb
    have hlt : ¬ 9 < L := by omega
    refine Eq.trans ?_ (ih (L + 1) (by omega) (by omega))
    rw [s28_46, stN_y (p := fun L => decide (b ≤ L)) (decide_eq_true hb)]
    simp (disch := first | omega | assumption | decide) only [e28, s28_0, s28_1, s28_2, s28_3, s28_5, s28_6, s28_9, s28_12, s28_13, s28_16, s28_17, s28_18, s28_19, s28_22, s28_23, s28_24, s28_27, s28_28, s28_29, s28_32, s28_33, s28_36, s28_39, s28_40, s28_41, s28_42, s28_43, s28_44, s28_48, s28_50, s28_53, s28_54, s28_55, s28_57, s28_58, s28_59, s28_60, s28_63, s28_66, s28_67, Option.toList_some, Option.toList_none, List.cons_append, List.nil_append, if_true, if_false, eq_self, n1n0, ne10, nI_ltI, hlt, shl_nI, or_nI, nI_add]
theorem rul_loop {w m : Nat} {pt pw : Nat → Nat} (hw : w ≤ 9) (hm : m ≤ 20) (h8 : X 57 8 = nI m) (hp : ∀ r, r < m → X 62 r = nI (pt r) ∧ X 63 r = nI (pw r) ∧ pt r ≤ 9 ∧ pw r ≤ 9) : ∀ (n r : Nat) (l4 : Value), r + n = m → zev 28 4 [.ref 57, .int (nI w), .int (pmI (bmN pt pw w r)), .int (nI r), l4] [] X Q = Q (some (.int (nI (stN (fun L => decide (bmN pt pw w m ≤ L)) 10)))) X := by
  have hb : ∀ r, r ≤ m → bmN pt pw w r ≤ 10 := fun r hr => bmN_le.mpr (fun i hi _ => by have := (hp i (by omega)).2.2.1; omega)
  intro n
  induction n with
  | zero =>
    intro r l4 hr
    have q : r = m := by omega
    subst q
    have hb2 := hb r (Nat.le_refl _)
    have h1 := pm_1 (bmN pt pw w r) (by omega)
    have k := rul_bits (X := X) (Q := Q) (l0 := .ref 57) (l1 := .int (nI w)) (l2 := .int (pmI (bmN pt pw w r))) (b := bmN pt pw w r) (10 - bmN pt pw w r) (bmN pt pw w r) (by omega) (Nat.le_refl _)
    rw [stN_lo (Nat.le_refl _)] at k
    rw [s28_4]
    simp (disch := first | omega | assumption | decide) only [e28, s28_0, s28_1, s28_2, s28_3, s28_5, s28_6, s28_9, s28_12, s28_13, s28_16, s28_17, s28_18, s28_19, s28_22, s28_23, s28_24, s28_27, s28_28, s28_29, s28_32, s28_33, s28_36, s28_39, s28_40, s28_41, s28_42, s28_43, s28_44, s28_48, s28_50, s28_53, s28_54, s28_55, s28_57, s28_58, s28_59, s28_60, s28_63, s28_66, s28_67, Option.toList_some, Option.toList_none, List.cons_append, List.nil_append, if_true, if_false, eq_self, n1n0, ne10, h8, nI_ltI, Nat.lt_irrefl, h1]
    exact k
  | succ n ih =>
    intro r l4 hr
    have hlt : r < m := by omega
    obtain ⟨f1, f2, f3, f4⟩ := hp r hlt
    have hb2 := hb r (by omega)
    have hmx := pm_max (bmN pt pw w r) (by omega) (pt r) (by omega)
    refine Eq.trans ?_ (ih (r + 1) l4 (by omega))
    rw [s28_4]
    simp only [bmN]
    by_cases c : pw r < w
    · simp (disch := first | omega | assumption | decide) only [e28, s28_0, s28_1, s28_2, s28_3, s28_5, s28_6, s28_9, s28_12, s28_13, s28_16, s28_17, s28_18, s28_19, s28_22, s28_23, s28_24, s28_27, s28_28, s28_29, s28_32, s28_33, s28_36, s28_39, s28_40, s28_41, s28_42, s28_43, s28_44, s28_48, s28_50, s28_53, s28_54, s28_55, s28_57, s28_58, s28_59, s28_60, s28_63, s28_66, s28_67, Option.toList_some, Option.toList_none, List.cons_append, List.nil_append, if_true, if_false, eq_self, n1n0, ne10, h8, nI_ltI, hlt, f1, f2, c, hmx, nI_add]
    · simp (disch := first | omega | assumption | decide) only [e28, s28_0, s28_1, s28_2, s28_3, s28_5, s28_6, s28_9, s28_12, s28_13, s28_16, s28_17, s28_18, s28_19, s28_22, s28_23, s28_24, s28_27, s28_28, s28_29, s28_32, s28_33, s28_36, s28_39, s28_40, s28_41, s28_42, s28_43, s28_44, s28_48, s28_50, s28_53, s28_54, s28_55, s28_57, s28_58, s28_59, s28_60, s28_63, s28_66, s28_67, Option.toList_some, Option.toList_none, List.cons_append, List.nil_append, if_true, if_false, eq_self, n1n0, ne10, h8, nI_ltI, hlt, f1, f2, c, nI_add]
/-- where a place of the ring lies in the row of the reference -/
def idR (nx m r : Nat) : Nat := if m < 20 then r else (r + 20 - nx) % 20
theorem idR_lt {nx m r : Nat} (hx : nx < 20) (hm : m ≤ 20) (hr : r < m) : idR nx m r < m := by
  unfold idR; split
  · exact hr
  · omega
theorem idR_at {nx m r : Nat} (hx : nx < 20) (hm : m ≤ 20) (hl : m < 20 → nx = m) (hr : r < m) : (nx + 20 - m + idR nx m r) % 20 = r := by
  unfold idR; split
  · rename_i c
    have := hl c
    omega
  · omega
theorem idR_inv {nx m i : Nat} (hx : nx < 20) (hm : m ≤ 20) (hl : m < 20 → nx = m) (hi : i < m) : (nx + 20 - m + i) % 20 < m ∧ idR nx m ((nx + 20 - m + i) % 20) = i := by
  unfold idR; split
  · rename_i c
    have := hl c
    omega
  · omega
def hoB (R : Nat → Nat) (w L i : Nat) : Bool := decide (R (31 + 3 * i) < L ∨ w ≤ R (31 + 3 * i + 1))
theorem cc_rules {w : Nat} (hs : cS G B X 57 R nx) (hr : okR B R) (hw : w ≤ 9) : zcl 28 [.ref 57, .int (nI w)] X Q = Q (some (.int (nI (stN (fun L => allB (hoB R w L) 0 (R 30)) 10)))) X := by
  obtain ⟨h8, h9, hx, hl⟩ := hs.2.1
  have hlog := hs.2.2.2.2
  have h30 := hr.2.2.2.2.2.2.1
  have hbd := hr.2.2.2.2.2.2.2
  have hp : ∀ r, r < R 30 → X 62 r = nI (R (31 + 3 * idR nx (R 30) r)) ∧ X 63 r = nI (R (31 + 3 * idR nx (R 30) r + 1)) ∧ R (31 + 3 * idR nx (R 30) r) ≤ 9 ∧ R (31 + 3 * idR nx (R 30) r + 1) ≤ 9 := fun r hr => by
    have i1 := idR_lt hx h30 hr
    have k := hlog (idR nx (R 30) r) i1
    rw [idR_at hx h30 hl hr] at k
    have b := hbd (idR nx (R 30) r) (by omega)
    exact ⟨k.1, k.2.1, b.1, b.2.1⟩
  have key : stN (fun L => allB (hoB R w L) 0 (R 30)) 10 = stN (fun L => decide (bmN (fun r => R (31 + 3 * idR nx (R 30) r)) (fun r => R (31 + 3 * idR nx (R 30) r + 1)) w (R 30) ≤ L)) 10 := by
    refine stN_cg (fun L _ => ?_)
    rw [Bool.eq_iff_iff, allB_iff, decide_eq_true_iff, bmN_le]
    constructor
    · intro h r hr hw2
      have k := of_decide_eq_true (h (idR nx (R 30) r) (idR_lt hx h30 hr))
      rw [Nat.zero_add] at k
      omega
    · intro h i hi
      obtain ⟨i1, i2⟩ := idR_inv hx h30 hl hi
      have k := h _ i1
      rw [i2] at k
      refine decide_eq_true ?_
      rw [Nat.zero_add]
      by_cases c : R (31 + 3 * i + 1) < w
      · exact Or.inl (k c)
      · exact Or.inr (by omega)
  rw [key]
  refine Eq.trans ?_ (rul_loop hw h30 h8 hp (R 30) 0 zU (by omega))
  simp (disch := first | omega | assumption | decide) only [e28, s28_0, s28_1, s28_2, s28_3, s28_5, s28_6, s28_9, s28_12, s28_13, s28_16, s28_17, s28_18, s28_19, s28_22, s28_23, s28_24, s28_27, s28_28, s28_29, s28_32, s28_33, s28_36, s28_39, s28_40, s28_41, s28_42, s28_43, s28_44, s28_48, s28_50, s28_53, s28_54, s28_55, s28_57, s28_58, s28_59, s28_60, s28_63, s28_66, s28_67, Option.toList_some, Option.toList_none, List.cons_append, List.nil_append, if_true, if_false, eq_self, n1n0, ne10]
  rfl
theorem holdsM_in {w L : Nat} {l2 : Value} (hs : mW (X 40) 0 R) (hr : okR B R) (hw : w ≤ 9) (hL : L < 10) : ∀ n i : Nat, i + n = R 30 → zev 106 31 [.ref 39, .int (nI w), l2, .int (nI L), .int (nI (if allB (hoB R w L) 0 i = true then 1 else 0)), .int (nI i)] [] X Q = zev 106 95 [.ref 39, .int (nI w), l2, .int (nI L), .int (nI (if allB (hoB R w L) 0 (R 30) = true then 1 else 0)), .int (nI (R 30))] [] X Q := by
  have h30 := hr.2.2.2.2.2.2.1
  have hbd := hr.2.2.2.2.2.2.2
  have q30 := at0 hs (i := 30) (by omega)
  intro n
  induction n with
  | zero =>
    intro i hi
    have q : i = R 30 := by omega
    rw [q, s106_31]
    simp (disch := first | omega | assumption | decide) only [s106_33, s106_34, s106_37, s106_39, s106_40, q30, nI_ltI, Nat.lt_irrefl, if_false]
  | succ n ih =>
    intro i hi
    have hlt : i < R 30 := by omega
    have e1 := at0 hs (i := 31 + 3 * i) (by omega)
    have e2 := at0 hs (i := 31 + 3 * i + 1) (by omega)
    have b := hbd i (by omega)
    refine Eq.trans ?_ (ih (i + 1) (by omega))
    rw [s106_31, allB_s]
    by_cases c0 : allB (hoB R w L) 0 i = true
    · rw [c0, Bool.true_and]
      by_cases c1 : R (31 + 3 * i) < L
      · have : hoB R w L i = true := decide_eq_true (Or.inl c1)
        rw [this]
        simp (disch := first | omega | assumption | decide) only [e106, s106_0, s106_1, s106_2, s106_3, s106_6, s106_9, s106_12, s106_14, s106_15, s106_16, s106_17, s106_18, s106_20, s106_22, s106_25, s106_26, s106_28, s106_29, s106_33, s106_34, s106_37, s106_39, s106_40, s106_43, s106_45, s106_48, s106_49, s106_52, s106_54, s106_55, s106_57, s106_58, s106_59, s106_60, s106_61, s106_64, s106_65, s106_68, s106_70, s106_71, s106_73, s106_74, s106_75, s106_76, s106_77, s106_78, s106_79, s106_82, s106_83, s106_86, s106_87, s106_89, s106_92, s106_95, s106_96, s106_98, s106_101, s106_102, s106_103, s106_104, s106_105, s106_108, s106_111, s106_112, Option.toList_some, Option.toList_none, List.cons_append, List.nil_append, if_true, if_false, eq_self, n1n0, ne10, q30, nI_ltI, hlt, pk_mul, nI_add, e1, c1]
      · by_cases c2 : R (31 + 3 * i + 1) < w
        · have : hoB R w L i = false := decide_eq_false (by omega)
          rw [this]
          simp (disch := first | omega | assumption | decide) only [e106, s106_0, s106_1, s106_2, s106_3, s106_6, s106_9, s106_12, s106_14, s106_15, s106_16, s106_17, s106_18, s106_20, s106_22, s106_25, s106_26, s106_28, s106_29, s106_33, s106_34, s106_37, s106_39, s106_40, s106_43, s106_45, s106_48, s106_49, s106_52, s106_54, s106_55, s106_57, s106_58, s106_59, s106_60, s106_61, s106_64, s106_65, s106_68, s106_70, s106_71, s106_73, s106_74, s106_75, s106_76, s106_77, s106_78, s106_79, s106_82, s106_83, s106_86, s106_87, s106_89, s106_92, s106_95, s106_96, s106_98, s106_101, s106_102, s106_103, s106_104, s106_105, s106_108, s106_111, s106_112, Option.toList_some, Option.toList_none, List.cons_append, List.nil_append, if_true, if_false, eq_self, n1n0, ne10, q30, nI_ltI, hlt, pk_mul, nI_add, e1, e2, c1, c2, Bool.false_eq_true]
        · have : hoB R w L i = true := decide_eq_true (by omega)
          rw [this]
          simp (disch := first | omega | assumption | decide) only [e106, s106_0, s106_1, s106_2, s106_3, s106_6, s106_9, s106_12, s106_14, s106_15, s106_16, s106_17, s106_18, s106_20, s106_22, s106_25, s106_26, s106_28, s106_29, s106_33, s106_34, s106_37, s106_39, s106_40, s106_43, s106_45, s106_48, s106_49, s106_52, s106_54, s106_55, s106_57, s106_58, s106_59, s106_60, s106_61, s106_64, s106_65, s106_68, s106_70, s106_71, s106_73, s106_74, s106_75, s106_76, s106_77, s106_78, s106_79, s106_82, s106_83, s106_86, s106_87, s106_89, s106_92, s106_95, s106_96, s106_98, s106_101, s106_102, s106_103, s106_104, s106_105, s106_108, s106_111, s106_112, Option.toList_some, Option.toList_none, List.cons_append, List.nil_append, if_true, if_false, eq_self, n1n0, ne10, q30, nI_ltI, hlt, pk_mul, nI_add, e1, e2, c1, c2]
    · rw [Bool.eq_false_iff.mpr c0, Bool.false_and]
      simp (disch := first | omega | assumption | decide) only [e106, s106_0, s106_1, s106_2, s106_3, s106_6, s106_9, s106_12, s106_14, s106_15, s106_16, s106_17, s106_18, s106_20, s106_22, s106_25, s106_26, s106_28, s106_29, s106_33, s106_34, s106_37, s106_39, s106_40, s106_43, s106_45, s106_48, s106_49, s106_52, s106_54, s106_55, s106_57, s106_58, s106_59, s106_60, s106_61, s106_64, s106_65, s106_68, s106_70, s106_71, s106_73, s106_74, s106_75, s106_76, s106_77, s106_78, s106_79, s106_82, s106_83, s106_86, s106_87, s106_89, s106_92, s106_95, s106_96, s106_98, s106_101, s106_102, s106_103, s106_104, s106_105, s106_108, s106_111, s106_112, Option.toList_some, Option.toList_none, List.cons_append, List.nil_append, if_true, if_false, eq_self, n1n0, ne10, q30, nI_ltI, hlt, nI_add, Bool.false_eq_true]
theorem holdsM_out {w : Nat} (hs : mW (X 40) 0 R) (hr : okR B R) (hw : w ≤ 9) : ∀ (n L : Nat) (l4 l5 : Value), L + n = 10 → zev 106 19 [.ref 39, .int (nI w), .int (nI (stN (fun L => allB (hoB R w L) 0 (R 30)) L)), .int (nI L), l4, l5] [] X Q = Q (some (.int (nI (stN (fun L => allB (hoB R w L) 0 (R 30)) 10)))) X := by
  intro n
  induction n with
  | zero =>
    intro L l4 l5 hL
    have q : L = 10 := by omega
    subst q
    rw [s106_19]
    simp (disch := first | omega | assumption | decide) only [e106, s106_0, s106_1, s106_2, s106_3, s106_6, s106_9, s106_12, s106_14, s106_15, s106_16, s106_17, s106_18, s106_20, s106_22, s106_25, s106_26, s106_28, s106_29, s106_33, s106_34, s106_37, s106_39, s106_40, s106_43, s106_45, s106_48, s106_49, s106_52, s106_54, s106_55, s106_57, s106_58, s106_59, s106_60, s106_61, s106_64, s106_65, s106_68, s106_70, s106_71, s106_73, s106_74, s106_75, s106_76, s106_77, s106_78, s106_79, s106_82, s106_83, s106_86, s106_87, s106_89, s106_92, s106_95, s106_96, s106_98, s106_101, s106_102, s106_103, s106_104, s106_105, s106_108, s106_111, s106_112, Option.toList_some, Option.toList_none, List.cons_append, List.nil_append, if_true, if_false, eq_self, n1n0, ne10, nI_ltI, Nat.lt_irrefl]
  | succ n ih =>
    intro L l4 l5 hL
    have hlt : L < 10 := by omega
    have hin := holdsM_in (Q := Q) (l2 := .int (nI (stN (fun L => allB (hoB R w L) 0 (R 30)) L))) hs hr hw hlt (R 30) 0 (by omega)
    have h2 := ih (L + 1) (.int (nI (if allB (hoB R w L) 0 (R 30) = true then 1 else 0))) (.int (nI (R 30))) (by omega)
    refine Eq.trans (Eq.trans ?_ hin) (Eq.trans ?_ h2)
    · rw [s106_19]
      simp (disch := first | omega | assumption | decide) only [e106, s106_0, s106_1, s106_2, s106_3, s106_6, s106_9, s106_12, s106_14, s106_15, s106_16, s106_17, s106_18, s106_20, s106_22, s106_25, s106_26, s106_28, s106_29, s106_33, s106_34, s106_37, s106_39, s106_40, s106_43, s106_45, s106_48, s106_49, s106_52, s106_54, s106_55, s106_57, s106_58, s106_59, s106_60, s106_61, s106_64, s106_65, s106_68, s106_70, s106_71, s106_73, s106_74, s106_75, s106_76, s106_77, s106_78, s106_79, s106_82, s106_83, s106_86, s106_87, s106_89, s106_92, s106_95, s106_96, s106_98, s106_101, s106_102, s106_103, s106_104, s106_105, s106_108, s106_111, s106_112, Option.toList_some, Option.toList_none, List.cons_append, List.nil_append, if_true, if_false, eq_self, n1n0, ne10, nI_ltI, hlt]
      rfl
    · by_cases c : allB (hoB R w L) 0 (R 30) = true
      · rw [stN_y (p := fun L => allB (hoB R w L) 0 (R 30)) c, if_pos c]
        simp (disch := first | omega | assumption | decide) only [e106, s106_0, s106_1, s106_2, s106_3, s106_6, s106_9, s106_12, s106_14, s106_15, s106_16, s106_17, s106_18, s106_20, s106_22, s106_25, s106_26, s106_28, s106_29, s106_33, s106_34, s106_37, s106_39, s106_40, s106_43, s106_45, s106_48, s106_49, s106_52, s106_54, s106_55, s106_57, s106_58, s106_59, s106_60, s106_61, s106_64, s106_65, s106_68, s106_70, s106_71, s106_73, s106_74, s106_75, s106_76, s106_77, s106_78, s106_79, s106_82, s106_83, s106_86, s106_87, s106_89, s106_92, s106_95, s106_96, s106_98, s106_101, s106_102, s106_103, s106_104, s106_105, s106_108, s106_111, s106_112, Option.toList_some, Option.toList_none, List.cons_append, List.nil_append, if_true, if_false, eq_self, n1n0, ne10, c_one, shl_nI, or_nI, nI_add]
      · rw [stN_n (p := fun L => allB (hoB R w L) 0 (R 30)) (Bool.eq_false_iff.mpr c), if_neg c]
        simp (disch := first | omega | assumption | decide) only [e106, s106_0, s106_1, s106_2, s106_3, s106_6, s106_9, s106_12, s106_14, s106_15, s106_16, s106_17, s106_18, s106_20, s106_22, s106_25, s106_26, s106_28, s106_29, s106_33, s106_34, s106_37, s106_39, s106_40, s106_43, s106_45, s106_48, s106_49, s106_52, s106_54, s106_55, s106_57, s106_58, s106_59, s106_60, s106_61, s106_64, s106_65, s106_68, s106_70, s106_71, s106_73, s106_74, s106_75, s106_76, s106_77, s106_78, s106_79, s106_82, s106_83, s106_86, s106_87, s106_89, s106_92, s106_95, s106_96, s106_98, s106_101, s106_102, s106_103, s106_104, s106_105, s106_108, s106_111, s106_112, Option.toList_some, Option.toList_none, List.cons_append, List.nil_append, if_true, if_false, eq_self, n1n0, ne10, c_one, shl0, or_nI, Nat.or_zero, nI_add, Bool.false_eq_true]
end HO
theorem ok_holds (x : Int32) : okCall 80 106 [.int x] := by
  rintro ⟨⟨D, G, B, C, W, lim, bear⟩, R, ⟨u, Rs⟩, ⟨kb, Ri, si⟩, sd, ⟨t, tx, fa⟩, ⟨tn, tg, tr, en, eg, et⟩⟩ ha
  have hr := ha.2.1.1
  rcases rng x 0 9 (by decide) (by decide) with h | ⟨h, h2⟩ | ⟨j, -, hj, rfl⟩
  · refine ⟨_, -1000000002, ha, okC_ro ?_, okM_ro ?_⟩
    · intro X Q _
      simp (disch := first | omega | assumption | decide) only [e80, s80_0, s80_1, s80_2, s80_4, s80_7, s80_10, s80_12, s80_13, s80_14, s80_17, s80_18, s80_21, Option.toList_some, Option.toList_none, List.cons_append, List.nil_append, if_true, if_false, eq_self, n1n0, ne10, c_isOut, if_pos h]
    · intro X Q _
      simp (disch := first | omega | assumption | decide) only [e106, s106_0, s106_1, s106_2, s106_3, s106_6, s106_9, s106_12, s106_14, s106_15, s106_16, s106_17, s106_18, s106_20, s106_22, s106_25, s106_26, s106_28, s106_29, s106_33, s106_34, s106_37, s106_39, s106_40, s106_43, s106_45, s106_48, s106_49, s106_52, s106_54, s106_55, s106_57, s106_58, s106_59, s106_60, s106_61, s106_64, s106_65, s106_68, s106_70, s106_71, s106_73, s106_74, s106_75, s106_76, s106_77, s106_78, s106_79, s106_82, s106_83, s106_86, s106_87, s106_89, s106_92, s106_95, s106_96, s106_98, s106_101, s106_102, s106_103, s106_104, s106_105, s106_108, s106_111, s106_112, Option.toList_some, Option.toList_none, List.cons_append, List.nil_append, if_true, if_false, eq_self, n1n0, ne10, li_0, li_1, li_255, li_48, li_57, li_60, li_30, li_9, li_10, li_12, li_2, li_100, c_in, if_pos h]
  · refine ⟨_, -1000000002, ha, okC_ro ?_, okM_ro ?_⟩
    · intro X Q _
      simp (disch := first | omega | assumption | decide) only [e80, s80_0, s80_1, s80_2, s80_4, s80_7, s80_10, s80_12, s80_13, s80_14, s80_17, s80_18, s80_21, Option.toList_some, Option.toList_none, List.cons_append, List.nil_append, if_true, if_false, eq_self, n1n0, ne10, c_isOut, if_neg h, if_pos h2]
    · intro X Q _
      simp (disch := first | omega | assumption | decide) only [e106, s106_0, s106_1, s106_2, s106_3, s106_6, s106_9, s106_12, s106_14, s106_15, s106_16, s106_17, s106_18, s106_20, s106_22, s106_25, s106_26, s106_28, s106_29, s106_33, s106_34, s106_37, s106_39, s106_40, s106_43, s106_45, s106_48, s106_49, s106_52, s106_54, s106_55, s106_57, s106_58, s106_59, s106_60, s106_61, s106_64, s106_65, s106_68, s106_70, s106_71, s106_73, s106_74, s106_75, s106_76, s106_77, s106_78, s106_79, s106_82, s106_83, s106_86, s106_87, s106_89, s106_92, s106_95, s106_96, s106_98, s106_101, s106_102, s106_103, s106_104, s106_105, s106_108, s106_111, s106_112, Option.toList_some, Option.toList_none, List.cons_append, List.nil_append, if_true, if_false, eq_self, n1n0, ne10, li_0, li_1, li_255, li_48, li_57, li_60, li_30, li_9, li_10, li_12, li_2, li_100, c_in, if_neg h, if_pos h2]
  · have hio := fun X Q => c_isOut_in (X := X) (Q := Q) (j := j) (lo := 0) (hi := 9) (Nat.zero_le j) hj (by decide)
    have hii := fun X Q => c_in_in (X := X) (Q := Q) (j := j) (lo := 0) (hi := 9) (Nat.zero_le j) hj (by decide)
    refine ⟨_, nI (stN (fun L => allB (hoB R j L) 0 (R 30)) 10), ha, okC_ro ?_, okM_ro ?_⟩
    · rintro X Q ⟨nx, k, ns, ni, h1, h2, h3, h4, h5, h6, h7, h8⟩
      have hc := fun Q => cc_rules (X := X) (Q := Q) h2 hr hj
      simp (disch := first | omega | assumption | decide) only [e80, s80_0, s80_1, s80_2, s80_4, s80_7, s80_10, s80_12, s80_13, s80_14, s80_17, s80_18, s80_21, Option.toList_some, Option.toList_none, List.cons_append, List.nil_append, if_true, if_false, eq_self, n1n0, ne10, hio, hc]
    · rintro X Q ⟨h1, h2, h3, h4, h5, h6, h7⟩
      have hm := fun (l4 l5 : Value) => holdsM_out (X := X) (Q := Q) h2 hr hj 10 0 l4 l5 (by omega)
      rw [show stN (fun L => allB (hoB R j L) 0 (R 30)) 0 = 0 from rfl] at hm
      simp (disch := first | omega | assumption | decide) only [e106, s106_0, s106_1, s106_2, s106_3, s106_6, s106_9, s106_12, s106_14, s106_15, s106_16, s106_17, s106_18, s106_20, s106_22, s106_25, s106_26, s106_28, s106_29, s106_33, s106_34, s106_37, s106_39, s106_40, s106_43, s106_45, s106_48, s106_49, s106_52, s106_54, s106_55, s106_57, s106_58, s106_59, s106_60, s106_61, s106_64, s106_65, s106_68, s106_70, s106_71, s106_73, s106_74, s106_75, s106_76, s106_77, s106_78, s106_79, s106_82, s106_83, s106_86, s106_87, s106_89, s106_92, s106_95, s106_96, s106_98, s106_101, s106_102, s106_103, s106_104, s106_105, s106_108, s106_111, s106_112, Option.toList_some, Option.toList_none, List.cons_append, List.nil_append, if_true, if_false, eq_self, n1n0, ne10, li_0, li_9, hii, hm]
