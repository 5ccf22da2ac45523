/-! could, tapNext -/
section FI
variable {X : zM} {Q : Option Value → zM → Prop}
theorem fill_loop {i m : Nat} {v : Int32} (hi : zkd i = (1, m)) (hm : m < 2147483648) (hQ : ∀ p, (∀ j, j < m → p j = v) → Q none (zst X i p)) : ∀ (n k : Nat) (p : Nat → Int32), k + n = m → (∀ j, j < k → p j = v) → zev 58 5 [.ref i, .int v, .int (nI k), .int (nI m)] [] (zst X i p) Q := by
  intro n
  induction n with
  | zero =>
    intro k p hk hp
    have q : k = m := by omega
    subst q
    rw [s58_5]
    simp (disch := first | omega | assumption | decide) only [s58_6, s58_7, s58_20, Option.toList_some, Option.toList_none, List.cons_append, List.nil_append, if_true, if_false, eq_self, n1n0, ne10, nI_ltI, Nat.lt_irrefl]
    exact hQ p hp
  | succ n ih =>
    intro k p hk hp
    have hlt : k < m := by omega
    have r13 := fun (X : zM) (Q : Option Value → zM → Prop) (l0 l1 l2 l3 : Value) => s58_13 (l0 := l0) (l1 := l1) (l2 := l2) (l3 := l3) (x := v) (X := X) (Q := Q) hi hm hlt
    rw [s58_5]
    simp (disch := first | omega | assumption | decide) only [s58_6, s58_7, s58_10, s58_11, s58_12, r13, s58_14, s58_17, Option.toList_some, Option.toList_none, List.cons_append, List.nil_append, if_true, if_false, eq_self, n1n0, ne10, nI_ltI, hlt, nI_add, zst_at, zst_zst]
    refine ih (k + 1) _ (by omega) (fun j hj => ?_)
    by_cases c : j = k
    · rw [c, upd_at]
    · rw [upd_ne _ _ c]; exact hp j (by omega)
theorem c_fill {i m : Nat} {v : Int32} (hi : zkd i = (1, m)) (hm : m < 2147483648) (hQ : ∀ p, (∀ j, j < m → p j = v) → Q none (zst X i p)) : zcl 58 [.ref i, .int v] X Q := by
  have r3 := fun (X : zM) (Q : Option Value → zM → Prop) (l0 l1 l2 l3 : Value) => s58_3 (l0 := l0) (l1 := l1) (l2 := l2) (l3 := l3) (X := X) (Q := Q) hi
  have k := fill_loop hi hm hQ m 0 (X i) (by omega) (fun j hj => absurd hj (by omega))
  rw [zst_self] at k
  simp (disch := first | omega | assumption | decide) only [e58, s58_0, s58_1, s58_2, r3, s58_4, Option.toList_some, Option.toList_none, List.cons_append, List.nil_append, if_true, if_false, eq_self, n1n0, ne10]
  exact k
end FI
theorem stN_lt {p : Nat → Bool} : ∀ n, stN p n < 2 ^ n
  | 0 => Nat.one_pos
  | n + 1 => by
    have h := stN_lt (p := p) n
    have h2 : 2 ^ (n + 1) = 2 * 2 ^ n := by rw [Nat.pow_succ]; omega
    unfold stN
    split
    · exact Nat.or_lt_two_pow (by omega) (by omega)
    · omega
theorem st_clr : ∀ v, v < 10 → ∀ a, a < 1024 → a < 2 ^ v → clr (a + (1024 - 2 ^ v)) v = a + (1024 - 2 ^ (v + 1)) ∧ clr (a + (1024 - 2 ^ (v + 1))) v = a + (1024 - 2 ^ (v + 1)) ∧ a + (1024 - 2 ^ v) = (a ||| 2 ^ v) + (1024 - 2 ^ (v + 1)) := by decide +kernel
section CO
variable {D G B C : Nat} {W lim bear : Nat → Nat} {X : zM} {R : Nat → Nat} {nx x : Nat} {Q : Option Value → zM → Prop} {tn : Nat} {tg tr : Nat → Nat} {en : Nat} {eg et : Nat → Nat}
def wrN (R : Nat → Nat) (g v : Nat) : Nat := rdN v (R g) (R (14 + g)) 0
theorem wrN_le (R : Nat → Nat) (g v : Nat) : wrN R g v ≤ 9 := rdN_le _ _ _ _
theorem cc_readingBy {g v : Nat} (hG : G ≤ 7) (hs : cS G B X 57 R nx) (hr : okR B R) (hg : g < G) (hv : v ≤ 9) : zcl 69 [.ref 15, .int (nI g), .int (nI v)] X Q = Q (some (.int (nI (wrN R g v)))) X := by
  have b := hr.1 g (by omega)
  rw [c_readingBy (by omega), (hs.2.2.1 g hg).1, (hs.2.2.1 g hg).2.2, rd_nI hv b.1 (by omega) (by decide)]
  rfl
theorem c_wouldRead {g v : Nat} (hs : mW (X 40) 0 R) (hr : okR B R) (hg : g < 7) (hv : v ≤ 9) : zcl 171 [.ref 39, .int (nI g), .int (nI v)] X Q = Q (some (.int (nI (wrN R g v)))) X := by
  have b := hr.1 g (by omega)
  have e1 := at0 hs (i := g) (by omega)
  have e2 := at0 hs (i := 14 + g) (by omega)
  have k := rdv_nI v (by omega) (R g) (by omega)
  unfold wrN rdN
  by_cases c : 0 < R (14 + g)
  · rw [if_pos c]
    simp (disch := first | omega | assumption | decide) only [e171, s171_0, s171_1, s171_2, s171_5, s171_6, s171_7, s171_8, s171_11, s171_13, s171_14, s171_15, s171_16, s171_19, s171_20, s171_23, s171_24, s171_27, Option.toList_some, Option.toList_none, List.cons_append, List.nil_append, if_true, if_false, eq_self, n1n0, ne10, e1, nI_add, e2, nI_ltI, c, c_reading]
    rw [← nI_add, k.1]
  · rw [if_neg c]
    simp (disch := first | omega | assumption | decide) only [e171, s171_0, s171_1, s171_2, s171_5, s171_6, s171_7, s171_8, s171_11, s171_13, s171_14, s171_15, s171_16, s171_19, s171_20, s171_23, s171_24, s171_27, Option.toList_some, Option.toList_none, List.cons_append, List.nil_append, if_true, if_false, eq_self, n1n0, ne10, e1, nI_add, e2, nI_ltI, c, c_reading]
    rw [← nI_add, k.2]
def cdB (R : Nat → Nat) (tg tr : Nat → Nat) (v i : Nat) : Bool := decide (wrN R (tg i) v = tr i)
def cdS (R : Nat → Nat) (tn : Nat) (tg tr : Nat → Nat) (v : Nat) : Bool := allB (cdB R tg tr v) 0 tn
theorem allB_s (p : Nat → Bool) (i : Nat) : allB p 0 (i + 1) = (allB p 0 i && p i) := by
  show (allB p 0 i && p (0 + i)) = _
  rw [Nat.zero_add]
theorem fit_in {v a : Nat} (hG : G ≤ 7) (hs : cS G B X 57 R nx) (hr : okR B R) (hb : cNb X tn tg tr en eg et) (ht : tn ≤ 6 ∧ ∀ i, i < tn → tg i < G ∧ tr i ≤ 9) (hv : v ≤ 9) (ha : a < 2 ^ v) : ∀ n i : Nat, i + n = tn → zev 110 14 [.ref 28, .int (nI (if allB (cdB R tg tr v) 0 i = true then a + (1024 - 2 ^ v) else a + (1024 - 2 ^ (v + 1)))), .int (nI v), .int (nI i)] [] X Q = zev 110 6 [.ref 28, .int (nI (if cdS R tn tg tr v = true then a + (1024 - 2 ^ v) else a + (1024 - 2 ^ (v + 1)))), .int (nI (v + 1)), .int (nI tn)] [] X Q := by
  have h2v : 2 ^ v ≤ 512 := Nat.pow_le_pow_right (n := 2) (by decide) (show v ≤ 9 from hv)
  have h2w : 2 ^ (v + 1) = 2 * 2 ^ v := by rw [Nat.pow_succ]; omega
  obtain ⟨k1, k2, -⟩ := st_clr v (by omega) a (by omega) ha
  intro n
  induction n with
  | zero =>
    intro i hi
    have q : i = tn := by omega
    subst q
    rw [s110_14]
    simp (disch := first | omega | assumption | decide) only [e110, s110_0, s110_3, s110_4, s110_5, s110_7, s110_9, s110_12, s110_13, s110_15, s110_16, s110_19, s110_22, s110_23, s110_26, s110_27, s110_30, s110_31, s110_32, s110_33, s110_36, s110_37, s110_40, s110_41, s110_42, s110_45, s110_46, s110_47, s110_48, s110_49, s110_50, s110_51, s110_52, s110_53, s110_56, s110_59, s110_62, s110_65, s110_66, Option.toList_some, Option.toList_none, List.cons_append, List.nil_append, if_true, if_false, eq_self, n1n0, ne10, hb.1, nI_ltI, Nat.lt_irrefl, nI_add]
    rfl
  | succ n ih =>
    intro i hi
    have hlt : i < tn := by omega
    obtain ⟨b1, b2⟩ := ht.2 i hlt
    obtain ⟨f1, f2⟩ := hb.2.2.1 i hlt
    have hrb := fun Q => cc_readingBy (X := X) (Q := Q) (g := tg i) (v := v) hG hs hr b1 hv
    have h9 := wrN_le R (tg i) v
    have hsh := shl_nI (b := v) (by omega)
    refine Eq.trans ?_ (ih (i + 1) (by omega))
    rw [s110_14, allB_s]
    by_cases c : wrN R (tg i) v = tr i
    · have : cdB R tg tr v i = true := decide_eq_true c
      rw [this, Bool.and_true]
      simp (disch := first | omega | assumption | decide) only [e110, s110_0, s110_3, s110_4, s110_5, s110_7, s110_9, s110_12, s110_13, s110_15, s110_16, s110_19, s110_22, s110_23, s110_26, s110_27, s110_30, s110_31, s110_32, s110_33, s110_36, s110_37, s110_40, s110_41, s110_42, s110_45, s110_46, s110_47, s110_48, s110_49, s110_50, s110_51, s110_52, s110_53, s110_56, s110_59, s110_62, s110_65, s110_66, Option.toList_some, Option.toList_none, List.cons_append, List.nil_append, if_true, if_false, eq_self, n1n0, ne10, hb.1, nI_ltI, hlt, nI_add, f1, f2, hrb, nI_eq, c]
    · have : cdB R tg tr v i = false := decide_eq_false c
      rw [this, Bool.and_false]
      have hcl : nI (if allB (cdB R tg tr v) 0 i = true then a + (1024 - 2 ^ v) else a + (1024 - 2 ^ (v + 1))) &&& (nI (2 ^ v) ^^^ (-1)) = nI (a + (1024 - 2 ^ (v + 1))) := by
        split
        · rw [clr_nI2 v (by omega) _ (by omega), k1]
        · rw [clr_nI2 v (by omega) _ (by omega), k2]
      simp (disch := first | omega | assumption | decide) only [e110, s110_0, s110_3, s110_4, s110_5, s110_7, s110_9, s110_12, s110_13, s110_15, s110_16, s110_19, s110_22, s110_23, s110_26, s110_27, s110_30, s110_31, s110_32, s110_33, s110_36, s110_37, s110_40, s110_41, s110_42, s110_45, s110_46, s110_47, s110_48, s110_49, s110_50, s110_51, s110_52, s110_53, s110_56, s110_59, s110_62, s110_65, s110_66, Option.toList_some, Option.toList_none, List.cons_append, List.nil_append, if_true, if_false, eq_self, n1n0, ne10, hb.1, nI_ltI, hlt, nI_add, f1, f2, hrb, nI_eq, c, hsh, hcl, Bool.false_eq_true]
theorem fit_out (hG : G ≤ 7) (hs : cS G B X 57 R nx) (hr : okR B R) (hb : cNb X tn tg tr en eg et) (ht : tn ≤ 6 ∧ ∀ i, i < tn → tg i < G ∧ tr i ≤ 9) : ∀ (n v : Nat) (l3 : Value), v + n = 10 → zev 110 6 [.ref 28, .int (nI (stN (cdS R tn tg tr) v + (1024 - 2 ^ v))), .int (nI v), l3] [] X Q = Q (some (.int (nI (stN (cdS R tn tg tr) 10)))) X := by
  intro n
  induction n with
  | zero =>
    intro v l3 hv
    have q : v = 10 := by omega
    subst q
    rw [s110_6]
    simp (disch := first | omega | assumption | decide) only [e110, s110_0, s110_3, s110_4, s110_5, s110_7, s110_9, s110_12, s110_13, s110_15, s110_16, s110_19, s110_22, s110_23, s110_26, s110_27, s110_30, s110_31, s110_32, s110_33, s110_36, s110_37, s110_40, s110_41, s110_42, s110_45, s110_46, s110_47, s110_48, s110_49, s110_50, s110_51, s110_52, s110_53, s110_56, s110_59, s110_62, s110_65, s110_66, Option.toList_some, Option.toList_none, List.cons_append, List.nil_append, if_true, if_false, eq_self, n1n0, ne10, nI_ltI, show 9 < 10 by omega, show (1024 - 2 ^ 10) = 0 by rfl, Nat.add_zero]
  | succ n ih =>
    intro v l3 hv
    have hlt : ¬ 9 < v := by omega
    have ha := stN_lt (p := cdS R tn tg tr) v
    have h2v : 2 ^ v ≤ 512 := Nat.pow_le_pow_right (n := 2) (by decide) (show v ≤ 9 by omega)
    obtain ⟨-, -, k3⟩ := st_clr v (by omega) _ (by omega) ha
    have e1 : stN (cdS R tn tg tr) (v + 1) + (1024 - 2 ^ (v + 1)) = if cdS R tn tg tr v = true then stN (cdS R tn tg tr) v + (1024 - 2 ^ v) else stN (cdS R tn tg tr) v + (1024 - 2 ^ (v + 1)) := by
      show (if cdS R tn tg tr v then stN (cdS R tn tg tr) v ||| 2 ^ v else stN (cdS R tn tg tr) v) + _ = _
      split
      · exact k3.symm
      · rfl
    have hin := fit_in (Q := Q) hG hs hr hb ht (by omega) ha tn 0 (by omega)
    have h2 := ih (v + 1) (.int (nI tn)) (by omega)
    rw [e1] at h2
    refine Eq.trans ?_ h2
    refine Eq.trans ?_ hin
    rw [s110_6]
    simp (disch := first | omega | assumption | decide) only [e110, s110_0, s110_3, s110_4, s110_5, s110_7, s110_9, s110_12, s110_13, s110_15, s110_16, s110_19, s110_22, s110_23, s110_26, s110_27, s110_30, s110_31, s110_32, s110_33, s110_36, s110_37, s110_40, s110_41, s110_42, s110_45, s110_46, s110_47, s110_48, s110_49, s110_50, s110_51, s110_52, s110_53, s110_56, s110_59, s110_62, s110_65, s110_66, Option.toList_some, Option.toList_none, List.cons_append, List.nil_append, if_true, if_false, eq_self, n1n0, ne10, nI_ltI, hlt]
    rfl
theorem cc_fitting (hG : G ≤ 7) (hs : cS G B X 57 R nx) (hr : okR B R) (hb : cNb X tn tg tr en eg et) (ht : tn ≤ 6 ∧ ∀ i, i < tn → tg i < G ∧ tr i ≤ 9) : zcl 110 [.ref 28] X Q = Q (some (.int (nI (stN (cdS R tn tg tr) 10)))) X := by
  refine Eq.trans ?_ (fit_out hG hs hr hb ht 10 0 zU (by omega))
  simp (disch := first | omega | assumption | decide) only [e110, s110_0, s110_3, s110_4, s110_5, s110_7, s110_9, s110_12, s110_13, s110_15, s110_16, s110_19, s110_22, s110_23, s110_26, s110_27, s110_30, s110_31, s110_32, s110_33, s110_36, s110_37, s110_40, s110_41, s110_42, s110_45, s110_46, s110_47, s110_48, s110_49, s110_50, s110_51, s110_52, s110_53, s110_56, s110_59, s110_62, s110_65, s110_66, Option.toList_some, Option.toList_none, List.cons_append, List.nil_append, if_true, if_false, eq_self, n1n0, ne10]
  rfl
theorem could_in {v : Nat} {l1 : Value} (hG : G ≤ 7) (hs : mW (X 40) 0 R) (hr : okR B R) (hb : mNb X tn tg tr en eg et) (ht : tn ≤ 6 ∧ ∀ i, i < tn → tg i < G ∧ tr i ≤ 9) (hv : v ≤ 9) : ∀ n i : Nat, i + n = tn → zev 189 15 [.ref 39, l1, .int (nI v), .int (nI (if allB (cdB R tg tr v) 0 i = true then 1 else 0)), .int (nI i)] [] X Q = zev 189 62 [.ref 39, l1, .int (nI v), .int (nI (if cdS R tn tg tr v = true then 1 else 0)), .int (nI tn)] [] X Q := by
  intro n
  induction n with
  | zero =>
    intro i hi
    have q : i = tn := by omega
    subst q
    rw [s189_15]
    simp (disch := first | omega | assumption | decide) only [s189_17, s189_18, s189_21, hb.1, nI_ltI, Nat.lt_irrefl, if_false]
    rfl
  | succ n ih =>
    intro i hi
    have hlt : i < tn := by omega
    obtain ⟨b1, b2⟩ := ht.2 i hlt
    obtain ⟨f1, f2⟩ := hb.2.2.1 i hlt
    have hrb := fun Q => c_wouldRead (X := X) (Q := Q) (g := tg i) (v := v) hs hr (by omega) hv
    have h9 := wrN_le R (tg i) v
    refine Eq.trans ?_ (ih (i + 1) (by omega))
    rw [s189_15, allB_s]
    by_cases c0 : allB (cdB R tg tr v) 0 i = true
    · rw [c0, Bool.true_and]
      by_cases c : wrN R (tg i) v = tr i
      · have : cdB R tg tr v i = true := decide_eq_true c
        rw [this]
        simp (disch := first | omega | assumption | decide) only [e189, s189_0, s189_1, s189_2, s189_3, s189_5, s189_7, s189_10, s189_11, s189_12, s189_13, s189_17, s189_18, s189_21, s189_24, s189_25, s189_28, s189_29, s189_30, s189_33, s189_35, s189_36, s189_37, s189_40, s189_41, s189_44, s189_46, s189_47, s189_50, s189_51, s189_54, s189_55, s189_56, s189_59, s189_62, s189_63, s189_64, s189_67, s189_68, s189_69, s189_70, s189_71, s189_74, s189_77, s189_78, Option.toList_some, Option.toList_none, List.cons_append, List.nil_append, if_true, if_false, eq_self, n1n0, ne10, hb.1, nI_ltI, hlt, nI_add, f1, f2, hrb, nI_eq, c]
      · have : cdB R tg tr v i = false := decide_eq_false c
        rw [this]
        simp (disch := first | omega | assumption | decide) only [e189, s189_0, s189_1, s189_2, s189_3, s189_5, s189_7, s189_10, s189_11, s189_12, s189_13, s189_17, s189_18, s189_21, s189_24, s189_25, s189_28, s189_29, s189_30, s189_33, s189_35, s189_36, s189_37, s189_40, s189_41, s189_44, s189_46, s189_47, s189_50, s189_51, s189_54, s189_55, s189_56, s189_59, s189_62, s189_63, s189_64, s189_67, s189_68, s189_69, s189_70, s189_71, s189_74, s189_77, s189_78, Option.toList_some, Option.toList_none, List.cons_append, List.nil_append, if_true, if_false, eq_self, n1n0, ne10, hb.1, nI_ltI, hlt, nI_add, f1, f2, hrb, nI_eq, c, Bool.false_eq_true]
    · rw [Bool.eq_false_iff.mpr c0, Bool.false_and]
      simp (disch := first | omega | assumption | decide) only [e189, s189_0, s189_1, s189_2, s189_3, s189_5, s189_7, s189_10, s189_11, s189_12, s189_13, s189_17, s189_18, s189_21, s189_24, s189_25, s189_28, s189_29, s189_30, s189_33, s189_35, s189_36, s189_37, s189_40, s189_41, s189_44, s189_46, s189_47, s189_50, s189_51, s189_54, s189_55, s189_56, s189_59, s189_62, s189_63, s189_64, s189_67, s189_68, s189_69, s189_70, s189_71, s189_74, s189_77, s189_78, Option.toList_some, Option.toList_none, List.cons_append, List.nil_append, if_true, if_false, eq_self, n1n0, ne10, hb.1, nI_ltI, hlt, nI_add, Bool.false_eq_true]
theorem could_out (hG : G ≤ 7) (hs : mW (X 40) 0 R) (hr : okR B R) (hb : mNb X tn tg tr en eg et) (ht : tn ≤ 6 ∧ ∀ i, i < tn → tg i < G ∧ tr i ≤ 9) : ∀ (n v : Nat) (l3 l4 : Value), v + n = 10 → zev 189 4 [.ref 39, .int (nI (stN (cdS R tn tg tr) v)), .int (nI v), l3, l4] [] X Q = Q (some (.int (nI (stN (cdS R tn tg tr) 10)))) X := by
  intro n
  induction n with
  | zero =>
    intro v l3 l4 hv
    have q : v = 10 := by omega
    subst q
    rw [s189_4]
    simp (disch := first | omega | assumption | decide) only [e189, s189_0, s189_1, s189_2, s189_3, s189_5, s189_7, s189_10, s189_11, s189_12, s189_13, s189_17, s189_18, s189_21, s189_24, s189_25, s189_28, s189_29, s189_30, s189_33, s189_35, s189_36, s189_37, s189_40, s189_41, s189_44, s189_46, s189_47, s189_50, s189_51, s189_54, s189_55, s189_56, s189_59, s189_62, s189_63, s189_64, s189_67, s189_68, s189_69, s189_70, s189_71, s189_74, s189_77, s189_78, Option.toList_some, Option.toList_none, List.cons_append, List.nil_append, if_true, if_false, eq_self, n1n0, ne10, nI_ltI, Nat.lt_irrefl]
  | succ n ih =>
    intro v l3 l4 hv
    have hlt : v < 10 := by omega
    have hin := could_in (Q := Q) (l1 := .int (nI (stN (cdS R tn tg tr) v))) hG hs hr hb ht (show v ≤ 9 by omega) tn 0 (by omega)
    have h2 := ih (v + 1) (.int (nI (if cdS R tn tg tr v = true then 1 else 0))) (.int (nI tn)) (by omega)
    refine Eq.trans (Eq.trans ?_ hin) (Eq.trans ?_ h2)
    · rw [s189_4]
      simp (disch := first | omega | assumption | decide) only [e189, s189_0, s189_1, s189_2, s189_3, s189_5, s189_7, s189_10, s189_11, s189_12, s189_13, s189_17, s189_18, s189_21, s189_24, s189_25, s189_28, s189_29, s189_30, s189_33, s189_35, s189_36, s189_37, s189_40, s189_41, s189_44, s189_46, s189_47, s189_50, s189_51, s189_54, s189_55, s189_56, s189_59, s189_62, s189_63, s189_64, s189_67, s189_68, s189_69, s189_70, s189_71, s189_74, s189_77, s189_78, Option.toList_some, Option.toList_none, List.cons_append, List.nil_append, if_true, if_false, eq_self, n1n0, ne10, nI_ltI, hlt]
      rfl
    · simp only [stN]
      by_cases c : cdS R tn tg tr v = true
      · rw [c]
        simp (disch := first | omega | assumption | decide) only [e189, s189_0, s189_1, s189_2, s189_3, s189_5, s189_7, s189_10, s189_11, s189_12, s189_13, s189_17, s189_18, s189_21, s189_24, s189_25, s189_28, s189_29, s189_30, s189_33, s189_35, s189_36, s189_37, s189_40, s189_41, s189_44, s189_46, s189_47, s189_50, s189_51, s189_54, s189_55, s189_56, s189_59, s189_62, s189_63, s189_64, s189_67, s189_68, s189_69, s189_70, s189_71, s189_74, s189_77, s189_78, Option.toList_some, Option.toList_none, List.cons_append, List.nil_append, if_true, if_false, eq_self, n1n0, ne10, c_one, shl_nI, or_nI, nI_add]
      · rw [Bool.eq_false_iff.mpr c]
        simp (disch := first | omega | assumption | decide) only [e189, s189_0, s189_1, s189_2, s189_3, s189_5, s189_7, s189_10, s189_11, s189_12, s189_13, s189_17, s189_18, s189_21, s189_24, s189_25, s189_28, s189_29, s189_30, s189_33, s189_35, s189_36, s189_37, s189_40, s189_41, s189_44, s189_46, s189_47, s189_50, s189_51, s189_54, s189_55, s189_56, s189_59, s189_62, s189_63, s189_64, s189_67, s189_68, s189_69, s189_70, s189_71, s189_74, s189_77, s189_78, Option.toList_some, Option.toList_none, List.cons_append, List.nil_append, if_true, if_false, eq_self, n1n0, ne10, c_one, shl0, or_nI, Nat.or_zero, nI_add, Bool.false_eq_true]
theorem cc_could (hG : G ≤ 7) (hs : mW (X 40) 0 R) (hr : okR B R) (hb : mNb X tn tg tr en eg et) (ht : tn ≤ 6 ∧ ∀ i, i < tn → tg i < G ∧ tr i ≤ 9) : zcl 189 [.ref 39] X Q = Q (some (.int (nI (stN (cdS R tn tg tr) 10)))) X := by
  refine Eq.trans ?_ (could_out hG hs hr hb ht 10 0 zU zU (by omega))
  simp (disch := first | omega | assumption | decide) only [e189, s189_0, s189_1, s189_2, s189_3, s189_5, s189_7, s189_10, s189_11, s189_12, s189_13, s189_17, s189_18, s189_21, s189_24, s189_25, s189_28, s189_29, s189_30, s189_33, s189_35, s189_36, s189_37, s189_40, s189_41, s189_44, s189_46, s189_47, s189_50, s189_51, s189_54, s189_55, s189_56, s189_59, s189_62, s189_63, s189_64, s189_67, s189_68, s189_69, s189_70, s189_71, s189_74, s189_77, s189_78, Option.toList_some, Option.toList_none, List.cons_append, List.nil_append, if_true, if_false, eq_self, n1n0, ne10]
  rfl
end CO
theorem ok_could : okCall 161 189 [] := by
  rintro ⟨⟨D, G, B, C, W, lim, bear⟩, R, ⟨u, Rs⟩, ⟨kb, Ri, si⟩, sd, ⟨t, tx, fa⟩, ⟨tn, tg, tr, en, eg, et⟩⟩ ha
  refine ⟨_, nI (stN (cdS R tn tg tr) 10), ha, okC_ro ?_, okM_ro ?_⟩
  · rintro X Q ⟨nx, k, ns, ni, h1, h2, h3, h4, h5, h6, h7, h8⟩
    have hf := fun Q => cc_fitting (X := X) (Q := Q) ha.1.2.1 h2 ha.2.1.1 h7 ha.2.2.2.2.2.2.1
    simp (disch := first | omega | assumption | decide) only [e161, s161_0, s161_1, s161_4, s161_7, Option.toList_some, Option.toList_none, List.cons_append, List.nil_append, if_true, if_false, eq_self, n1n0, ne10, hf]
  · rintro X Q ⟨h1, h2, h3, h4, h5, h6, h7⟩
    exact cc_could ha.1.2.1 h2 ha.2.1.1 h7 ha.2.2.2.2.2.2.1
