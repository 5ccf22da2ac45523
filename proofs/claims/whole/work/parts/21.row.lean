/-! weather, what a glass reads, what the row tells: both sides -/
def wx (W : Nat → Int32) (D k : Nat) : Int32 := if D = 0 then nI 0 else W (k % D)
theorem c_weatherAhead {X : zM} {Q : Option Value → zM → Prop} {D d m : Nat} (hD : X 9 0 = nI D) (hD2 : D ≤ 12) (hd : X 57 0 = nI d) (hm : d + m < 1000000) : zcl 21 [.ref 15, .int (nI m)] X Q = Q (some (.int (wx (X 10) D (d + m)))) X := by
  by_cases h0 : D = 0
  · subst h0
    simp (disch := first | omega | assumption | decide) only [e21, s21_0, s21_1, s21_4, s21_7, s21_8, s21_9, s21_10, s21_11, s21_14, s21_17, s21_20, s21_21, s21_24, s21_25, s21_28, s21_29, s21_32, s21_35, s21_36, s21_37, s21_40, s21_43, s21_44, s21_45, hD, hd, Option.toList_some, Option.toList_none, List.cons_append, List.nil_append, nI_add, pk_mul, Nat.reduceAdd, Nat.reduceMul, Nat.add_zero, Nat.zero_add, if_true, if_false, ite_self, nI_add, pk_mul, pk_sub, zrem_nI, pk_div, nI_ltI, nI_eq, Nat.lt_irrefl, wx]
  · have hlt : (d + m) % D < D := Nat.mod_lt _ (by omega)
    have hne : ¬ nI D = nI 0 := fun q => h0 ((nI_eq (by omega) (by omega)).mp q)
    have hpos : 0 < D := by omega
    simp (disch := first | omega | assumption | decide) only [e21, s21_0, s21_1, s21_4, s21_7, s21_8, s21_9, s21_10, s21_11, s21_14, s21_17, s21_20, s21_21, s21_24, s21_25, s21_28, s21_29, s21_32, s21_35, s21_36, s21_37, s21_40, s21_43, s21_44, s21_45, hD, hd, Option.toList_some, Option.toList_none, List.cons_append, List.nil_append, nI_add, pk_mul, Nat.reduceAdd, Nat.reduceMul, Nat.add_zero, Nat.zero_add, if_true, if_false, ite_self, nI_add, pk_mul, pk_sub, zrem_nI, pk_div, nI_ltI, nI_eq, hpos, Nat.not_lt_zero, wx, h0]
/-- a reading: weather, temper, glad yet by more than n days -/
def rd (w t gl : Int32) (n : Nat) : Int32 := rdv (w + t - nI 5 + (if nI n < gl then nI 2 else nI 0))
theorem c_readingR {X : zM} {Q : Option Value → zM → Prop} {D d m g : Nat} (hD : X 9 0 = nI D) (hD2 : D ≤ 12) (hd : X 57 0 = nI d) (hm : d + m < 999999) (hg : g < 7) : zcl 68 [.ref 15, .int (nI g), .int (nI m)] X Q = Q (some (.int (rd (wx (X 10) D (d + (m + 1))) (X 58 g) (X 60 g) m))) X := by
  simp (disch := first | omega | assumption | decide) only [e68, s68_0, s68_1, s68_2, s68_3, s68_4, s68_7, s68_8, s68_11, s68_14, s68_15, s68_16, s68_17, s68_18, s68_21, s68_24, s68_25, s68_26, s68_27, s68_30, s68_31, s68_34, s68_35, s68_38, c_weatherAhead hD hD2 hd, c_clearReading, Option.toList_some, Option.toList_none, List.cons_append, List.nil_append, nI_add, pk_mul, Nat.reduceAdd, Nat.reduceMul, Nat.add_zero, Nat.zero_add, if_true, if_false, ite_self, rd]
  split <;> rfl
theorem c_readingBy {X : zM} {Q : Option Value → zM → Prop} {g : Nat} {w : Int32} (hg : g < 7) : zcl 69 [.ref 15, .int (nI g), .int w] X Q = Q (some (.int (rd w (X 58 g) (X 60 g) 0))) X := by
  simp (disch := first | omega | assumption | decide) only [e69, s69_0, s69_1, s69_2, s69_5, s69_8, s69_9, s69_10, s69_11, s69_12, s69_15, s69_18, s69_19, s69_20, s69_23, s69_24, s69_27, s69_28, s69_31, c_clearReading, Option.toList_some, Option.toList_none, List.cons_append, List.nil_append, nI_add, pk_mul, Nat.reduceAdd, Nat.reduceMul, Nat.add_zero, Nat.zero_add, if_true, if_false, ite_self, rd]
  split <;> rfl
/-- the row's sum and weights -/
def tl (s w : Int32) : Int32 := if nI 0 < w then s / w else nI 5
theorem telling_loop {X : zM} {Q : Option Value → zM → Prop} {D d m G : Nat} (hD : X 9 0 = nI D) (hD2 : D ≤ 12) (hd : X 57 0 = nI d) (hm : d + m < 999999) (hG : X 9 1 = nI G) (hG2 : G ≤ 7) : ∀ n i : Nat, i + n = G → zev 116 7 [.ref 15, .int (nI m), .int (sm (fun g => X 59 g * rd (wx (X 10) D (d + (m + 1))) (X 58 g) (X 60 g) m) i), .int (sm (X 59) i), .int (nI i)] [] X Q = Q (some (.int (tl (sm (fun g => X 59 g * rd (wx (X 10) D (d + (m + 1))) (X 58 g) (X 60 g) m) G) (sm (X 59) G)))) X := by
  intro n
  induction n with
  | zero =>
    intro i hi
    have e : i = G := by omega
    subst e
    rw [s116_7]
    simp (disch := first | omega | assumption | decide) only [e116, s116_0, s116_1, s116_2, s116_3, s116_4, s116_5, s116_9, s116_10, s116_13, s116_16, s116_19, s116_20, s116_21, s116_24, s116_27, s116_29, s116_30, s116_31, s116_33, s116_34, s116_37, s116_38, s116_39, s116_40, s116_41, s116_42, s116_45, s116_48, s116_50, s116_51, s116_52, s116_53, s116_56, s116_59, s116_60, s116_61, s116_64, hG, Option.toList_some, Option.toList_none, List.cons_append, List.nil_append, nI_add, pk_mul, Nat.reduceAdd, Nat.reduceMul, Nat.add_zero, Nat.zero_add, if_true, if_false, ite_self, nI_add, pk_mul, pk_sub, zrem_nI, pk_div, nI_ltI, nI_eq, Nat.lt_irrefl, c_tellingOf, tl]
  | succ n ih =>
    intro i hi
    have hlt : i < G := by omega
    rw [s116_7]
    simp (disch := first | omega | assumption | decide) only [e116, s116_0, s116_1, s116_2, s116_3, s116_4, s116_5, s116_9, s116_10, s116_13, s116_16, s116_19, s116_20, s116_21, s116_24, s116_27, s116_29, s116_30, s116_31, s116_33, s116_34, s116_37, s116_38, s116_39, s116_40, s116_41, s116_42, s116_45, s116_48, s116_50, s116_51, s116_52, s116_53, s116_56, s116_59, s116_60, s116_61, s116_64, hG, Option.toList_some, Option.toList_none, List.cons_append, List.nil_append, nI_add, pk_mul, Nat.reduceAdd, Nat.reduceMul, Nat.add_zero, Nat.zero_add, if_true, if_false, ite_self, nI_add, pk_mul, pk_sub, zrem_nI, pk_div, nI_ltI, nI_eq, hlt, c_readingR hD hD2 hd hm]
    exact ih (i + 1) (by omega)
theorem c_telling {X : zM} {Q : Option Value → zM → Prop} {D d m G : Nat} (hD : X 9 0 = nI D) (hD2 : D ≤ 12) (hd : X 57 0 = nI d) (hm : d + m < 999999) (hG : X 9 1 = nI G) (hG2 : G ≤ 7) : zcl 116 [.ref 15, .int (nI m)] X Q = Q (some (.int (tl (sm (fun g => X 59 g * rd (wx (X 10) D (d + (m + 1))) (X 58 g) (X 60 g) m) G) (sm (X 59) G)))) X := by
  simp (disch := first | omega | assumption | decide) only [e116, s116_0, s116_1, s116_2, s116_3, s116_4, s116_5, s116_9, s116_10, s116_13, s116_16, s116_19, s116_20, s116_21, s116_24, s116_27, s116_29, s116_30, s116_31, s116_33, s116_34, s116_37, s116_38, s116_39, s116_40, s116_41, s116_42, s116_45, s116_48, s116_50, s116_51, s116_52, s116_53, s116_56, s116_59, s116_60, s116_61, s116_64]
  exact telling_loop hD hD2 hd hm hG hG2 G 0 (by omega)

theorem c_weatherOf {X : zM} {Q : Option Value → zM → Prop} {D k : Nat} (hD : X 39 7 = nI D) (hD1 : 0 < D) (hD2 : D ≤ 12) (hk : k < 1000000) : zcl 47 [.ref 39, .int (nI k)] X Q = Q (some (.int (wx (X 42) D k))) X := by
  have hlt : k % D < D := Nat.mod_lt _ hD1
  have hne : ¬ nI D = nI 0 := fun q => absurd ((nI_eq (by omega) (by omega)).mp q) (by omega)
  have h0 : ¬ D = 0 := by omega
  simp (disch := first | omega | assumption | decide) only [e47, s47_0, s47_1, s47_4, s47_5, s47_6, s47_9, s47_10, s47_11, hD, Option.toList_some, Option.toList_none, List.cons_append, List.nil_append, nI_add, pk_mul, Nat.reduceAdd, Nat.reduceMul, Nat.add_zero, Nat.zero_add, if_true, if_false, ite_self, nI_add, pk_mul, pk_sub, zrem_nI, pk_div, nI_ltI, nI_eq, wx, h0]
theorem c_tomorrow {X : zM} {Q : Option Value → zM → Prop} {D d x : Nat} (hD : X 39 7 = nI D) (hD1 : 0 < D) (hD2 : D ≤ 12) (hx : x < 1000) (hd : X 40 (x + 29) = nI d) (hd2 : d < 999999) : zcl 94 [.ref 39, .int (nI x)] X Q = Q (some (.int (wx (X 42) D (d + 1)))) X := by
  simp (disch := first | omega | assumption | decide) only [e94, s94_0, s94_1, s94_2, s94_5, s94_6, s94_8, s94_9, s94_10, s94_11, s94_12, s94_15, hd, Option.toList_some, Option.toList_none, List.cons_append, List.nil_append, nI_add, pk_mul, Nat.reduceAdd, Nat.reduceMul, Nat.add_zero, Nat.zero_add, if_true, if_false, ite_self, nI_add, pk_mul, pk_sub, zrem_nI, pk_div, nI_ltI, nI_eq, c_weatherOf hD hD1 hD2]
theorem c_reads {X : zM} {Q : Option Value → zM → Prop} {D d x g : Nat} (hD : X 39 7 = nI D) (hD1 : 0 < D) (hD2 : D ≤ 12) (hx : x < 1000) (hd : X 40 (x + 29) = nI d) (hd2 : d < 999999) (hg : g < 7) : zcl 166 [.ref 39, .int (nI x), .int (nI g)] X Q = Q (some (.int (rd (wx (X 42) D (d + 1)) (X 40 (x + g)) (X 40 (x + 14 + g)) 0))) X := by
  simp (disch := first | omega | assumption | decide) only [e166, s166_0, s166_1, s166_2, s166_5, s166_6, s166_9, s166_10, s166_11, s166_12, s166_13, s166_14, s166_17, s166_18, s166_20, s166_21, s166_22, s166_23, s166_24, s166_27, s166_28, s166_31, s166_32, s166_35, Option.toList_some, Option.toList_none, List.cons_append, List.nil_append, nI_add, pk_mul, Nat.reduceAdd, Nat.reduceMul, Nat.add_zero, Nat.zero_add, if_true, if_false, ite_self, nI_add, pk_mul, pk_sub, zrem_nI, pk_div, nI_ltI, nI_eq, c_tomorrow hD hD1 hD2 hx hd hd2, c_reading, rd]
  split <;> rfl
def tm (s w : Int32) : Int32 := if w = nI 0 then nI 5 else s / w
theorem rowTells_loop {X : zM} {Q : Option Value → zM → Prop} {D d x G : Nat} (hD : X 39 7 = nI D) (hD1 : 0 < D) (hD2 : D ≤ 12) (hx : x < 1000) (hd : X 40 (x + 29) = nI d) (hd2 : d < 999999) (hG : X 39 9 = nI G) (hG2 : G ≤ 7) : ∀ n i : Nat, i + n = G → zev 184 7 [.ref 39, .int (nI x), .int (sm (fun g => X 40 (x + 7 + g) * rd (wx (X 42) D (d + 1)) (X 40 (x + g)) (X 40 (x + 14 + g)) 0) i), .int (sm (fun g => X 40 (x + 7 + g)) i), .int (nI i)] [] X Q = Q (some (.int (tm (sm (fun g => X 40 (x + 7 + g) * rd (wx (X 42) D (d + 1)) (X 40 (x + g)) (X 40 (x + 14 + g)) 0) G) (sm (fun g => X 40 (x + 7 + g)) G)))) X := by
  intro n
  induction n with
  | zero =>
    intro i hi
    have e : i = G := by omega
    subst e
    rw [s184_7]
    by_cases h0 : sm (fun g => X 40 (x + 7 + g)) i = nI 0
    · simp (disch := first | omega | assumption | decide) only [e184, s184_0, s184_1, s184_2, s184_3, s184_4, s184_5, s184_9, s184_10, s184_13, s184_16, s184_17, s184_18, s184_21, s184_22, s184_24, s184_25, s184_27, s184_28, s184_29, s184_30, s184_31, s184_33, s184_36, s184_37, s184_38, s184_39, s184_40, s184_41, s184_44, s184_45, s184_47, s184_48, s184_50, s184_51, s184_52, s184_53, s184_54, s184_57, s184_60, s184_61, s184_64, s184_65, s184_68, s184_69, s184_70, s184_71, hG, Option.toList_some, Option.toList_none, List.cons_append, List.nil_append, nI_add, pk_mul, Nat.reduceAdd, Nat.reduceMul, Nat.add_zero, Nat.zero_add, if_true, if_false, ite_self, nI_add, pk_mul, pk_sub, zrem_nI, pk_div, nI_ltI, nI_eq, Nat.lt_irrefl, tm, h0]
    · simp (disch := first | omega | assumption | decide) only [e184, s184_0, s184_1, s184_2, s184_3, s184_4, s184_5, s184_9, s184_10, s184_13, s184_16, s184_17, s184_18, s184_21, s184_22, s184_24, s184_25, s184_27, s184_28, s184_29, s184_30, s184_31, s184_33, s184_36, s184_37, s184_38, s184_39, s184_40, s184_41, s184_44, s184_45, s184_47, s184_48, s184_50, s184_51, s184_52, s184_53, s184_54, s184_57, s184_60, s184_61, s184_64, s184_65, s184_68, s184_69, s184_70, s184_71, hG, Option.toList_some, Option.toList_none, List.cons_append, List.nil_append, nI_add, pk_mul, Nat.reduceAdd, Nat.reduceMul, Nat.add_zero, Nat.zero_add, if_true, if_false, ite_self, nI_add, pk_mul, pk_sub, zrem_nI, pk_div, nI_ltI, nI_eq, Nat.lt_irrefl, tm, h0]
  | succ n ih =>
    intro i hi
    have hlt : i < G := by omega
    rw [s184_7]
    simp (disch := first | omega | assumption | decide) only [e184, s184_0, s184_1, s184_2, s184_3, s184_4, s184_5, s184_9, s184_10, s184_13, s184_16, s184_17, s184_18, s184_21, s184_22, s184_24, s184_25, s184_27, s184_28, s184_29, s184_30, s184_31, s184_33, s184_36, s184_37, s184_38, s184_39, s184_40, s184_41, s184_44, s184_45, s184_47, s184_48, s184_50, s184_51, s184_52, s184_53, s184_54, s184_57, s184_60, s184_61, s184_64, s184_65, s184_68, s184_69, s184_70, s184_71, hG, Option.toList_some, Option.toList_none, List.cons_append, List.nil_append, nI_add, pk_mul, Nat.reduceAdd, Nat.reduceMul, Nat.add_zero, Nat.zero_add, if_true, if_false, ite_self, nI_add, pk_mul, pk_sub, zrem_nI, pk_div, nI_ltI, nI_eq, hlt, c_reads hD hD1 hD2 hx hd hd2]
    exact ih (i + 1) (by omega)
theorem c_rowTells {X : zM} {Q : Option Value → zM → Prop} {D d x G : Nat} (hD : X 39 7 = nI D) (hD1 : 0 < D) (hD2 : D ≤ 12) (hx : x < 1000) (hd : X 40 (x + 29) = nI d) (hd2 : d < 999999) (hG : X 39 9 = nI G) (hG2 : G ≤ 7) : zcl 184 [.ref 39, .int (nI x)] X Q = Q (some (.int (tm (sm (fun g => X 40 (x + 7 + g) * rd (wx (X 42) D (d + 1)) (X 40 (x + g)) (X 40 (x + 14 + g)) 0) G) (sm (fun g => X 40 (x + 7 + g)) G)))) X := by
  simp (disch := first | omega | assumption | decide) only [e184, s184_0, s184_1, s184_2, s184_3, s184_4, s184_5, s184_9, s184_10, s184_13, s184_16, s184_17, s184_18, s184_21, s184_22, s184_24, s184_25, s184_27, s184_28, s184_29, s184_30, s184_31, s184_33, s184_36, s184_37, s184_38, s184_39, s184_40, s184_41, s184_44, s184_45, s184_47, s184_48, s184_50, s184_51, s184_52, s184_53, s184_54, s184_57, s184_60, s184_61, s184_64, s184_65, s184_68, s184_69, s184_70, s184_71]
  exact rowTells_loop hD hD1 hD2 hx hd hd2 hG hG2 G 0 (by omega)
