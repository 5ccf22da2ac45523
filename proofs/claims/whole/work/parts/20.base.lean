/-! pure words -/
def sm (f : Nat → Int32) : Nat → Int32
  | 0 => nI 0
  | n + 1 => sm f n + f n
theorem n0 : (0 : Int32) = nI 0 := rfl
/-- what a glass reads: held between 0 and 9 -/
def rdv (x : Int32) : Int32 := if nI 9 < x then nI 9 else if x < nI 0 then nI 0 else x
theorem rdv_a (x : Int32) : (if (if nI 9 < x then nI 9 else x) < nI 0 then nI 0 else (if nI 9 < x then nI 9 else x)) = rdv x := by
  unfold rdv
  by_cases h : nI 9 < x
  · simp only [if_pos h]
    exact if_neg (by decide)
  · simp only [if_neg h]
theorem rdv_b (x : Int32) : (if nI 0 < (if nI 9 < x then nI 9 else x) then (if nI 9 < x then nI 9 else x) else nI 0) = rdv x := by
  unfold rdv
  by_cases h : nI 9 < x
  · simp only [if_pos h]
    exact if_pos (by decide)
  · simp only [if_neg h]
    by_cases h2 : nI 0 < x
    · rw [if_pos h2, if_neg (fun q => absurd (Int32.lt_trans h2 q) Int32.lt_irrefl)]
    · rw [if_neg h2]
      by_cases h3 : x < nI 0
      · rw [if_pos h3]
      · rw [if_neg h3]
        exact Int32.le_antisymm (Int32.not_lt.mp h3) (Int32.not_lt.mp h2)
theorem lgc_lt (x y : Int32) : (lg_cmp x.toInt64 y.toInt64 < nI 0) = (x < y) := by
  apply propext
  unfold lg_cmp
  have e1 : (x.toInt64 > y.toInt64) ↔ y < x := by
    show y.toInt64 < x.toInt64 ↔ _
    rw [Int64.lt_iff_toInt_lt, Int32.lt_iff_toInt_lt, Int32.toInt_toInt64, Int32.toInt_toInt64]
  have e2 : (x.toInt64 = y.toInt64) ↔ x = y := by
    rw [← Int64.toInt_inj, Int32.toInt_toInt64, Int32.toInt_toInt64, Int32.toInt_inj]
  by_cases h1 : y < x
  · rw [if_pos (e1.mpr h1)]
    exact ⟨fun q => absurd q (by decide), fun q => absurd (Int32.lt_trans h1 q) Int32.lt_irrefl⟩
  · rw [if_neg (fun q => h1 (e1.mp q))]
    by_cases h2 : x = y
    · rw [if_pos (e2.mpr h2)]
      exact ⟨fun q => absurd q (by decide), fun q => absurd (h2 ▸ q) Int32.lt_irrefl⟩
    · rw [if_neg (fun q => h2 (e2.mp q))]
      exact ⟨fun _ => Int32.lt_of_le_of_ne (Int32.not_lt.mp h1) h2, fun _ => by decide⟩
theorem lgc_gt (x y : Int32) : (nI 0 < lg_cmp x.toInt64 y.toInt64) = (y < x) := by
  apply propext
  unfold lg_cmp
  have e1 : (x.toInt64 > y.toInt64) ↔ y < x := by
    show y.toInt64 < x.toInt64 ↔ _
    rw [Int64.lt_iff_toInt_lt, Int32.lt_iff_toInt_lt, Int32.toInt_toInt64, Int32.toInt_toInt64]
  by_cases h1 : y < x
  · rw [if_pos (e1.mpr h1)]
    exact ⟨fun _ => h1, fun _ => by decide⟩
  · rw [if_neg (fun q => h1 (e1.mp q))]
    refine ⟨fun q => ?_, fun q => absurd q h1⟩
    split at q
    · exact absurd q (by decide)
    · exact absurd q (by decide)
theorem li_0 : lN 0 = (nI 0).toInt64 := rfl
theorem li_1 : lN 1 = (nI 1).toInt64 := rfl
theorem li_255 : lN 255 = (nI 255).toInt64 := rfl
theorem li_48 : lN 48 = (nI 48).toInt64 := rfl
theorem li_57 : lN 57 = (nI 57).toInt64 := rfl
theorem li_60 : lN 60 = (nI 60).toInt64 := rfl
theorem li_30 : lN 30 = (nI 30).toInt64 := rfl
theorem li_9 : lN 9 = (nI 9).toInt64 := rfl
theorem li_10 : lN 10 = (nI 10).toInt64 := rfl
theorem li_12 : lN 12 = (nI 12).toInt64 := rfl
theorem li_2 : lN 2 = (nI 2).toInt64 := rfl
theorem li_100 : lN 100 = (nI 100).toInt64 := rfl
theorem c_least (a b : Int32) (X : zM) (Q : Option Value → zM → Prop) : zcl 38 [.int a, .int b] X Q = Q (some (.int (if a < b then a else b))) X := by
  simp only [e38, s38_0, s38_1, s38_2, s38_5, s38_6, s38_9, s38_10]
  split <;> rfl
theorem c_most (a b : Int32) (X : zM) (Q : Option Value → zM → Prop) : zcl 39 [.int a, .int b] X Q = Q (some (.int (if b < a then a else b))) X := by
  simp only [e39, s39_0, s39_1, s39_2, s39_5, s39_6, s39_9, s39_10]
  split <;> rfl
theorem c_apart (a b : Int32) (X : zM) (Q : Option Value → zM → Prop) : zcl 40 [.int a, .int b] X Q = Q (some (.int (if b < a then a - b else b - a))) X := by
  simp only [e40, s40_0, s40_1, s40_2, s40_5, s40_6, s40_7, s40_8, s40_11, s40_12, s40_13, s40_14]
  split <;> rfl
theorem c_one (a : Int32) (X : zM) (Q : Option Value → zM → Prop) : zcl 41 [.int a] X Q = Q (some (.int (if a = nI 0 then nI 0 else nI 1))) X := by
  simp only [e41, s41_0, s41_1, s41_4, s41_5, s41_8, s41_9]
  split <;> rfl
theorem c_has (a b : Int32) (X : zM) (Q : Option Value → zM → Prop) : zcl 42 [.int a, .int b] X Q = Q (some (.int (if (a >>> (b &&& 31)) &&& nI 1 = nI 1 then nI 1 else nI 0))) X := by
  simp only [e42, s42_0, s42_1, s42_2, s42_3, s42_4, s42_5, s42_6, s42_9, s42_10, s42_13, s42_14a, s42_14b, s42_14]
  split <;> rfl
theorem c_hasBit (a b : Int32) (X : zM) (Q : Option Value → zM → Prop) : zcl 36 [.int a, .int b] X Q = Q (some (.int (if (a >>> (b &&& 31)) &&& nI 1 = nI 0 then nI 0 else nI 1))) X := by
  simp only [e36, s36_0, s36_1, s36_2, s36_3, s36_4, s36_5, s36_8, s36_9, s36_12, s36_13a, s36_13b, s36_13]
  split <;> rfl
theorem c_isOut (v a b : Int32) (X : zM) (Q : Option Value → zM → Prop) : zcl 35 [.int v, .int a, .int b] X Q = Q (some (.int (if v < a then nI 1 else if b < v then nI 1 else nI 0))) X := by
  simp only [e35, s35_0, s35_1, s35_2, s35_5, s35_6, s35_7, s35_10, s35_11, s35_14, s35_15a, s35_15b, s35_15]
  split
  · rfl
  · split <;> rfl
theorem c_in (v a b : Int32) (X : zM) (Q : Option Value → zM → Prop) : zcl 37 [.long v.toInt64, .long a.toInt64, .long b.toInt64] X Q = Q (some (.int (if v < a then nI 0 else if b < v then nI 0 else nI 1))) X := by
  simp only [e37, s37_0, s37_1, s37_2, s37_3, s37_6, s37_7, s37_9, s37_10, s37_13, s37_14, s37_17, s37_18a, s37_18b, s37_18, lgc_lt, lgc_gt]
  split
  · rfl
  · split <;> rfl
theorem c_held (v : Int32) (X : zM) (Q : Option Value → zM → Prop) : zcl 95 [.int v] X Q = Q (some (.int (rdv v))) X := by
  simp only [e95, s95_0, s95_1, s95_3, s95_4, s95_7, s95_10, c_least, c_most, Option.toList_some, Option.toList_none, List.cons_append, List.nil_append, nI_add, pk_mul, Nat.reduceAdd, Nat.reduceMul, Nat.add_zero, Nat.zero_add, if_true, if_false, ite_self]
  rw [← rdv_a]
theorem c_reading (w t g : Int32) (X : zM) (Q : Option Value → zM → Prop) : zcl 140 [.int w, .int t, .int g] X Q = Q (some (.int (rdv (w + t - nI 5 + (if g = nI 0 then nI 0 else nI 2))))) X := by
  simp only [e140, s140_0, s140_1, s140_2, s140_3, s140_4, s140_5, s140_6, s140_9, s140_10, s140_13, s140_14, s140_15, s140_18, c_held, Option.toList_some, Option.toList_none, List.cons_append, List.nil_append, nI_add, pk_mul, Nat.reduceAdd, Nat.reduceMul, Nat.add_zero, Nat.zero_add, if_true, if_false, ite_self]
  split <;> rfl
theorem c_clearReading (w g : Int32) (X : zM) (Q : Option Value → zM → Prop) : zcl 22 [.int w, .int g] X Q = Q (some (.int (rdv (w - nI 5 + (if g = nI 0 then nI 0 else nI 2))))) X := by
  simp only [e22, s22_0, s22_1, s22_2, s22_3, s22_4, s22_7, s22_8, s22_11, s22_12, s22_13, s22_14, s22_15, s22_16, s22_18, s22_21, s22_24, Option.toList_some, Option.toList_none, List.cons_append, List.nil_append, nI_add, pk_mul, Nat.reduceAdd, Nat.reduceMul, Nat.add_zero, Nat.zero_add, if_true, if_false, ite_self, rdv_b]
  split <;> rfl
theorem c_tellingOf (s w : Int32) (X : zM) (Q : Option Value → zM → Prop) : zcl 23 [.int s, .int w] X Q = Q (some (.int (if nI 0 < w then s / w else nI 5))) X := by
  rw [e23]
  by_cases h : nI 0 < w
  · have h2 : ¬ w = nI 0 := fun q => absurd (q ▸ h) Int32.lt_irrefl
    simp only [e23, s23_0, s23_1, s23_4, s23_5, s23_8, s23_9, s23_10, s23_11, Option.toList_some, Option.toList_none, List.cons_append, List.nil_append, nI_add, pk_mul, Nat.reduceAdd, Nat.reduceMul, Nat.add_zero, Nat.zero_add, if_true, if_false, ite_self, if_pos h, h2, not_false_eq_true]
  · simp only [e23, s23_0, s23_1, s23_4, s23_5, s23_8, s23_9, s23_10, s23_11, Option.toList_some, Option.toList_none, List.cons_append, List.nil_append, nI_add, pk_mul, Nat.reduceAdd, Nat.reduceMul, Nat.add_zero, Nat.zero_add, if_true, if_false, ite_self, if_neg h]
theorem c_isFigure (v : Int32) (X : zM) (Q : Option Value → zM → Prop) : zcl 20 [.int v] X Q = Q (some (.int (if v < nI 48 then nI 0 else if nI 57 < v then nI 0 else nI 1))) X := by
  simp only [e20, s20_0, s20_1, s20_3, s20_6, s20_7, s20_9, s20_12, s20_13, s20_16, s20_17a, s20_17b, s20_17]
  split
  · rfl
  · split <;> rfl
