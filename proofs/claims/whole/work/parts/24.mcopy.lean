/-! the reference: rows are copied -/
theorem cpy_step (w : Nat → Int32) {x y i : Nat} (h : x + 92 ≤ y ∨ y + 92 ≤ x) (hi : i < 92) : upd (va_cpy w w x y i) (y + i) (va_cpy w w x y i (x + i)) = va_cpy w w x y (i + 1) := by
  funext k
  unfold upd va_cpy
  by_cases hk : k = y + i
  · subst hk
    rw [if_pos rfl, if_neg (by omega), if_pos (by omega)]
    congr 1
    omega
  · rw [if_neg hk]
    by_cases h2 : y ≤ k ∧ k < y + i
    · rw [if_pos h2, if_pos (by omega)]
    · rw [if_neg h2, if_neg (by omega)]
theorem cpy_0 (w : Nat → Int32) (x y : Nat) : va_cpy w w x y 0 = w := by
  funext k
  unfold va_cpy
  exact if_neg (by omega)
theorem copy_loop {X : zM} {Q : Option Value → zM → Prop} {x y : Nat} (w : Nat → Int32) (hx : x + 92 ≤ 3128) (hy : y + 92 ≤ 3128) (h : x + 92 ≤ y ∨ y + 92 ≤ x) : ∀ n i : Nat, i + n = 92 → zev 49 2 [.ref 39, .int (nI x), .int (nI y), .int (nI i)] [] (zst X 40 (va_cpy w w x y i)) Q = Q none (zst X 40 (va_cpy w w x y 92)) := by
  intro n
  induction n with
  | zero =>
    intro i hi
    have e : i = 92 := by omega
    subst e
    rw [s49_2]
    simp (disch := first | omega | assumption | decide) only [e49, s49_0, s49_1, s49_3, s49_5, s49_8, s49_9, s49_12, s49_13, s49_14, s49_15, s49_16, s49_19, s49_20, s49_21, s49_22, s49_23, s49_24, s49_27, s49_30, Option.toList_some, Option.toList_none, List.cons_append, List.nil_append, nI_add, pk_mul, Nat.reduceAdd, Nat.reduceMul, Nat.add_zero, Nat.zero_add, if_true, if_false, ite_self, nI_add, pk_mul, pk_sub, zrem_nI, pk_div, nI_ltI, nI_eq, Nat.lt_irrefl]
  | succ n ih =>
    intro i hi
    have hlt : i < 92 := by omega
    rw [s49_2]
    simp (disch := first | omega | assumption | decide) only [e49, s49_0, s49_1, s49_3, s49_5, s49_8, s49_9, s49_12, s49_13, s49_14, s49_15, s49_16, s49_19, s49_20, s49_21, s49_22, s49_23, s49_24, s49_27, s49_30, Option.toList_some, Option.toList_none, List.cons_append, List.nil_append, nI_add, pk_mul, Nat.reduceAdd, Nat.reduceMul, Nat.add_zero, Nat.zero_add, if_true, if_false, ite_self, nI_add, pk_mul, pk_sub, zrem_nI, pk_div, nI_ltI, nI_eq, hlt, zst_at, zst_zst, cpy_step]
    exact ih (i + 1) (by omega)
theorem c_copy {X : zM} {Q : Option Value → zM → Prop} {x y : Nat} (hx : x + 92 ≤ 3128) (hy : y + 92 ≤ 3128) (h : x + 92 ≤ y ∨ y + 92 ≤ x) : zcl 49 [.ref 39, .int (nI x), .int (nI y)] X Q = Q none (zst X 40 (va_cpy (X 40) (X 40) x y 92)) := by
  have hl := copy_loop (X := X) (Q := Q) (X 40) hx hy h 92 0 (by omega)
  rw [cpy_0, zst_self] at hl
  simp (disch := first | omega | assumption | decide) only [e49, s49_0, s49_1, s49_3, s49_5, s49_8, s49_9, s49_12, s49_13, s49_14, s49_15, s49_16, s49_19, s49_20, s49_21, s49_22, s49_23, s49_24, s49_27, s49_30]
  exact hl
