/-! the class: a day -/
theorem zst_sw (X : zM) {a b : Nat} (f k g : Nat → Int32) (h : a ≠ b) : zst (zst (zst X a f) b k) a g = zst (zst X a g) b k := by
  funext i
  unfold zst
  by_cases h1 : i = a
  · subst h1
    rw [if_pos rfl, if_neg h, if_pos rfl]
  · rw [if_neg h1]
    by_cases h2 : i = b
    · rw [if_pos h2, if_pos h2]
    · rw [if_neg h2, if_neg h2, if_neg h1, if_neg h1]
theorem bt_tb (a b : Nat) : bt a b = if a.testBit b then 1 else 0 := by
  unfold bt
  rw [Nat.testBit_eq_decide_div_mod_eq]
  have : a / 2 ^ b % 2 < 2 := Nat.mod_lt _ (by decide)
  by_cases h : a / 2 ^ b % 2 = 1
  · simp [h]
  · have h0 : a / 2 ^ b % 2 = 0 := by omega
    simp [h0]
theorem bt_or (a c b : Nat) : bt (a ||| c) b = 0 ↔ bt a b = 0 ∧ bt c b = 0 := by
  rw [bt_tb, bt_tb, bt_tb, Nat.testBit_or]
  cases a.testBit b <;> cases c.testBit b <;> simp
theorem bt_or2 (a b j : Nat) : bt (a ||| 2 ^ j) b = if b = j then 1 else bt a b := by
  rw [bt_tb, bt_tb, Nat.testBit_or, Nat.testBit_two_pow]
  by_cases h : b = j
  · subst h
    simp
  · have h2 : ¬ j = b := fun q => h q.symm
    simp [h, h2]
theorem bt_big {a b : Nat} (h : a < 2 ^ b) : bt a b = 0 := by
  unfold bt
  rw [Nat.div_eq_of_lt h]
theorem pcn_or : ∀ b, b < 5 → ∀ a, a < 32 → a < 2 ^ b → pcn (a ||| 2 ^ b) 10 = pcn a 10 + 1 := by decide +kernel
section CD
variable {D G B C : Nat} {W lim bear : Nat → Nat} {X : zM} {R : Nat → Nat} {nx x : Nat} {Q : Option Value → zM → Prop}
/-- who would sail -/
def outN (lim : Nat → Nat) (R : Nat → Nat) (t : Nat) : Nat → Nat
  | 0 => 0
  | b + 1 => if bt (R 21 ||| R 22) b = 0 ∧ lim b ≤ t then outN lim R t b ||| 2 ^ b else outN lim R t b
theorem outN_lt (t : Nat) : ∀ b, outN lim R t b < 2 ^ b
  | 0 => by simp [outN]
  | b + 1 => by
    have ih := outN_lt t b
    simp only [outN]
    have h : 2 ^ b < 2 ^ (b + 1) := Nat.pow_lt_pow_right (by decide) (by omega)
    split
    · exact Nat.or_lt_two_pow (by omega) h
    · omega
theorem outN_bt (t : Nat) : ∀ n b, b < n → (bt (outN lim R t n) b = 1 ↔ bt (R 21) b = 0 ∧ bt (R 22) b = 0 ∧ lim b ≤ t)
  | 0, b, h => absurd h (by omega)
  | n + 1, b, h => by
    simp only [outN]
    by_cases hb : b = n
    · subst hb
      have h0 := bt_big (outN_lt (lim := lim) (R := R) t b)
      by_cases c : bt (R 21 ||| R 22) b = 0 ∧ lim b ≤ t
      · rw [if_pos c, bt_or2, if_pos rfl]
        have := (bt_or (R 21) (R 22) b).mp c.1
        exact ⟨fun _ => ⟨this.1, this.2, c.2⟩, fun _ => rfl⟩
      · rw [if_neg c, h0]
        refine ⟨fun q => absurd q (by decide), fun q => absurd ⟨(bt_or (R 21) (R 22) b).mpr ⟨q.1, q.2.1⟩, q.2.2⟩ c⟩
    · have ih := outN_bt t n b (by omega)
      split
      · rw [bt_or2, if_neg hb]
        exact ih
      · exact ih
theorem boatN_bit (t v : Nat) : ∀ n b, n ≤ b → b < 5 → bt (boatN lim bear t v R n 21) b = bt (R 21) b ∧ boatN lim bear t v R n 22 = R 22
  | 0, b, _, _ => ⟨rfl, rfl⟩
  | n + 1, b, h, h5 => by
    have ih := boatN_bit t v n b (by omega) h5
    simp only [boatN]
    split
    · split
      · rw [upN_at, upN_ne _ _ (by omega), bt_or2, if_neg (by omega)]
        exact ih
      · rw [upN_ne _ _ (by omega), upN_ne _ _ (by omega)]
        exact ih
    · exact ih
theorem out_cnt (t v : Nat) : ∀ n, n ≤ 5 → pcn (outN lim R t n) 10 = cntN lim bear t v R n
  | 0, _ => by simp only [outN, cntN]; decide
  | n + 1, h => by
    have ih := out_cnt t v n (by omega)
    have hb := boatN_bit (lim := lim) (bear := bear) (R := R) t v n n (Nat.le_refl n) (by omega)
    have hl := outN_lt (lim := lim) (R := R) t n
    have h32 : 2 ^ n ≤ 2 ^ 5 := Nat.pow_le_pow_right (by decide) (by omega)
    simp only [outN, cntN]
    rw [hb.1, hb.2]
    by_cases c : bt (R 21 ||| R 22) n = 0 ∧ lim n ≤ t
    · have := (bt_or (R 21) (R 22) n).mp c.1
      rw [if_pos c, if_pos ⟨this.1, this.2, c.2⟩, pcn_or n (by omega) _ (by omega) hl, ih]
    · rw [if_neg c, if_neg (fun q => c ⟨(bt_or (R 21) (R 22) n).mpr ⟨q.1, q.2.1⟩, q.2.2⟩), ih]
theorem c_isReady {b a h : Nat} (h1 : X 57 2 = nI a) (h2 : X 57 3 = nI h) (ha : a < 32) (hh : h < 32) (hb : b < 5) : zcl 62 [.ref 16, .int (nI b)] X Q = Q (some (.int (if bt (a ||| h) b = 0 then nI 1 else nI 0))) X := by
  have hor : a ||| h < 2 ^ 5 := Nat.or_lt_two_pow (by omega) (by omega)
  have b1 := bt_lt (a ||| h) b
  by_cases c : bt (a ||| h) b = 0
  · simp (disch := first | omega | assumption | decide) only [e62, s62_0, s62_1, s62_4, s62_7, s62_8, s62_11, s62_14, s62_15, s62_16, s62_19, s62_22, s62_23, s62_26, s62_27a, s62_27b, s62_27, Option.toList_some, Option.toList_none, List.cons_append, List.nil_append, nI_add, pk_mul, Nat.reduceAdd, Nat.reduceMul, Nat.add_zero, Nat.zero_add, if_true, if_false, ite_self, h1, h2, or_nI, c_hasBitN, nI_eq, c]
  · simp (disch := first | omega | assumption | decide) only [e62, s62_0, s62_1, s62_4, s62_7, s62_8, s62_11, s62_14, s62_15, s62_16, s62_19, s62_22, s62_23, s62_26, s62_27a, s62_27b, s62_27, Option.toList_some, Option.toList_none, List.cons_append, List.nil_append, nI_add, pk_mul, Nat.reduceAdd, Nat.reduceMul, Nat.add_zero, Nat.zero_add, if_true, if_false, ite_self, h1, h2, or_nI, c_hasBitN, nI_eq, c]
theorem sailing_loop {t : Nat} (ho : okP D G B C W lim bear) (hc : cP D G B C W lim bear X) (h1 : X 57 2 = nI (R 21)) (h2 : X 57 3 = nI (R 22)) (ha : R 21 < 32) (hh : R 22 < 32) (ht : t ≤ 9) : ∀ n b : Nat, b + n = B → zev 150 13 [.ref 16, .int (nI t), .int (nI (outN lim R t b)), .int (nI b)] [] X Q = Q (some (.int (nI (outN lim R t B)))) X := by
  have hB := ho.2.2.1
  have hBe := hc.2.2.1
  intro n
  induction n with
  | zero =>
    intro b hb
    have e : b = B := by omega
    subst e
    rw [s150_13]
    simp (disch := first | omega | assumption | decide) only [e150, s150_0, s150_1, s150_4, s150_5, s150_8, s150_9, s150_10, s150_11, s150_12, s150_14, s150_15, s150_18, s150_21, s150_24, s150_25, s150_26, s150_29, s150_32, s150_33, s150_34, s150_37, s150_40, s150_41, s150_42, s150_45, s150_46, s150_47, s150_48, s150_49, s150_50, s150_51, s150_54, s150_57, s150_58, Option.toList_some, Option.toList_none, List.cons_append, List.nil_append, nI_add, pk_mul, Nat.reduceAdd, Nat.reduceMul, Nat.add_zero, Nat.zero_add, if_true, if_false, ite_self, hBe, nI_add, pk_mul, pk_sub, zrem_nI, pk_div, nI_ltI, nI_eq, Nat.lt_irrefl]
  | succ n ih =>
    intro b hb
    have hlt : b < B := by omega
    have hl := (hc.2.2.2.2.2 b hlt).1
    have hl2 := ho.2.2.2.2.2.1 b
    have hrd := fun Q => c_isReady (X := X) (Q := Q) (b := b) h1 h2 ha hh (by omega)
    refine Eq.trans ?_ (ih (b + 1) (by omega))
    rw [s150_13]
    simp only [outN]
    by_cases c1 : bt (R 21 ||| R 22) b = 0
    · by_cases c2 : lim b ≤ t
      · have c3 : ¬ t < lim b := by omega
        simp (disch := first | omega | assumption | decide) only [e150, s150_0, s150_1, s150_4, s150_5, s150_8, s150_9, s150_10, s150_11, s150_12, s150_14, s150_15, s150_18, s150_21, s150_24, s150_25, s150_26, s150_29, s150_32, s150_33, s150_34, s150_37, s150_40, s150_41, s150_42, s150_45, s150_46, s150_47, s150_48, s150_49, s150_50, s150_51, s150_54, s150_57, s150_58, Option.toList_some, Option.toList_none, List.cons_append, List.nil_append, nI_add, pk_mul, Nat.reduceAdd, Nat.reduceMul, Nat.add_zero, Nat.zero_add, if_true, if_false, ite_self, hBe, hl, nI_add, pk_mul, pk_sub, zrem_nI, pk_div, nI_ltI, nI_eq, hlt, hrd, c1, c2, c3, shl_nI, or_nI, and_self, show ¬ (1 : Nat) = 0 by decide]
      · have c3 : t < lim b := by omega
        simp (disch := first | omega | assumption | decide) only [e150, s150_0, s150_1, s150_4, s150_5, s150_8, s150_9, s150_10, s150_11, s150_12, s150_14, s150_15, s150_18, s150_21, s150_24, s150_25, s150_26, s150_29, s150_32, s150_33, s150_34, s150_37, s150_40, s150_41, s150_42, s150_45, s150_46, s150_47, s150_48, s150_49, s150_50, s150_51, s150_54, s150_57, s150_58, Option.toList_some, Option.toList_none, List.cons_append, List.nil_append, nI_add, pk_mul, Nat.reduceAdd, Nat.reduceMul, Nat.add_zero, Nat.zero_add, if_true, if_false, ite_self, hBe, hl, nI_add, pk_mul, pk_sub, zrem_nI, pk_div, nI_ltI, nI_eq, hlt, hrd, c1, c2, c3, and_false, show ¬ (1 : Nat) = 0 by decide]
    · simp (disch := first | omega | assumption | decide) only [e150, s150_0, s150_1, s150_4, s150_5, s150_8, s150_9, s150_10, s150_11, s150_12, s150_14, s150_15, s150_18, s150_21, s150_24, s150_25, s150_26, s150_29, s150_32, s150_33, s150_34, s150_37, s150_40, s150_41, s150_42, s150_45, s150_46, s150_47, s150_48, s150_49, s150_50, s150_51, s150_54, s150_57, s150_58, Option.toList_some, Option.toList_none, List.cons_append, List.nil_append, nI_add, pk_mul, Nat.reduceAdd, Nat.reduceMul, Nat.add_zero, Nat.zero_add, if_true, if_false, ite_self, hBe, hl, nI_add, pk_mul, pk_sub, zrem_nI, pk_div, nI_ltI, nI_eq, hlt, hrd, c1, false_and]
theorem cc_sailing (ho : okP D G B C W lim bear) (hc : cP D G B C W lim bear X) (hs : cS G B X 57 R nx) (hr : okR B R) : zcl 150 [.ref 16] X Q = Q (some (.int (nI (outN lim R (tN D G W R 0) B)))) X := by
  have h32 := two_pow_le ho.2.2.1
  have r1 := hr.2.1
  have r2 := hr.2.2.1
  have ht : tN D G W R 0 ≤ 9 := tN_le R 0
  simp (disch := first | omega | assumption) only [e150, s150_0, s150_1, s150_4, s150_5, s150_8, s150_9, s150_10, s150_11, s150_12, s150_14, s150_15, s150_18, s150_21, s150_24, s150_25, s150_26, s150_29, s150_32, s150_33, s150_34, s150_37, s150_40, s150_41, s150_42, s150_45, s150_46, s150_47, s150_48, s150_49, s150_50, s150_51, s150_54, s150_57, s150_58, Option.toList_some, Option.toList_none, List.cons_append, List.nil_append, nI_add, pk_mul, Nat.reduceAdd, Nat.reduceMul, Nat.add_zero, Nat.zero_add, if_true, if_false, ite_self, cc_telling ho hc hs hr (n := 0) (by omega)]
  exact sailing_loop ho hc hs.1.2.2.1 hs.1.2.2.2 (by omega) (by omega) ht B 0 (by omega)
theorem c_sail {b v a k : Nat} (ho : okP D G B C W lim bear) (hc : cP D G B C W lim bear X) (hb : b < B) (hv : v ≤ 9) (h1 : X 57 2 = nI a) (h2 : X 61 b = nI k) (hk : k ≤ 900000) : zcl 8 [.ref 16, .int (nI b), .int (nI v)] X Q = if v < bear b then Q none (zst X 57 (upd (X 57) 2 (nI (a ||| 2 ^ b)))) else Q none (zst X 61 (upd (X 61) b (nI (min 999999 (k + v))))) := by
  have hB := ho.2.2.1
  have hl := (hc.2.2.2.2.2 b hb).2
  have hl2 := ho.2.2.2.2.2.2.1 b
  have c3 : ¬ 999999 < k + v := by omega
  have c4 : min 999999 (k + v) = k + v := by omega
  by_cases c : v < bear b
  · simp (disch := first | omega | assumption | decide) only [e8, s8_0, s8_1, s8_2, s8_5, s8_8, s8_9, s8_10, s8_13, s8_14, s8_17, s8_18, s8_21, s8_22, s8_23, s8_24, s8_25, s8_28, s8_31, s8_32, s8_35, s8_38, s8_39, s8_40, s8_43, s8_46, s8_47, s8_48, s8_49, s8_50, s8_52, s8_55, s8_56, Option.toList_some, Option.toList_none, List.cons_append, List.nil_append, nI_add, pk_mul, Nat.reduceAdd, Nat.reduceMul, Nat.add_zero, Nat.zero_add, if_true, if_false, ite_self, nI_add, pk_mul, pk_sub, zrem_nI, pk_div, nI_ltI, nI_eq, hl, c, h1, shl_nI, or_nI]
  · simp (disch := first | omega | assumption | decide) only [e8, s8_0, s8_1, s8_2, s8_5, s8_8, s8_9, s8_10, s8_13, s8_14, s8_17, s8_18, s8_21, s8_22, s8_23, s8_24, s8_25, s8_28, s8_31, s8_32, s8_35, s8_38, s8_39, s8_40, s8_43, s8_46, s8_47, s8_48, s8_49, s8_50, s8_52, s8_55, s8_56, Option.toList_some, Option.toList_none, List.cons_append, List.nil_append, nI_add, pk_mul, Nat.reduceAdd, Nat.reduceMul, Nat.add_zero, Nat.zero_add, if_true, if_false, ite_self, nI_add, pk_mul, pk_sub, zrem_nI, pk_div, nI_ltI, nI_eq, hl, c, h2, c3, c4]
theorem c_addToLog {t v s n : Nat} (h8 : X 57 8 = nI n) (h9 : X 57 9 = nI nx) (hn : n ≤ 20) (hx : nx < 20) : zcl 26 [.ref 57, .int (nI t), .int (nI v), .int (nI s)] X Q = Q none (zst (zst (zst (zst X 62 (upd (X 62) nx (nI t))) 63 (upd (X 63) nx (nI v))) 64 (upd (X 64) nx (nI s))) 57 (upd (upd (X 57) 9 (nI ((nx + 1) % 20))) 8 (nI (min 20 (n + 1))))) := by
  have hm : (nx + 1) % 20 < 20 := Nat.mod_lt _ (by decide)
  have h20 : ¬ nI 20 = nI 0 := by decide
  by_cases c : 20 < n + 1
  · have c2 : min 20 (n + 1) = 20 := by omega
    simp (disch := first | omega | assumption | decide) only [e26, s26_0, s26_1, s26_4, s26_5, s26_8, s26_9, s26_10, s26_11, s26_14, s26_15, s26_18, s26_19, s26_20, s26_21, s26_24, s26_25, s26_28, s26_29, s26_30, s26_31, s26_32, s26_35, s26_36, s26_37, s26_39, s26_40, s26_43, s26_44, s26_45, s26_48, s26_49, s26_50, s26_52, s26_55, s26_58, Option.toList_some, Option.toList_none, List.cons_append, List.nil_append, nI_add, pk_mul, Nat.reduceAdd, Nat.reduceMul, Nat.add_zero, Nat.zero_add, if_true, if_false, ite_self, nI_add, pk_mul, pk_sub, zrem_nI, pk_div, nI_ltI, nI_eq, h8, h9, zst_ne, zst_at, zst_zst, upd_ne, c, c2, h20]
  · have c2 : min 20 (n + 1) = n + 1 := by omega
    simp (disch := first | omega | assumption | decide) only [e26, s26_0, s26_1, s26_4, s26_5, s26_8, s26_9, s26_10, s26_11, s26_14, s26_15, s26_18, s26_19, s26_20, s26_21, s26_24, s26_25, s26_28, s26_29, s26_30, s26_31, s26_32, s26_35, s26_36, s26_37, s26_39, s26_40, s26_43, s26_44, s26_45, s26_48, s26_49, s26_50, s26_52, s26_55, s26_58, Option.toList_some, Option.toList_none, List.cons_append, List.nil_append, nI_add, pk_mul, Nat.reduceAdd, Nat.reduceMul, Nat.add_zero, Nat.zero_add, if_true, if_false, ite_self, nI_add, pk_mul, pk_sub, zrem_nI, pk_div, nI_ltI, nI_eq, h8, h9, zst_ne, zst_at, zst_zst, upd_ne, c, c2, h20]
end CD
