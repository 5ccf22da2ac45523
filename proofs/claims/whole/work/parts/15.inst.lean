/-! instructions as equations: what they rest on -/
def zrem (x y : Int32) : Int32 := x - x / y * y
def zreml (x y : Int64) : Int64 := x - x / y * y
theorem zrem_nI {a d : Nat} (ha : a < 2 ^ 31) (h0 : 0 < d) (hd : d < 2 ^ 31) : zrem (nI a) (nI d) = nI (a % d) := pk_rem ha h0 hd
theorem zf {y pc : Nat} {cs : List zE} {e : zE} (h : zct.getD y [] = cs) (h2 : cs.find? (fun e => Nat.beq e.1 pc) = some e) : zfetch y pc = some e := by
  unfold zfetch; rw [h]; exact h2
theorem zite_eq {x y : Int32} {a b : Prop} : (if zcb .eq x y = true then a else b) = (if x = y then a else b) := by
  by_cases h : x = y <;> simp [zcb, h]
theorem zite_ne {x y : Int32} {a b : Prop} : (if zcb .ne x y = true then a else b) = (if x = y then b else a) := by
  by_cases h : x = y <;> simp [zcb, h]
theorem zite_lt {x y : Int32} {a b : Prop} : (if zcb .lt x y = true then a else b) = (if x < y then a else b) := by
  by_cases h : x < y <;> simp [zcb, h]
theorem zite_ge {x y : Int32} {a b : Prop} : (if zcb .ge x y = true then a else b) = (if x < y then b else a) := by
  by_cases h : x < y
  · have h2 : ¬ y ≤ x := Int32.not_le.mpr h
    simp [zcb, h, h2]
  · have h2 : y ≤ x := Int32.not_lt.mp h
    simp [zcb, h, h2]
theorem zite_gt {x y : Int32} {a b : Prop} : (if zcb .gt x y = true then a else b) = (if y < x then a else b) := by
  by_cases h : y < x <;> simp [zcb, h]
theorem zite_le {x y : Int32} {a b : Prop} : (if zcb .le x y = true then a else b) = (if y < x then b else a) := by
  by_cases h : y < x
  · have h2 : ¬ x ≤ y := Int32.not_le.mpr h
    simp [zcb, h, h2]
  · have h2 : x ≤ y := Int32.not_lt.mp h
    simp [zcb, h, h2]
theorem zinr {j m : Nat} (hj : j < m) (hm : m < 2147483648) : (¬ (nI j < 0 ∨ m ≤ (nI j).toNatClampNeg)) ∧ (nI j).toNatClampNeg = j := by
  have h1 : j < 2 ^ 31 := by omega
  exact ⟨nI_in hj (by omega), nI_clamp h1⟩
theorem zld_i {pc len a b : Nat} {v : Value} {L S : List Value} {X : zM} {i j m : Nat} (hi : zkd i = (1, m)) (hj : j < m) (hm : m < 2147483648) : zstp (pc, .iaload, len, a, b, v) L (.int (nI j) :: .ref i :: S) X = some (.inl (pc + len, L, .int (X i j) :: S, X)) := by
  obtain ⟨h1, h2⟩ := zinr hj hm
  simp only [zstp, hi]
  rw [if_pos ⟨trivial, h1⟩, h2]
theorem zld_b {pc len a b : Nat} {v : Value} {L S : List Value} {X : zM} {i j m : Nat} (hi : zkd i = (2, m)) (hj : j < m) (hm : m < 2147483648) : zstp (pc, .baload, len, a, b, v) L (.int (nI j) :: .ref i :: S) X = some (.inl (pc + len, L, .int (X i j) :: S, X)) := by
  obtain ⟨h1, h2⟩ := zinr hj hm
  simp only [zstp, hi]
  rw [if_pos ⟨trivial, h1⟩, h2]
theorem zld_a {pc len a b : Nat} {v : Value} {L S : List Value} {X : zM} {i j m t : Nat} (hi : zkd i = (3, m)) (hj : j < m) (hm : m < 2147483648) (ht : zrf i j = t) : zstp (pc, .aaload, len, a, b, v) L (.int (nI j) :: .ref i :: S) X = some (.inl (pc + len, L, .ref t :: S, X)) := by
  obtain ⟨h1, h2⟩ := zinr hj hm
  simp only [zstp, hi]
  rw [if_pos ⟨trivial, h1⟩, h2, ht]
theorem zst_i {pc len a b : Nat} {v : Value} {L S : List Value} {X : zM} {i j m : Nat} {x : Int32} (hi : zkd i = (1, m)) (hj : j < m) (hm : m < 2147483648) : zstp (pc, .iastore, len, a, b, v) L (.int x :: .int (nI j) :: .ref i :: S) X = some (.inl (pc + len, L, S, zst X i (upd (X i) j x))) := by
  obtain ⟨h1, h2⟩ := zinr hj hm
  simp only [zstp, hi]
  rw [if_pos ⟨trivial, h1⟩, h2]
theorem zst_b {pc len a b : Nat} {v : Value} {L S : List Value} {X : zM} {i j m : Nat} {x : Int32} (hi : zkd i = (2, m)) (hj : j < m) (hm : m < 2147483648) (hx : x = 0 ∨ x = 1) : zstp (pc, .bastore, len, a, b, v) L (.int x :: .int (nI j) :: .ref i :: S) X = some (.inl (pc + len, L, S, zst X i (upd (X i) j x))) := by
  obtain ⟨h1, h2⟩ := zinr hj hm
  simp only [zstp, hi]
  rw [if_pos ⟨trivial, h1, hx⟩, h2]
theorem zlen_i {pc len a b : Nat} {v : Value} {L S : List Value} {X : zM} {i m : Nat} (hi : zkd i = (1, m)) : zstp (pc, .arraylength, len, a, b, v) L (.ref i :: S) X = some (.inl (pc + len, L, .int (nI m) :: S, X)) := by
  simp only [zstp, hi]
  rw [if_pos trivial]
theorem zcp {pc ix len b : Nat} {v : Value} {L S : List Value} {X : zM} {i j m m1 m2 : Nat} (hi : zkd i = (1, m1)) (hj : zkd j = (1, m2)) (h1 : m ≤ m1) (h2 : m ≤ m2) (hm : m < 2147483648) (hS : S.length ≤ 4) : zstp (pc, .invokestatic ix, len, 9999, b, v) L (.int (nI m) :: .int (nI 0) :: .ref i :: .int (nI 0) :: .ref j :: S) X = some (.inl (pc + len, L, S, zst X i (va_cpy (X j) (X i) 0 0 m))) := by
  have e1 : (nI m).toNatClampNeg = m := nI_clamp (by omega)
  have e0 : (nI 0).toNatClampNeg = 0 := nI_clamp (by decide)
  simp only [zstp, hi, hj, e1, e0]
  rw [if_pos trivial, if_pos ⟨trivial, trivial, nI_pos (by decide), nI_pos (by decide), nI_pos (by omega), by omega, by omega, hS⟩]
theorem zst_ge {i : Nat} (hi : zkd i = (0, 7)) : ¬ i < 57 := by
  intro h
  have hx : (List.range 57).all (fun i => decide (zkd i ≠ (0, 7))) = true := by decide +kernel
  exact of_decide_eq_true (List.all_eq_true.mp hx i (List.mem_range.mpr h)) hi
theorem zgf_st {i k : Nat} {X : zM} (hi : zkd i = (0, 7)) (h1 : zft 7 k = 1) (hk : k < 8) : zgf i 7 k X = .ref (i + (k - 3)) := by
  unfold zgf zrf
  simp only [h1]
  rw [if_neg (zst_ge hi), if_pos hk]
theorem zgf_st2 {i k : Nat} {X : zM} (hi : zkd i = (0, 7)) (h1 : zft 7 k = 1) (hk : ¬ k < 8) : zgf i 7 k X = .ref (i + (k - 5)) := by
  unfold zgf zrf
  simp only [h1]
  rw [if_neg (zst_ge hi), if_neg hk]
theorem zpf_0 {pc ix len c k : Nat} {v : Value} {L S : List Value} {X : zM} {i : Nat} {x : Int32} (hi : zkd i = (0, c)) (hf : zft c k = 0) : zstp (pc, .putfield ix, len, c, k, v) L (.int x :: .ref i :: S) X = some (.inl (pc + len, L, S, zst X i (upd (X i) k x))) := by
  simp only [zstp]
  rw [if_pos hi, if_pos (Or.inl hf)]
theorem zpf_3 {pc ix len c k : Nat} {v : Value} {L S : List Value} {X : zM} {i : Nat} {x : Int32} (hi : zkd i = (0, c)) (hf : zft c k = 3) (hx : x = 0 ∨ x = 1) : zstp (pc, .putfield ix, len, c, k, v) L (.int x :: .ref i :: S) X = some (.inl (pc + len, L, S, zst X i (upd (X i) k x))) := by
  simp only [zstp]
  rw [if_pos hi, if_pos (Or.inr ⟨hf, hx⟩)]
theorem zpf_2 {pc ix len c k : Nat} {v : Value} {L S : List Value} {X : zM} {i j : Nat} (hi : zkd i = (0, c)) (hf : zft c k = 2) (hj : j < 321) : zstp (pc, .putfield ix, len, c, k, v) L (.ref j :: .ref i :: S) X = some (.inl (pc + len, L, S, zst X i (upd (X i) k (nI j)))) := by
  simp only [zstp]
  rw [if_pos hi, if_pos ⟨hf, hj⟩]
theorem zgt_i {pc ix len c k : Nat} {v w : Value} {L S : List Value} {X : zM} {i : Nat} (hi : zkd i = (0, c)) (hw : zgf i c k X = w) : zstp (pc, .getfield ix, len, c, k, v) L (.ref i :: S) X = some (.inl (pc + len, L, w :: S, X)) := by
  simp only [zstp]
  rw [if_pos hi, hw]
theorem zdv_i {pc len a b : Nat} {v : Value} {L S : List Value} {X : zM} {x y : Int32} (hy : ¬ y = 0) : zstp (pc, .idiv, len, a, b, v) L (.int y :: .int x :: S) X = some (.inl (pc + len, L, .int (x / y) :: S, X)) := by
  simp only [zstp]
  rw [if_neg hy]
theorem zrm_i {pc len a b : Nat} {v : Value} {L S : List Value} {X : zM} {x y : Int32} (hy : ¬ y = 0) : zstp (pc, .irem, len, a, b, v) L (.int y :: .int x :: S) X = some (.inl (pc + len, L, .int (zrem x y) :: S, X)) := by
  simp only [zstp]
  rw [if_neg hy]
  rfl
theorem zdv_l {pc len a b : Nat} {v : Value} {L S : List Value} {X : zM} {x y : Int64} (hy : ¬ y = 0) : zstp (pc, .ldiv, len, a, b, v) L (.long y :: .long x :: S) X = some (.inl (pc + len, L, .long (x / y) :: S, X)) := by
  simp only [zstp]
  rw [if_neg hy]
theorem zrm_l {pc len a b : Nat} {v : Value} {L S : List Value} {X : zM} {x y : Int64} (hy : ¬ y = 0) : zstp (pc, .lrem, len, a, b, v) L (.long y :: .long x :: S) X = some (.inl (pc + len, L, .long (zreml x y) :: S, X)) := by
  simp only [zstp]
  rw [if_neg hy]
  rfl
theorem zrt_z {pc len a b : Nat} {v : Value} {L : List Value} {X : zM} {x : Int32} (hx : x = 0 ∨ x = 1) : zstp (pc, .ireturn, len, a, b, v) L [.int x] X = some (.inr (.inl (some (.int x), X))) := by
  simp only [zstp]
  rw [if_pos (Or.inr hx)]
theorem zvc_1 {pc ix len a c : Nat} {L S : List Value} {X : zM} {i : Nat} {w : Value} (hi : zkd i = (0, c)) (hS : S.length ≤ 4) : zstp (pc, .invokevirtual ix, len, a, 1, .retAddr c) L (w :: .ref i :: S) X = some (.inr (.inr (a, [.ref i, w], pc + len, S))) := by
  simp only [zstp, List.drop_succ_cons, List.drop_zero, hi]
  rw [if_pos ⟨trivial, trivial, hS⟩]
  rfl
