/-! bits, memory -/
theorem zst_zst (X : zM) (a : Nat) (f g : Nat → Int32) : zst (zst X a f) a g = zst X a g := by
  funext i
  unfold zst
  split <;> rfl
theorem zst_self (X : zM) (a : Nat) : zst X a (X a) = X := by
  funext i
  unfold zst
  split
  · rename_i h; rw [h]
  · rfl
theorem sft_l : ∀ n, n < 32 → ((nI n &&& 31).toBitVec.smod 32).toNat = n := by decide +kernel
theorem shl_nI {b : Nat} (hb : b < 31) : nI 1 <<< (nI b &&& 31) = nI (2 ^ b) := by
  have h : (2 : Nat) ^ b < 2 ^ 32 := Nat.pow_lt_pow_right (by decide) (by omega)
  rw [pk_shlN _ b (sft_l b (by omega)) (by rw [Nat.one_mul]; exact h), Nat.one_mul]
theorem bit_nI {a b : Nat} (ha : a < 2 ^ 31) (hb : b < 32) : (nI a >>> (nI b &&& 31)) &&& nI 1 = nI (a / 2 ^ b % 2) := by
  rw [pk_shrN ha _ b (sft_l b hb)]
  have h : a / 2 ^ b < 2 ^ 32 := Nat.lt_of_le_of_lt (Nat.div_le_self _ _) (by omega)
  rw [pk_andN h 1 (by decide)]
theorem or_nI (a b : Nat) : nI a ||| nI b = nI (a ||| b) := by
  apply Int32.toBitVec_inj.mp
  show BitVec.ofNat 32 a ||| BitVec.ofNat 32 b = BitVec.ofNat 32 (a ||| b)
  rw [BitVec.ofNat_or]
theorem and_nI (a b : Nat) : nI a &&& nI b = nI (a &&& b) := by
  apply Int32.toBitVec_inj.mp
  show BitVec.ofNat 32 a &&& BitVec.ofNat 32 b = BitVec.ofNat 32 (a &&& b)
  rw [BitVec.ofNat_and]
/-- a set without its bit b -/
def clr (a b : Nat) : Nat := if a / 2 ^ b % 2 = 1 then a - 2 ^ b else a
theorem clr_nI : ∀ b, b < 5 → ∀ a, a < 32 → nI a &&& (nI (2 ^ b) ^^^ (-1)) = nI (clr a b) := by decide +kernel
theorem clr_nI2 : ∀ b, b < 10 → ∀ a, a < 1024 → nI a &&& (nI (2 ^ b) ^^^ (-1)) = nI (clr a b) := by decide +kernel
def pcn (a : Nat) : Nat → Nat
  | 0 => 0
  | n + 1 => pcn a n + a / 2 ^ n % 2
def us (x : Int32) (k : Int32) : Int32 := (x.toUInt32 >>> (k.toUInt32 &&& Int32.toUInt32 31)).toInt32
def bc1 (x : Int32) : Int32 := x - (us x (nI 1) &&& nI 1431655765)
def bc2 (x : Int32) : Int32 := (x &&& nI 858993459) + (us x (nI 2) &&& nI 858993459)
def bc3 (x : Int32) : Int32 := (x + us x (nI 4)) &&& nI 252645135
def bc4 (x : Int32) : Int32 := x + us x (nI 8)
def bc5 (x : Int32) : Int32 := x + us x (nI 16)
theorem bc_all : ∀ a, a < 1024 → bc5 (bc4 (bc3 (bc2 (bc1 (nI a))))) &&& nI 63 = nI (pcn a 10) := by decide +kernel
theorem c_bitCount {a : Nat} (ha : a < 1024) (X : zM) (Q : Option Value → zM → Prop) : zcl 57 [.int (nI a)] X Q = Q (some (.int (nI (pcn a 10)))) X := by
  rw [← bc_all a ha]
  simp only [e57, s57_0, s57_1, s57_2, s57_3, s57_4, s57_7, s57_8, s57_9, s57_10, s57_11, s57_14, s57_15, s57_16, s57_17, s57_18, s57_21, s57_22, s57_23, s57_24, s57_25, s57_26, s57_27, s57_28, s57_29, s57_32, s57_33, s57_34, s57_35, s57_36, s57_38, s57_39, s57_40, s57_41, s57_42, s57_43, s57_45, s57_46, s57_47, s57_48, s57_49, s57_51, s57_52]
  rfl
theorem upd_at (f : Nat → Int32) (k : Nat) (x : Int32) : upd f k x k = x := pk_us
theorem upd_ne (f : Nat → Int32) {k j : Nat} (x : Int32) (h : j ≠ k) : upd f k x j = f j := pk_un h
