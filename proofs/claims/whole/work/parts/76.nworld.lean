/-! the world that the constructors leave; written by wip/gen/gen76.py -/
def off (i : Nat) : Nat := if i < 15 then i else if i < 36 then i + 8 else if i < 39 then i + 248 else if i < 57 then i + 264 else if i < 65 then i - 42 else if i < 305 then i - 21 else i - 18
def invO (n : Nat) : Nat := if n < 15 then n else if n < 23 then n + 42 else if n < 44 then n - 8 else if n < 284 then n + 21 else if n < 287 then n - 248 else if n < 303 then n + 18 else n - 264
theorem off_inv : ∀ i, i < 321 → invO (off i) = i := by decide +kernel
def asF (b0 i : Nat) : Nat := b0 + off i
def caF (cI cB cS : ClassId) (i : Nat) : ClassId := match (zkd i).1 with
  | 2 => cB
  | 3 => cS
  | _ => cI
def X0 : zM := fun i => if i = 1 then (fun j => if j = 4 then -1 else 0) else if i = 39 then (fun j => if j = 21 then -1 else 0) else if i = 19 then (fun j => if j = 10 then nI 26 else if j = 11 then nI 27 else 0) else fun _ => 0
theorem as_0 (b0 : Nat) : asF b0 0 = b0 + 0 := rfl
theorem as_1 (b0 : Nat) : asF b0 1 = b0 + 1 := rfl
theorem as_2 (b0 : Nat) : asF b0 2 = b0 + 2 := rfl
theorem as_3 (b0 : Nat) : asF b0 3 = b0 + 3 := rfl
theorem as_4 (b0 : Nat) : asF b0 4 = b0 + 4 := rfl
theorem as_5 (b0 : Nat) : asF b0 5 = b0 + 5 := rfl
theorem as_6 (b0 : Nat) : asF b0 6 = b0 + 6 := rfl
theorem as_7 (b0 : Nat) : asF b0 7 = b0 + 7 := rfl
theorem as_8 (b0 : Nat) : asF b0 8 = b0 + 8 := rfl
theorem as_9 (b0 : Nat) : asF b0 9 = b0 + 9 := rfl
theorem as_10 (b0 : Nat) : asF b0 10 = b0 + 10 := rfl
theorem as_11 (b0 : Nat) : asF b0 11 = b0 + 11 := rfl
theorem as_12 (b0 : Nat) : asF b0 12 = b0 + 12 := rfl
theorem as_13 (b0 : Nat) : asF b0 13 = b0 + 13 := rfl
theorem as_14 (b0 : Nat) : asF b0 14 = b0 + 14 := rfl
theorem as_15 (b0 : Nat) : asF b0 15 = b0 + 23 := rfl
theorem as_16 (b0 : Nat) : asF b0 16 = b0 + 24 := rfl
theorem as_17 (b0 : Nat) : asF b0 17 = b0 + 25 := rfl
theorem as_18 (b0 : Nat) : asF b0 18 = b0 + 26 := rfl
theorem as_19 (b0 : Nat) : asF b0 19 = b0 + 27 := rfl
theorem as_20 (b0 : Nat) : asF b0 20 = b0 + 28 := rfl
theorem as_21 (b0 : Nat) : asF b0 21 = b0 + 29 := rfl
theorem as_22 (b0 : Nat) : asF b0 22 = b0 + 30 := rfl
theorem as_23 (b0 : Nat) : asF b0 23 = b0 + 31 := rfl
theorem as_24 (b0 : Nat) : asF b0 24 = b0 + 32 := rfl
theorem as_25 (b0 : Nat) : asF b0 25 = b0 + 33 := rfl
theorem as_26 (b0 : Nat) : asF b0 26 = b0 + 34 := rfl
theorem as_27 (b0 : Nat) : asF b0 27 = b0 + 35 := rfl
theorem as_28 (b0 : Nat) : asF b0 28 = b0 + 36 := rfl
theorem as_29 (b0 : Nat) : asF b0 29 = b0 + 37 := rfl
theorem as_30 (b0 : Nat) : asF b0 30 = b0 + 38 := rfl
theorem as_31 (b0 : Nat) : asF b0 31 = b0 + 39 := rfl
theorem as_32 (b0 : Nat) : asF b0 32 = b0 + 40 := rfl
theorem as_33 (b0 : Nat) : asF b0 33 = b0 + 41 := rfl
theorem as_34 (b0 : Nat) : asF b0 34 = b0 + 42 := rfl
theorem as_35 (b0 : Nat) : asF b0 35 = b0 + 43 := rfl
theorem as_36 (b0 : Nat) : asF b0 36 = b0 + 284 := rfl
theorem as_37 (b0 : Nat) : asF b0 37 = b0 + 285 := rfl
theorem as_38 (b0 : Nat) : asF b0 38 = b0 + 286 := rfl
theorem as_39 (b0 : Nat) : asF b0 39 = b0 + 303 := rfl
theorem as_40 (b0 : Nat) : asF b0 40 = b0 + 304 := rfl
theorem as_41 (b0 : Nat) : asF b0 41 = b0 + 305 := rfl
theorem as_42 (b0 : Nat) : asF b0 42 = b0 + 306 := rfl
theorem as_43 (b0 : Nat) : asF b0 43 = b0 + 307 := rfl
theorem as_44 (b0 : Nat) : asF b0 44 = b0 + 308 := rfl
theorem as_45 (b0 : Nat) : asF b0 45 = b0 + 309 := rfl
theorem as_46 (b0 : Nat) : asF b0 46 = b0 + 310 := rfl
theorem as_47 (b0 : Nat) : asF b0 47 = b0 + 311 := rfl
theorem as_48 (b0 : Nat) : asF b0 48 = b0 + 312 := rfl
theorem as_49 (b0 : Nat) : asF b0 49 = b0 + 313 := rfl
theorem as_50 (b0 : Nat) : asF b0 50 = b0 + 314 := rfl
theorem as_51 (b0 : Nat) : asF b0 51 = b0 + 315 := rfl
theorem as_52 (b0 : Nat) : asF b0 52 = b0 + 316 := rfl
theorem as_53 (b0 : Nat) : asF b0 53 = b0 + 317 := rfl
theorem as_54 (b0 : Nat) : asF b0 54 = b0 + 318 := rfl
theorem as_55 (b0 : Nat) : asF b0 55 = b0 + 319 := rfl
theorem as_56 (b0 : Nat) : asF b0 56 = b0 + 320 := rfl
theorem as_57 (b0 : Nat) : asF b0 57 = b0 + 15 := rfl
theorem zo_0 (b0 : Nat) (cI cB cS : ClassId) : zcell (asF b0) (caF cI cB cS) X0 0 = .inr (9, no9 (b0 + 1)) := by
  show (Sum.inr (9, [.ref (asF b0 1), .ref (asF b0 3), .ref (asF b0 9), .ref (asF b0 57), .ref (asF b0 15), .ref (asF b0 16), .ref (asF b0 19), .ref (asF b0 28), .ref (asF b0 34), .ref (asF b0 36), .int (nI 0)]) : va_E) = Sum.inr (9, [.ref ((b0 + 1) + 0), .ref ((b0 + 1) + 2), .ref ((b0 + 1) + 8), .ref ((b0 + 1) + 14), .ref ((b0 + 1) + 22), .ref ((b0 + 1) + 23), .ref ((b0 + 1) + 26), .ref ((b0 + 1) + 35), .ref ((b0 + 1) + 41), .ref ((b0 + 1) + 283), .int (nI 0)])
  simp only [as_1, as_3, as_9, as_15, as_16, as_19, as_28, as_34, as_36, as_57, Nat.add_assoc, Nat.reduceAdd]
theorem zo_1 (b0 : Nat) (cI cB cS : ClassId) : zcell (asF b0) (caF cI cB cS) X0 1 = .inr (5, no5 (b0 + 1 + 0 + 1)) := by
  show (Sum.inr (5, [.ref (asF b0 2), .int (nI 0), .int (nI 0), .int (nI 0), .int ((-1))]) : va_E) = Sum.inr (5, [.ref ((b0 + 1 + 0 + 1) + 0), .int (nI 0), .int (nI 0), .int (nI 0), .int ((-1))])
  simp only [as_2, Nat.add_assoc, Nat.reduceAdd]
theorem zo_3 (b0 : Nat) (cI cB cS : ClassId) : zcell (asF b0) (caF cI cB cS) X0 3 = .inr (0, no0 (b0 + 1 + 2 + 1)) := by
  show (Sum.inr (0, [.int 0, .int 0, .int 0, .int 0, .int 0, .ref (asF b0 4), .ref (asF b0 5), .ref (asF b0 6), .ref (asF b0 7), .ref (asF b0 8)]) : va_E) = Sum.inr (0, [.int 0, .int 0, .int 0, .int 0, .int 0, .ref ((b0 + 1 + 2 + 1) + 0), .ref ((b0 + 1 + 2 + 1) + 1), .ref ((b0 + 1 + 2 + 1) + 2), .ref ((b0 + 1 + 2 + 1) + 3), .ref ((b0 + 1 + 2 + 1) + 4)])
  simp only [as_4, as_5, as_6, as_7, as_8, Nat.add_assoc, Nat.reduceAdd]
theorem zo_9 (b0 : Nat) (cI cB cS : ClassId) : zcell (asF b0) (caF cI cB cS) X0 9 = .inr (0, no0 (b0 + 1 + 8 + 1)) := by
  show (Sum.inr (0, [.int 0, .int 0, .int 0, .int 0, .int 0, .ref (asF b0 10), .ref (asF b0 11), .ref (asF b0 12), .ref (asF b0 13), .ref (asF b0 14)]) : va_E) = Sum.inr (0, [.int 0, .int 0, .int 0, .int 0, .int 0, .ref ((b0 + 1 + 8 + 1) + 0), .ref ((b0 + 1 + 8 + 1) + 1), .ref ((b0 + 1 + 8 + 1) + 2), .ref ((b0 + 1 + 8 + 1) + 3), .ref ((b0 + 1 + 8 + 1) + 4)])
  simp only [as_10, as_11, as_12, as_13, as_14, Nat.add_assoc, Nat.reduceAdd]
theorem zo_15 (b0 : Nat) (cI cB cS : ClassId) : zcell (asF b0) (caF cI cB cS) X0 15 = .inr (6, no6 (b0 + 1 + 22 + 1) (b0 + 1 + 8) (b0 + 1 + 14)) := by
  show (Sum.inr (6, [.ref (asF b0 9), .ref (asF b0 57)]) : va_E) = Sum.inr (6, [.ref (b0 + 1 + 8), .ref (b0 + 1 + 14)])
  simp only [as_9, as_57, Nat.add_assoc, Nat.reduceAdd]
theorem zo_16 (b0 : Nat) (cI cB cS : ClassId) : zcell (asF b0) (caF cI cB cS) X0 16 = .inr (2, no2 (b0 + 1 + 23 + 1) (b0 + 1 + 8) (b0 + 1 + 14) (b0 + 1 + 22)) := by
  show (Sum.inr (2, [.ref (asF b0 9), .ref (asF b0 57), .ref (asF b0 15), .ref (asF b0 17), .ref (asF b0 18), .int (nI 0), .int (nI 0)]) : va_E) = Sum.inr (2, [.ref (b0 + 1 + 8), .ref (b0 + 1 + 14), .ref (b0 + 1 + 22), .ref ((b0 + 1 + 23 + 1) + 0), .ref ((b0 + 1 + 23 + 1) + 1), .int (nI 0), .int (nI 0)])
  simp only [as_9, as_15, as_17, as_18, as_57, Nat.add_assoc, Nat.reduceAdd]
theorem zo_19 (b0 : Nat) (cI cB cS : ClassId) : zcell (asF b0) (caF cI cB cS) X0 19 = .inr (8, no8 (b0 + 1 + 26 + 1) (b0 + 1 + 8) (b0 + 1 + 14) (b0 + 1 + 22)) := by
  show (Sum.inr (8, [.ref (asF b0 9), .ref (asF b0 57), .ref (asF b0 15), .ref (asF b0 20), .ref (asF b0 21), .ref (asF b0 22), .ref (asF b0 23), .ref (asF b0 24), .int (nI 0), .ref (asF b0 25), .ref (asF b0 (X0 19 10).toNatClampNeg), .ref (asF b0 (X0 19 11).toNatClampNeg)]) : va_E) = Sum.inr (8, [.ref (b0 + 1 + 8), .ref (b0 + 1 + 14), .ref (b0 + 1 + 22), .ref ((b0 + 1 + 26 + 1) + 0), .ref ((b0 + 1 + 26 + 1) + 1), .ref ((b0 + 1 + 26 + 1) + 2), .ref ((b0 + 1 + 26 + 1) + 3), .ref ((b0 + 1 + 26 + 1) + 4), .int (nI 0), .ref ((b0 + 1 + 26 + 1) + 5), .ref ((b0 + 1 + 26 + 1) + 6), .ref ((b0 + 1 + 26 + 1) + 7)])
  rw [show (X0 19 10).toNatClampNeg = 26 from by decide +kernel, show (X0 19 11).toNatClampNeg = 27 from by decide +kernel]
  simp only [as_9, as_15, as_20, as_21, as_22, as_23, as_24, as_25, as_26, as_27, as_57, Nat.add_assoc, Nat.reduceAdd]
theorem zo_28 (b0 : Nat) (cI cB cS : ClassId) : zcell (asF b0) (caF cI cB cS) X0 28 = .inr (4, no4 (b0 + 1 + 35 + 1) (b0 + 1 + 8) (b0 + 1 + 14) (b0 + 1 + 22)) := by
  show (Sum.inr (4, [.ref (asF b0 9), .ref (asF b0 57), .ref (asF b0 15), .ref (asF b0 29), .ref (asF b0 30), .int (nI 0), .ref (asF b0 31), .ref (asF b0 32), .int (nI 0), .ref (asF b0 33)]) : va_E) = Sum.inr (4, [.ref (b0 + 1 + 8), .ref (b0 + 1 + 14), .ref (b0 + 1 + 22), .ref ((b0 + 1 + 35 + 1) + 0), .ref ((b0 + 1 + 35 + 1) + 1), .int (nI 0), .ref ((b0 + 1 + 35 + 1) + 2), .ref ((b0 + 1 + 35 + 1) + 3), .int (nI 0), .ref ((b0 + 1 + 35 + 1) + 4)])
  simp only [as_9, as_15, as_29, as_30, as_31, as_32, as_33, as_57, Nat.add_assoc, Nat.reduceAdd]
theorem zo_34 (b0 : Nat) (cI cB cS : ClassId) : zcell (asF b0) (caF cI cB cS) X0 34 = .inr (1, no1 (b0 + 1 + 41 + 1)) := by
  show (Sum.inr (1, [.ref (asF b0 35), .int (nI 0), .int (nI 0)]) : va_E) = Sum.inr (1, [.ref ((b0 + 1 + 41 + 1) + 0), .int (nI 0), .int (nI 0)])
  simp only [as_35, Nat.add_assoc, Nat.reduceAdd]
theorem zo_36 (b0 : Nat) (cI cB cS : ClassId) : zcell (asF b0) (caF cI cB cS) X0 36 = .inr (3, no3 (b0 + 1 + 283 + 1)) := by
  show (Sum.inr (3, [.ref (asF b0 37), .ref (asF b0 38), .int (nI 0)]) : va_E) = Sum.inr (3, [.ref ((b0 + 1 + 283 + 1) + 0), .ref ((b0 + 1 + 283 + 1) + 1), .int (nI 0)])
  simp only [as_37, as_38, Nat.add_assoc, Nat.reduceAdd]
theorem zo_39 (b0 : Nat) (cI cB cS : ClassId) : zcell (asF b0) (caF cI cB cS) X0 39 = .inr (10, no10 (b0 + 303 + 1)) := by
  show (Sum.inr (10, [.ref (asF b0 40), .ref (asF b0 41), .ref (asF b0 42), .ref (asF b0 43), .ref (asF b0 44), .ref (asF b0 45), .ref (asF b0 46), .int 0, .int 0, .int 0, .int 0, .int 0, .int 0, .int 0, .int 0, .int 0, .ref (asF b0 47), .int 0, .int 0, .int 0, .int 0, .int ((-1)), .int 0, .ref (asF b0 48), .ref (asF b0 49), .ref (asF b0 50), .ref (asF b0 51), .ref (asF b0 52), .ref (asF b0 53), .ref (asF b0 54), .int 0, .ref (asF b0 55), .ref (asF b0 56), .int 0]) : va_E) = Sum.inr (10, [.ref ((b0 + 303 + 1) + 0), .ref ((b0 + 303 + 1) + 1), .ref ((b0 + 303 + 1) + 2), .ref ((b0 + 303 + 1) + 3), .ref ((b0 + 303 + 1) + 4), .ref ((b0 + 303 + 1) + 5), .ref ((b0 + 303 + 1) + 6), .int 0, .int 0, .int 0, .int 0, .int 0, .int 0, .int 0, .int 0, .int 0, .ref ((b0 + 303 + 1) + 7), .int 0, .int 0, .int 0, .int 0, .int ((-1)), .int 0, .ref ((b0 + 303 + 1) + 8), .ref ((b0 + 303 + 1) + 9), .ref ((b0 + 303 + 1) + 10), .ref ((b0 + 303 + 1) + 11), .ref ((b0 + 303 + 1) + 12), .ref ((b0 + 303 + 1) + 13), .ref ((b0 + 303 + 1) + 14), .int 0, .ref ((b0 + 303 + 1) + 15), .ref ((b0 + 303 + 1) + 16), .int 0])
  simp only [as_40, as_41, as_42, as_43, as_44, as_45, as_46, as_47, as_48, as_49, as_50, as_51, as_52, as_53, as_54, as_55, as_56, Nat.add_assoc, Nat.reduceAdd]
theorem nL9_lo {cI cB cS : ClassId} {sz j : Nat} (h : 41 ≤ j) (h2 : j < 283) : (nL9 cI cB cS sz)[j]? = ((.inr (1, no1 (sz + 41 + 1)) :: nL1 cI cB cS (sz + 41 + 1)) : List va_E)[j - 41]? := by
  unfold nL9
  rw [List.getElem?_append_left (by rw [nG2_len]; exact h2)]
  unfold nG2
  rw [List.getElem?_append_right (by rw [nG1_len]; exact h), nG1_len]
theorem nL9_hi {cI cB cS : ClassId} {sz j : Nat} (h : 283 ≤ j) : (nL9 cI cB cS sz)[j]? = ((.inr (3, no3 (sz + 283 + 1)) :: nL3 cI cB cS (sz + 283 + 1)) : List va_E)[j - 283]? := by
  unfold nL9
  rw [List.getElem?_append_right (by rw [nG2_len]; exact h), nG2_len]
theorem nL9_41 (cI cB cS : ClassId) (sz : Nat) : (nL9 cI cB cS sz)[41]? = some (.inr (1, no1 (sz + 41 + 1))) := nL9_lo (by decide) (by decide)
theorem nL9_42 (cI cB cS : ClassId) (sz : Nat) : (nL9 cI cB cS sz)[42]? = some (arS cS 30 (sz + 41 + 1 + 1) 30) := nL9_lo (by decide) (by decide)
theorem nL9_283 (cI cB cS : ClassId) (sz : Nat) : (nL9 cI cB cS sz)[283]? = some (.inr (3, no3 (sz + 283 + 1))) := nL9_hi (by decide)
theorem nL9_284 (cI cB cS : ClassId) (sz : Nat) : (nL9 cI cB cS sz)[284]? = some (arS cS 2 (sz + 283 + 1 + 2) 2) := nL9_hi (by decide)
theorem nL9_285 (cI cB cS : ClassId) (sz : Nat) : (nL9 cI cB cS sz)[285]? = some (eI cI 2) := nL9_hi (by decide)
theorem off_s {i : Nat} (h : 57 ≤ i) : off i = if i < 65 then i - 42 else if i < 305 then i - 21 else i - 18 := by
  unfold off
  rw [if_neg (by omega), if_neg (by omega), if_neg (by omega), if_neg (by omega)]
theorem w_35 {b0 j : Nat} (h : j < 30) : b0 + 1 + 41 + 1 + 1 + 8 * j = asF b0 (zrf 35 j) := by
  have e : zrf 35 j = 65 + 8 * j := rfl
  unfold asF
  rw [e, off_s (by omega), if_neg (by omega), if_pos (by omega)]
  omega
theorem w_37 {b0 j : Nat} (h : j < 2) : b0 + 1 + 283 + 1 + 2 + 8 * j = asF b0 (zrf 37 j) := by
  have e : zrf 37 j = 305 + 8 * j := rfl
  unfold asF
  rw [e, off_s (by omega), if_neg (by omega), if_neg (by omega)]
  omega
section NW
variable {D : va_G} {cI cB cS : ClassId} {b0 : Nat} {H : Heap}
theorem w_c {k j : Nat} {x : va_E} (hN : ∀ (k : Nat) (x : va_E), (nL9 cI cB cS (b0 + 1))[k]? = some x → va_at D vwCl (b0 + 1 + k, x) H) (hx : (nL9 cI cB cS (b0 + 1))[j]? = some x) (ha : b0 + 1 + j = asF b0 k) (hc : zcell (asF b0) (caF cI cB cS) X0 k = x) : va_at D vwCl (asF b0 k, zcell (asF b0) (caF cI cB cS) X0 k) H := by
  rw [hc, ← ha]; exact hN j x hx
theorem w_m {k j : Nat} {x : va_E} (hL : ∀ (k : Nat) (x : va_E), (nL10 cI cB)[k]? = some x → va_at D vwCl (b0 + 303 + 1 + k, x) H) (hx : (nL10 cI cB)[j]? = some x) (ha : b0 + 303 + 1 + j = asF b0 k) (hc : zcell (asF b0) (caF cI cB cS) X0 k = x) : va_at D vwCl (asF b0 k, zcell (asF b0) (caF cI cB cS) X0 k) H := by
  rw [hc, ← ha]; exact hL j x hx
theorem arrV_congr {c : ClassId} {N : Nat} {f g : Nat → Value} (h : ∀ j, j < N → f j = g j) : arrV c N f = arrV c N g := by
  unfold arrV
  congr 2
  funext j
  exact h j.val j.isLt
theorem w_a {k j N : Nat} {f g : Nat → Option Nat} (hN : ∀ (k : Nat) (x : va_E), (nL9 cI cB cS (b0 + 1))[k]? = some x → va_at D vwCl (b0 + 1 + k, x) H) (hx : (nL9 cI cB cS (b0 + 1))[j]? = some (.inl (cS, N, .inr (.inr (.inr (.inr f)))))) (ha : b0 + 1 + j = asF b0 k) (hc : zcell (asF b0) (caF cI cB cS) X0 k = .inl (cS, N, .inr (.inr (.inr (.inr g))))) (hfg : ∀ j, j < N → f j = g j) : va_at D vwCl (asF b0 k, zcell (asF b0) (caF cI cB cS) X0 k) H := by
  rw [hc, ← ha]
  have h := hN j _ hx
  have h : H[b0 + 1 + j]? = some (vp_cell cS (N, .inr (.inr (.inr (.inr f))))) := h
  show H[b0 + 1 + j]? = some (vp_cell cS (N, .inr (.inr (.inr (.inr g)))))
  rw [h, vp_cell_q, vp_cell_q, arrV_congr (fun j hj => by rw [hfg j hj])]
theorem w_st {j m : Nat} (hj : j < 33) (hm : m < 8) : (stE8 cI cB (asF b0 (57 + 8 * j)))[m]? = some (zcell (asF b0) (caF cI cB cS) X0 (57 + 8 * j + m)) := by
  have hzk : zkd (57 + 8 * j + m) = zstL.getD m (9, 0) := by
    unfold zkd
    rw [if_neg (by omega), if_pos (by omega), show (57 + 8 * j + m - 57) % 8 = m by omega]
  have hX : X0 (57 + 8 * j + m) = fun _ => 0 := by
    unfold X0
    rw [if_neg (by omega), if_neg (by omega), if_neg (by omega)]
  have hof : ∀ x, x < 8 → asF b0 (57 + 8 * j + x) = asF b0 (57 + 8 * j) + x := by
    intro x hx
    unfold asF
    rw [off_s (by omega), off_s (by omega)]
    by_cases c1 : j = 0
    · rw [if_pos (by omega), if_pos (by omega)]; omega
    · by_cases c2 : j ≤ 30
      · rw [if_neg (by omega), if_pos (by omega), if_neg (by omega), if_pos (by omega)]; omega
      · rw [if_neg (by omega), if_neg (by omega), if_neg (by omega), if_neg (by omega)]; omega
  have arr : ∀ n, zkd (57 + 8 * j + m) = (1, n) → zcell (asF b0) (caF cI cB cS) X0 (57 + 8 * j + m) = eI cI n := by
    intro n hn
    rw [zcell_1 (by rw [hn]), hn, hX]
    unfold caF
    rw [hn]
    rfl
  match m, hm with
  | 0, _ =>
    rw [zcell_0 (c := 7) hzk]
    have hX : X0 (57 + 8 * j) = fun _ => 0 := hX
    have zi : ∀ k, zft 7 k = 0 → zmv (asF b0) (zgf (57 + 8 * j + 0) 7 k X0) = .int 0 := by
      intro k hk
      rw [zgf_i (Or.inl hk), Nat.add_zero, hX]
      rfl
    have zr : ∀ k x, zft 7 k = 1 → zrf (57 + 8 * j + 0) k = 57 + 8 * j + x → x < 8 → zmv (asF b0) (zgf (57 + 8 * j + 0) 7 k X0) = .ref (asF b0 (57 + 8 * j) + x) := by
      intro k x hk hx hx8
      have e : zgf (57 + 8 * j + 0) 7 k X0 = .ref (zrf (57 + 8 * j + 0) k) := by unfold zgf; rw [hk]; rfl
      rw [e, hx]
      show Value.ref (asF b0 (57 + 8 * j + x)) = _
      rw [hof x hx8]
    have zz : ∀ k, 3 ≤ k → zrf (57 + 8 * j + 0) k = if k < 8 then 57 + 8 * j + 0 + (k - 3) else 57 + 8 * j + 0 + (k - 5) := by
      intro k hk
      unfold zrf
      rw [if_neg (by omega)]
    show some (Sum.inr (7, no7 (asF b0 (57 + 8 * j) + 1))) = some (Sum.inr (7, [zmv (asF b0) (zgf (57 + 8 * j + 0) 7 0 X0), zmv (asF b0) (zgf (57 + 8 * j + 0) 7 1 X0), zmv (asF b0) (zgf (57 + 8 * j + 0) 7 2 X0), zmv (asF b0) (zgf (57 + 8 * j + 0) 7 3 X0), zmv (asF b0) (zgf (57 + 8 * j + 0) 7 4 X0), zmv (asF b0) (zgf (57 + 8 * j + 0) 7 5 X0), zmv (asF b0) (zgf (57 + 8 * j + 0) 7 6 X0), zmv (asF b0) (zgf (57 + 8 * j + 0) 7 7 X0), zmv (asF b0) (zgf (57 + 8 * j + 0) 7 8 X0), zmv (asF b0) (zgf (57 + 8 * j + 0) 7 9 X0), zmv (asF b0) (zgf (57 + 8 * j + 0) 7 10 X0), zmv (asF b0) (zgf (57 + 8 * j + 0) 7 11 X0), zmv (asF b0) (zgf (57 + 8 * j + 0) 7 12 X0)]))
    rw [zi 0 rfl, zi 1 rfl, zi 2 rfl, zi 3 rfl, zi 8 rfl, zi 9 rfl, zr 4 1 rfl (by rw [zz 4 (by decide), if_pos (by decide)]) (by decide), zr 5 2 rfl (by rw [zz 5 (by decide), if_pos (by decide)]) (by decide), zr 6 3 rfl (by rw [zz 6 (by decide), if_pos (by decide)]) (by decide), zr 7 4 rfl (by rw [zz 7 (by decide), if_pos (by decide)]) (by decide), zr 10 5 rfl (by rw [zz 10 (by decide), if_neg (by decide)]) (by decide), zr 11 6 rfl (by rw [zz 11 (by decide), if_neg (by decide)]) (by decide), zr 12 7 rfl (by rw [zz 12 (by decide), if_neg (by decide)]) (by decide)]
    rfl
  | 1, _ => rw [arr 7 hzk]; rfl
  | 2, _ => rw [arr 7 hzk]; rfl
  | 3, _ => rw [arr 7 hzk]; rfl
  | 4, _ => rw [arr 5 hzk]; rfl
  | 5, _ => rw [arr 20 hzk]; rfl
  | 6, _ => rw [arr 20 hzk]; rfl
  | 7, _ => rw [arr 20 hzk]; rfl
  | n + 8, h => exact absurd h (by omega)
theorem w_hi (hN : ∀ (k : Nat) (x : va_E), (nL9 cI cB cS (b0 + 1))[k]? = some x → va_at D vwCl (b0 + 1 + k, x) H) {j m : Nat} (hj : j < 33) (hm : m < 8) : va_at D vwCl (asF b0 (57 + 8 * j + m), zcell (asF b0) (caF cI cB cS) X0 (57 + 8 * j + m)) H := by
  have hs := w_st (cI := cI) (cB := cB) (cS := cS) (b0 := b0) hj hm
  have key : ∀ q, b0 + 1 + q = asF b0 (57 + 8 * j + m) → (nL9 cI cB cS (b0 + 1))[q]? = (stE8 cI cB (asF b0 (57 + 8 * j)))[m]? → va_at D vwCl (asF b0 (57 + 8 * j + m), zcell (asF b0) (caF cI cB cS) X0 (57 + 8 * j + m)) H := by
    intro q h1 h2
    rw [← h1]
    exact hN q _ (by rw [h2, hs])
  by_cases c1 : j = 0
  · subst c1
    refine key (14 + m) (by unfold asF; rw [off_s (by omega), if_pos (by omega)]; omega) ?_
    have ea : asF b0 (57 + 8 * 0) = b0 + 1 + 14 := by unfold asF; rw [off_s (by omega), if_pos (by omega)]
    rw [ea]
    match m, hm with
    | 0, _ => rfl
    | 1, _ => rfl
    | 2, _ => rfl
    | 3, _ => rfl
    | 4, _ => rfl
    | 5, _ => rfl
    | 6, _ => rfl
    | 7, _ => rfl
    | n + 8, h => exact absurd h (by omega)
  · by_cases c2 : j ≤ 30
    · refine key (43 + (8 * (j - 1) + m)) (by unfold asF; rw [off_s (by omega), if_neg (by omega), if_pos (by omega)]; omega) ?_
      rw [nL9_lo (by omega) (by omega), show 43 + (8 * (j - 1) + m) - 41 = 8 * (j - 1) + m + 1 + 1 by omega]
      rw [List.getElem?_cons_succ]
      unfold nL1
      rw [List.getElem?_cons_succ, dsL_get _ _ _ 30 (j - 1) m (by omega) hm]
      have ea : asF b0 (57 + 8 * j) = b0 + 1 + 41 + 1 + 1 + 8 * (j - 1) := by unfold asF; rw [off_s (by omega), if_neg (by omega), if_pos (by omega)]; omega
      rw [ea]
    · refine key (286 + (8 * (j - 31) + m)) (by unfold asF; rw [off_s (by omega), if_neg (by omega), if_neg (by omega)]; omega) ?_
      rw [nL9_hi (by omega), show 286 + (8 * (j - 31) + m) - 283 = 8 * (j - 31) + m + 1 + 1 + 1 by omega]
      rw [List.getElem?_cons_succ]
      unfold nL3
      rw [List.getElem?_cons_succ, List.getElem?_cons_succ, dsL_get _ _ _ 2 (j - 31) m (by omega) hm]
      have ea : asF b0 (57 + 8 * j) = b0 + 1 + 283 + 1 + 2 + 8 * (j - 31) := by unfold asF; rw [off_s (by omega), if_neg (by omega), if_neg (by omega)]; omega
      rw [ea]
theorem w_lo (hG : va_at D vwCl (b0, .inr (9, no9 (b0 + 1))) H) (hN : ∀ (k : Nat) (x : va_E), (nL9 cI cB cS (b0 + 1))[k]? = some x → va_at D vwCl (b0 + 1 + k, x) H) (hM : va_at D vwCl (b0 + 303, .inr (10, no10 (b0 + 303 + 1))) H) (hL : ∀ (k : Nat) (x : va_E), (nL10 cI cB)[k]? = some x → va_at D vwCl (b0 + 303 + 1 + k, x) H) : ∀ k, k < 57 → va_at D vwCl (asF b0 k, zcell (asF b0) (caF cI cB cS) X0 k) H := by
  intro k hk
  match k with
  | 0 => rw [zo_0]; exact hG
  | 1 => exact w_c (j := 0) hN rfl (by show b0 + 1 + 0 = b0 + 1; omega) (zo_1 b0 cI cB cS)
  | 2 => exact w_c (j := 1) hN rfl (by show b0 + 1 + 1 = b0 + 2; omega) rfl
  | 3 => exact w_c (j := 2) hN rfl (by show b0 + 1 + 2 = b0 + 3; omega) (zo_3 b0 cI cB cS)
  | 4 => exact w_c (j := 3) hN rfl (by show b0 + 1 + 3 = b0 + 4; omega) rfl
  | 5 => exact w_c (j := 4) hN rfl (by show b0 + 1 + 4 = b0 + 5; omega) rfl
  | 6 => exact w_c (j := 5) hN rfl (by show b0 + 1 + 5 = b0 + 6; omega) rfl
  | 7 => exact w_c (j := 6) hN rfl (by show b0 + 1 + 6 = b0 + 7; omega) rfl
  | 8 => exact w_c (j := 7) hN rfl (by show b0 + 1 + 7 = b0 + 8; omega) rfl
  | 9 => exact w_c (j := 8) hN rfl (by show b0 + 1 + 8 = b0 + 9; omega) (zo_9 b0 cI cB cS)
  | 10 => exact w_c (j := 9) hN rfl (by show b0 + 1 + 9 = b0 + 10; omega) rfl
  | 11 => exact w_c (j := 10) hN rfl (by show b0 + 1 + 10 = b0 + 11; omega) rfl
  | 12 => exact w_c (j := 11) hN rfl (by show b0 + 1 + 11 = b0 + 12; omega) rfl
  | 13 => exact w_c (j := 12) hN rfl (by show b0 + 1 + 12 = b0 + 13; omega) rfl
  | 14 => exact w_c (j := 13) hN rfl (by show b0 + 1 + 13 = b0 + 14; omega) rfl
  | 15 => exact w_c (j := 22) hN rfl (by show b0 + 1 + 22 = b0 + 23; omega) (zo_15 b0 cI cB cS)
  | 16 => exact w_c (j := 23) hN rfl (by show b0 + 1 + 23 = b0 + 24; omega) (zo_16 b0 cI cB cS)
  | 17 => exact w_c (j := 24) hN rfl (by show b0 + 1 + 24 = b0 + 25; omega) rfl
  | 18 => exact w_c (j := 25) hN rfl (by show b0 + 1 + 25 = b0 + 26; omega) rfl
  | 19 => exact w_c (j := 26) hN rfl (by show b0 + 1 + 26 = b0 + 27; omega) (zo_19 b0 cI cB cS)
  | 20 => exact w_c (j := 27) hN rfl (by show b0 + 1 + 27 = b0 + 28; omega) rfl
  | 21 => exact w_c (j := 28) hN rfl (by show b0 + 1 + 28 = b0 + 29; omega) rfl
  | 22 => exact w_c (j := 29) hN rfl (by show b0 + 1 + 29 = b0 + 30; omega) rfl
  | 23 => exact w_c (j := 30) hN rfl (by show b0 + 1 + 30 = b0 + 31; omega) rfl
  | 24 => exact w_c (j := 31) hN rfl (by show b0 + 1 + 31 = b0 + 32; omega) rfl
  | 25 => exact w_c (j := 32) hN rfl (by show b0 + 1 + 32 = b0 + 33; omega) rfl
  | 26 => exact w_c (j := 33) hN rfl (by show b0 + 1 + 33 = b0 + 34; omega) rfl
  | 27 => exact w_c (j := 34) hN rfl (by show b0 + 1 + 34 = b0 + 35; omega) rfl
  | 28 => exact w_c (j := 35) hN rfl (by show b0 + 1 + 35 = b0 + 36; omega) (zo_28 b0 cI cB cS)
  | 29 => exact w_c (j := 36) hN rfl (by show b0 + 1 + 36 = b0 + 37; omega) rfl
  | 30 => exact w_c (j := 37) hN rfl (by show b0 + 1 + 37 = b0 + 38; omega) rfl
  | 31 => exact w_c (j := 38) hN rfl (by show b0 + 1 + 38 = b0 + 39; omega) rfl
  | 32 => exact w_c (j := 39) hN rfl (by show b0 + 1 + 39 = b0 + 40; omega) rfl
  | 33 => exact w_c (j := 40) hN rfl (by show b0 + 1 + 40 = b0 + 41; omega) rfl
  | 34 => exact w_c (j := 41) hN (nL9_41 cI cB cS (b0 + 1)) (by show b0 + 1 + 41 = b0 + 42; omega) (zo_34 b0 cI cB cS)
  | 35 => exact w_a (j := 42) (N := 30) hN (nL9_42 cI cB cS (b0 + 1)) (by show b0 + 1 + 42 = b0 + 43; omega) rfl (fun j hj => by rw [if_pos hj]; exact congrArg some (w_35 hj))
  | 36 => exact w_c (j := 283) hN (nL9_283 cI cB cS (b0 + 1)) (by show b0 + 1 + 283 = b0 + 284; omega) (zo_36 b0 cI cB cS)
  | 37 => exact w_a (j := 284) (N := 2) hN (nL9_284 cI cB cS (b0 + 1)) (by show b0 + 1 + 284 = b0 + 285; omega) rfl (fun j hj => by rw [if_pos hj]; exact congrArg some (w_37 hj))
  | 38 => exact w_c (j := 285) hN (nL9_285 cI cB cS (b0 + 1)) (by show b0 + 1 + 285 = b0 + 286; omega) rfl
  | 39 => rw [zo_39]; exact hM
  | 40 => exact w_m (j := 0) hL rfl (by show b0 + 303 + 1 + 0 = b0 + 304; omega) rfl
  | 41 => exact w_m (j := 1) hL rfl (by show b0 + 303 + 1 + 1 = b0 + 305; omega) rfl
  | 42 => exact w_m (j := 2) hL rfl (by show b0 + 303 + 1 + 2 = b0 + 306; omega) rfl
  | 43 => exact w_m (j := 3) hL rfl (by show b0 + 303 + 1 + 3 = b0 + 307; omega) rfl
  | 44 => exact w_m (j := 4) hL rfl (by show b0 + 303 + 1 + 4 = b0 + 308; omega) rfl
  | 45 => exact w_m (j := 5) hL rfl (by show b0 + 303 + 1 + 5 = b0 + 309; omega) rfl
  | 46 => exact w_m (j := 6) hL rfl (by show b0 + 303 + 1 + 6 = b0 + 310; omega) rfl
  | 47 => exact w_m (j := 7) hL rfl (by show b0 + 303 + 1 + 7 = b0 + 311; omega) rfl
  | 48 => exact w_m (j := 8) hL rfl (by show b0 + 303 + 1 + 8 = b0 + 312; omega) rfl
  | 49 => exact w_m (j := 9) hL rfl (by show b0 + 303 + 1 + 9 = b0 + 313; omega) rfl
  | 50 => exact w_m (j := 10) hL rfl (by show b0 + 303 + 1 + 10 = b0 + 314; omega) rfl
  | 51 => exact w_m (j := 11) hL rfl (by show b0 + 303 + 1 + 11 = b0 + 315; omega) rfl
  | 52 => exact w_m (j := 12) hL rfl (by show b0 + 303 + 1 + 12 = b0 + 316; omega) rfl
  | 53 => exact w_m (j := 13) hL rfl (by show b0 + 303 + 1 + 13 = b0 + 317; omega) rfl
  | 54 => exact w_m (j := 14) hL rfl (by show b0 + 303 + 1 + 14 = b0 + 318; omega) rfl
  | 55 => exact w_m (j := 15) hL rfl (by show b0 + 303 + 1 + 15 = b0 + 319; omega) rfl
  | 56 => exact w_m (j := 16) hL rfl (by show b0 + 303 + 1 + 16 = b0 + 320; omega) rfl
  | n + 57 => exact absurd hk (by omega)
theorem w_all (hG : va_at D vwCl (b0, .inr (9, no9 (b0 + 1))) H) (hN : ∀ (k : Nat) (x : va_E), (nL9 cI cB cS (b0 + 1))[k]? = some x → va_at D vwCl (b0 + 1 + k, x) H) (hM : va_at D vwCl (b0 + 303, .inr (10, no10 (b0 + 303 + 1))) H) (hL : ∀ (k : Nat) (x : va_E), (nL10 cI cB)[k]? = some x → va_at D vwCl (b0 + 303 + 1 + k, x) H) : va_P D vwCl (zws (asF b0) (caF cI cB cS) X0) H := by
  intro k q hq
  obtain ⟨h1, rfl⟩ := zws_get hq
  have h1 : k < 321 := h1
  by_cases c : k < 57
  · exact w_lo hG hN hM hL k c
  · have e : k = 57 + 8 * ((k - 57) / 8) + (k - 57) % 8 := by omega
    rw [e]
    exact w_hi hN (by omega) (by omega)
theorem w_D : va_D (fun q => b0 ≤ q) (zws (asF b0) (caF cI cB cS) X0) := by
  refine ⟨fun i j x y hx hy hxy => ?_, fun k q hk => ?_⟩
  · obtain ⟨h1, rfl⟩ := zws_get hx
    obtain ⟨h2, rfl⟩ := zws_get hy
    have h3 : b0 + off i = b0 + off j := hxy
    have h4 : off i = off j := by omega
    rw [← off_inv i h1, ← off_inv j h2, h4]
  · obtain ⟨h1, rfl⟩ := zws_get hk
    show b0 ≤ b0 + off k
    omega
theorem w_K {s : State} (hK : va_K D vwCl (nTy cI cB cS) s) : va_K D vwCl (ztys (caF cI cB cS)) s := by
  refine ⟨hK.1, fun k q hk => ?_⟩
  have hlt : k < zN := by
    have := (List.getElem?_eq_some_iff.mp hk).1
    unfold ztys at this
    simpa using this
  rw [ztys_at hlt] at hk
  cases hk
  have h0 := hK.2 0 (cI, .int) rfl
  have h1 := hK.2 1 (cB, .boolean) rfl
  have h2 := hK.2 2 (cS, .object RX7) rfl
  unfold caF zet
  generalize (zkd k).1 = z
  match z with
  | 0 => exact h0
  | 1 => exact h0
  | 2 => exact h1
  | 3 => exact h2
  | n + 4 => exact h0
end NW
