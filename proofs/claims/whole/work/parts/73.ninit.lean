/-! constructors without calls; written by wip/gen/gen73.py -/
abbrev eI (c : ClassId) (n : Nat) : va_E := .inl (c, n, .inl (fun _ => 0))
theorem dn0_0 : decode cX0_init 0 = .ok (.aload_n 0, 1) := by decide +kernel
theorem dn0_1 : decode cX0_init 1 = .ok (.invokespecial 3, 3) := by decide +kernel
theorem dn0_4 : decode cX0_init 4 = .ok (.aload_n 0, 1) := by decide +kernel
theorem dn0_5 : decode cX0_init 5 = .ok (.bipush 12, 2) := by decide +kernel
theorem dn0_7 : decode cX0_init 7 = .ok (.newarray .int, 2) := by decide +kernel
theorem dn0_9 : decode cX0_init 9 = .ok (.putfield 9, 3) := by decide +kernel
theorem dn0_12 : decode cX0_init 12 = .ok (.aload_n 0, 1) := by decide +kernel
theorem dn0_13 : decode cX0_init 13 = .ok (.bipush 7, 2) := by decide +kernel
theorem dn0_15 : decode cX0_init 15 = .ok (.newarray .int, 2) := by decide +kernel
theorem dn0_17 : decode cX0_init 17 = .ok (.putfield 15, 3) := by decide +kernel
theorem dn0_20 : decode cX0_init 20 = .ok (.aload_n 0, 1) := by decide +kernel
theorem dn0_21 : decode cX0_init 21 = .ok (.bipush 7, 2) := by decide +kernel
theorem dn0_23 : decode cX0_init 23 = .ok (.newarray .int, 2) := by decide +kernel
theorem dn0_25 : decode cX0_init 25 = .ok (.putfield 18, 3) := by decide +kernel
theorem dn0_28 : decode cX0_init 28 = .ok (.aload_n 0, 1) := by decide +kernel
theorem dn0_29 : decode cX0_init 29 = .ok (.iconst 5, 1) := by decide +kernel
theorem dn0_30 : decode cX0_init 30 = .ok (.newarray .int, 2) := by decide +kernel
theorem dn0_32 : decode cX0_init 32 = .ok (.putfield 21, 3) := by decide +kernel
theorem dn0_35 : decode cX0_init 35 = .ok (.aload_n 0, 1) := by decide +kernel
theorem dn0_36 : decode cX0_init 36 = .ok (.iconst 5, 1) := by decide +kernel
theorem dn0_37 : decode cX0_init 37 = .ok (.newarray .int, 2) := by decide +kernel
theorem dn0_39 : decode cX0_init 39 = .ok (.putfield 24, 3) := by decide +kernel
theorem dn0_42 : decode cX0_init 42 = .ok (.return_, 1) := by decide +kernel
def nf0 : List Value := [.int 0, .int 0, .int 0, .int 0, .int 0, .null, .null, .null, .null, .null]
def no0 (sz : Nat) : List Value := [.int 0, .int 0, .int 0, .int 0, .int 0, .ref (sz + 0), .ref (sz + 1), .ref (sz + 2), .ref (sz + 3), .ref (sz + 4)]
def nL0 (cI cB : ClassId) : List va_E := [eI cI 12, eI cI 7, eI cI 7, eI cI 5, eI cI 5]
set_option maxHeartbeats 4000000 in
theorem n_X0 (l : Launch) (D : va_G) (cI cB cS : ClassId) (h0 sz  : Nat) : nMet l yX0_init cX0_init 1 1 D cI cB cS h0 sz [] (.inr (0, nf0)) (.inr (0, no0 sz )) (nL0 cI cB) 36 := by
  refine nMet_in 0 (by decide +kernel) rfl rfl (Nat.le_of_ble_eq_true rfl) ?_
  intro p e s m args below meth c ls C hK hl h
  have hx := C.1
  have hb := C.2.1
  have h : CH D h0 sz s.heap s.heap [] (.inr (0, [.int 0, .int 0, .int 0, .int 0, .int 0, .null, .null, .null, .null, .null])) [] := h
  refine lv_aload_n hx hb dn0_0 rfl (lv_at hl 0 rfl) ?_
  refine n_objC (ix := 3) C hl.1 (gT_at (i := 123) (by decide +kernel)) (Nat.le_of_ble_eq_true rfl) (Nat.le_of_ble_eq_true rfl) dn0_1 ?_
  refine lv_aload_n hx hb dn0_4 rfl (lv_at hl 0 rfl) ?_
  refine lv_bipush (v := nI 12) hx hb dn0_5 (by decide) ?_
  refine n_newIC (n := nI 12) (N := 12) (q := sz + 0) C hK h rfl (by decide) (by decide) (by decide) (Nat.le_of_ble_eq_true rfl) (Nat.le_of_ble_eq_true rfl) dn0_7 (fun H h => ?_)
  have h : CH D h0 sz s.heap H [] (.inr (0, [.int 0, .int 0, .int 0, .int 0, .int 0, .null, .null, .null, .null, .null])) [eI cI 12] := h
  refine n_putC (ci := 0) (k := 5) (ty := .array .int) (v := .ref (sz + 0)) C hK h (by decide +kernel) rfl (by decide +kernel) rfl rfl (Nat.le_of_ble_eq_true rfl) dn0_9 (fun H locs h => ?_)
  have h : CH D h0 sz s.heap H locs (.inr (0, [.int 0, .int 0, .int 0, .int 0, .int 0, .ref (sz + 0), .null, .null, .null, .null])) [eI cI 12] := h
  refine lv_aload_n hx hb dn0_12 rfl (lv_at hl 0 rfl) ?_
  refine lv_bipush (v := nI 7) hx hb dn0_13 (by decide) ?_
  refine n_newIC (n := nI 7) (N := 7) (q := sz + 1) C hK h rfl (by decide) (by decide) (by decide) (Nat.le_of_ble_eq_true rfl) (Nat.le_of_ble_eq_true rfl) dn0_15 (fun H h => ?_)
  have h : CH D h0 sz s.heap H locs (.inr (0, [.int 0, .int 0, .int 0, .int 0, .int 0, .ref (sz + 0), .null, .null, .null, .null])) [eI cI 12, eI cI 7] := h
  refine n_putC (ci := 0) (k := 6) (ty := .array .int) (v := .ref (sz + 1)) C hK h (by decide +kernel) rfl (by decide +kernel) rfl rfl (Nat.le_of_ble_eq_true rfl) dn0_17 (fun H locs h => ?_)
  have h : CH D h0 sz s.heap H locs (.inr (0, [.int 0, .int 0, .int 0, .int 0, .int 0, .ref (sz + 0), .ref (sz + 1), .null, .null, .null])) [eI cI 12, eI cI 7] := h
  refine lv_aload_n hx hb dn0_20 rfl (lv_at hl 0 rfl) ?_
  refine lv_bipush (v := nI 7) hx hb dn0_21 (by decide) ?_
  refine n_newIC (n := nI 7) (N := 7) (q := sz + 2) C hK h rfl (by decide) (by decide) (by decide) (Nat.le_of_ble_eq_true rfl) (Nat.le_of_ble_eq_true rfl) dn0_23 (fun H h => ?_)
  have h : CH D h0 sz s.heap H locs (.inr (0, [.int 0, .int 0, .int 0, .int 0, .int 0, .ref (sz + 0), .ref (sz + 1), .null, .null, .null])) [eI cI 12, eI cI 7, eI cI 7] := h
  refine n_putC (ci := 0) (k := 7) (ty := .array .int) (v := .ref (sz + 2)) C hK h (by decide +kernel) rfl (by decide +kernel) rfl rfl (Nat.le_of_ble_eq_true rfl) dn0_25 (fun H locs h => ?_)
  have h : CH D h0 sz s.heap H locs (.inr (0, [.int 0, .int 0, .int 0, .int 0, .int 0, .ref (sz + 0), .ref (sz + 1), .ref (sz + 2), .null, .null])) [eI cI 12, eI cI 7, eI cI 7] := h
  refine lv_aload_n hx hb dn0_28 rfl (lv_at hl 0 rfl) ?_
  refine lv_iconst (v := nI 5) hx hb dn0_29 (by decide) ?_
  refine n_newIC (n := nI 5) (N := 5) (q := sz + 3) C hK h rfl (by decide) (by decide) (by decide) (Nat.le_of_ble_eq_true rfl) (Nat.le_of_ble_eq_true rfl) dn0_30 (fun H h => ?_)
  have h : CH D h0 sz s.heap H locs (.inr (0, [.int 0, .int 0, .int 0, .int 0, .int 0, .ref (sz + 0), .ref (sz + 1), .ref (sz + 2), .null, .null])) [eI cI 12, eI cI 7, eI cI 7, eI cI 5] := h
  refine n_putC (ci := 0) (k := 8) (ty := .array .int) (v := .ref (sz + 3)) C hK h (by decide +kernel) rfl (by decide +kernel) rfl rfl (Nat.le_of_ble_eq_true rfl) dn0_32 (fun H locs h => ?_)
  have h : CH D h0 sz s.heap H locs (.inr (0, [.int 0, .int 0, .int 0, .int 0, .int 0, .ref (sz + 0), .ref (sz + 1), .ref (sz + 2), .ref (sz + 3), .null])) [eI cI 12, eI cI 7, eI cI 7, eI cI 5] := h
  refine lv_aload_n hx hb dn0_35 rfl (lv_at hl 0 rfl) ?_
  refine lv_iconst (v := nI 5) hx hb dn0_36 (by decide) ?_
  refine n_newIC (n := nI 5) (N := 5) (q := sz + 4) C hK h rfl (by decide) (by decide) (by decide) (Nat.le_of_ble_eq_true rfl) (Nat.le_of_ble_eq_true rfl) dn0_37 (fun H h => ?_)
  have h : CH D h0 sz s.heap H locs (.inr (0, [.int 0, .int 0, .int 0, .int 0, .int 0, .ref (sz + 0), .ref (sz + 1), .ref (sz + 2), .ref (sz + 3), .null])) [eI cI 12, eI cI 7, eI cI 7, eI cI 5, eI cI 5] := h
  refine n_putC (ci := 0) (k := 9) (ty := .array .int) (v := .ref (sz + 4)) C hK h (by decide +kernel) rfl (by decide +kernel) rfl rfl (Nat.le_of_ble_eq_true rfl) dn0_39 (fun H locs h => ?_)
  have h : CH D h0 sz s.heap H locs (.inr (0, [.int 0, .int 0, .int 0, .int 0, .int 0, .ref (sz + 0), .ref (sz + 1), .ref (sz + 2), .ref (sz + 3), .ref (sz + 4)])) [eI cI 12, eI cI 7, eI cI 7, eI cI 5, eI cI 5] := h
  refine W.widen (k := (nL0 cI cB).length) (n := 36) (Nat.le_of_ble_eq_true rfl) (Nat.le_of_ble_eq_true rfl) ?_
  exact n_retC (L1 := nL0 cI cB) (o1 := .inr (0, no0 sz)) C h dn0_42
theorem dn2_0 : decode cX2_init 0 = .ok (.aload_n 0, 1) := by decide +kernel
theorem dn2_1 : decode cX2_init 1 = .ok (.invokespecial 3, 3) := by decide +kernel
theorem dn2_4 : decode cX2_init 4 = .ok (.aload_n 0, 1) := by decide +kernel
theorem dn2_5 : decode cX2_init 5 = .ok (.bipush 60, 2) := by decide +kernel
theorem dn2_7 : decode cX2_init 7 = .ok (.newarray .int, 2) := by decide +kernel
theorem dn2_9 : decode cX2_init 9 = .ok (.putfield 9, 3) := by decide +kernel
theorem dn2_12 : decode cX2_init 12 = .ok (.aload_n 0, 1) := by decide +kernel
theorem dn2_13 : decode cX2_init 13 = .ok (.bipush 60, 2) := by decide +kernel
theorem dn2_15 : decode cX2_init 15 = .ok (.newarray .int, 2) := by decide +kernel
theorem dn2_17 : decode cX2_init 17 = .ok (.putfield 15, 3) := by decide +kernel
theorem dn2_20 : decode cX2_init 20 = .ok (.aload_n 0, 1) := by decide +kernel
theorem dn2_21 : decode cX2_init 21 = .ok (.iconst 0, 1) := by decide +kernel
theorem dn2_22 : decode cX2_init 22 = .ok (.putfield 18, 3) := by decide +kernel
theorem dn2_25 : decode cX2_init 25 = .ok (.aload_n 0, 1) := by decide +kernel
theorem dn2_26 : decode cX2_init 26 = .ok (.iconst 0, 1) := by decide +kernel
theorem dn2_27 : decode cX2_init 27 = .ok (.putfield 22, 3) := by decide +kernel
theorem dn2_30 : decode cX2_init 30 = .ok (.aload_n 0, 1) := by decide +kernel
theorem dn2_31 : decode cX2_init 31 = .ok (.aload_n 1, 1) := by decide +kernel
theorem dn2_32 : decode cX2_init 32 = .ok (.putfield 25, 3) := by decide +kernel
theorem dn2_35 : decode cX2_init 35 = .ok (.aload_n 0, 1) := by decide +kernel
theorem dn2_36 : decode cX2_init 36 = .ok (.aload_n 2, 1) := by decide +kernel
theorem dn2_37 : decode cX2_init 37 = .ok (.putfield 29, 3) := by decide +kernel
theorem dn2_40 : decode cX2_init 40 = .ok (.aload_n 0, 1) := by decide +kernel
theorem dn2_41 : decode cX2_init 41 = .ok (.aload_n 3, 1) := by decide +kernel
theorem dn2_42 : decode cX2_init 42 = .ok (.putfield 33, 3) := by decide +kernel
theorem dn2_45 : decode cX2_init 45 = .ok (.return_, 1) := by decide +kernel
def nf2 : List Value := [.null, .null, .null, .null, .null, .int 0, .int 0]
def no2 (sz a1 a2 a3 : Nat) : List Value := [.ref a1, .ref a2, .ref a3, .ref (sz + 0), .ref (sz + 1), .int (nI 0), .int (nI 0)]
def nL2 (cI cB : ClassId) : List va_E := [eI cI 60, eI cI 60]
set_option maxHeartbeats 4000000 in
theorem n_X2 (l : Launch) (D : va_G) (cI cB cS : ClassId) (h0 sz a1 a2 a3 : Nat) : nMet l yX2_init cX2_init 4 1 D cI cB cS h0 sz [.ref a1, .ref a2, .ref a3] (.inr (2, nf2)) (.inr (2, no2 sz a1 a2 a3)) (nL2 cI cB) 120 := by
  refine nMet_in 2 (by decide +kernel) rfl rfl (Nat.le_of_ble_eq_true rfl) ?_
  intro p e s m args below meth c ls C hK hl h
  have hx := C.1
  have hb := C.2.1
  have h : CH D h0 sz s.heap s.heap [] (.inr (2, [.null, .null, .null, .null, .null, .int 0, .int 0])) [] := h
  refine lv_aload_n hx hb dn2_0 rfl (lv_at hl 0 rfl) ?_
  refine n_objC (ix := 3) C hl.1 (gT_at (i := 267) (by decide +kernel)) (Nat.le_of_ble_eq_true rfl) (Nat.le_of_ble_eq_true rfl) dn2_1 ?_
  refine lv_aload_n hx hb dn2_4 rfl (lv_at hl 0 rfl) ?_
  refine lv_bipush (v := nI 60) hx hb dn2_5 (by decide) ?_
  refine n_newIC (n := nI 60) (N := 60) (q := sz + 0) C hK h rfl (by decide) (by decide) (by decide) (Nat.le_of_ble_eq_true rfl) (Nat.le_of_ble_eq_true rfl) dn2_7 (fun H h => ?_)
  have h : CH D h0 sz s.heap H [] (.inr (2, [.null, .null, .null, .null, .null, .int 0, .int 0])) [eI cI 60] := h
  refine n_putC (ci := 2) (k := 3) (ty := .array .int) (v := .ref (sz + 0)) C hK h (by decide +kernel) rfl (by decide +kernel) rfl rfl (Nat.le_of_ble_eq_true rfl) dn2_9 (fun H locs h => ?_)
  have h : CH D h0 sz s.heap H locs (.inr (2, [.null, .null, .null, .ref (sz + 0), .null, .int 0, .int 0])) [eI cI 60] := h
  refine lv_aload_n hx hb dn2_12 rfl (lv_at hl 0 rfl) ?_
  refine lv_bipush (v := nI 60) hx hb dn2_13 (by decide) ?_
  refine n_newIC (n := nI 60) (N := 60) (q := sz + 1) C hK h rfl (by decide) (by decide) (by decide) (Nat.le_of_ble_eq_true rfl) (Nat.le_of_ble_eq_true rfl) dn2_15 (fun H h => ?_)
  have h : CH D h0 sz s.heap H locs (.inr (2, [.null, .null, .null, .ref (sz + 0), .null, .int 0, .int 0])) [eI cI 60, eI cI 60] := h
  refine n_putC (ci := 2) (k := 4) (ty := .array .int) (v := .ref (sz + 1)) C hK h (by decide +kernel) rfl (by decide +kernel) rfl rfl (Nat.le_of_ble_eq_true rfl) dn2_17 (fun H locs h => ?_)
  have h : CH D h0 sz s.heap H locs (.inr (2, [.null, .null, .null, .ref (sz + 0), .ref (sz + 1), .int 0, .int 0])) [eI cI 60, eI cI 60] := h
  refine lv_aload_n hx hb dn2_20 rfl (lv_at hl 0 rfl) ?_
  refine lv_iconst (v := nI 0) hx hb dn2_21 (by decide) ?_
  refine n_putC (ci := 2) (k := 5) (ty := .int) (v := .int (nI 0)) C hK h (by decide +kernel) rfl (by decide +kernel) rfl rfl (Nat.le_of_ble_eq_true rfl) dn2_22 (fun H locs h => ?_)
  have h : CH D h0 sz s.heap H locs (.inr (2, [.null, .null, .null, .ref (sz + 0), .ref (sz + 1), .int (nI 0), .int 0])) [eI cI 60, eI cI 60] := h
  refine lv_aload_n hx hb dn2_25 rfl (lv_at hl 0 rfl) ?_
  refine lv_iconst (v := nI 0) hx hb dn2_26 (by decide) ?_
  refine n_putC (ci := 2) (k := 6) (ty := .int) (v := .int (nI 0)) C hK h (by decide +kernel) rfl (by decide +kernel) rfl rfl (Nat.le_of_ble_eq_true rfl) dn2_27 (fun H locs h => ?_)
  have h : CH D h0 sz s.heap H locs (.inr (2, [.null, .null, .null, .ref (sz + 0), .ref (sz + 1), .int (nI 0), .int (nI 0)])) [eI cI 60, eI cI 60] := h
  refine lv_aload_n hx hb dn2_30 rfl (lv_at hl 0 rfl) ?_
  refine lv_aload_n hx hb dn2_31 rfl (lv_at hl 1 rfl) ?_
  refine n_putC (ci := 2) (k := 0) (ty := .object "GladGlasses$Coast") (v := .ref a1) C hK h (by decide +kernel) rfl (by decide +kernel) rfl rfl (Nat.le_of_ble_eq_true rfl) dn2_32 (fun H locs h => ?_)
  have h : CH D h0 sz s.heap H locs (.inr (2, [.ref a1, .null, .null, .ref (sz + 0), .ref (sz + 1), .int (nI 0), .int (nI 0)])) [eI cI 60, eI cI 60] := h
  refine lv_aload_n hx hb dn2_35 rfl (lv_at hl 0 rfl) ?_
  refine lv_aload_n hx hb dn2_36 rfl (lv_at hl 2 rfl) ?_
  refine n_putC (ci := 2) (k := 1) (ty := .object "GladGlasses$State") (v := .ref a2) C hK h (by decide +kernel) rfl (by decide +kernel) rfl rfl (Nat.le_of_ble_eq_true rfl) dn2_37 (fun H locs h => ?_)
  have h : CH D h0 sz s.heap H locs (.inr (2, [.ref a1, .ref a2, .null, .ref (sz + 0), .ref (sz + 1), .int (nI 0), .int (nI 0)])) [eI cI 60, eI cI 60] := h
  refine lv_aload_n hx hb dn2_40 rfl (lv_at hl 0 rfl) ?_
  refine lv_aload_n hx hb dn2_41 rfl (lv_at hl 3 rfl) ?_
  refine n_putC (ci := 2) (k := 2) (ty := .object "GladGlasses$Row") (v := .ref a3) C hK h (by decide +kernel) rfl (by decide +kernel) rfl rfl (Nat.le_of_ble_eq_true rfl) dn2_42 (fun H locs h => ?_)
  have h : CH D h0 sz s.heap H locs (.inr (2, [.ref a1, .ref a2, .ref a3, .ref (sz + 0), .ref (sz + 1), .int (nI 0), .int (nI 0)])) [eI cI 60, eI cI 60] := h
  refine W.widen (k := (nL2 cI cB).length) (n := 120) (Nat.le_of_ble_eq_true rfl) (Nat.le_of_ble_eq_true rfl) ?_
  exact n_retC (L1 := nL2 cI cB) (o1 := .inr (2, no2 sz a1 a2 a3)) C h dn2_45
theorem dn4_0 : decode cX4_init 0 = .ok (.aload_n 0, 1) := by decide +kernel
theorem dn4_1 : decode cX4_init 1 = .ok (.invokespecial 3, 3) := by decide +kernel
theorem dn4_4 : decode cX4_init 4 = .ok (.aload_n 0, 1) := by decide +kernel
theorem dn4_5 : decode cX4_init 5 = .ok (.bipush 6, 2) := by decide +kernel
theorem dn4_7 : decode cX4_init 7 = .ok (.newarray .int, 2) := by decide +kernel
theorem dn4_9 : decode cX4_init 9 = .ok (.putfield 9, 3) := by decide +kernel
theorem dn4_12 : decode cX4_init 12 = .ok (.aload_n 0, 1) := by decide +kernel
theorem dn4_13 : decode cX4_init 13 = .ok (.bipush 6, 2) := by decide +kernel
theorem dn4_15 : decode cX4_init 15 = .ok (.newarray .int, 2) := by decide +kernel
theorem dn4_17 : decode cX4_init 17 = .ok (.putfield 15, 3) := by decide +kernel
theorem dn4_20 : decode cX4_init 20 = .ok (.aload_n 0, 1) := by decide +kernel
theorem dn4_21 : decode cX4_init 21 = .ok (.iconst 0, 1) := by decide +kernel
theorem dn4_22 : decode cX4_init 22 = .ok (.putfield 18, 3) := by decide +kernel
theorem dn4_25 : decode cX4_init 25 = .ok (.aload_n 0, 1) := by decide +kernel
theorem dn4_26 : decode cX4_init 26 = .ok (.bipush 20, 2) := by decide +kernel
theorem dn4_28 : decode cX4_init 28 = .ok (.newarray .int, 2) := by decide +kernel
theorem dn4_30 : decode cX4_init 30 = .ok (.putfield 22, 3) := by decide +kernel
theorem dn4_33 : decode cX4_init 33 = .ok (.aload_n 0, 1) := by decide +kernel
theorem dn4_34 : decode cX4_init 34 = .ok (.bipush 20, 2) := by decide +kernel
theorem dn4_36 : decode cX4_init 36 = .ok (.newarray .int, 2) := by decide +kernel
theorem dn4_38 : decode cX4_init 38 = .ok (.putfield 25, 3) := by decide +kernel
theorem dn4_41 : decode cX4_init 41 = .ok (.aload_n 0, 1) := by decide +kernel
theorem dn4_42 : decode cX4_init 42 = .ok (.iconst 0, 1) := by decide +kernel
theorem dn4_43 : decode cX4_init 43 = .ok (.putfield 28, 3) := by decide +kernel
theorem dn4_46 : decode cX4_init 46 = .ok (.aload_n 0, 1) := by decide +kernel
theorem dn4_47 : decode cX4_init 47 = .ok (.bipush 10, 2) := by decide +kernel
theorem dn4_49 : decode cX4_init 49 = .ok (.newarray .int, 2) := by decide +kernel
theorem dn4_51 : decode cX4_init 51 = .ok (.putfield 31, 3) := by decide +kernel
theorem dn4_54 : decode cX4_init 54 = .ok (.aload_n 0, 1) := by decide +kernel
theorem dn4_55 : decode cX4_init 55 = .ok (.aload_n 1, 1) := by decide +kernel
theorem dn4_56 : decode cX4_init 56 = .ok (.putfield 34, 3) := by decide +kernel
theorem dn4_59 : decode cX4_init 59 = .ok (.aload_n 0, 1) := by decide +kernel
theorem dn4_60 : decode cX4_init 60 = .ok (.aload_n 2, 1) := by decide +kernel
theorem dn4_61 : decode cX4_init 61 = .ok (.putfield 38, 3) := by decide +kernel
theorem dn4_64 : decode cX4_init 64 = .ok (.aload_n 0, 1) := by decide +kernel
theorem dn4_65 : decode cX4_init 65 = .ok (.aload_n 3, 1) := by decide +kernel
theorem dn4_66 : decode cX4_init 66 = .ok (.putfield 42, 3) := by decide +kernel
theorem dn4_69 : decode cX4_init 69 = .ok (.return_, 1) := by decide +kernel
def nf4 : List Value := [.null, .null, .null, .null, .null, .int 0, .null, .null, .int 0, .null]
def no4 (sz a1 a2 a3 : Nat) : List Value := [.ref a1, .ref a2, .ref a3, .ref (sz + 0), .ref (sz + 1), .int (nI 0), .ref (sz + 2), .ref (sz + 3), .int (nI 0), .ref (sz + 4)]
def nL4 (cI cB : ClassId) : List va_E := [eI cI 6, eI cI 6, eI cI 20, eI cI 20, eI cI 10]
set_option maxHeartbeats 4000000 in
theorem n_X4 (l : Launch) (D : va_G) (cI cB cS : ClassId) (h0 sz a1 a2 a3 : Nat) : nMet l yX4_init cX4_init 4 1 D cI cB cS h0 sz [.ref a1, .ref a2, .ref a3] (.inr (4, nf4)) (.inr (4, no4 sz a1 a2 a3)) (nL4 cI cB) 62 := by
  refine nMet_in 4 (by decide +kernel) rfl rfl (Nat.le_of_ble_eq_true rfl) ?_
  intro p e s m args below meth c ls C hK hl h
  have hx := C.1
  have hb := C.2.1
  have h : CH D h0 sz s.heap s.heap [] (.inr (4, [.null, .null, .null, .null, .null, .int 0, .null, .null, .int 0, .null])) [] := h
  refine lv_aload_n hx hb dn4_0 rfl (lv_at hl 0 rfl) ?_
  refine n_objC (ix := 3) C hl.1 (gT_at (i := 341) (by decide +kernel)) (Nat.le_of_ble_eq_true rfl) (Nat.le_of_ble_eq_true rfl) dn4_1 ?_
  refine lv_aload_n hx hb dn4_4 rfl (lv_at hl 0 rfl) ?_
  refine lv_bipush (v := nI 6) hx hb dn4_5 (by decide) ?_
  refine n_newIC (n := nI 6) (N := 6) (q := sz + 0) C hK h rfl (by decide) (by decide) (by decide) (Nat.le_of_ble_eq_true rfl) (Nat.le_of_ble_eq_true rfl) dn4_7 (fun H h => ?_)
  have h : CH D h0 sz s.heap H [] (.inr (4, [.null, .null, .null, .null, .null, .int 0, .null, .null, .int 0, .null])) [eI cI 6] := h
  refine n_putC (ci := 4) (k := 3) (ty := .array .int) (v := .ref (sz + 0)) C hK h (by decide +kernel) rfl (by decide +kernel) rfl rfl (Nat.le_of_ble_eq_true rfl) dn4_9 (fun H locs h => ?_)
  have h : CH D h0 sz s.heap H locs (.inr (4, [.null, .null, .null, .ref (sz + 0), .null, .int 0, .null, .null, .int 0, .null])) [eI cI 6] := h
  refine lv_aload_n hx hb dn4_12 rfl (lv_at hl 0 rfl) ?_
  refine lv_bipush (v := nI 6) hx hb dn4_13 (by decide) ?_
  refine n_newIC (n := nI 6) (N := 6) (q := sz + 1) C hK h rfl (by decide) (by decide) (by decide) (Nat.le_of_ble_eq_true rfl) (Nat.le_of_ble_eq_true rfl) dn4_15 (fun H h => ?_)
  have h : CH D h0 sz s.heap H locs (.inr (4, [.null, .null, .null, .ref (sz + 0), .null, .int 0, .null, .null, .int 0, .null])) [eI cI 6, eI cI 6] := h
  refine n_putC (ci := 4) (k := 4) (ty := .array .int) (v := .ref (sz + 1)) C hK h (by decide +kernel) rfl (by decide +kernel) rfl rfl (Nat.le_of_ble_eq_true rfl) dn4_17 (fun H locs h => ?_)
  have h : CH D h0 sz s.heap H locs (.inr (4, [.null, .null, .null, .ref (sz + 0), .ref (sz + 1), .int 0, .null, .null, .int 0, .null])) [eI cI 6, eI cI 6] := h
  refine lv_aload_n hx hb dn4_20 rfl (lv_at hl 0 rfl) ?_
  refine lv_iconst (v := nI 0) hx hb dn4_21 (by decide) ?_
  refine n_putC (ci := 4) (k := 5) (ty := .int) (v := .int (nI 0)) C hK h (by decide +kernel) rfl (by decide +kernel) rfl rfl (Nat.le_of_ble_eq_true rfl) dn4_22 (fun H locs h => ?_)
  have h : CH D h0 sz s.heap H locs (.inr (4, [.null, .null, .null, .ref (sz + 0), .ref (sz + 1), .int (nI 0), .null, .null, .int 0, .null])) [eI cI 6, eI cI 6] := h
  refine lv_aload_n hx hb dn4_25 rfl (lv_at hl 0 rfl) ?_
  refine lv_bipush (v := nI 20) hx hb dn4_26 (by decide) ?_
  refine n_newIC (n := nI 20) (N := 20) (q := sz + 2) C hK h rfl (by decide) (by decide) (by decide) (Nat.le_of_ble_eq_true rfl) (Nat.le_of_ble_eq_true rfl) dn4_28 (fun H h => ?_)
  have h : CH D h0 sz s.heap H locs (.inr (4, [.null, .null, .null, .ref (sz + 0), .ref (sz + 1), .int (nI 0), .null, .null, .int 0, .null])) [eI cI 6, eI cI 6, eI cI 20] := h
  refine n_putC (ci := 4) (k := 6) (ty := .array .int) (v := .ref (sz + 2)) C hK h (by decide +kernel) rfl (by decide +kernel) rfl rfl (Nat.le_of_ble_eq_true rfl) dn4_30 (fun H locs h => ?_)
  have h : CH D h0 sz s.heap H locs (.inr (4, [.null, .null, .null, .ref (sz + 0), .ref (sz + 1), .int (nI 0), .ref (sz + 2), .null, .int 0, .null])) [eI cI 6, eI cI 6, eI cI 20] := h
  refine lv_aload_n hx hb dn4_33 rfl (lv_at hl 0 rfl) ?_
  refine lv_bipush (v := nI 20) hx hb dn4_34 (by decide) ?_
  refine n_newIC (n := nI 20) (N := 20) (q := sz + 3) C hK h rfl (by decide) (by decide) (by decide) (Nat.le_of_ble_eq_true rfl) (Nat.le_of_ble_eq_true rfl) dn4_36 (fun H h => ?_)
  have h : CH D h0 sz s.heap H locs (.inr (4, [.null, .null, .null, .ref (sz + 0), .ref (sz + 1), .int (nI 0), .ref (sz + 2), .null, .int 0, .null])) [eI cI 6, eI cI 6, eI cI 20, eI cI 20] := h
  refine n_putC (ci := 4) (k := 7) (ty := .array .int) (v := .ref (sz + 3)) C hK h (by decide +kernel) rfl (by decide +kernel) rfl rfl (Nat.le_of_ble_eq_true rfl) dn4_38 (fun H locs h => ?_)
  have h : CH D h0 sz s.heap H locs (.inr (4, [.null, .null, .null, .ref (sz + 0), .ref (sz + 1), .int (nI 0), .ref (sz + 2), .ref (sz + 3), .int 0, .null])) [eI cI 6, eI cI 6, eI cI 20, eI cI 20] := h
  refine lv_aload_n hx hb dn4_41 rfl (lv_at hl 0 rfl) ?_
  refine lv_iconst (v := nI 0) hx hb dn4_42 (by decide) ?_
  refine n_putC (ci := 4) (k := 8) (ty := .int) (v := .int (nI 0)) C hK h (by decide +kernel) rfl (by decide +kernel) rfl rfl (Nat.le_of_ble_eq_true rfl) dn4_43 (fun H locs h => ?_)
  have h : CH D h0 sz s.heap H locs (.inr (4, [.null, .null, .null, .ref (sz + 0), .ref (sz + 1), .int (nI 0), .ref (sz + 2), .ref (sz + 3), .int (nI 0), .null])) [eI cI 6, eI cI 6, eI cI 20, eI cI 20] := h
  refine lv_aload_n hx hb dn4_46 rfl (lv_at hl 0 rfl) ?_
  refine lv_bipush (v := nI 10) hx hb dn4_47 (by decide) ?_
  refine n_newIC (n := nI 10) (N := 10) (q := sz + 4) C hK h rfl (by decide) (by decide) (by decide) (Nat.le_of_ble_eq_true rfl) (Nat.le_of_ble_eq_true rfl) dn4_49 (fun H h => ?_)
  have h : CH D h0 sz s.heap H locs (.inr (4, [.null, .null, .null, .ref (sz + 0), .ref (sz + 1), .int (nI 0), .ref (sz + 2), .ref (sz + 3), .int (nI 0), .null])) [eI cI 6, eI cI 6, eI cI 20, eI cI 20, eI cI 10] := h
  refine n_putC (ci := 4) (k := 9) (ty := .array .int) (v := .ref (sz + 4)) C hK h (by decide +kernel) rfl (by decide +kernel) rfl rfl (Nat.le_of_ble_eq_true rfl) dn4_51 (fun H locs h => ?_)
  have h : CH D h0 sz s.heap H locs (.inr (4, [.null, .null, .null, .ref (sz + 0), .ref (sz + 1), .int (nI 0), .ref (sz + 2), .ref (sz + 3), .int (nI 0), .ref (sz + 4)])) [eI cI 6, eI cI 6, eI cI 20, eI cI 20, eI cI 10] := h
  refine lv_aload_n hx hb dn4_54 rfl (lv_at hl 0 rfl) ?_
  refine lv_aload_n hx hb dn4_55 rfl (lv_at hl 1 rfl) ?_
  refine n_putC (ci := 4) (k := 0) (ty := .object "GladGlasses$Coast") (v := .ref a1) C hK h (by decide +kernel) rfl (by decide +kernel) rfl rfl (Nat.le_of_ble_eq_true rfl) dn4_56 (fun H locs h => ?_)
  have h : CH D h0 sz s.heap H locs (.inr (4, [.ref a1, .null, .null, .ref (sz + 0), .ref (sz + 1), .int (nI 0), .ref (sz + 2), .ref (sz + 3), .int (nI 0), .ref (sz + 4)])) [eI cI 6, eI cI 6, eI cI 20, eI cI 20, eI cI 10] := h
  refine lv_aload_n hx hb dn4_59 rfl (lv_at hl 0 rfl) ?_
  refine lv_aload_n hx hb dn4_60 rfl (lv_at hl 2 rfl) ?_
  refine n_putC (ci := 4) (k := 1) (ty := .object "GladGlasses$State") (v := .ref a2) C hK h (by decide +kernel) rfl (by decide +kernel) rfl rfl (Nat.le_of_ble_eq_true rfl) dn4_61 (fun H locs h => ?_)
  have h : CH D h0 sz s.heap H locs (.inr (4, [.ref a1, .ref a2, .null, .ref (sz + 0), .ref (sz + 1), .int (nI 0), .ref (sz + 2), .ref (sz + 3), .int (nI 0), .ref (sz + 4)])) [eI cI 6, eI cI 6, eI cI 20, eI cI 20, eI cI 10] := h
  refine lv_aload_n hx hb dn4_64 rfl (lv_at hl 0 rfl) ?_
  refine lv_aload_n hx hb dn4_65 rfl (lv_at hl 3 rfl) ?_
  refine n_putC (ci := 4) (k := 2) (ty := .object "GladGlasses$Row") (v := .ref a3) C hK h (by decide +kernel) rfl (by decide +kernel) rfl rfl (Nat.le_of_ble_eq_true rfl) dn4_66 (fun H locs h => ?_)
  have h : CH D h0 sz s.heap H locs (.inr (4, [.ref a1, .ref a2, .ref a3, .ref (sz + 0), .ref (sz + 1), .int (nI 0), .ref (sz + 2), .ref (sz + 3), .int (nI 0), .ref (sz + 4)])) [eI cI 6, eI cI 6, eI cI 20, eI cI 20, eI cI 10] := h
  refine W.widen (k := (nL4 cI cB).length) (n := 62) (Nat.le_of_ble_eq_true rfl) (Nat.le_of_ble_eq_true rfl) ?_
  exact n_retC (L1 := nL4 cI cB) (o1 := .inr (4, no4 sz a1 a2 a3)) C h dn4_69
theorem dn5_0 : decode cX5_init 0 = .ok (.aload_n 0, 1) := by decide +kernel
theorem dn5_1 : decode cX5_init 1 = .ok (.invokespecial 3, 3) := by decide +kernel
theorem dn5_4 : decode cX5_init 4 = .ok (.aload_n 0, 1) := by decide +kernel
theorem dn5_5 : decode cX5_init 5 = .ok (.sipush 240, 3) := by decide +kernel
theorem dn5_8 : decode cX5_init 8 = .ok (.newarray .int, 2) := by decide +kernel
theorem dn5_10 : decode cX5_init 10 = .ok (.putfield 9, 3) := by decide +kernel
theorem dn5_13 : decode cX5_init 13 = .ok (.aload_n 0, 1) := by decide +kernel
theorem dn5_14 : decode cX5_init 14 = .ok (.iconst 0, 1) := by decide +kernel
theorem dn5_15 : decode cX5_init 15 = .ok (.putfield 15, 3) := by decide +kernel
theorem dn5_18 : decode cX5_init 18 = .ok (.aload_n 0, 1) := by decide +kernel
theorem dn5_19 : decode cX5_init 19 = .ok (.iconst 0, 1) := by decide +kernel
theorem dn5_20 : decode cX5_init 20 = .ok (.putfield 19, 3) := by decide +kernel
theorem dn5_23 : decode cX5_init 23 = .ok (.aload_n 0, 1) := by decide +kernel
theorem dn5_24 : decode cX5_init 24 = .ok (.iconst 0, 1) := by decide +kernel
theorem dn5_25 : decode cX5_init 25 = .ok (.putfield 22, 3) := by decide +kernel
theorem dn5_28 : decode cX5_init 28 = .ok (.aload_n 0, 1) := by decide +kernel
theorem dn5_29 : decode cX5_init 29 = .ok (.iconst (-1), 1) := by decide +kernel
theorem dn5_30 : decode cX5_init 30 = .ok (.putfield 25, 3) := by decide +kernel
theorem dn5_33 : decode cX5_init 33 = .ok (.return_, 1) := by decide +kernel
def nf5 : List Value := [.null, .int 0, .int 0, .int 0, .int 0]
def no5 (sz : Nat) : List Value := [.ref (sz + 0), .int (nI 0), .int (nI 0), .int (nI 0), .int ((-1))]
def nL5 (cI cB : ClassId) : List va_E := [eI cI 240]
set_option maxHeartbeats 4000000 in
theorem n_X5 (l : Launch) (D : va_G) (cI cB cS : ClassId) (h0 sz  : Nat) : nMet l yX5_init cX5_init 1 1 D cI cB cS h0 sz [] (.inr (5, nf5)) (.inr (5, no5 sz )) (nL5 cI cB) 240 := by
  refine nMet_in 5 (by decide +kernel) rfl rfl (Nat.le_of_ble_eq_true rfl) ?_
  intro p e s m args below meth c ls C hK hl h
  have hx := C.1
  have hb := C.2.1
  have h : CH D h0 sz s.heap s.heap [] (.inr (5, [.null, .int 0, .int 0, .int 0, .int 0])) [] := h
  refine lv_aload_n hx hb dn5_0 rfl (lv_at hl 0 rfl) ?_
  refine n_objC (ix := 3) C hl.1 (gT_at (i := 98) (by decide +kernel)) (Nat.le_of_ble_eq_true rfl) (Nat.le_of_ble_eq_true rfl) dn5_1 ?_
  refine lv_aload_n hx hb dn5_4 rfl (lv_at hl 0 rfl) ?_
  refine lv_sipush (v := nI 240) hx hb dn5_5 (by decide) ?_
  refine n_newIC (n := nI 240) (N := 240) (q := sz + 0) C hK h rfl (by decide) (by decide) (by decide) (Nat.le_of_ble_eq_true rfl) (Nat.le_of_ble_eq_true rfl) dn5_8 (fun H h => ?_)
  have h : CH D h0 sz s.heap H [] (.inr (5, [.null, .int 0, .int 0, .int 0, .int 0])) [eI cI 240] := h
  refine n_putC (ci := 5) (k := 0) (ty := .array .int) (v := .ref (sz + 0)) C hK h (by decide +kernel) rfl (by decide +kernel) rfl rfl (Nat.le_of_ble_eq_true rfl) dn5_10 (fun H locs h => ?_)
  have h : CH D h0 sz s.heap H locs (.inr (5, [.ref (sz + 0), .int 0, .int 0, .int 0, .int 0])) [eI cI 240] := h
  refine lv_aload_n hx hb dn5_13 rfl (lv_at hl 0 rfl) ?_
  refine lv_iconst (v := nI 0) hx hb dn5_14 (by decide) ?_
  refine n_putC (ci := 5) (k := 1) (ty := .int) (v := .int (nI 0)) C hK h (by decide +kernel) rfl (by decide +kernel) rfl rfl (Nat.le_of_ble_eq_true rfl) dn5_15 (fun H locs h => ?_)
  have h : CH D h0 sz s.heap H locs (.inr (5, [.ref (sz + 0), .int (nI 0), .int 0, .int 0, .int 0])) [eI cI 240] := h
  refine lv_aload_n hx hb dn5_18 rfl (lv_at hl 0 rfl) ?_
  refine lv_iconst (v := nI 0) hx hb dn5_19 (by decide) ?_
  refine n_putC (ci := 5) (k := 2) (ty := .int) (v := .int (nI 0)) C hK h (by decide +kernel) rfl (by decide +kernel) rfl rfl (Nat.le_of_ble_eq_true rfl) dn5_20 (fun H locs h => ?_)
  have h : CH D h0 sz s.heap H locs (.inr (5, [.ref (sz + 0), .int (nI 0), .int (nI 0), .int 0, .int 0])) [eI cI 240] := h
  refine lv_aload_n hx hb dn5_23 rfl (lv_at hl 0 rfl) ?_
  refine lv_iconst (v := nI 0) hx hb dn5_24 (by decide) ?_
  refine n_putC (ci := 5) (k := 3) (ty := .int) (v := .int (nI 0)) C hK h (by decide +kernel) rfl (by decide +kernel) rfl rfl (Nat.le_of_ble_eq_true rfl) dn5_25 (fun H locs h => ?_)
  have h : CH D h0 sz s.heap H locs (.inr (5, [.ref (sz + 0), .int (nI 0), .int (nI 0), .int (nI 0), .int 0])) [eI cI 240] := h
  refine lv_aload_n hx hb dn5_28 rfl (lv_at hl 0 rfl) ?_
  refine lv_iconst (v := (-1)) hx hb dn5_29 (by decide) ?_
  refine n_putC (ci := 5) (k := 4) (ty := .int) (v := .int ((-1))) C hK h (by decide +kernel) rfl (by decide +kernel) rfl rfl (Nat.le_of_ble_eq_true rfl) dn5_30 (fun H locs h => ?_)
  have h : CH D h0 sz s.heap H locs (.inr (5, [.ref (sz + 0), .int (nI 0), .int (nI 0), .int (nI 0), .int ((-1))])) [eI cI 240] := h
  refine W.widen (k := (nL5 cI cB).length) (n := 240) (Nat.le_of_ble_eq_true rfl) (Nat.le_of_ble_eq_true rfl) ?_
  exact n_retC (L1 := nL5 cI cB) (o1 := .inr (5, no5 sz)) C h dn5_33
theorem dn6_0 : decode cX6_init 0 = .ok (.aload_n 0, 1) := by decide +kernel
theorem dn6_1 : decode cX6_init 1 = .ok (.invokespecial 3, 3) := by decide +kernel
theorem dn6_4 : decode cX6_init 4 = .ok (.aload_n 0, 1) := by decide +kernel
theorem dn6_5 : decode cX6_init 5 = .ok (.aload_n 1, 1) := by decide +kernel
theorem dn6_6 : decode cX6_init 6 = .ok (.putfield 9, 3) := by decide +kernel
theorem dn6_9 : decode cX6_init 9 = .ok (.aload_n 0, 1) := by decide +kernel
theorem dn6_10 : decode cX6_init 10 = .ok (.aload_n 2, 1) := by decide +kernel
theorem dn6_11 : decode cX6_init 11 = .ok (.putfield 15, 3) := by decide +kernel
theorem dn6_14 : decode cX6_init 14 = .ok (.return_, 1) := by decide +kernel
def nf6 : List Value := [.null, .null]
def no6 (sz a1 a2 : Nat) : List Value := [.ref a1, .ref a2]
def nL6 (cI cB : ClassId) : List va_E := []
set_option maxHeartbeats 4000000 in
theorem n_X6 (l : Launch) (D : va_G) (cI cB cS : ClassId) (h0 sz a1 a2 : Nat) : nMet l yX6_init cX6_init 3 1 D cI cB cS h0 sz [.ref a1, .ref a2] (.inr (6, nf6)) (.inr (6, no6 sz a1 a2)) (nL6 cI cB) 0 := by
  refine nMet_in 6 (by decide +kernel) rfl rfl (Nat.le_of_ble_eq_true rfl) ?_
  intro p e s m args below meth c ls C hK hl h
  have hx := C.1
  have hb := C.2.1
  have h : CH D h0 sz s.heap s.heap [] (.inr (6, [.null, .null])) [] := h
  refine lv_aload_n hx hb dn6_0 rfl (lv_at hl 0 rfl) ?_
  refine n_objC (ix := 3) C hl.1 (gT_at (i := 254) (by decide +kernel)) (Nat.le_of_ble_eq_true rfl) (Nat.le_of_ble_eq_true rfl) dn6_1 ?_
  refine lv_aload_n hx hb dn6_4 rfl (lv_at hl 0 rfl) ?_
  refine lv_aload_n hx hb dn6_5 rfl (lv_at hl 1 rfl) ?_
  refine n_putC (ci := 6) (k := 0) (ty := .object "GladGlasses$Coast") (v := .ref a1) C hK h (by decide +kernel) rfl (by decide +kernel) rfl rfl (Nat.le_of_ble_eq_true rfl) dn6_6 (fun H locs h => ?_)
  have h : CH D h0 sz s.heap H locs (.inr (6, [.ref a1, .null])) [] := h
  refine lv_aload_n hx hb dn6_9 rfl (lv_at hl 0 rfl) ?_
  refine lv_aload_n hx hb dn6_10 rfl (lv_at hl 2 rfl) ?_
  refine n_putC (ci := 6) (k := 1) (ty := .object "GladGlasses$State") (v := .ref a2) C hK h (by decide +kernel) rfl (by decide +kernel) rfl rfl (Nat.le_of_ble_eq_true rfl) dn6_11 (fun H locs h => ?_)
  have h : CH D h0 sz s.heap H locs (.inr (6, [.ref a1, .ref a2])) [] := h
  refine W.widen (k := (nL6 cI cB).length) (n := 0) (Nat.le_of_ble_eq_true rfl) (Nat.le_of_ble_eq_true rfl) ?_
  exact n_retC (L1 := nL6 cI cB) (o1 := .inr (6, no6 sz a1 a2)) C h dn6_14
theorem dn7_0 : decode cX7_init 0 = .ok (.aload_n 0, 1) := by decide +kernel
theorem dn7_1 : decode cX7_init 1 = .ok (.invokespecial 3, 3) := by decide +kernel
theorem dn7_4 : decode cX7_init 4 = .ok (.aload_n 0, 1) := by decide +kernel
theorem dn7_5 : decode cX7_init 5 = .ok (.bipush 7, 2) := by decide +kernel
theorem dn7_7 : decode cX7_init 7 = .ok (.newarray .int, 2) := by decide +kernel
theorem dn7_9 : decode cX7_init 9 = .ok (.putfield 9, 3) := by decide +kernel
theorem dn7_12 : decode cX7_init 12 = .ok (.aload_n 0, 1) := by decide +kernel
theorem dn7_13 : decode cX7_init 13 = .ok (.bipush 7, 2) := by decide +kernel
theorem dn7_15 : decode cX7_init 15 = .ok (.newarray .int, 2) := by decide +kernel
theorem dn7_17 : decode cX7_init 17 = .ok (.putfield 15, 3) := by decide +kernel
theorem dn7_20 : decode cX7_init 20 = .ok (.aload_n 0, 1) := by decide +kernel
theorem dn7_21 : decode cX7_init 21 = .ok (.bipush 7, 2) := by decide +kernel
theorem dn7_23 : decode cX7_init 23 = .ok (.newarray .int, 2) := by decide +kernel
theorem dn7_25 : decode cX7_init 25 = .ok (.putfield 18, 3) := by decide +kernel
theorem dn7_28 : decode cX7_init 28 = .ok (.aload_n 0, 1) := by decide +kernel
theorem dn7_29 : decode cX7_init 29 = .ok (.iconst 5, 1) := by decide +kernel
theorem dn7_30 : decode cX7_init 30 = .ok (.newarray .int, 2) := by decide +kernel
theorem dn7_32 : decode cX7_init 32 = .ok (.putfield 21, 3) := by decide +kernel
theorem dn7_35 : decode cX7_init 35 = .ok (.aload_n 0, 1) := by decide +kernel
theorem dn7_36 : decode cX7_init 36 = .ok (.bipush 20, 2) := by decide +kernel
theorem dn7_38 : decode cX7_init 38 = .ok (.newarray .int, 2) := by decide +kernel
theorem dn7_40 : decode cX7_init 40 = .ok (.putfield 24, 3) := by decide +kernel
theorem dn7_43 : decode cX7_init 43 = .ok (.aload_n 0, 1) := by decide +kernel
theorem dn7_44 : decode cX7_init 44 = .ok (.bipush 20, 2) := by decide +kernel
theorem dn7_46 : decode cX7_init 46 = .ok (.newarray .int, 2) := by decide +kernel
theorem dn7_48 : decode cX7_init 48 = .ok (.putfield 27, 3) := by decide +kernel
theorem dn7_51 : decode cX7_init 51 = .ok (.aload_n 0, 1) := by decide +kernel
theorem dn7_52 : decode cX7_init 52 = .ok (.bipush 20, 2) := by decide +kernel
theorem dn7_54 : decode cX7_init 54 = .ok (.newarray .int, 2) := by decide +kernel
theorem dn7_56 : decode cX7_init 56 = .ok (.putfield 30, 3) := by decide +kernel
theorem dn7_59 : decode cX7_init 59 = .ok (.return_, 1) := by decide +kernel
def nf7 : List Value := [.int 0, .int 0, .int 0, .int 0, .null, .null, .null, .null, .int 0, .int 0, .null, .null, .null]
def no7 (sz : Nat) : List Value := [.int 0, .int 0, .int 0, .int 0, .ref (sz + 0), .ref (sz + 1), .ref (sz + 2), .ref (sz + 3), .int 0, .int 0, .ref (sz + 4), .ref (sz + 5), .ref (sz + 6)]
def nL7 (cI cB : ClassId) : List va_E := [eI cI 7, eI cI 7, eI cI 7, eI cI 5, eI cI 20, eI cI 20, eI cI 20]
set_option maxHeartbeats 4000000 in
theorem n_X7 (l : Launch) (D : va_G) (cI cB cS : ClassId) (h0 sz  : Nat) : nMet l yX7_init cX7_init 1 1 D cI cB cS h0 sz [] (.inr (7, nf7)) (.inr (7, no7 sz )) (nL7 cI cB) 86 := by
  refine nMet_in 7 (by decide +kernel) rfl rfl (Nat.le_of_ble_eq_true rfl) ?_
  intro p e s m args below meth c ls C hK hl h
  have hx := C.1
  have hb := C.2.1
  have h : CH D h0 sz s.heap s.heap [] (.inr (7, [.int 0, .int 0, .int 0, .int 0, .null, .null, .null, .null, .int 0, .int 0, .null, .null, .null])) [] := h
  refine lv_aload_n hx hb dn7_0 rfl (lv_at hl 0 rfl) ?_
  refine n_objC (ix := 3) C hl.1 (gT_at (i := 184) (by decide +kernel)) (Nat.le_of_ble_eq_true rfl) (Nat.le_of_ble_eq_true rfl) dn7_1 ?_
  refine lv_aload_n hx hb dn7_4 rfl (lv_at hl 0 rfl) ?_
  refine lv_bipush (v := nI 7) hx hb dn7_5 (by decide) ?_
  refine n_newIC (n := nI 7) (N := 7) (q := sz + 0) C hK h rfl (by decide) (by decide) (by decide) (Nat.le_of_ble_eq_true rfl) (Nat.le_of_ble_eq_true rfl) dn7_7 (fun H h => ?_)
  have h : CH D h0 sz s.heap H [] (.inr (7, [.int 0, .int 0, .int 0, .int 0, .null, .null, .null, .null, .int 0, .int 0, .null, .null, .null])) [eI cI 7] := h
  refine n_putC (ci := 7) (k := 4) (ty := .array .int) (v := .ref (sz + 0)) C hK h (by decide +kernel) rfl (by decide +kernel) rfl rfl (Nat.le_of_ble_eq_true rfl) dn7_9 (fun H locs h => ?_)
  have h : CH D h0 sz s.heap H locs (.inr (7, [.int 0, .int 0, .int 0, .int 0, .ref (sz + 0), .null, .null, .null, .int 0, .int 0, .null, .null, .null])) [eI cI 7] := h
  refine lv_aload_n hx hb dn7_12 rfl (lv_at hl 0 rfl) ?_
  refine lv_bipush (v := nI 7) hx hb dn7_13 (by decide) ?_
  refine n_newIC (n := nI 7) (N := 7) (q := sz + 1) C hK h rfl (by decide) (by decide) (by decide) (Nat.le_of_ble_eq_true rfl) (Nat.le_of_ble_eq_true rfl) dn7_15 (fun H h => ?_)
  have h : CH D h0 sz s.heap H locs (.inr (7, [.int 0, .int 0, .int 0, .int 0, .ref (sz + 0), .null, .null, .null, .int 0, .int 0, .null, .null, .null])) [eI cI 7, eI cI 7] := h
  refine n_putC (ci := 7) (k := 5) (ty := .array .int) (v := .ref (sz + 1)) C hK h (by decide +kernel) rfl (by decide +kernel) rfl rfl (Nat.le_of_ble_eq_true rfl) dn7_17 (fun H locs h => ?_)
  have h : CH D h0 sz s.heap H locs (.inr (7, [.int 0, .int 0, .int 0, .int 0, .ref (sz + 0), .ref (sz + 1), .null, .null, .int 0, .int 0, .null, .null, .null])) [eI cI 7, eI cI 7] := h
  refine lv_aload_n hx hb dn7_20 rfl (lv_at hl 0 rfl) ?_
  refine lv_bipush (v := nI 7) hx hb dn7_21 (by decide) ?_
  refine n_newIC (n := nI 7) (N := 7) (q := sz + 2) C hK h rfl (by decide) (by decide) (by decide) (Nat.le_of_ble_eq_true rfl) (Nat.le_of_ble_eq_true rfl) dn7_23 (fun H h => ?_)
  have h : CH D h0 sz s.heap H locs (.inr (7, [.int 0, .int 0, .int 0, .int 0, .ref (sz + 0), .ref (sz + 1), .null, .null, .int 0, .int 0, .null, .null, .null])) [eI cI 7, eI cI 7, eI cI 7] := h
  refine n_putC (ci := 7) (k := 6) (ty := .array .int) (v := .ref (sz + 2)) C hK h (by decide +kernel) rfl (by decide +kernel) rfl rfl (Nat.le_of_ble_eq_true rfl) dn7_25 (fun H locs h => ?_)
  have h : CH D h0 sz s.heap H locs (.inr (7, [.int 0, .int 0, .int 0, .int 0, .ref (sz + 0), .ref (sz + 1), .ref (sz + 2), .null, .int 0, .int 0, .null, .null, .null])) [eI cI 7, eI cI 7, eI cI 7] := h
  refine lv_aload_n hx hb dn7_28 rfl (lv_at hl 0 rfl) ?_
  refine lv_iconst (v := nI 5) hx hb dn7_29 (by decide) ?_
  refine n_newIC (n := nI 5) (N := 5) (q := sz + 3) C hK h rfl (by decide) (by decide) (by decide) (Nat.le_of_ble_eq_true rfl) (Nat.le_of_ble_eq_true rfl) dn7_30 (fun H h => ?_)
  have h : CH D h0 sz s.heap H locs (.inr (7, [.int 0, .int 0, .int 0, .int 0, .ref (sz + 0), .ref (sz + 1), .ref (sz + 2), .null, .int 0, .int 0, .null, .null, .null])) [eI cI 7, eI cI 7, eI cI 7, eI cI 5] := h
  refine n_putC (ci := 7) (k := 7) (ty := .array .int) (v := .ref (sz + 3)) C hK h (by decide +kernel) rfl (by decide +kernel) rfl rfl (Nat.le_of_ble_eq_true rfl) dn7_32 (fun H locs h => ?_)
  have h : CH D h0 sz s.heap H locs (.inr (7, [.int 0, .int 0, .int 0, .int 0, .ref (sz + 0), .ref (sz + 1), .ref (sz + 2), .ref (sz + 3), .int 0, .int 0, .null, .null, .null])) [eI cI 7, eI cI 7, eI cI 7, eI cI 5] := h
  refine lv_aload_n hx hb dn7_35 rfl (lv_at hl 0 rfl) ?_
  refine lv_bipush (v := nI 20) hx hb dn7_36 (by decide) ?_
  refine n_newIC (n := nI 20) (N := 20) (q := sz + 4) C hK h rfl (by decide) (by decide) (by decide) (Nat.le_of_ble_eq_true rfl) (Nat.le_of_ble_eq_true rfl) dn7_38 (fun H h => ?_)
  have h : CH D h0 sz s.heap H locs (.inr (7, [.int 0, .int 0, .int 0, .int 0, .ref (sz + 0), .ref (sz + 1), .ref (sz + 2), .ref (sz + 3), .int 0, .int 0, .null, .null, .null])) [eI cI 7, eI cI 7, eI cI 7, eI cI 5, eI cI 20] := h
  refine n_putC (ci := 7) (k := 10) (ty := .array .int) (v := .ref (sz + 4)) C hK h (by decide +kernel) rfl (by decide +kernel) rfl rfl (Nat.le_of_ble_eq_true rfl) dn7_40 (fun H locs h => ?_)
  have h : CH D h0 sz s.heap H locs (.inr (7, [.int 0, .int 0, .int 0, .int 0, .ref (sz + 0), .ref (sz + 1), .ref (sz + 2), .ref (sz + 3), .int 0, .int 0, .ref (sz + 4), .null, .null])) [eI cI 7, eI cI 7, eI cI 7, eI cI 5, eI cI 20] := h
  refine lv_aload_n hx hb dn7_43 rfl (lv_at hl 0 rfl) ?_
  refine lv_bipush (v := nI 20) hx hb dn7_44 (by decide) ?_
  refine n_newIC (n := nI 20) (N := 20) (q := sz + 5) C hK h rfl (by decide) (by decide) (by decide) (Nat.le_of_ble_eq_true rfl) (Nat.le_of_ble_eq_true rfl) dn7_46 (fun H h => ?_)
  have h : CH D h0 sz s.heap H locs (.inr (7, [.int 0, .int 0, .int 0, .int 0, .ref (sz + 0), .ref (sz + 1), .ref (sz + 2), .ref (sz + 3), .int 0, .int 0, .ref (sz + 4), .null, .null])) [eI cI 7, eI cI 7, eI cI 7, eI cI 5, eI cI 20, eI cI 20] := h
  refine n_putC (ci := 7) (k := 11) (ty := .array .int) (v := .ref (sz + 5)) C hK h (by decide +kernel) rfl (by decide +kernel) rfl rfl (Nat.le_of_ble_eq_true rfl) dn7_48 (fun H locs h => ?_)
  have h : CH D h0 sz s.heap H locs (.inr (7, [.int 0, .int 0, .int 0, .int 0, .ref (sz + 0), .ref (sz + 1), .ref (sz + 2), .ref (sz + 3), .int 0, .int 0, .ref (sz + 4), .ref (sz + 5), .null])) [eI cI 7, eI cI 7, eI cI 7, eI cI 5, eI cI 20, eI cI 20] := h
  refine lv_aload_n hx hb dn7_51 rfl (lv_at hl 0 rfl) ?_
  refine lv_bipush (v := nI 20) hx hb dn7_52 (by decide) ?_
  refine n_newIC (n := nI 20) (N := 20) (q := sz + 6) C hK h rfl (by decide) (by decide) (by decide) (Nat.le_of_ble_eq_true rfl) (Nat.le_of_ble_eq_true rfl) dn7_54 (fun H h => ?_)
  have h : CH D h0 sz s.heap H locs (.inr (7, [.int 0, .int 0, .int 0, .int 0, .ref (sz + 0), .ref (sz + 1), .ref (sz + 2), .ref (sz + 3), .int 0, .int 0, .ref (sz + 4), .ref (sz + 5), .null])) [eI cI 7, eI cI 7, eI cI 7, eI cI 5, eI cI 20, eI cI 20, eI cI 20] := h
  refine n_putC (ci := 7) (k := 12) (ty := .array .int) (v := .ref (sz + 6)) C hK h (by decide +kernel) rfl (by decide +kernel) rfl rfl (Nat.le_of_ble_eq_true rfl) dn7_56 (fun H locs h => ?_)
  have h : CH D h0 sz s.heap H locs (.inr (7, [.int 0, .int 0, .int 0, .int 0, .ref (sz + 0), .ref (sz + 1), .ref (sz + 2), .ref (sz + 3), .int 0, .int 0, .ref (sz + 4), .ref (sz + 5), .ref (sz + 6)])) [eI cI 7, eI cI 7, eI cI 7, eI cI 5, eI cI 20, eI cI 20, eI cI 20] := h
  refine W.widen (k := (nL7 cI cB).length) (n := 86) (Nat.le_of_ble_eq_true rfl) (Nat.le_of_ble_eq_true rfl) ?_
  exact n_retC (L1 := nL7 cI cB) (o1 := .inr (7, no7 sz)) C h dn7_59
theorem dn8_0 : decode cX8_init 0 = .ok (.aload_n 0, 1) := by decide +kernel
theorem dn8_1 : decode cX8_init 1 = .ok (.invokespecial 3, 3) := by decide +kernel
theorem dn8_4 : decode cX8_init 4 = .ok (.aload_n 0, 1) := by decide +kernel
theorem dn8_5 : decode cX8_init 5 = .ok (.bipush 84, 2) := by decide +kernel
theorem dn8_7 : decode cX8_init 7 = .ok (.newarray .int, 2) := by decide +kernel
theorem dn8_9 : decode cX8_init 9 = .ok (.putfield 9, 3) := by decide +kernel
theorem dn8_12 : decode cX8_init 12 = .ok (.aload_n 0, 1) := by decide +kernel
theorem dn8_13 : decode cX8_init 13 = .ok (.bipush 12, 2) := by decide +kernel
theorem dn8_15 : decode cX8_init 15 = .ok (.newarray .int, 2) := by decide +kernel
theorem dn8_17 : decode cX8_init 17 = .ok (.putfield 15, 3) := by decide +kernel
theorem dn8_20 : decode cX8_init 20 = .ok (.aload_n 0, 1) := by decide +kernel
theorem dn8_21 : decode cX8_init 21 = .ok (.bipush 12, 2) := by decide +kernel
theorem dn8_23 : decode cX8_init 23 = .ok (.newarray .int, 2) := by decide +kernel
theorem dn8_25 : decode cX8_init 25 = .ok (.putfield 18, 3) := by decide +kernel
theorem dn8_28 : decode cX8_init 28 = .ok (.aload_n 0, 1) := by decide +kernel
theorem dn8_29 : decode cX8_init 29 = .ok (.bipush 7, 2) := by decide +kernel
theorem dn8_31 : decode cX8_init 31 = .ok (.newarray .int, 2) := by decide +kernel
theorem dn8_33 : decode cX8_init 33 = .ok (.putfield 21, 3) := by decide +kernel
theorem dn8_36 : decode cX8_init 36 = .ok (.aload_n 0, 1) := by decide +kernel
theorem dn8_37 : decode cX8_init 37 = .ok (.bipush 7, 2) := by decide +kernel
theorem dn8_39 : decode cX8_init 39 = .ok (.newarray .int, 2) := by decide +kernel
theorem dn8_41 : decode cX8_init 41 = .ok (.putfield 24, 3) := by decide +kernel
theorem dn8_44 : decode cX8_init 44 = .ok (.aload_n 0, 1) := by decide +kernel
theorem dn8_45 : decode cX8_init 45 = .ok (.iconst 0, 1) := by decide +kernel
theorem dn8_46 : decode cX8_init 46 = .ok (.putfield 27, 3) := by decide +kernel
theorem dn8_49 : decode cX8_init 49 = .ok (.aload_n 0, 1) := by decide +kernel
theorem dn8_50 : decode cX8_init 50 = .ok (.bipush 10, 2) := by decide +kernel
theorem dn8_52 : decode cX8_init 52 = .ok (.newarray .int, 2) := by decide +kernel
theorem dn8_54 : decode cX8_init 54 = .ok (.putfield 31, 3) := by decide +kernel
theorem dn8_57 : decode cX8_init 57 = .ok (.aload_n 0, 1) := by decide +kernel
theorem dn8_58 : decode cX8_init 58 = .ok (.sipush 568, 3) := by decide +kernel
theorem dn8_61 : decode cX8_init 61 = .ok (.newarray .int, 2) := by decide +kernel
theorem dn8_63 : decode cX8_init 63 = .ok (.putfield 34, 3) := by decide +kernel
theorem dn8_66 : decode cX8_init 66 = .ok (.aload_n 0, 1) := by decide +kernel
theorem dn8_67 : decode cX8_init 67 = .ok (.sipush 568, 3) := by decide +kernel
theorem dn8_70 : decode cX8_init 70 = .ok (.newarray .int, 2) := by decide +kernel
theorem dn8_72 : decode cX8_init 72 = .ok (.putfield 37, 3) := by decide +kernel
theorem dn8_75 : decode cX8_init 75 = .ok (.aload_n 0, 1) := by decide +kernel
theorem dn8_76 : decode cX8_init 76 = .ok (.aload_n 1, 1) := by decide +kernel
theorem dn8_77 : decode cX8_init 77 = .ok (.putfield 40, 3) := by decide +kernel
theorem dn8_80 : decode cX8_init 80 = .ok (.aload_n 0, 1) := by decide +kernel
theorem dn8_81 : decode cX8_init 81 = .ok (.aload_n 2, 1) := by decide +kernel
theorem dn8_82 : decode cX8_init 82 = .ok (.putfield 44, 3) := by decide +kernel
theorem dn8_85 : decode cX8_init 85 = .ok (.aload_n 0, 1) := by decide +kernel
theorem dn8_86 : decode cX8_init 86 = .ok (.aload_n 3, 1) := by decide +kernel
theorem dn8_87 : decode cX8_init 87 = .ok (.putfield 48, 3) := by decide +kernel
theorem dn8_90 : decode cX8_init 90 = .ok (.return_, 1) := by decide +kernel
def nf8 : List Value := [.null, .null, .null, .null, .null, .null, .null, .null, .int 0, .null, .null, .null]
def no8 (sz a1 a2 a3 : Nat) : List Value := [.ref a1, .ref a2, .ref a3, .ref (sz + 0), .ref (sz + 1), .ref (sz + 2), .ref (sz + 3), .ref (sz + 4), .int (nI 0), .ref (sz + 5), .ref (sz + 6), .ref (sz + 7)]
def nL8 (cI cB : ClassId) : List va_E := [eI cI 84, eI cI 12, eI cI 12, eI cI 7, eI cI 7, eI cI 10, eI cI 568, eI cI 568]
set_option maxHeartbeats 4000000 in
theorem n_X8 (l : Launch) (D : va_G) (cI cB cS : ClassId) (h0 sz a1 a2 a3 : Nat) : nMet l yX8_init cX8_init 4 1 D cI cB cS h0 sz [.ref a1, .ref a2, .ref a3] (.inr (8, nf8)) (.inr (8, no8 sz a1 a2 a3)) (nL8 cI cB) 1268 := by
  refine nMet_in 8 (by decide +kernel) rfl rfl (Nat.le_of_ble_eq_true rfl) ?_
  intro p e s m args below meth c ls C hK hl h
  have hx := C.1
  have hb := C.2.1
  have h : CH D h0 sz s.heap s.heap [] (.inr (8, [.null, .null, .null, .null, .null, .null, .null, .null, .int 0, .null, .null, .null])) [] := h
  refine lv_aload_n hx hb dn8_0 rfl (lv_at hl 0 rfl) ?_
  refine n_objC (ix := 3) C hl.1 (gT_at (i := 297) (by decide +kernel)) (Nat.le_of_ble_eq_true rfl) (Nat.le_of_ble_eq_true rfl) dn8_1 ?_
  refine lv_aload_n hx hb dn8_4 rfl (lv_at hl 0 rfl) ?_
  refine lv_bipush (v := nI 84) hx hb dn8_5 (by decide) ?_
  refine n_newIC (n := nI 84) (N := 84) (q := sz + 0) C hK h rfl (by decide) (by decide) (by decide) (Nat.le_of_ble_eq_true rfl) (Nat.le_of_ble_eq_true rfl) dn8_7 (fun H h => ?_)
  have h : CH D h0 sz s.heap H [] (.inr (8, [.null, .null, .null, .null, .null, .null, .null, .null, .int 0, .null, .null, .null])) [eI cI 84] := h
  refine n_putC (ci := 8) (k := 3) (ty := .array .int) (v := .ref (sz + 0)) C hK h (by decide +kernel) rfl (by decide +kernel) rfl rfl (Nat.le_of_ble_eq_true rfl) dn8_9 (fun H locs h => ?_)
  have h : CH D h0 sz s.heap H locs (.inr (8, [.null, .null, .null, .ref (sz + 0), .null, .null, .null, .null, .int 0, .null, .null, .null])) [eI cI 84] := h
  refine lv_aload_n hx hb dn8_12 rfl (lv_at hl 0 rfl) ?_
  refine lv_bipush (v := nI 12) hx hb dn8_13 (by decide) ?_
  refine n_newIC (n := nI 12) (N := 12) (q := sz + 1) C hK h rfl (by decide) (by decide) (by decide) (Nat.le_of_ble_eq_true rfl) (Nat.le_of_ble_eq_true rfl) dn8_15 (fun H h => ?_)
  have h : CH D h0 sz s.heap H locs (.inr (8, [.null, .null, .null, .ref (sz + 0), .null, .null, .null, .null, .int 0, .null, .null, .null])) [eI cI 84, eI cI 12] := h
  refine n_putC (ci := 8) (k := 4) (ty := .array .int) (v := .ref (sz + 1)) C hK h (by decide +kernel) rfl (by decide +kernel) rfl rfl (Nat.le_of_ble_eq_true rfl) dn8_17 (fun H locs h => ?_)
  have h : CH D h0 sz s.heap H locs (.inr (8, [.null, .null, .null, .ref (sz + 0), .ref (sz + 1), .null, .null, .null, .int 0, .null, .null, .null])) [eI cI 84, eI cI 12] := h
  refine lv_aload_n hx hb dn8_20 rfl (lv_at hl 0 rfl) ?_
  refine lv_bipush (v := nI 12) hx hb dn8_21 (by decide) ?_
  refine n_newIC (n := nI 12) (N := 12) (q := sz + 2) C hK h rfl (by decide) (by decide) (by decide) (Nat.le_of_ble_eq_true rfl) (Nat.le_of_ble_eq_true rfl) dn8_23 (fun H h => ?_)
  have h : CH D h0 sz s.heap H locs (.inr (8, [.null, .null, .null, .ref (sz + 0), .ref (sz + 1), .null, .null, .null, .int 0, .null, .null, .null])) [eI cI 84, eI cI 12, eI cI 12] := h
  refine n_putC (ci := 8) (k := 5) (ty := .array .int) (v := .ref (sz + 2)) C hK h (by decide +kernel) rfl (by decide +kernel) rfl rfl (Nat.le_of_ble_eq_true rfl) dn8_25 (fun H locs h => ?_)
  have h : CH D h0 sz s.heap H locs (.inr (8, [.null, .null, .null, .ref (sz + 0), .ref (sz + 1), .ref (sz + 2), .null, .null, .int 0, .null, .null, .null])) [eI cI 84, eI cI 12, eI cI 12] := h
  refine lv_aload_n hx hb dn8_28 rfl (lv_at hl 0 rfl) ?_
  refine lv_bipush (v := nI 7) hx hb dn8_29 (by decide) ?_
  refine n_newIC (n := nI 7) (N := 7) (q := sz + 3) C hK h rfl (by decide) (by decide) (by decide) (Nat.le_of_ble_eq_true rfl) (Nat.le_of_ble_eq_true rfl) dn8_31 (fun H h => ?_)
  have h : CH D h0 sz s.heap H locs (.inr (8, [.null, .null, .null, .ref (sz + 0), .ref (sz + 1), .ref (sz + 2), .null, .null, .int 0, .null, .null, .null])) [eI cI 84, eI cI 12, eI cI 12, eI cI 7] := h
  refine n_putC (ci := 8) (k := 6) (ty := .array .int) (v := .ref (sz + 3)) C hK h (by decide +kernel) rfl (by decide +kernel) rfl rfl (Nat.le_of_ble_eq_true rfl) dn8_33 (fun H locs h => ?_)
  have h : CH D h0 sz s.heap H locs (.inr (8, [.null, .null, .null, .ref (sz + 0), .ref (sz + 1), .ref (sz + 2), .ref (sz + 3), .null, .int 0, .null, .null, .null])) [eI cI 84, eI cI 12, eI cI 12, eI cI 7] := h
  refine lv_aload_n hx hb dn8_36 rfl (lv_at hl 0 rfl) ?_
  refine lv_bipush (v := nI 7) hx hb dn8_37 (by decide) ?_
  refine n_newIC (n := nI 7) (N := 7) (q := sz + 4) C hK h rfl (by decide) (by decide) (by decide) (Nat.le_of_ble_eq_true rfl) (Nat.le_of_ble_eq_true rfl) dn8_39 (fun H h => ?_)
  have h : CH D h0 sz s.heap H locs (.inr (8, [.null, .null, .null, .ref (sz + 0), .ref (sz + 1), .ref (sz + 2), .ref (sz + 3), .null, .int 0, .null, .null, .null])) [eI cI 84, eI cI 12, eI cI 12, eI cI 7, eI cI 7] := h
  refine n_putC (ci := 8) (k := 7) (ty := .array .int) (v := .ref (sz + 4)) C hK h (by decide +kernel) rfl (by decide +kernel) rfl rfl (Nat.le_of_ble_eq_true rfl) dn8_41 (fun H locs h => ?_)
  have h : CH D h0 sz s.heap H locs (.inr (8, [.null, .null, .null, .ref (sz + 0), .ref (sz + 1), .ref (sz + 2), .ref (sz + 3), .ref (sz + 4), .int 0, .null, .null, .null])) [eI cI 84, eI cI 12, eI cI 12, eI cI 7, eI cI 7] := h
  refine lv_aload_n hx hb dn8_44 rfl (lv_at hl 0 rfl) ?_
  refine lv_iconst (v := nI 0) hx hb dn8_45 (by decide) ?_
  refine n_putC (ci := 8) (k := 8) (ty := .int) (v := .int (nI 0)) C hK h (by decide +kernel) rfl (by decide +kernel) rfl rfl (Nat.le_of_ble_eq_true rfl) dn8_46 (fun H locs h => ?_)
  have h : CH D h0 sz s.heap H locs (.inr (8, [.null, .null, .null, .ref (sz + 0), .ref (sz + 1), .ref (sz + 2), .ref (sz + 3), .ref (sz + 4), .int (nI 0), .null, .null, .null])) [eI cI 84, eI cI 12, eI cI 12, eI cI 7, eI cI 7] := h
  refine lv_aload_n hx hb dn8_49 rfl (lv_at hl 0 rfl) ?_
  refine lv_bipush (v := nI 10) hx hb dn8_50 (by decide) ?_
  refine n_newIC (n := nI 10) (N := 10) (q := sz + 5) C hK h rfl (by decide) (by decide) (by decide) (Nat.le_of_ble_eq_true rfl) (Nat.le_of_ble_eq_true rfl) dn8_52 (fun H h => ?_)
  have h : CH D h0 sz s.heap H locs (.inr (8, [.null, .null, .null, .ref (sz + 0), .ref (sz + 1), .ref (sz + 2), .ref (sz + 3), .ref (sz + 4), .int (nI 0), .null, .null, .null])) [eI cI 84, eI cI 12, eI cI 12, eI cI 7, eI cI 7, eI cI 10] := h
  refine n_putC (ci := 8) (k := 9) (ty := .array .int) (v := .ref (sz + 5)) C hK h (by decide +kernel) rfl (by decide +kernel) rfl rfl (Nat.le_of_ble_eq_true rfl) dn8_54 (fun H locs h => ?_)
  have h : CH D h0 sz s.heap H locs (.inr (8, [.null, .null, .null, .ref (sz + 0), .ref (sz + 1), .ref (sz + 2), .ref (sz + 3), .ref (sz + 4), .int (nI 0), .ref (sz + 5), .null, .null])) [eI cI 84, eI cI 12, eI cI 12, eI cI 7, eI cI 7, eI cI 10] := h
  refine lv_aload_n hx hb dn8_57 rfl (lv_at hl 0 rfl) ?_
  refine lv_sipush (v := nI 568) hx hb dn8_58 (by decide) ?_
  refine n_newIC (n := nI 568) (N := 568) (q := sz + 6) C hK h rfl (by decide) (by decide) (by decide) (Nat.le_of_ble_eq_true rfl) (Nat.le_of_ble_eq_true rfl) dn8_61 (fun H h => ?_)
  have h : CH D h0 sz s.heap H locs (.inr (8, [.null, .null, .null, .ref (sz + 0), .ref (sz + 1), .ref (sz + 2), .ref (sz + 3), .ref (sz + 4), .int (nI 0), .ref (sz + 5), .null, .null])) [eI cI 84, eI cI 12, eI cI 12, eI cI 7, eI cI 7, eI cI 10, eI cI 568] := h
  refine n_putC (ci := 8) (k := 10) (ty := .array .int) (v := .ref (sz + 6)) C hK h (by decide +kernel) rfl (by decide +kernel) rfl rfl (Nat.le_of_ble_eq_true rfl) dn8_63 (fun H locs h => ?_)
  have h : CH D h0 sz s.heap H locs (.inr (8, [.null, .null, .null, .ref (sz + 0), .ref (sz + 1), .ref (sz + 2), .ref (sz + 3), .ref (sz + 4), .int (nI 0), .ref (sz + 5), .ref (sz + 6), .null])) [eI cI 84, eI cI 12, eI cI 12, eI cI 7, eI cI 7, eI cI 10, eI cI 568] := h
  refine lv_aload_n hx hb dn8_66 rfl (lv_at hl 0 rfl) ?_
  refine lv_sipush (v := nI 568) hx hb dn8_67 (by decide) ?_
  refine n_newIC (n := nI 568) (N := 568) (q := sz + 7) C hK h rfl (by decide) (by decide) (by decide) (Nat.le_of_ble_eq_true rfl) (Nat.le_of_ble_eq_true rfl) dn8_70 (fun H h => ?_)
  have h : CH D h0 sz s.heap H locs (.inr (8, [.null, .null, .null, .ref (sz + 0), .ref (sz + 1), .ref (sz + 2), .ref (sz + 3), .ref (sz + 4), .int (nI 0), .ref (sz + 5), .ref (sz + 6), .null])) [eI cI 84, eI cI 12, eI cI 12, eI cI 7, eI cI 7, eI cI 10, eI cI 568, eI cI 568] := h
  refine n_putC (ci := 8) (k := 11) (ty := .array .int) (v := .ref (sz + 7)) C hK h (by decide +kernel) rfl (by decide +kernel) rfl rfl (Nat.le_of_ble_eq_true rfl) dn8_72 (fun H locs h => ?_)
  have h : CH D h0 sz s.heap H locs (.inr (8, [.null, .null, .null, .ref (sz + 0), .ref (sz + 1), .ref (sz + 2), .ref (sz + 3), .ref (sz + 4), .int (nI 0), .ref (sz + 5), .ref (sz + 6), .ref (sz + 7)])) [eI cI 84, eI cI 12, eI cI 12, eI cI 7, eI cI 7, eI cI 10, eI cI 568, eI cI 568] := h
  refine lv_aload_n hx hb dn8_75 rfl (lv_at hl 0 rfl) ?_
  refine lv_aload_n hx hb dn8_76 rfl (lv_at hl 1 rfl) ?_
  refine n_putC (ci := 8) (k := 0) (ty := .object "GladGlasses$Coast") (v := .ref a1) C hK h (by decide +kernel) rfl (by decide +kernel) rfl rfl (Nat.le_of_ble_eq_true rfl) dn8_77 (fun H locs h => ?_)
  have h : CH D h0 sz s.heap H locs (.inr (8, [.ref a1, .null, .null, .ref (sz + 0), .ref (sz + 1), .ref (sz + 2), .ref (sz + 3), .ref (sz + 4), .int (nI 0), .ref (sz + 5), .ref (sz + 6), .ref (sz + 7)])) [eI cI 84, eI cI 12, eI cI 12, eI cI 7, eI cI 7, eI cI 10, eI cI 568, eI cI 568] := h
  refine lv_aload_n hx hb dn8_80 rfl (lv_at hl 0 rfl) ?_
  refine lv_aload_n hx hb dn8_81 rfl (lv_at hl 2 rfl) ?_
  refine n_putC (ci := 8) (k := 1) (ty := .object "GladGlasses$State") (v := .ref a2) C hK h (by decide +kernel) rfl (by decide +kernel) rfl rfl (Nat.le_of_ble_eq_true rfl) dn8_82 (fun H locs h => ?_)
  have h : CH D h0 sz s.heap H locs (.inr (8, [.ref a1, .ref a2, .null, .ref (sz + 0), .ref (sz + 1), .ref (sz + 2), .ref (sz + 3), .ref (sz + 4), .int (nI 0), .ref (sz + 5), .ref (sz + 6), .ref (sz + 7)])) [eI cI 84, eI cI 12, eI cI 12, eI cI 7, eI cI 7, eI cI 10, eI cI 568, eI cI 568] := h
  refine lv_aload_n hx hb dn8_85 rfl (lv_at hl 0 rfl) ?_
  refine lv_aload_n hx hb dn8_86 rfl (lv_at hl 3 rfl) ?_
  refine n_putC (ci := 8) (k := 2) (ty := .object "GladGlasses$Row") (v := .ref a3) C hK h (by decide +kernel) rfl (by decide +kernel) rfl rfl (Nat.le_of_ble_eq_true rfl) dn8_87 (fun H locs h => ?_)
  have h : CH D h0 sz s.heap H locs (.inr (8, [.ref a1, .ref a2, .ref a3, .ref (sz + 0), .ref (sz + 1), .ref (sz + 2), .ref (sz + 3), .ref (sz + 4), .int (nI 0), .ref (sz + 5), .ref (sz + 6), .ref (sz + 7)])) [eI cI 84, eI cI 12, eI cI 12, eI cI 7, eI cI 7, eI cI 10, eI cI 568, eI cI 568] := h
  refine W.widen (k := (nL8 cI cB).length) (n := 1268) (Nat.le_of_ble_eq_true rfl) (Nat.le_of_ble_eq_true rfl) ?_
  exact n_retC (L1 := nL8 cI cB) (o1 := .inr (8, no8 sz a1 a2 a3)) C h dn8_90
theorem dn10_0 : decode cX10_init 0 = .ok (.aload_n 0, 1) := by decide +kernel
theorem dn10_1 : decode cX10_init 1 = .ok (.invokespecial 1, 3) := by decide +kernel
theorem dn10_4 : decode cX10_init 4 = .ok (.aload_n 0, 1) := by decide +kernel
theorem dn10_5 : decode cX10_init 5 = .ok (.sipush 3128, 3) := by decide +kernel
theorem dn10_8 : decode cX10_init 8 = .ok (.newarray .int, 2) := by decide +kernel
theorem dn10_10 : decode cX10_init 10 = .ok (.putfield 7, 3) := by decide +kernel
theorem dn10_13 : decode cX10_init 13 = .ok (.aload_n 0, 1) := by decide +kernel
theorem dn10_14 : decode cX10_init 14 = .ok (.iconst 2, 1) := by decide +kernel
theorem dn10_15 : decode cX10_init 15 = .ok (.newarray .boolean, 2) := by decide +kernel
theorem dn10_17 : decode cX10_init 17 = .ok (.putfield 13, 3) := by decide +kernel
theorem dn10_20 : decode cX10_init 20 = .ok (.aload_n 0, 1) := by decide +kernel
theorem dn10_21 : decode cX10_init 21 = .ok (.bipush 24, 2) := by decide +kernel
theorem dn10_23 : decode cX10_init 23 = .ok (.newarray .int, 2) := by decide +kernel
theorem dn10_25 : decode cX10_init 25 = .ok (.putfield 17, 3) := by decide +kernel
theorem dn10_28 : decode cX10_init 28 = .ok (.aload_n 0, 1) := by decide +kernel
theorem dn10_29 : decode cX10_init 29 = .ok (.bipush 14, 2) := by decide +kernel
theorem dn10_31 : decode cX10_init 31 = .ok (.newarray .int, 2) := by decide +kernel
theorem dn10_33 : decode cX10_init 33 = .ok (.putfield 20, 3) := by decide +kernel
theorem dn10_36 : decode cX10_init 36 = .ok (.aload_n 0, 1) := by decide +kernel
theorem dn10_37 : decode cX10_init 37 = .ok (.bipush 14, 2) := by decide +kernel
theorem dn10_39 : decode cX10_init 39 = .ok (.newarray .int, 2) := by decide +kernel
theorem dn10_41 : decode cX10_init 41 = .ok (.putfield 23, 3) := by decide +kernel
theorem dn10_44 : decode cX10_init 44 = .ok (.aload_n 0, 1) := by decide +kernel
theorem dn10_45 : decode cX10_init 45 = .ok (.bipush 10, 2) := by decide +kernel
theorem dn10_47 : decode cX10_init 47 = .ok (.newarray .int, 2) := by decide +kernel
theorem dn10_49 : decode cX10_init 49 = .ok (.putfield 26, 3) := by decide +kernel
theorem dn10_52 : decode cX10_init 52 = .ok (.aload_n 0, 1) := by decide +kernel
theorem dn10_53 : decode cX10_init 53 = .ok (.bipush 10, 2) := by decide +kernel
theorem dn10_55 : decode cX10_init 55 = .ok (.newarray .int, 2) := by decide +kernel
theorem dn10_57 : decode cX10_init 57 = .ok (.putfield 29, 3) := by decide +kernel
theorem dn10_60 : decode cX10_init 60 = .ok (.aload_n 0, 1) := by decide +kernel
theorem dn10_61 : decode cX10_init 61 = .ok (.sipush 240, 3) := by decide +kernel
theorem dn10_64 : decode cX10_init 64 = .ok (.newarray .int, 2) := by decide +kernel
theorem dn10_66 : decode cX10_init 66 = .ok (.putfield 32, 3) := by decide +kernel
theorem dn10_69 : decode cX10_init 69 = .ok (.aload_n 0, 1) := by decide +kernel
theorem dn10_70 : decode cX10_init 70 = .ok (.iconst (-1), 1) := by decide +kernel
theorem dn10_71 : decode cX10_init 71 = .ok (.putfield 35, 3) := by decide +kernel
theorem dn10_74 : decode cX10_init 74 = .ok (.aload_n 0, 1) := by decide +kernel
theorem dn10_75 : decode cX10_init 75 = .ok (.bipush 14, 2) := by decide +kernel
theorem dn10_77 : decode cX10_init 77 = .ok (.newarray .int, 2) := by decide +kernel
theorem dn10_79 : decode cX10_init 79 = .ok (.putfield 39, 3) := by decide +kernel
theorem dn10_82 : decode cX10_init 82 = .ok (.aload_n 0, 1) := by decide +kernel
theorem dn10_83 : decode cX10_init 83 = .ok (.bipush 14, 2) := by decide +kernel
theorem dn10_85 : decode cX10_init 85 = .ok (.newarray .int, 2) := by decide +kernel
theorem dn10_87 : decode cX10_init 87 = .ok (.putfield 42, 3) := by decide +kernel
theorem dn10_90 : decode cX10_init 90 = .ok (.aload_n 0, 1) := by decide +kernel
theorem dn10_91 : decode cX10_init 91 = .ok (.bipush 84, 2) := by decide +kernel
theorem dn10_93 : decode cX10_init 93 = .ok (.newarray .int, 2) := by decide +kernel
theorem dn10_95 : decode cX10_init 95 = .ok (.putfield 45, 3) := by decide +kernel
theorem dn10_98 : decode cX10_init 98 = .ok (.aload_n 0, 1) := by decide +kernel
theorem dn10_99 : decode cX10_init 99 = .ok (.sipush 568, 3) := by decide +kernel
theorem dn10_102 : decode cX10_init 102 = .ok (.newarray .int, 2) := by decide +kernel
theorem dn10_104 : decode cX10_init 104 = .ok (.putfield 48, 3) := by decide +kernel
theorem dn10_107 : decode cX10_init 107 = .ok (.aload_n 0, 1) := by decide +kernel
theorem dn10_108 : decode cX10_init 108 = .ok (.sipush 568, 3) := by decide +kernel
theorem dn10_111 : decode cX10_init 111 = .ok (.newarray .int, 2) := by decide +kernel
theorem dn10_113 : decode cX10_init 113 = .ok (.putfield 51, 3) := by decide +kernel
theorem dn10_116 : decode cX10_init 116 = .ok (.aload_n 0, 1) := by decide +kernel
theorem dn10_117 : decode cX10_init 117 = .ok (.bipush 6, 2) := by decide +kernel
theorem dn10_119 : decode cX10_init 119 = .ok (.newarray .int, 2) := by decide +kernel
theorem dn10_121 : decode cX10_init 121 = .ok (.putfield 54, 3) := by decide +kernel
theorem dn10_124 : decode cX10_init 124 = .ok (.aload_n 0, 1) := by decide +kernel
theorem dn10_125 : decode cX10_init 125 = .ok (.bipush 6, 2) := by decide +kernel
theorem dn10_127 : decode cX10_init 127 = .ok (.newarray .int, 2) := by decide +kernel
theorem dn10_129 : decode cX10_init 129 = .ok (.putfield 57, 3) := by decide +kernel
theorem dn10_132 : decode cX10_init 132 = .ok (.aload_n 0, 1) := by decide +kernel
theorem dn10_133 : decode cX10_init 133 = .ok (.bipush 20, 2) := by decide +kernel
theorem dn10_135 : decode cX10_init 135 = .ok (.newarray .int, 2) := by decide +kernel
theorem dn10_137 : decode cX10_init 137 = .ok (.putfield 60, 3) := by decide +kernel
theorem dn10_140 : decode cX10_init 140 = .ok (.aload_n 0, 1) := by decide +kernel
theorem dn10_141 : decode cX10_init 141 = .ok (.bipush 20, 2) := by decide +kernel
theorem dn10_143 : decode cX10_init 143 = .ok (.newarray .int, 2) := by decide +kernel
theorem dn10_145 : decode cX10_init 145 = .ok (.putfield 63, 3) := by decide +kernel
theorem dn10_148 : decode cX10_init 148 = .ok (.return_, 1) := by decide +kernel
def nf10 : List Value := [.null, .null, .null, .null, .null, .null, .null, .int 0, .int 0, .int 0, .int 0, .int 0, .int 0, .int 0, .int 0, .int 0, .null, .int 0, .int 0, .int 0, .int 0, .int 0, .int 0, .null, .null, .null, .null, .null, .null, .null, .int 0, .null, .null, .int 0]
def no10 (sz : Nat) : List Value := [.ref (sz + 0), .ref (sz + 1), .ref (sz + 2), .ref (sz + 3), .ref (sz + 4), .ref (sz + 5), .ref (sz + 6), .int 0, .int 0, .int 0, .int 0, .int 0, .int 0, .int 0, .int 0, .int 0, .ref (sz + 7), .int 0, .int 0, .int 0, .int 0, .int ((-1)), .int 0, .ref (sz + 8), .ref (sz + 9), .ref (sz + 10), .ref (sz + 11), .ref (sz + 12), .ref (sz + 13), .ref (sz + 14), .int 0, .ref (sz + 15), .ref (sz + 16), .int 0]
def nL10 (cI cB : ClassId) : List va_E := [eI cI 3128, eI cB 2, eI cI 24, eI cI 14, eI cI 14, eI cI 10, eI cI 10, eI cI 240, eI cI 14, eI cI 14, eI cI 84, eI cI 568, eI cI 568, eI cI 6, eI cI 6, eI cI 20, eI cI 20]
set_option maxHeartbeats 4000000 in
theorem n_X10 (l : Launch) (D : va_G) (cI cB cS : ClassId) (h0 sz  : Nat) : nMet l yX10_init cX10_init 1 1 D cI cB cS h0 sz [] (.inr (10, nf10)) (.inr (10, no10 sz )) (nL10 cI cB) 4742 := by
  refine nMet_in 10 (by decide +kernel) rfl rfl (Nat.le_of_ble_eq_true rfl) ?_
  intro p e s m args below meth c ls C hK hl h
  have hx := C.1
  have hb := C.2.1
  have h : CH D h0 sz s.heap s.heap [] (.inr (10, [.null, .null, .null, .null, .null, .null, .null, .int 0, .int 0, .int 0, .int 0, .int 0, .int 0, .int 0, .int 0, .int 0, .null, .int 0, .int 0, .int 0, .int 0, .int 0, .int 0, .null, .null, .null, .null, .null, .null, .null, .int 0, .null, .null, .int 0])) [] := h
  refine lv_aload_n hx hb dn10_0 rfl (lv_at hl 0 rfl) ?_
  refine n_objC (ix := 1) C hl.1 (gT_at (i := 1017) (by decide +kernel)) (Nat.le_of_ble_eq_true rfl) (Nat.le_of_ble_eq_true rfl) dn10_1 ?_
  refine lv_aload_n hx hb dn10_4 rfl (lv_at hl 0 rfl) ?_
  refine lv_sipush (v := nI 3128) hx hb dn10_5 (by decide) ?_
  refine n_newIC (n := nI 3128) (N := 3128) (q := sz + 0) C hK h rfl (by decide) (by decide) (by decide) (Nat.le_of_ble_eq_true rfl) (Nat.le_of_ble_eq_true rfl) dn10_8 (fun H h => ?_)
  have h : CH D h0 sz s.heap H [] (.inr (10, [.null, .null, .null, .null, .null, .null, .null, .int 0, .int 0, .int 0, .int 0, .int 0, .int 0, .int 0, .int 0, .int 0, .null, .int 0, .int 0, .int 0, .int 0, .int 0, .int 0, .null, .null, .null, .null, .null, .null, .null, .int 0, .null, .null, .int 0])) [eI cI 3128] := h
  refine n_putC (ci := 10) (k := 0) (ty := .array .int) (v := .ref (sz + 0)) C hK h (by decide +kernel) rfl (by decide +kernel) rfl rfl (Nat.le_of_ble_eq_true rfl) dn10_10 (fun H locs h => ?_)
  have h : CH D h0 sz s.heap H locs (.inr (10, [.ref (sz + 0), .null, .null, .null, .null, .null, .null, .int 0, .int 0, .int 0, .int 0, .int 0, .int 0, .int 0, .int 0, .int 0, .null, .int 0, .int 0, .int 0, .int 0, .int 0, .int 0, .null, .null, .null, .null, .null, .null, .null, .int 0, .null, .null, .int 0])) [eI cI 3128] := h
  refine lv_aload_n hx hb dn10_13 rfl (lv_at hl 0 rfl) ?_
  refine lv_iconst (v := nI 2) hx hb dn10_14 (by decide) ?_
  refine n_newBC (n := nI 2) (N := 2) (q := sz + 1) C hK h rfl (by decide) (by decide) (by decide) (Nat.le_of_ble_eq_true rfl) (Nat.le_of_ble_eq_true rfl) dn10_15 (fun H h => ?_)
  have h : CH D h0 sz s.heap H locs (.inr (10, [.ref (sz + 0), .null, .null, .null, .null, .null, .null, .int 0, .int 0, .int 0, .int 0, .int 0, .int 0, .int 0, .int 0, .int 0, .null, .int 0, .int 0, .int 0, .int 0, .int 0, .int 0, .null, .null, .null, .null, .null, .null, .null, .int 0, .null, .null, .int 0])) [eI cI 3128, eI cB 2] := h
  refine n_putC (ci := 10) (k := 1) (ty := .array .boolean) (v := .ref (sz + 1)) C hK h (by decide +kernel) rfl (by decide +kernel) rfl rfl (Nat.le_of_ble_eq_true rfl) dn10_17 (fun H locs h => ?_)
  have h : CH D h0 sz s.heap H locs (.inr (10, [.ref (sz + 0), .ref (sz + 1), .null, .null, .null, .null, .null, .int 0, .int 0, .int 0, .int 0, .int 0, .int 0, .int 0, .int 0, .int 0, .null, .int 0, .int 0, .int 0, .int 0, .int 0, .int 0, .null, .null, .null, .null, .null, .null, .null, .int 0, .null, .null, .int 0])) [eI cI 3128, eI cB 2] := h
  refine lv_aload_n hx hb dn10_20 rfl (lv_at hl 0 rfl) ?_
  refine lv_bipush (v := nI 24) hx hb dn10_21 (by decide) ?_
  refine n_newIC (n := nI 24) (N := 24) (q := sz + 2) C hK h rfl (by decide) (by decide) (by decide) (Nat.le_of_ble_eq_true rfl) (Nat.le_of_ble_eq_true rfl) dn10_23 (fun H h => ?_)
  have h : CH D h0 sz s.heap H locs (.inr (10, [.ref (sz + 0), .ref (sz + 1), .null, .null, .null, .null, .null, .int 0, .int 0, .int 0, .int 0, .int 0, .int 0, .int 0, .int 0, .int 0, .null, .int 0, .int 0, .int 0, .int 0, .int 0, .int 0, .null, .null, .null, .null, .null, .null, .null, .int 0, .null, .null, .int 0])) [eI cI 3128, eI cB 2, eI cI 24] := h
  refine n_putC (ci := 10) (k := 2) (ty := .array .int) (v := .ref (sz + 2)) C hK h (by decide +kernel) rfl (by decide +kernel) rfl rfl (Nat.le_of_ble_eq_true rfl) dn10_25 (fun H locs h => ?_)
  have h : CH D h0 sz s.heap H locs (.inr (10, [.ref (sz + 0), .ref (sz + 1), .ref (sz + 2), .null, .null, .null, .null, .int 0, .int 0, .int 0, .int 0, .int 0, .int 0, .int 0, .int 0, .int 0, .null, .int 0, .int 0, .int 0, .int 0, .int 0, .int 0, .null, .null, .null, .null, .null, .null, .null, .int 0, .null, .null, .int 0])) [eI cI 3128, eI cB 2, eI cI 24] := h
  refine lv_aload_n hx hb dn10_28 rfl (lv_at hl 0 rfl) ?_
  refine lv_bipush (v := nI 14) hx hb dn10_29 (by decide) ?_
  refine n_newIC (n := nI 14) (N := 14) (q := sz + 3) C hK h rfl (by decide) (by decide) (by decide) (Nat.le_of_ble_eq_true rfl) (Nat.le_of_ble_eq_true rfl) dn10_31 (fun H h => ?_)
  have h : CH D h0 sz s.heap H locs (.inr (10, [.ref (sz + 0), .ref (sz + 1), .ref (sz + 2), .null, .null, .null, .null, .int 0, .int 0, .int 0, .int 0, .int 0, .int 0, .int 0, .int 0, .int 0, .null, .int 0, .int 0, .int 0, .int 0, .int 0, .int 0, .null, .null, .null, .null, .null, .null, .null, .int 0, .null, .null, .int 0])) [eI cI 3128, eI cB 2, eI cI 24, eI cI 14] := h
  refine n_putC (ci := 10) (k := 3) (ty := .array .int) (v := .ref (sz + 3)) C hK h (by decide +kernel) rfl (by decide +kernel) rfl rfl (Nat.le_of_ble_eq_true rfl) dn10_33 (fun H locs h => ?_)
  have h : CH D h0 sz s.heap H locs (.inr (10, [.ref (sz + 0), .ref (sz + 1), .ref (sz + 2), .ref (sz + 3), .null, .null, .null, .int 0, .int 0, .int 0, .int 0, .int 0, .int 0, .int 0, .int 0, .int 0, .null, .int 0, .int 0, .int 0, .int 0, .int 0, .int 0, .null, .null, .null, .null, .null, .null, .null, .int 0, .null, .null, .int 0])) [eI cI 3128, eI cB 2, eI cI 24, eI cI 14] := h
  refine lv_aload_n hx hb dn10_36 rfl (lv_at hl 0 rfl) ?_
  refine lv_bipush (v := nI 14) hx hb dn10_37 (by decide) ?_
  refine n_newIC (n := nI 14) (N := 14) (q := sz + 4) C hK h rfl (by decide) (by decide) (by decide) (Nat.le_of_ble_eq_true rfl) (Nat.le_of_ble_eq_true rfl) dn10_39 (fun H h => ?_)
  have h : CH D h0 sz s.heap H locs (.inr (10, [.ref (sz + 0), .ref (sz + 1), .ref (sz + 2), .ref (sz + 3), .null, .null, .null, .int 0, .int 0, .int 0, .int 0, .int 0, .int 0, .int 0, .int 0, .int 0, .null, .int 0, .int 0, .int 0, .int 0, .int 0, .int 0, .null, .null, .null, .null, .null, .null, .null, .int 0, .null, .null, .int 0])) [eI cI 3128, eI cB 2, eI cI 24, eI cI 14, eI cI 14] := h
  refine n_putC (ci := 10) (k := 4) (ty := .array .int) (v := .ref (sz + 4)) C hK h (by decide +kernel) rfl (by decide +kernel) rfl rfl (Nat.le_of_ble_eq_true rfl) dn10_41 (fun H locs h => ?_)
  have h : CH D h0 sz s.heap H locs (.inr (10, [.ref (sz + 0), .ref (sz + 1), .ref (sz + 2), .ref (sz + 3), .ref (sz + 4), .null, .null, .int 0, .int 0, .int 0, .int 0, .int 0, .int 0, .int 0, .int 0, .int 0, .null, .int 0, .int 0, .int 0, .int 0, .int 0, .int 0, .null, .null, .null, .null, .null, .null, .null, .int 0, .null, .null, .int 0])) [eI cI 3128, eI cB 2, eI cI 24, eI cI 14, eI cI 14] := h
  refine lv_aload_n hx hb dn10_44 rfl (lv_at hl 0 rfl) ?_
  refine lv_bipush (v := nI 10) hx hb dn10_45 (by decide) ?_
  refine n_newIC (n := nI 10) (N := 10) (q := sz + 5) C hK h rfl (by decide) (by decide) (by decide) (Nat.le_of_ble_eq_true rfl) (Nat.le_of_ble_eq_true rfl) dn10_47 (fun H h => ?_)
  have h : CH D h0 sz s.heap H locs (.inr (10, [.ref (sz + 0), .ref (sz + 1), .ref (sz + 2), .ref (sz + 3), .ref (sz + 4), .null, .null, .int 0, .int 0, .int 0, .int 0, .int 0, .int 0, .int 0, .int 0, .int 0, .null, .int 0, .int 0, .int 0, .int 0, .int 0, .int 0, .null, .null, .null, .null, .null, .null, .null, .int 0, .null, .null, .int 0])) [eI cI 3128, eI cB 2, eI cI 24, eI cI 14, eI cI 14, eI cI 10] := h
  refine n_putC (ci := 10) (k := 5) (ty := .array .int) (v := .ref (sz + 5)) C hK h (by decide +kernel) rfl (by decide +kernel) rfl rfl (Nat.le_of_ble_eq_true rfl) dn10_49 (fun H locs h => ?_)
  have h : CH D h0 sz s.heap H locs (.inr (10, [.ref (sz + 0), .ref (sz + 1), .ref (sz + 2), .ref (sz + 3), .ref (sz + 4), .ref (sz + 5), .null, .int 0, .int 0, .int 0, .int 0, .int 0, .int 0, .int 0, .int 0, .int 0, .null, .int 0, .int 0, .int 0, .int 0, .int 0, .int 0, .null, .null, .null, .null, .null, .null, .null, .int 0, .null, .null, .int 0])) [eI cI 3128, eI cB 2, eI cI 24, eI cI 14, eI cI 14, eI cI 10] := h
  refine lv_aload_n hx hb dn10_52 rfl (lv_at hl 0 rfl) ?_
  refine lv_bipush (v := nI 10) hx hb dn10_53 (by decide) ?_
  refine n_newIC (n := nI 10) (N := 10) (q := sz + 6) C hK h rfl (by decide) (by decide) (by decide) (Nat.le_of_ble_eq_true rfl) (Nat.le_of_ble_eq_true rfl) dn10_55 (fun H h => ?_)
  have h : CH D h0 sz s.heap H locs (.inr (10, [.ref (sz + 0), .ref (sz + 1), .ref (sz + 2), .ref (sz + 3), .ref (sz + 4), .ref (sz + 5), .null, .int 0, .int 0, .int 0, .int 0, .int 0, .int 0, .int 0, .int 0, .int 0, .null, .int 0, .int 0, .int 0, .int 0, .int 0, .int 0, .null, .null, .null, .null, .null, .null, .null, .int 0, .null, .null, .int 0])) [eI cI 3128, eI cB 2, eI cI 24, eI cI 14, eI cI 14, eI cI 10, eI cI 10] := h
  refine n_putC (ci := 10) (k := 6) (ty := .array .int) (v := .ref (sz + 6)) C hK h (by decide +kernel) rfl (by decide +kernel) rfl rfl (Nat.le_of_ble_eq_true rfl) dn10_57 (fun H locs h => ?_)
  have h : CH D h0 sz s.heap H locs (.inr (10, [.ref (sz + 0), .ref (sz + 1), .ref (sz + 2), .ref (sz + 3), .ref (sz + 4), .ref (sz + 5), .ref (sz + 6), .int 0, .int 0, .int 0, .int 0, .int 0, .int 0, .int 0, .int 0, .int 0, .null, .int 0, .int 0, .int 0, .int 0, .int 0, .int 0, .null, .null, .null, .null, .null, .null, .null, .int 0, .null, .null, .int 0])) [eI cI 3128, eI cB 2, eI cI 24, eI cI 14, eI cI 14, eI cI 10, eI cI 10] := h
  refine lv_aload_n hx hb dn10_60 rfl (lv_at hl 0 rfl) ?_
  refine lv_sipush (v := nI 240) hx hb dn10_61 (by decide) ?_
  refine n_newIC (n := nI 240) (N := 240) (q := sz + 7) C hK h rfl (by decide) (by decide) (by decide) (Nat.le_of_ble_eq_true rfl) (Nat.le_of_ble_eq_true rfl) dn10_64 (fun H h => ?_)
  have h : CH D h0 sz s.heap H locs (.inr (10, [.ref (sz + 0), .ref (sz + 1), .ref (sz + 2), .ref (sz + 3), .ref (sz + 4), .ref (sz + 5), .ref (sz + 6), .int 0, .int 0, .int 0, .int 0, .int 0, .int 0, .int 0, .int 0, .int 0, .null, .int 0, .int 0, .int 0, .int 0, .int 0, .int 0, .null, .null, .null, .null, .null, .null, .null, .int 0, .null, .null, .int 0])) [eI cI 3128, eI cB 2, eI cI 24, eI cI 14, eI cI 14, eI cI 10, eI cI 10, eI cI 240] := h
  refine n_putC (ci := 10) (k := 16) (ty := .array .int) (v := .ref (sz + 7)) C hK h (by decide +kernel) rfl (by decide +kernel) rfl rfl (Nat.le_of_ble_eq_true rfl) dn10_66 (fun H locs h => ?_)
  have h : CH D h0 sz s.heap H locs (.inr (10, [.ref (sz + 0), .ref (sz + 1), .ref (sz + 2), .ref (sz + 3), .ref (sz + 4), .ref (sz + 5), .ref (sz + 6), .int 0, .int 0, .int 0, .int 0, .int 0, .int 0, .int 0, .int 0, .int 0, .ref (sz + 7), .int 0, .int 0, .int 0, .int 0, .int 0, .int 0, .null, .null, .null, .null, .null, .null, .null, .int 0, .null, .null, .int 0])) [eI cI 3128, eI cB 2, eI cI 24, eI cI 14, eI cI 14, eI cI 10, eI cI 10, eI cI 240] := h
  refine lv_aload_n hx hb dn10_69 rfl (lv_at hl 0 rfl) ?_
  refine lv_iconst (v := (-1)) hx hb dn10_70 (by decide) ?_
  refine n_putC (ci := 10) (k := 21) (ty := .int) (v := .int ((-1))) C hK h (by decide +kernel) rfl (by decide +kernel) rfl rfl (Nat.le_of_ble_eq_true rfl) dn10_71 (fun H locs h => ?_)
  have h : CH D h0 sz s.heap H locs (.inr (10, [.ref (sz + 0), .ref (sz + 1), .ref (sz + 2), .ref (sz + 3), .ref (sz + 4), .ref (sz + 5), .ref (sz + 6), .int 0, .int 0, .int 0, .int 0, .int 0, .int 0, .int 0, .int 0, .int 0, .ref (sz + 7), .int 0, .int 0, .int 0, .int 0, .int ((-1)), .int 0, .null, .null, .null, .null, .null, .null, .null, .int 0, .null, .null, .int 0])) [eI cI 3128, eI cB 2, eI cI 24, eI cI 14, eI cI 14, eI cI 10, eI cI 10, eI cI 240] := h
  refine lv_aload_n hx hb dn10_74 rfl (lv_at hl 0 rfl) ?_
  refine lv_bipush (v := nI 14) hx hb dn10_75 (by decide) ?_
  refine n_newIC (n := nI 14) (N := 14) (q := sz + 8) C hK h rfl (by decide) (by decide) (by decide) (Nat.le_of_ble_eq_true rfl) (Nat.le_of_ble_eq_true rfl) dn10_77 (fun H h => ?_)
  have h : CH D h0 sz s.heap H locs (.inr (10, [.ref (sz + 0), .ref (sz + 1), .ref (sz + 2), .ref (sz + 3), .ref (sz + 4), .ref (sz + 5), .ref (sz + 6), .int 0, .int 0, .int 0, .int 0, .int 0, .int 0, .int 0, .int 0, .int 0, .ref (sz + 7), .int 0, .int 0, .int 0, .int 0, .int ((-1)), .int 0, .null, .null, .null, .null, .null, .null, .null, .int 0, .null, .null, .int 0])) [eI cI 3128, eI cB 2, eI cI 24, eI cI 14, eI cI 14, eI cI 10, eI cI 10, eI cI 240, eI cI 14] := h
  refine n_putC (ci := 10) (k := 23) (ty := .array .int) (v := .ref (sz + 8)) C hK h (by decide +kernel) rfl (by decide +kernel) rfl rfl (Nat.le_of_ble_eq_true rfl) dn10_79 (fun H locs h => ?_)
  have h : CH D h0 sz s.heap H locs (.inr (10, [.ref (sz + 0), .ref (sz + 1), .ref (sz + 2), .ref (sz + 3), .ref (sz + 4), .ref (sz + 5), .ref (sz + 6), .int 0, .int 0, .int 0, .int 0, .int 0, .int 0, .int 0, .int 0, .int 0, .ref (sz + 7), .int 0, .int 0, .int 0, .int 0, .int ((-1)), .int 0, .ref (sz + 8), .null, .null, .null, .null, .null, .null, .int 0, .null, .null, .int 0])) [eI cI 3128, eI cB 2, eI cI 24, eI cI 14, eI cI 14, eI cI 10, eI cI 10, eI cI 240, eI cI 14] := h
  refine lv_aload_n hx hb dn10_82 rfl (lv_at hl 0 rfl) ?_
  refine lv_bipush (v := nI 14) hx hb dn10_83 (by decide) ?_
  refine n_newIC (n := nI 14) (N := 14) (q := sz + 9) C hK h rfl (by decide) (by decide) (by decide) (Nat.le_of_ble_eq_true rfl) (Nat.le_of_ble_eq_true rfl) dn10_85 (fun H h => ?_)
  have h : CH D h0 sz s.heap H locs (.inr (10, [.ref (sz + 0), .ref (sz + 1), .ref (sz + 2), .ref (sz + 3), .ref (sz + 4), .ref (sz + 5), .ref (sz + 6), .int 0, .int 0, .int 0, .int 0, .int 0, .int 0, .int 0, .int 0, .int 0, .ref (sz + 7), .int 0, .int 0, .int 0, .int 0, .int ((-1)), .int 0, .ref (sz + 8), .null, .null, .null, .null, .null, .null, .int 0, .null, .null, .int 0])) [eI cI 3128, eI cB 2, eI cI 24, eI cI 14, eI cI 14, eI cI 10, eI cI 10, eI cI 240, eI cI 14, eI cI 14] := h
  refine n_putC (ci := 10) (k := 24) (ty := .array .int) (v := .ref (sz + 9)) C hK h (by decide +kernel) rfl (by decide +kernel) rfl rfl (Nat.le_of_ble_eq_true rfl) dn10_87 (fun H locs h => ?_)
  have h : CH D h0 sz s.heap H locs (.inr (10, [.ref (sz + 0), .ref (sz + 1), .ref (sz + 2), .ref (sz + 3), .ref (sz + 4), .ref (sz + 5), .ref (sz + 6), .int 0, .int 0, .int 0, .int 0, .int 0, .int 0, .int 0, .int 0, .int 0, .ref (sz + 7), .int 0, .int 0, .int 0, .int 0, .int ((-1)), .int 0, .ref (sz + 8), .ref (sz + 9), .null, .null, .null, .null, .null, .int 0, .null, .null, .int 0])) [eI cI 3128, eI cB 2, eI cI 24, eI cI 14, eI cI 14, eI cI 10, eI cI 10, eI cI 240, eI cI 14, eI cI 14] := h
  refine lv_aload_n hx hb dn10_90 rfl (lv_at hl 0 rfl) ?_
  refine lv_bipush (v := nI 84) hx hb dn10_91 (by decide) ?_
  refine n_newIC (n := nI 84) (N := 84) (q := sz + 10) C hK h rfl (by decide) (by decide) (by decide) (Nat.le_of_ble_eq_true rfl) (Nat.le_of_ble_eq_true rfl) dn10_93 (fun H h => ?_)
  have h : CH D h0 sz s.heap H locs (.inr (10, [.ref (sz + 0), .ref (sz + 1), .ref (sz + 2), .ref (sz + 3), .ref (sz + 4), .ref (sz + 5), .ref (sz + 6), .int 0, .int 0, .int 0, .int 0, .int 0, .int 0, .int 0, .int 0, .int 0, .ref (sz + 7), .int 0, .int 0, .int 0, .int 0, .int ((-1)), .int 0, .ref (sz + 8), .ref (sz + 9), .null, .null, .null, .null, .null, .int 0, .null, .null, .int 0])) [eI cI 3128, eI cB 2, eI cI 24, eI cI 14, eI cI 14, eI cI 10, eI cI 10, eI cI 240, eI cI 14, eI cI 14, eI cI 84] := h
  refine n_putC (ci := 10) (k := 25) (ty := .array .int) (v := .ref (sz + 10)) C hK h (by decide +kernel) rfl (by decide +kernel) rfl rfl (Nat.le_of_ble_eq_true rfl) dn10_95 (fun H locs h => ?_)
  have h : CH D h0 sz s.heap H locs (.inr (10, [.ref (sz + 0), .ref (sz + 1), .ref (sz + 2), .ref (sz + 3), .ref (sz + 4), .ref (sz + 5), .ref (sz + 6), .int 0, .int 0, .int 0, .int 0, .int 0, .int 0, .int 0, .int 0, .int 0, .ref (sz + 7), .int 0, .int 0, .int 0, .int 0, .int ((-1)), .int 0, .ref (sz + 8), .ref (sz + 9), .ref (sz + 10), .null, .null, .null, .null, .int 0, .null, .null, .int 0])) [eI cI 3128, eI cB 2, eI cI 24, eI cI 14, eI cI 14, eI cI 10, eI cI 10, eI cI 240, eI cI 14, eI cI 14, eI cI 84] := h
  refine lv_aload_n hx hb dn10_98 rfl (lv_at hl 0 rfl) ?_
  refine lv_sipush (v := nI 568) hx hb dn10_99 (by decide) ?_
  refine n_newIC (n := nI 568) (N := 568) (q := sz + 11) C hK h rfl (by decide) (by decide) (by decide) (Nat.le_of_ble_eq_true rfl) (Nat.le_of_ble_eq_true rfl) dn10_102 (fun H h => ?_)
  have h : CH D h0 sz s.heap H locs (.inr (10, [.ref (sz + 0), .ref (sz + 1), .ref (sz + 2), .ref (sz + 3), .ref (sz + 4), .ref (sz + 5), .ref (sz + 6), .int 0, .int 0, .int 0, .int 0, .int 0, .int 0, .int 0, .int 0, .int 0, .ref (sz + 7), .int 0, .int 0, .int 0, .int 0, .int ((-1)), .int 0, .ref (sz + 8), .ref (sz + 9), .ref (sz + 10), .null, .null, .null, .null, .int 0, .null, .null, .int 0])) [eI cI 3128, eI cB 2, eI cI 24, eI cI 14, eI cI 14, eI cI 10, eI cI 10, eI cI 240, eI cI 14, eI cI 14, eI cI 84, eI cI 568] := h
  refine n_putC (ci := 10) (k := 26) (ty := .array .int) (v := .ref (sz + 11)) C hK h (by decide +kernel) rfl (by decide +kernel) rfl rfl (Nat.le_of_ble_eq_true rfl) dn10_104 (fun H locs h => ?_)
  have h : CH D h0 sz s.heap H locs (.inr (10, [.ref (sz + 0), .ref (sz + 1), .ref (sz + 2), .ref (sz + 3), .ref (sz + 4), .ref (sz + 5), .ref (sz + 6), .int 0, .int 0, .int 0, .int 0, .int 0, .int 0, .int 0, .int 0, .int 0, .ref (sz + 7), .int 0, .int 0, .int 0, .int 0, .int ((-1)), .int 0, .ref (sz + 8), .ref (sz + 9), .ref (sz + 10), .ref (sz + 11), .null, .null, .null, .int 0, .null, .null, .int 0])) [eI cI 3128, eI cB 2, eI cI 24, eI cI 14, eI cI 14, eI cI 10, eI cI 10, eI cI 240, eI cI 14, eI cI 14, eI cI 84, eI cI 568] := h
  refine lv_aload_n hx hb dn10_107 rfl (lv_at hl 0 rfl) ?_
  refine lv_sipush (v := nI 568) hx hb dn10_108 (by decide) ?_
  refine n_newIC (n := nI 568) (N := 568) (q := sz + 12) C hK h rfl (by decide) (by decide) (by decide) (Nat.le_of_ble_eq_true rfl) (Nat.le_of_ble_eq_true rfl) dn10_111 (fun H h => ?_)
  have h : CH D h0 sz s.heap H locs (.inr (10, [.ref (sz + 0), .ref (sz + 1), .ref (sz + 2), .ref (sz + 3), .ref (sz + 4), .ref (sz + 5), .ref (sz + 6), .int 0, .int 0, .int 0, .int 0, .int 0, .int 0, .int 0, .int 0, .int 0, .ref (sz + 7), .int 0, .int 0, .int 0, .int 0, .int ((-1)), .int 0, .ref (sz + 8), .ref (sz + 9), .ref (sz + 10), .ref (sz + 11), .null, .null, .null, .int 0, .null, .null, .int 0])) [eI cI 3128, eI cB 2, eI cI 24, eI cI 14, eI cI 14, eI cI 10, eI cI 10, eI cI 240, eI cI 14, eI cI 14, eI cI 84, eI cI 568, eI cI 568] := h
  refine n_putC (ci := 10) (k := 27) (ty := .array .int) (v := .ref (sz + 12)) C hK h (by decide +kernel) rfl (by decide +kernel) rfl rfl (Nat.le_of_ble_eq_true rfl) dn10_113 (fun H locs h => ?_)
  have h : CH D h0 sz s.heap H locs (.inr (10, [.ref (sz + 0), .ref (sz + 1), .ref (sz + 2), .ref (sz + 3), .ref (sz + 4), .ref (sz + 5), .ref (sz + 6), .int 0, .int 0, .int 0, .int 0, .int 0, .int 0, .int 0, .int 0, .int 0, .ref (sz + 7), .int 0, .int 0, .int 0, .int 0, .int ((-1)), .int 0, .ref (sz + 8), .ref (sz + 9), .ref (sz + 10), .ref (sz + 11), .ref (sz + 12), .null, .null, .int 0, .null, .null, .int 0])) [eI cI 3128, eI cB 2, eI cI 24, eI cI 14, eI cI 14, eI cI 10, eI cI 10, eI cI 240, eI cI 14, eI cI 14, eI cI 84, eI cI 568, eI cI 568] := h
  refine lv_aload_n hx hb dn10_116 rfl (lv_at hl 0 rfl) ?_
  refine lv_bipush (v := nI 6) hx hb dn10_117 (by decide) ?_
  refine n_newIC (n := nI 6) (N := 6) (q := sz + 13) C hK h rfl (by decide) (by decide) (by decide) (Nat.le_of_ble_eq_true rfl) (Nat.le_of_ble_eq_true rfl) dn10_119 (fun H h => ?_)
  have h : CH D h0 sz s.heap H locs (.inr (10, [.ref (sz + 0), .ref (sz + 1), .ref (sz + 2), .ref (sz + 3), .ref (sz + 4), .ref (sz + 5), .ref (sz + 6), .int 0, .int 0, .int 0, .int 0, .int 0, .int 0, .int 0, .int 0, .int 0, .ref (sz + 7), .int 0, .int 0, .int 0, .int 0, .int ((-1)), .int 0, .ref (sz + 8), .ref (sz + 9), .ref (sz + 10), .ref (sz + 11), .ref (sz + 12), .null, .null, .int 0, .null, .null, .int 0])) [eI cI 3128, eI cB 2, eI cI 24, eI cI 14, eI cI 14, eI cI 10, eI cI 10, eI cI 240, eI cI 14, eI cI 14, eI cI 84, eI cI 568, eI cI 568, eI cI 6] := h
  refine n_putC (ci := 10) (k := 28) (ty := .array .int) (v := .ref (sz + 13)) C hK h (by decide +kernel) rfl (by decide +kernel) rfl rfl (Nat.le_of_ble_eq_true rfl) dn10_121 (fun H locs h => ?_)
  have h : CH D h0 sz s.heap H locs (.inr (10, [.ref (sz + 0), .ref (sz + 1), .ref (sz + 2), .ref (sz + 3), .ref (sz + 4), .ref (sz + 5), .ref (sz + 6), .int 0, .int 0, .int 0, .int 0, .int 0, .int 0, .int 0, .int 0, .int 0, .ref (sz + 7), .int 0, .int 0, .int 0, .int 0, .int ((-1)), .int 0, .ref (sz + 8), .ref (sz + 9), .ref (sz + 10), .ref (sz + 11), .ref (sz + 12), .ref (sz + 13), .null, .int 0, .null, .null, .int 0])) [eI cI 3128, eI cB 2, eI cI 24, eI cI 14, eI cI 14, eI cI 10, eI cI 10, eI cI 240, eI cI 14, eI cI 14, eI cI 84, eI cI 568, eI cI 568, eI cI 6] := h
  refine lv_aload_n hx hb dn10_124 rfl (lv_at hl 0 rfl) ?_
  refine lv_bipush (v := nI 6) hx hb dn10_125 (by decide) ?_
  refine n_newIC (n := nI 6) (N := 6) (q := sz + 14) C hK h rfl (by decide) (by decide) (by decide) (Nat.le_of_ble_eq_true rfl) (Nat.le_of_ble_eq_true rfl) dn10_127 (fun H h => ?_)
  have h : CH D h0 sz s.heap H locs (.inr (10, [.ref (sz + 0), .ref (sz + 1), .ref (sz + 2), .ref (sz + 3), .ref (sz + 4), .ref (sz + 5), .ref (sz + 6), .int 0, .int 0, .int 0, .int 0, .int 0, .int 0, .int 0, .int 0, .int 0, .ref (sz + 7), .int 0, .int 0, .int 0, .int 0, .int ((-1)), .int 0, .ref (sz + 8), .ref (sz + 9), .ref (sz + 10), .ref (sz + 11), .ref (sz + 12), .ref (sz + 13), .null, .int 0, .null, .null, .int 0])) [eI cI 3128, eI cB 2, eI cI 24, eI cI 14, eI cI 14, eI cI 10, eI cI 10, eI cI 240, eI cI 14, eI cI 14, eI cI 84, eI cI 568, eI cI 568, eI cI 6, eI cI 6] := h
  refine n_putC (ci := 10) (k := 29) (ty := .array .int) (v := .ref (sz + 14)) C hK h (by decide +kernel) rfl (by decide +kernel) rfl rfl (Nat.le_of_ble_eq_true rfl) dn10_129 (fun H locs h => ?_)
  have h : CH D h0 sz s.heap H locs (.inr (10, [.ref (sz + 0), .ref (sz + 1), .ref (sz + 2), .ref (sz + 3), .ref (sz + 4), .ref (sz + 5), .ref (sz + 6), .int 0, .int 0, .int 0, .int 0, .int 0, .int 0, .int 0, .int 0, .int 0, .ref (sz + 7), .int 0, .int 0, .int 0, .int 0, .int ((-1)), .int 0, .ref (sz + 8), .ref (sz + 9), .ref (sz + 10), .ref (sz + 11), .ref (sz + 12), .ref (sz + 13), .ref (sz + 14), .int 0, .null, .null, .int 0])) [eI cI 3128, eI cB 2, eI cI 24, eI cI 14, eI cI 14, eI cI 10, eI cI 10, eI cI 240, eI cI 14, eI cI 14, eI cI 84, eI cI 568, eI cI 568, eI cI 6, eI cI 6] := h
  refine lv_aload_n hx hb dn10_132 rfl (lv_at hl 0 rfl) ?_
  refine lv_bipush (v := nI 20) hx hb dn10_133 (by decide) ?_
  refine n_newIC (n := nI 20) (N := 20) (q := sz + 15) C hK h rfl (by decide) (by decide) (by decide) (Nat.le_of_ble_eq_true rfl) (Nat.le_of_ble_eq_true rfl) dn10_135 (fun H h => ?_)
  have h : CH D h0 sz s.heap H locs (.inr (10, [.ref (sz + 0), .ref (sz + 1), .ref (sz + 2), .ref (sz + 3), .ref (sz + 4), .ref (sz + 5), .ref (sz + 6), .int 0, .int 0, .int 0, .int 0, .int 0, .int 0, .int 0, .int 0, .int 0, .ref (sz + 7), .int 0, .int 0, .int 0, .int 0, .int ((-1)), .int 0, .ref (sz + 8), .ref (sz + 9), .ref (sz + 10), .ref (sz + 11), .ref (sz + 12), .ref (sz + 13), .ref (sz + 14), .int 0, .null, .null, .int 0])) [eI cI 3128, eI cB 2, eI cI 24, eI cI 14, eI cI 14, eI cI 10, eI cI 10, eI cI 240, eI cI 14, eI cI 14, eI cI 84, eI cI 568, eI cI 568, eI cI 6, eI cI 6, eI cI 20] := h
  refine n_putC (ci := 10) (k := 31) (ty := .array .int) (v := .ref (sz + 15)) C hK h (by decide +kernel) rfl (by decide +kernel) rfl rfl (Nat.le_of_ble_eq_true rfl) dn10_137 (fun H locs h => ?_)
  have h : CH D h0 sz s.heap H locs (.inr (10, [.ref (sz + 0), .ref (sz + 1), .ref (sz + 2), .ref (sz + 3), .ref (sz + 4), .ref (sz + 5), .ref (sz + 6), .int 0, .int 0, .int 0, .int 0, .int 0, .int 0, .int 0, .int 0, .int 0, .ref (sz + 7), .int 0, .int 0, .int 0, .int 0, .int ((-1)), .int 0, .ref (sz + 8), .ref (sz + 9), .ref (sz + 10), .ref (sz + 11), .ref (sz + 12), .ref (sz + 13), .ref (sz + 14), .int 0, .ref (sz + 15), .null, .int 0])) [eI cI 3128, eI cB 2, eI cI 24, eI cI 14, eI cI 14, eI cI 10, eI cI 10, eI cI 240, eI cI 14, eI cI 14, eI cI 84, eI cI 568, eI cI 568, eI cI 6, eI cI 6, eI cI 20] := h
  refine lv_aload_n hx hb dn10_140 rfl (lv_at hl 0 rfl) ?_
  refine lv_bipush (v := nI 20) hx hb dn10_141 (by decide) ?_
  refine n_newIC (n := nI 20) (N := 20) (q := sz + 16) C hK h rfl (by decide) (by decide) (by decide) (Nat.le_of_ble_eq_true rfl) (Nat.le_of_ble_eq_true rfl) dn10_143 (fun H h => ?_)
  have h : CH D h0 sz s.heap H locs (.inr (10, [.ref (sz + 0), .ref (sz + 1), .ref (sz + 2), .ref (sz + 3), .ref (sz + 4), .ref (sz + 5), .ref (sz + 6), .int 0, .int 0, .int 0, .int 0, .int 0, .int 0, .int 0, .int 0, .int 0, .ref (sz + 7), .int 0, .int 0, .int 0, .int 0, .int ((-1)), .int 0, .ref (sz + 8), .ref (sz + 9), .ref (sz + 10), .ref (sz + 11), .ref (sz + 12), .ref (sz + 13), .ref (sz + 14), .int 0, .ref (sz + 15), .null, .int 0])) [eI cI 3128, eI cB 2, eI cI 24, eI cI 14, eI cI 14, eI cI 10, eI cI 10, eI cI 240, eI cI 14, eI cI 14, eI cI 84, eI cI 568, eI cI 568, eI cI 6, eI cI 6, eI cI 20, eI cI 20] := h
  refine n_putC (ci := 10) (k := 32) (ty := .array .int) (v := .ref (sz + 16)) C hK h (by decide +kernel) rfl (by decide +kernel) rfl rfl (Nat.le_of_ble_eq_true rfl) dn10_145 (fun H locs h => ?_)
  have h : CH D h0 sz s.heap H locs (.inr (10, [.ref (sz + 0), .ref (sz + 1), .ref (sz + 2), .ref (sz + 3), .ref (sz + 4), .ref (sz + 5), .ref (sz + 6), .int 0, .int 0, .int 0, .int 0, .int 0, .int 0, .int 0, .int 0, .int 0, .ref (sz + 7), .int 0, .int 0, .int 0, .int 0, .int ((-1)), .int 0, .ref (sz + 8), .ref (sz + 9), .ref (sz + 10), .ref (sz + 11), .ref (sz + 12), .ref (sz + 13), .ref (sz + 14), .int 0, .ref (sz + 15), .ref (sz + 16), .int 0])) [eI cI 3128, eI cB 2, eI cI 24, eI cI 14, eI cI 14, eI cI 10, eI cI 10, eI cI 240, eI cI 14, eI cI 14, eI cI 84, eI cI 568, eI cI 568, eI cI 6, eI cI 6, eI cI 20, eI cI 20] := h
  refine W.widen (k := (nL10 cI cB).length) (n := 4742) (Nat.le_of_ble_eq_true rfl) (Nat.le_of_ble_eq_true rfl) ?_
  exact n_retC (L1 := nL10 cI cB) (o1 := .inr (10, no10 sz)) C h dn10_148
