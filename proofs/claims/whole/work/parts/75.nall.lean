/-! the constructor of GladGlasses; written by wip/gen/gen75.py -/
theorem dn9_0 : decode cX9_init 0 = .ok (.aload_n 0, 1) := by decide +kernel
theorem dn9_1 : decode cX9_init 1 = .ok (.invokespecial 3, 3) := by decide +kernel
theorem dn9_4 : decode cX9_init 4 = .ok (.aload_n 0, 1) := by decide +kernel
theorem dn9_5 : decode cX9_init 5 = .ok (.new 9, 3) := by decide +kernel
theorem dn9_8 : decode cX9_init 8 = .ok (.dup, 1) := by decide +kernel
theorem dn9_9 : decode cX9_init 9 = .ok (.invokespecial 11, 3) := by decide +kernel
theorem dn9_12 : decode cX9_init 12 = .ok (.putfield 12, 3) := by decide +kernel
theorem dn9_15 : decode cX9_init 15 = .ok (.aload_n 0, 1) := by decide +kernel
theorem dn9_16 : decode cX9_init 16 = .ok (.new 16, 3) := by decide +kernel
theorem dn9_19 : decode cX9_init 19 = .ok (.dup, 1) := by decide +kernel
theorem dn9_20 : decode cX9_init 20 = .ok (.invokespecial 18, 3) := by decide +kernel
theorem dn9_23 : decode cX9_init 23 = .ok (.putfield 19, 3) := by decide +kernel
theorem dn9_26 : decode cX9_init 26 = .ok (.aload_n 0, 1) := by decide +kernel
theorem dn9_27 : decode cX9_init 27 = .ok (.new 16, 3) := by decide +kernel
theorem dn9_30 : decode cX9_init 30 = .ok (.dup, 1) := by decide +kernel
theorem dn9_31 : decode cX9_init 31 = .ok (.invokespecial 18, 3) := by decide +kernel
theorem dn9_34 : decode cX9_init 34 = .ok (.putfield 23, 3) := by decide +kernel
theorem dn9_37 : decode cX9_init 37 = .ok (.aload_n 0, 1) := by decide +kernel
theorem dn9_38 : decode cX9_init 38 = .ok (.new 26, 3) := by decide +kernel
theorem dn9_41 : decode cX9_init 41 = .ok (.dup, 1) := by decide +kernel
theorem dn9_42 : decode cX9_init 42 = .ok (.invokespecial 28, 3) := by decide +kernel
theorem dn9_45 : decode cX9_init 45 = .ok (.putfield 29, 3) := by decide +kernel
theorem dn9_48 : decode cX9_init 48 = .ok (.aload_n 0, 1) := by decide +kernel
theorem dn9_49 : decode cX9_init 49 = .ok (.new 33, 3) := by decide +kernel
theorem dn9_52 : decode cX9_init 52 = .ok (.dup, 1) := by decide +kernel
theorem dn9_53 : decode cX9_init 53 = .ok (.aload_n 0, 1) := by decide +kernel
theorem dn9_54 : decode cX9_init 54 = .ok (.getfield 23, 3) := by decide +kernel
theorem dn9_57 : decode cX9_init 57 = .ok (.aload_n 0, 1) := by decide +kernel
theorem dn9_58 : decode cX9_init 58 = .ok (.getfield 29, 3) := by decide +kernel
theorem dn9_61 : decode cX9_init 61 = .ok (.invokespecial 35, 3) := by decide +kernel
theorem dn9_64 : decode cX9_init 64 = .ok (.putfield 38, 3) := by decide +kernel
theorem dn9_67 : decode cX9_init 67 = .ok (.aload_n 0, 1) := by decide +kernel
theorem dn9_68 : decode cX9_init 68 = .ok (.new 42, 3) := by decide +kernel
theorem dn9_71 : decode cX9_init 71 = .ok (.dup, 1) := by decide +kernel
theorem dn9_72 : decode cX9_init 72 = .ok (.aload_n 0, 1) := by decide +kernel
theorem dn9_73 : decode cX9_init 73 = .ok (.getfield 23, 3) := by decide +kernel
theorem dn9_76 : decode cX9_init 76 = .ok (.aload_n 0, 1) := by decide +kernel
theorem dn9_77 : decode cX9_init 77 = .ok (.getfield 29, 3) := by decide +kernel
theorem dn9_80 : decode cX9_init 80 = .ok (.aload_n 0, 1) := by decide +kernel
theorem dn9_81 : decode cX9_init 81 = .ok (.getfield 38, 3) := by decide +kernel
theorem dn9_84 : decode cX9_init 84 = .ok (.invokespecial 44, 3) := by decide +kernel
theorem dn9_87 : decode cX9_init 87 = .ok (.putfield 47, 3) := by decide +kernel
theorem dn9_90 : decode cX9_init 90 = .ok (.aload_n 0, 1) := by decide +kernel
theorem dn9_91 : decode cX9_init 91 = .ok (.new 51, 3) := by decide +kernel
theorem dn9_94 : decode cX9_init 94 = .ok (.dup, 1) := by decide +kernel
theorem dn9_95 : decode cX9_init 95 = .ok (.aload_n 0, 1) := by decide +kernel
theorem dn9_96 : decode cX9_init 96 = .ok (.getfield 23, 3) := by decide +kernel
theorem dn9_99 : decode cX9_init 99 = .ok (.aload_n 0, 1) := by decide +kernel
theorem dn9_100 : decode cX9_init 100 = .ok (.getfield 29, 3) := by decide +kernel
theorem dn9_103 : decode cX9_init 103 = .ok (.aload_n 0, 1) := by decide +kernel
theorem dn9_104 : decode cX9_init 104 = .ok (.getfield 38, 3) := by decide +kernel
theorem dn9_107 : decode cX9_init 107 = .ok (.invokespecial 53, 3) := by decide +kernel
theorem dn9_110 : decode cX9_init 110 = .ok (.putfield 54, 3) := by decide +kernel
theorem dn9_113 : decode cX9_init 113 = .ok (.aload_n 0, 1) := by decide +kernel
theorem dn9_114 : decode cX9_init 114 = .ok (.new 58, 3) := by decide +kernel
theorem dn9_117 : decode cX9_init 117 = .ok (.dup, 1) := by decide +kernel
theorem dn9_118 : decode cX9_init 118 = .ok (.aload_n 0, 1) := by decide +kernel
theorem dn9_119 : decode cX9_init 119 = .ok (.getfield 23, 3) := by decide +kernel
theorem dn9_122 : decode cX9_init 122 = .ok (.aload_n 0, 1) := by decide +kernel
theorem dn9_123 : decode cX9_init 123 = .ok (.getfield 29, 3) := by decide +kernel
theorem dn9_126 : decode cX9_init 126 = .ok (.aload_n 0, 1) := by decide +kernel
theorem dn9_127 : decode cX9_init 127 = .ok (.getfield 38, 3) := by decide +kernel
theorem dn9_130 : decode cX9_init 130 = .ok (.invokespecial 60, 3) := by decide +kernel
theorem dn9_133 : decode cX9_init 133 = .ok (.putfield 61, 3) := by decide +kernel
theorem dn9_136 : decode cX9_init 136 = .ok (.aload_n 0, 1) := by decide +kernel
theorem dn9_137 : decode cX9_init 137 = .ok (.new 65, 3) := by decide +kernel
theorem dn9_140 : decode cX9_init 140 = .ok (.dup, 1) := by decide +kernel
theorem dn9_141 : decode cX9_init 141 = .ok (.invokespecial 67, 3) := by decide +kernel
theorem dn9_144 : decode cX9_init 144 = .ok (.putfield 68, 3) := by decide +kernel
theorem dn9_147 : decode cX9_init 147 = .ok (.aload_n 0, 1) := by decide +kernel
theorem dn9_148 : decode cX9_init 148 = .ok (.new 72, 3) := by decide +kernel
theorem dn9_151 : decode cX9_init 151 = .ok (.dup, 1) := by decide +kernel
theorem dn9_152 : decode cX9_init 152 = .ok (.invokespecial 74, 3) := by decide +kernel
theorem dn9_155 : decode cX9_init 155 = .ok (.putfield 75, 3) := by decide +kernel
theorem dn9_158 : decode cX9_init 158 = .ok (.aload_n 0, 1) := by decide +kernel
theorem dn9_159 : decode cX9_init 159 = .ok (.iconst 0, 1) := by decide +kernel
theorem dn9_160 : decode cX9_init 160 = .ok (.putfield 79, 3) := by decide +kernel
theorem dn9_163 : decode cX9_init 163 = .ok (.return_, 1) := by decide +kernel
theorem nw_g9 : Cond.classLink (zcn.getD 9 "") 9 (zcs 5).1 ∈ gT := gT_at (i := 93) (by decide +kernel)
theorem nw_g16 : Cond.classLink (zcn.getD 9 "") 16 (zcs 0).1 ∈ gT := gT_at (i := 118) (by decide +kernel)
theorem nw_g26 : Cond.classLink (zcn.getD 9 "") 26 (zcs 7).1 ∈ gT := gT_at (i := 179) (by decide +kernel)
theorem nw_g33 : Cond.classLink (zcn.getD 9 "") 33 (zcs 6).1 ∈ gT := gT_at (i := 249) (by decide +kernel)
theorem nw_g42 : Cond.classLink (zcn.getD 9 "") 42 (zcs 2).1 ∈ gT := gT_at (i := 262) (by decide +kernel)
theorem nw_g51 : Cond.classLink (zcn.getD 9 "") 51 (zcs 8).1 ∈ gT := gT_at (i := 292) (by decide +kernel)
theorem nw_g58 : Cond.classLink (zcn.getD 9 "") 58 (zcs 4).1 ∈ gT := gT_at (i := 336) (by decide +kernel)
theorem nw_g65 : Cond.classLink (zcn.getD 9 "") 65 (zcs 1).1 ∈ gT := gT_at (i := 375) (by decide +kernel)
theorem nw_g72 : Cond.classLink (zcn.getD 9 "") 72 (zcs 3).1 ∈ gT := gT_at (i := 395) (by decide +kernel)
def no9 (sz : Nat) : List Value := [.ref (sz + 0), .ref (sz + 2), .ref (sz + 8), .ref (sz + 14), .ref (sz + 22), .ref (sz + 23), .ref (sz + 26), .ref (sz + 35), .ref (sz + 41), .ref (sz + 283), .int (nI 0)]
def nG1 (cI cB cS : ClassId) (sz : Nat) : List va_E := [.inr (5, no5 (sz + 0 + 1)), eI cI 240, .inr (0, no0 (sz + 2 + 1)), eI cI 12, eI cI 7, eI cI 7, eI cI 5, eI cI 5, .inr (0, no0 (sz + 8 + 1)), eI cI 12, eI cI 7, eI cI 7, eI cI 5, eI cI 5, .inr (7, no7 (sz + 14 + 1)), eI cI 7, eI cI 7, eI cI 7, eI cI 5, eI cI 20, eI cI 20, eI cI 20, .inr (6, no6 (sz + 22 + 1) (sz + 8) (sz + 14)), .inr (2, no2 (sz + 23 + 1) (sz + 8) (sz + 14) (sz + 22)), eI cI 60, eI cI 60, .inr (8, no8 (sz + 26 + 1) (sz + 8) (sz + 14) (sz + 22)), eI cI 84, eI cI 12, eI cI 12, eI cI 7, eI cI 7, eI cI 10, eI cI 568, eI cI 568, .inr (4, no4 (sz + 35 + 1) (sz + 8) (sz + 14) (sz + 22)), eI cI 6, eI cI 6, eI cI 20, eI cI 20, eI cI 10]
def nG2 (cI cB cS : ClassId) (sz : Nat) : List va_E := nG1 cI cB cS sz ++ (.inr (1, no1 (sz + 41 + 1)) :: nL1 cI cB cS (sz + 41 + 1))
def nL9 (cI cB cS : ClassId) (sz : Nat) : List va_E := nG2 cI cB cS sz ++ (.inr (3, no3 (sz + 283 + 1)) :: nL3 cI cB cS (sz + 283 + 1))
theorem nG1_len (cI cB cS : ClassId) (sz : Nat) : (nG1 cI cB cS sz).length = 41 := rfl
theorem nG2_len (cI cB cS : ClassId) (sz : Nat) : (nG2 cI cB cS sz).length = 283 := by
  unfold nG2
  rw [List.length_append, List.length_cons, nG1_len, nL1_len]
theorem nL9_len (cI cB cS : ClassId) (sz : Nat) : (nL9 cI cB cS sz).length = 302 := by
  unfold nL9
  rw [List.length_append, List.length_cons, nG2_len, nL3_len]
set_option maxHeartbeats 8000000 in
theorem n_X9 (l : Launch) (D : va_G) (cI cB cS : ClassId) (h0 sz : Nat) : nMet l yX9_init cX9_init 1 3 D cI cB cS h0 sz [] (.inr (9, [.null, .null, .null, .null, .null, .null, .null, .null, .null, .null, .int 0])) (.inr (9, no9 sz)) (nL9 cI cB cS sz) 5125 := by
  refine nMet_in 9 (by decide +kernel) rfl rfl (Nat.le_of_ble_eq_true rfl) ?_
  intro p e s m args below meth c ls C hK hl h
  have hx := C.1
  have hb := C.2.1
  have hE := C.2.2.2.2.2.2.2.2
  have hlen := nL9_len cI cB cS sz
  have hg2 := nG2_len cI cB cS sz
  have hd1 := nL1_len cI cB cS (sz + 41 + 1)
  have hd3 := nL3_len cI cB cS (sz + 283 + 1)
  have h : CH D h0 sz s.heap s.heap [] (.inr (9, [.null, .null, .null, .null, .null, .null, .null, .null, .null, .null, .int 0])) [] := h
  refine lv_aload_n hx hb dn9_0 rfl (lv_at hl 0 rfl) ?_
  refine n_objC (ix := 3) C hl.1 (gT_at (i := 90) (by decide +kernel)) (Nat.le_of_ble_eq_true rfl) (Nat.le_of_ble_eq_true rfl) dn9_1 ?_
  refine lv_aload_n hx hb dn9_4 rfl (lv_at hl 0 rfl) ?_
  refine n_newC (ci := 5) (ix := 9) (fs := nf5) (q := sz + 0) C hK h rfl (by decide) nw_g9 nw_in5 nw_it5 tyX5 tyX5_ok nw_df5 (by show 0 + 1 ≤ (nL9 cI cB cS sz).length; omega) (by show 0 + 5 ≤ 5125; omega) dn9_5 (fun H h => ?_)
  refine lv_dup hx hb dn9_8 rfl ?_
  refine n_callC (ix := 11) (qb := sz + 0) (L0 := []) (rest := [.ref (sz + 0), .ref h0]) C hK rfl (n_X5 l D cI cB cS (sz + 0) (sz + 0 + 1) ) nw_cd5 nw_it5 nw_im5 rfl nw_pl5 (Or.inr hE.1.1) ⟨Nat.le_of_ble_eq_true rfl, Nat.le_of_ble_eq_true rfl⟩ ⟨by show 0 + 1 + 1 ≤ (nL9 cI cB cS sz).length; omega, by show 0 + 5 + 240 ≤ 5125; omega⟩ h hl.1 (Nat.le_of_ble_eq_true rfl) rfl dn9_9 (fun H locs h => ?_)
  have h : CH D h0 sz s.heap H locs (.inr (9, [.null, .null, .null, .null, .null, .null, .null, .null, .null, .null, .int 0])) [.inr (5, no5 (sz + 0 + 1)), eI cI 240] := h
  refine W.widen (k := 2) (n := 245) (by show 0 + 1 + 1 ≤ 2; omega) (Nat.le_of_ble_eq_true rfl) ?_
  refine n_putC (ci := 9) (k := 0) (ty := .object "GladGlasses$Reader") (v := .ref (sz + 0)) C hK h (by decide +kernel) rfl (by decide +kernel) rfl rfl (Nat.le_of_ble_eq_true rfl) dn9_12 (fun H locs h => ?_)
  have h : CH D h0 sz s.heap H locs (.inr (9, [.ref (sz + 0), .null, .null, .null, .null, .null, .null, .null, .null, .null, .int 0])) [.inr (5, no5 (sz + 0 + 1)), eI cI 240] := h
  refine lv_aload_n hx hb dn9_15 rfl (lv_at hl 0 rfl) ?_
  refine n_newC (ci := 0) (ix := 16) (fs := nf0) (q := sz + 2) C hK h rfl (by decide) nw_g16 nw_in0 nw_it0 tyX0 tyX0_ok nw_df0 (by show 2 + 1 ≤ (nL9 cI cB cS sz).length; omega) (by show 245 + 10 ≤ 5125; omega) dn9_16 (fun H h => ?_)
  refine lv_dup hx hb dn9_19 rfl ?_
  refine n_callC (ix := 18) (qb := sz + 2) (L0 := [.inr (5, no5 (sz + 0 + 1)), eI cI 240]) (rest := [.ref (sz + 2), .ref h0]) C hK rfl (n_X0 l D cI cB cS (sz + 2) (sz + 2 + 1) ) nw_cd0 nw_it0 nw_im0 rfl nw_pl0 (Or.inr hE.1.2.1) ⟨Nat.le_of_ble_eq_true rfl, Nat.le_of_ble_eq_true rfl⟩ ⟨by show 2 + 1 + 5 ≤ (nL9 cI cB cS sz).length; omega, by show 245 + 10 + 36 ≤ 5125; omega⟩ h hl.1 (Nat.le_of_ble_eq_true rfl) rfl dn9_20 (fun H locs h => ?_)
  have h : CH D h0 sz s.heap H locs (.inr (9, [.ref (sz + 0), .null, .null, .null, .null, .null, .null, .null, .null, .null, .int 0])) [.inr (5, no5 (sz + 0 + 1)), eI cI 240, .inr (0, no0 (sz + 2 + 1)), eI cI 12, eI cI 7, eI cI 7, eI cI 5, eI cI 5] := h
  refine W.widen (k := 8) (n := 291) (by show 2 + 1 + 5 ≤ 8; omega) (Nat.le_of_ble_eq_true rfl) ?_
  refine n_putC (ci := 9) (k := 1) (ty := .object "GladGlasses$Coast") (v := .ref (sz + 2)) C hK h (by decide +kernel) rfl (by decide +kernel) rfl rfl (Nat.le_of_ble_eq_true rfl) dn9_23 (fun H locs h => ?_)
  have h : CH D h0 sz s.heap H locs (.inr (9, [.ref (sz + 0), .ref (sz + 2), .null, .null, .null, .null, .null, .null, .null, .null, .int 0])) [.inr (5, no5 (sz + 0 + 1)), eI cI 240, .inr (0, no0 (sz + 2 + 1)), eI cI 12, eI cI 7, eI cI 7, eI cI 5, eI cI 5] := h
  refine lv_aload_n hx hb dn9_26 rfl (lv_at hl 0 rfl) ?_
  refine n_newC (ci := 0) (ix := 16) (fs := nf0) (q := sz + 8) C hK h rfl (by decide) nw_g16 nw_in0 nw_it0 tyX0 tyX0_ok nw_df0 (by show 8 + 1 ≤ (nL9 cI cB cS sz).length; omega) (by show 291 + 10 ≤ 5125; omega) dn9_27 (fun H h => ?_)
  refine lv_dup hx hb dn9_30 rfl ?_
  refine n_callC (ix := 18) (qb := sz + 8) (L0 := [.inr (5, no5 (sz + 0 + 1)), eI cI 240, .inr (0, no0 (sz + 2 + 1)), eI cI 12, eI cI 7, eI cI 7, eI cI 5, eI cI 5]) (rest := [.ref (sz + 8), .ref h0]) C hK rfl (n_X0 l D cI cB cS (sz + 8) (sz + 8 + 1) ) nw_cd0 nw_it0 nw_im0 rfl nw_pl0 (Or.inr hE.1.2.1) ⟨Nat.le_of_ble_eq_true rfl, Nat.le_of_ble_eq_true rfl⟩ ⟨by show 8 + 1 + 5 ≤ (nL9 cI cB cS sz).length; omega, by show 291 + 10 + 36 ≤ 5125; omega⟩ h hl.1 (Nat.le_of_ble_eq_true rfl) rfl dn9_31 (fun H locs h => ?_)
  have h : CH D h0 sz s.heap H locs (.inr (9, [.ref (sz + 0), .ref (sz + 2), .null, .null, .null, .null, .null, .null, .null, .null, .int 0])) [.inr (5, no5 (sz + 0 + 1)), eI cI 240, .inr (0, no0 (sz + 2 + 1)), eI cI 12, eI cI 7, eI cI 7, eI cI 5, eI cI 5, .inr (0, no0 (sz + 8 + 1)), eI cI 12, eI cI 7, eI cI 7, eI cI 5, eI cI 5] := h
  refine W.widen (k := 14) (n := 337) (by show 8 + 1 + 5 ≤ 14; omega) (Nat.le_of_ble_eq_true rfl) ?_
  refine n_putC (ci := 9) (k := 2) (ty := .object "GladGlasses$Coast") (v := .ref (sz + 8)) C hK h (by decide +kernel) rfl (by decide +kernel) rfl rfl (Nat.le_of_ble_eq_true rfl) dn9_34 (fun H locs h => ?_)
  have h : CH D h0 sz s.heap H locs (.inr (9, [.ref (sz + 0), .ref (sz + 2), .ref (sz + 8), .null, .null, .null, .null, .null, .null, .null, .int 0])) [.inr (5, no5 (sz + 0 + 1)), eI cI 240, .inr (0, no0 (sz + 2 + 1)), eI cI 12, eI cI 7, eI cI 7, eI cI 5, eI cI 5, .inr (0, no0 (sz + 8 + 1)), eI cI 12, eI cI 7, eI cI 7, eI cI 5, eI cI 5] := h
  refine lv_aload_n hx hb dn9_37 rfl (lv_at hl 0 rfl) ?_
  refine n_newC (ci := 7) (ix := 26) (fs := nf7) (q := sz + 14) C hK h rfl (by decide) nw_g26 nw_in7 nw_it7 tyX7 tyX7_ok nw_df7 (by show 14 + 1 ≤ (nL9 cI cB cS sz).length; omega) (by show 337 + 13 ≤ 5125; omega) dn9_38 (fun H h => ?_)
  refine lv_dup hx hb dn9_41 rfl ?_
  refine n_callC (ix := 28) (qb := sz + 14) (L0 := [.inr (5, no5 (sz + 0 + 1)), eI cI 240, .inr (0, no0 (sz + 2 + 1)), eI cI 12, eI cI 7, eI cI 7, eI cI 5, eI cI 5, .inr (0, no0 (sz + 8 + 1)), eI cI 12, eI cI 7, eI cI 7, eI cI 5, eI cI 5]) (rest := [.ref (sz + 14), .ref h0]) C hK rfl (n_X7 l D cI cB cS (sz + 14) (sz + 14 + 1) ) nw_cd7 nw_it7 nw_im7 rfl nw_pl7 (Or.inr hE.1.2.2) ⟨Nat.le_of_ble_eq_true rfl, Nat.le_of_ble_eq_true rfl⟩ ⟨by show 14 + 1 + 7 ≤ (nL9 cI cB cS sz).length; omega, by show 337 + 13 + 86 ≤ 5125; omega⟩ h hl.1 (Nat.le_of_ble_eq_true rfl) rfl dn9_42 (fun H locs h => ?_)
  have h : CH D h0 sz s.heap H locs (.inr (9, [.ref (sz + 0), .ref (sz + 2), .ref (sz + 8), .null, .null, .null, .null, .null, .null, .null, .int 0])) [.inr (5, no5 (sz + 0 + 1)), eI cI 240, .inr (0, no0 (sz + 2 + 1)), eI cI 12, eI cI 7, eI cI 7, eI cI 5, eI cI 5, .inr (0, no0 (sz + 8 + 1)), eI cI 12, eI cI 7, eI cI 7, eI cI 5, eI cI 5, .inr (7, no7 (sz + 14 + 1)), eI cI 7, eI cI 7, eI cI 7, eI cI 5, eI cI 20, eI cI 20, eI cI 20] := h
  refine W.widen (k := 22) (n := 436) (by show 14 + 1 + 7 ≤ 22; omega) (Nat.le_of_ble_eq_true rfl) ?_
  refine n_putC (ci := 9) (k := 3) (ty := .object "GladGlasses$State") (v := .ref (sz + 14)) C hK h (by decide +kernel) rfl (by decide +kernel) rfl rfl (Nat.le_of_ble_eq_true rfl) dn9_45 (fun H locs h => ?_)
  have h : CH D h0 sz s.heap H locs (.inr (9, [.ref (sz + 0), .ref (sz + 2), .ref (sz + 8), .ref (sz + 14), .null, .null, .null, .null, .null, .null, .int 0])) [.inr (5, no5 (sz + 0 + 1)), eI cI 240, .inr (0, no0 (sz + 2 + 1)), eI cI 12, eI cI 7, eI cI 7, eI cI 5, eI cI 5, .inr (0, no0 (sz + 8 + 1)), eI cI 12, eI cI 7, eI cI 7, eI cI 5, eI cI 5, .inr (7, no7 (sz + 14 + 1)), eI cI 7, eI cI 7, eI cI 7, eI cI 5, eI cI 20, eI cI 20, eI cI 20] := h
  refine lv_aload_n hx hb dn9_48 rfl (lv_at hl 0 rfl) ?_
  refine n_newC (ci := 6) (ix := 33) (fs := nf6) (q := sz + 22) C hK h rfl (by decide) nw_g33 nw_in6 nw_it6 tyX6 tyX6_ok nw_df6 (by show 22 + 1 ≤ (nL9 cI cB cS sz).length; omega) (by show 436 + 2 ≤ 5125; omega) dn9_49 (fun H h => ?_)
  refine lv_dup hx hb dn9_52 rfl ?_
  refine lv_aload_n hx hb dn9_53 rfl (lv_at hl 0 rfl) ?_
  refine n_getC (ix := 23) (ci := 9) (k := 2) (v := .ref (sz + 8)) C hK h (by decide +kernel) rfl dn9_54 ?_
  refine lv_aload_n hx hb dn9_57 rfl (lv_at hl 0 rfl) ?_
  refine n_getC (ix := 29) (ci := 9) (k := 3) (v := .ref (sz + 14)) C hK h (by decide +kernel) rfl dn9_58 ?_
  refine n_callC (ix := 35) (qb := sz + 22) (L0 := [.inr (5, no5 (sz + 0 + 1)), eI cI 240, .inr (0, no0 (sz + 2 + 1)), eI cI 12, eI cI 7, eI cI 7, eI cI 5, eI cI 5, .inr (0, no0 (sz + 8 + 1)), eI cI 12, eI cI 7, eI cI 7, eI cI 5, eI cI 5, .inr (7, no7 (sz + 14 + 1)), eI cI 7, eI cI 7, eI cI 7, eI cI 5, eI cI 20, eI cI 20, eI cI 20]) (rest := [.ref (sz + 22), .ref h0]) C hK rfl (n_X6 l D cI cB cS (sz + 22) (sz + 22 + 1) (sz + 8) (sz + 14)) nw_cd6 nw_it6 nw_im6 rfl nw_pl6 (Or.inl (gT_at (i := 251) (by decide +kernel))) ⟨Nat.le_of_ble_eq_true rfl, Nat.le_of_ble_eq_true rfl⟩ ⟨by show 22 + 1 + 0 ≤ (nL9 cI cB cS sz).length; omega, by show 436 + 2 + 0 ≤ 5125; omega⟩ h hl.1 (Nat.le_of_ble_eq_true rfl) rfl dn9_61 (fun H locs h => ?_)
  have h : CH D h0 sz s.heap H locs (.inr (9, [.ref (sz + 0), .ref (sz + 2), .ref (sz + 8), .ref (sz + 14), .null, .null, .null, .null, .null, .null, .int 0])) [.inr (5, no5 (sz + 0 + 1)), eI cI 240, .inr (0, no0 (sz + 2 + 1)), eI cI 12, eI cI 7, eI cI 7, eI cI 5, eI cI 5, .inr (0, no0 (sz + 8 + 1)), eI cI 12, eI cI 7, eI cI 7, eI cI 5, eI cI 5, .inr (7, no7 (sz + 14 + 1)), eI cI 7, eI cI 7, eI cI 7, eI cI 5, eI cI 20, eI cI 20, eI cI 20, .inr (6, no6 (sz + 22 + 1) (sz + 8) (sz + 14))] := h
  refine W.widen (k := 23) (n := 438) (by show 22 + 1 + 0 ≤ 23; omega) (Nat.le_of_ble_eq_true rfl) ?_
  refine n_putC (ci := 9) (k := 4) (ty := .object "GladGlasses$Row") (v := .ref (sz + 22)) C hK h (by decide +kernel) rfl (by decide +kernel) rfl rfl (Nat.le_of_ble_eq_true rfl) dn9_64 (fun H locs h => ?_)
  have h : CH D h0 sz s.heap H locs (.inr (9, [.ref (sz + 0), .ref (sz + 2), .ref (sz + 8), .ref (sz + 14), .ref (sz + 22), .null, .null, .null, .null, .null, .int 0])) [.inr (5, no5 (sz + 0 + 1)), eI cI 240, .inr (0, no0 (sz + 2 + 1)), eI cI 12, eI cI 7, eI cI 7, eI cI 5, eI cI 5, .inr (0, no0 (sz + 8 + 1)), eI cI 12, eI cI 7, eI cI 7, eI cI 5, eI cI 5, .inr (7, no7 (sz + 14 + 1)), eI cI 7, eI cI 7, eI cI 7, eI cI 5, eI cI 20, eI cI 20, eI cI 20, .inr (6, no6 (sz + 22 + 1) (sz + 8) (sz + 14))] := h
  refine lv_aload_n hx hb dn9_67 rfl (lv_at hl 0 rfl) ?_
  refine n_newC (ci := 2) (ix := 42) (fs := nf2) (q := sz + 23) C hK h rfl (by decide) nw_g42 nw_in2 nw_it2 tyX2 tyX2_ok nw_df2 (by show 23 + 1 ≤ (nL9 cI cB cS sz).length; omega) (by show 438 + 7 ≤ 5125; omega) dn9_68 (fun H h => ?_)
  refine lv_dup hx hb dn9_71 rfl ?_
  refine lv_aload_n hx hb dn9_72 rfl (lv_at hl 0 rfl) ?_
  refine n_getC (ix := 23) (ci := 9) (k := 2) (v := .ref (sz + 8)) C hK h (by decide +kernel) rfl dn9_73 ?_
  refine lv_aload_n hx hb dn9_76 rfl (lv_at hl 0 rfl) ?_
  refine n_getC (ix := 29) (ci := 9) (k := 3) (v := .ref (sz + 14)) C hK h (by decide +kernel) rfl dn9_77 ?_
  refine lv_aload_n hx hb dn9_80 rfl (lv_at hl 0 rfl) ?_
  refine n_getC (ix := 38) (ci := 9) (k := 4) (v := .ref (sz + 22)) C hK h (by decide +kernel) rfl dn9_81 ?_
  refine n_callC (ix := 44) (qb := sz + 23) (L0 := [.inr (5, no5 (sz + 0 + 1)), eI cI 240, .inr (0, no0 (sz + 2 + 1)), eI cI 12, eI cI 7, eI cI 7, eI cI 5, eI cI 5, .inr (0, no0 (sz + 8 + 1)), eI cI 12, eI cI 7, eI cI 7, eI cI 5, eI cI 5, .inr (7, no7 (sz + 14 + 1)), eI cI 7, eI cI 7, eI cI 7, eI cI 5, eI cI 20, eI cI 20, eI cI 20, .inr (6, no6 (sz + 22 + 1) (sz + 8) (sz + 14))]) (rest := [.ref (sz + 23), .ref h0]) C hK rfl (n_X2 l D cI cB cS (sz + 23) (sz + 23 + 1) (sz + 8) (sz + 14) (sz + 22)) nw_cd2 nw_it2 nw_im2 rfl nw_pl2 (Or.inl (gT_at (i := 264) (by decide +kernel))) ⟨Nat.le_of_ble_eq_true rfl, Nat.le_of_ble_eq_true rfl⟩ ⟨by show 23 + 1 + 2 ≤ (nL9 cI cB cS sz).length; omega, by show 438 + 7 + 120 ≤ 5125; omega⟩ h hl.1 (Nat.le_of_ble_eq_true rfl) rfl dn9_84 (fun H locs h => ?_)
  have h : CH D h0 sz s.heap H locs (.inr (9, [.ref (sz + 0), .ref (sz + 2), .ref (sz + 8), .ref (sz + 14), .ref (sz + 22), .null, .null, .null, .null, .null, .int 0])) [.inr (5, no5 (sz + 0 + 1)), eI cI 240, .inr (0, no0 (sz + 2 + 1)), eI cI 12, eI cI 7, eI cI 7, eI cI 5, eI cI 5, .inr (0, no0 (sz + 8 + 1)), eI cI 12, eI cI 7, eI cI 7, eI cI 5, eI cI 5, .inr (7, no7 (sz + 14 + 1)), eI cI 7, eI cI 7, eI cI 7, eI cI 5, eI cI 20, eI cI 20, eI cI 20, .inr (6, no6 (sz + 22 + 1) (sz + 8) (sz + 14)), .inr (2, no2 (sz + 23 + 1) (sz + 8) (sz + 14) (sz + 22)), eI cI 60, eI cI 60] := h
  refine W.widen (k := 26) (n := 565) (by show 23 + 1 + 2 ≤ 26; omega) (Nat.le_of_ble_eq_true rfl) ?_
  refine n_putC (ci := 9) (k := 5) (ty := .object "GladGlasses$Fleet") (v := .ref (sz + 23)) C hK h (by decide +kernel) rfl (by decide +kernel) rfl rfl (Nat.le_of_ble_eq_true rfl) dn9_87 (fun H locs h => ?_)
  have h : CH D h0 sz s.heap H locs (.inr (9, [.ref (sz + 0), .ref (sz + 2), .ref (sz + 8), .ref (sz + 14), .ref (sz + 22), .ref (sz + 23), .null, .null, .null, .null, .int 0])) [.inr (5, no5 (sz + 0 + 1)), eI cI 240, .inr (0, no0 (sz + 2 + 1)), eI cI 12, eI cI 7, eI cI 7, eI cI 5, eI cI 5, .inr (0, no0 (sz + 8 + 1)), eI cI 12, eI cI 7, eI cI 7, eI cI 5, eI cI 5, .inr (7, no7 (sz + 14 + 1)), eI cI 7, eI cI 7, eI cI 7, eI cI 5, eI cI 20, eI cI 20, eI cI 20, .inr (6, no6 (sz + 22 + 1) (sz + 8) (sz + 14)), .inr (2, no2 (sz + 23 + 1) (sz + 8) (sz + 14) (sz + 22)), eI cI 60, eI cI 60] := h
  refine lv_aload_n hx hb dn9_90 rfl (lv_at hl 0 rfl) ?_
  refine n_newC (ci := 8) (ix := 51) (fs := nf8) (q := sz + 26) C hK h rfl (by decide) nw_g51 nw_in8 nw_it8 tyX8 tyX8_ok nw_df8 (by show 26 + 1 ≤ (nL9 cI cB cS sz).length; omega) (by show 565 + 12 ≤ 5125; omega) dn9_91 (fun H h => ?_)
  refine lv_dup hx hb dn9_94 rfl ?_
  refine lv_aload_n hx hb dn9_95 rfl (lv_at hl 0 rfl) ?_
  refine n_getC (ix := 23) (ci := 9) (k := 2) (v := .ref (sz + 8)) C hK h (by decide +kernel) rfl dn9_96 ?_
  refine lv_aload_n hx hb dn9_99 rfl (lv_at hl 0 rfl) ?_
  refine n_getC (ix := 29) (ci := 9) (k := 3) (v := .ref (sz + 14)) C hK h (by decide +kernel) rfl dn9_100 ?_
  refine lv_aload_n hx hb dn9_103 rfl (lv_at hl 0 rfl) ?_
  refine n_getC (ix := 38) (ci := 9) (k := 4) (v := .ref (sz + 22)) C hK h (by decide +kernel) rfl dn9_104 ?_
  refine n_callC (ix := 53) (qb := sz + 26) (L0 := [.inr (5, no5 (sz + 0 + 1)), eI cI 240, .inr (0, no0 (sz + 2 + 1)), eI cI 12, eI cI 7, eI cI 7, eI cI 5, eI cI 5, .inr (0, no0 (sz + 8 + 1)), eI cI 12, eI cI 7, eI cI 7, eI cI 5, eI cI 5, .inr (7, no7 (sz + 14 + 1)), eI cI 7, eI cI 7, eI cI 7, eI cI 5, eI cI 20, eI cI 20, eI cI 20, .inr (6, no6 (sz + 22 + 1) (sz + 8) (sz + 14)), .inr (2, no2 (sz + 23 + 1) (sz + 8) (sz + 14) (sz + 22)), eI cI 60, eI cI 60]) (rest := [.ref (sz + 26), .ref h0]) C hK rfl (n_X8 l D cI cB cS (sz + 26) (sz + 26 + 1) (sz + 8) (sz + 14) (sz + 22)) nw_cd8 nw_it8 nw_im8 rfl nw_pl8 (Or.inl (gT_at (i := 294) (by decide +kernel))) ⟨Nat.le_of_ble_eq_true rfl, Nat.le_of_ble_eq_true rfl⟩ ⟨by show 26 + 1 + 8 ≤ (nL9 cI cB cS sz).length; omega, by show 565 + 12 + 1268 ≤ 5125; omega⟩ h hl.1 (Nat.le_of_ble_eq_true rfl) rfl dn9_107 (fun H locs h => ?_)
  have h : CH D h0 sz s.heap H locs (.inr (9, [.ref (sz + 0), .ref (sz + 2), .ref (sz + 8), .ref (sz + 14), .ref (sz + 22), .ref (sz + 23), .null, .null, .null, .null, .int 0])) [.inr (5, no5 (sz + 0 + 1)), eI cI 240, .inr (0, no0 (sz + 2 + 1)), eI cI 12, eI cI 7, eI cI 7, eI cI 5, eI cI 5, .inr (0, no0 (sz + 8 + 1)), eI cI 12, eI cI 7, eI cI 7, eI cI 5, eI cI 5, .inr (7, no7 (sz + 14 + 1)), eI cI 7, eI cI 7, eI cI 7, eI cI 5, eI cI 20, eI cI 20, eI cI 20, .inr (6, no6 (sz + 22 + 1) (sz + 8) (sz + 14)), .inr (2, no2 (sz + 23 + 1) (sz + 8) (sz + 14) (sz + 22)), eI cI 60, eI cI 60, .inr (8, no8 (sz + 26 + 1) (sz + 8) (sz + 14) (sz + 22)), eI cI 84, eI cI 12, eI cI 12, eI cI 7, eI cI 7, eI cI 10, eI cI 568, eI cI 568] := h
  refine W.widen (k := 35) (n := 1845) (by show 26 + 1 + 8 ≤ 35; omega) (Nat.le_of_ble_eq_true rfl) ?_
  refine n_putC (ci := 9) (k := 6) (ty := .object "GladGlasses$Tuning") (v := .ref (sz + 26)) C hK h (by decide +kernel) rfl (by decide +kernel) rfl rfl (Nat.le_of_ble_eq_true rfl) dn9_110 (fun H locs h => ?_)
  have h : CH D h0 sz s.heap H locs (.inr (9, [.ref (sz + 0), .ref (sz + 2), .ref (sz + 8), .ref (sz + 14), .ref (sz + 22), .ref (sz + 23), .ref (sz + 26), .null, .null, .null, .int 0])) [.inr (5, no5 (sz + 0 + 1)), eI cI 240, .inr (0, no0 (sz + 2 + 1)), eI cI 12, eI cI 7, eI cI 7, eI cI 5, eI cI 5, .inr (0, no0 (sz + 8 + 1)), eI cI 12, eI cI 7, eI cI 7, eI cI 5, eI cI 5, .inr (7, no7 (sz + 14 + 1)), eI cI 7, eI cI 7, eI cI 7, eI cI 5, eI cI 20, eI cI 20, eI cI 20, .inr (6, no6 (sz + 22 + 1) (sz + 8) (sz + 14)), .inr (2, no2 (sz + 23 + 1) (sz + 8) (sz + 14) (sz + 22)), eI cI 60, eI cI 60, .inr (8, no8 (sz + 26 + 1) (sz + 8) (sz + 14) (sz + 22)), eI cI 84, eI cI 12, eI cI 12, eI cI 7, eI cI 7, eI cI 10, eI cI 568, eI cI 568] := h
  refine lv_aload_n hx hb dn9_113 rfl (lv_at hl 0 rfl) ?_
  refine n_newC (ci := 4) (ix := 58) (fs := nf4) (q := sz + 35) C hK h rfl (by decide) nw_g58 nw_in4 nw_it4 tyX4 tyX4_ok nw_df4 (by show 35 + 1 ≤ (nL9 cI cB cS sz).length; omega) (by show 1845 + 10 ≤ 5125; omega) dn9_114 (fun H h => ?_)
  refine lv_dup hx hb dn9_117 rfl ?_
  refine lv_aload_n hx hb dn9_118 rfl (lv_at hl 0 rfl) ?_
  refine n_getC (ix := 23) (ci := 9) (k := 2) (v := .ref (sz + 8)) C hK h (by decide +kernel) rfl dn9_119 ?_
  refine lv_aload_n hx hb dn9_122 rfl (lv_at hl 0 rfl) ?_
  refine n_getC (ix := 29) (ci := 9) (k := 3) (v := .ref (sz + 14)) C hK h (by decide +kernel) rfl dn9_123 ?_
  refine lv_aload_n hx hb dn9_126 rfl (lv_at hl 0 rfl) ?_
  refine n_getC (ix := 38) (ci := 9) (k := 4) (v := .ref (sz + 22)) C hK h (by decide +kernel) rfl dn9_127 ?_
  refine n_callC (ix := 60) (qb := sz + 35) (L0 := [.inr (5, no5 (sz + 0 + 1)), eI cI 240, .inr (0, no0 (sz + 2 + 1)), eI cI 12, eI cI 7, eI cI 7, eI cI 5, eI cI 5, .inr (0, no0 (sz + 8 + 1)), eI cI 12, eI cI 7, eI cI 7, eI cI 5, eI cI 5, .inr (7, no7 (sz + 14 + 1)), eI cI 7, eI cI 7, eI cI 7, eI cI 5, eI cI 20, eI cI 20, eI cI 20, .inr (6, no6 (sz + 22 + 1) (sz + 8) (sz + 14)), .inr (2, no2 (sz + 23 + 1) (sz + 8) (sz + 14) (sz + 22)), eI cI 60, eI cI 60, .inr (8, no8 (sz + 26 + 1) (sz + 8) (sz + 14) (sz + 22)), eI cI 84, eI cI 12, eI cI 12, eI cI 7, eI cI 7, eI cI 10, eI cI 568, eI cI 568]) (rest := [.ref (sz + 35), .ref h0]) C hK rfl (n_X4 l D cI cB cS (sz + 35) (sz + 35 + 1) (sz + 8) (sz + 14) (sz + 22)) nw_cd4 nw_it4 nw_im4 rfl nw_pl4 (Or.inl (gT_at (i := 338) (by decide +kernel))) ⟨Nat.le_of_ble_eq_true rfl, Nat.le_of_ble_eq_true rfl⟩ ⟨by show 35 + 1 + 5 ≤ (nL9 cI cB cS sz).length; omega, by show 1845 + 10 + 62 ≤ 5125; omega⟩ h hl.1 (Nat.le_of_ble_eq_true rfl) rfl dn9_130 (fun H locs h => ?_)
  have h : CH D h0 sz s.heap H locs (.inr (9, [.ref (sz + 0), .ref (sz + 2), .ref (sz + 8), .ref (sz + 14), .ref (sz + 22), .ref (sz + 23), .ref (sz + 26), .null, .null, .null, .int 0])) [.inr (5, no5 (sz + 0 + 1)), eI cI 240, .inr (0, no0 (sz + 2 + 1)), eI cI 12, eI cI 7, eI cI 7, eI cI 5, eI cI 5, .inr (0, no0 (sz + 8 + 1)), eI cI 12, eI cI 7, eI cI 7, eI cI 5, eI cI 5, .inr (7, no7 (sz + 14 + 1)), eI cI 7, eI cI 7, eI cI 7, eI cI 5, eI cI 20, eI cI 20, eI cI 20, .inr (6, no6 (sz + 22 + 1) (sz + 8) (sz + 14)), .inr (2, no2 (sz + 23 + 1) (sz + 8) (sz + 14) (sz + 22)), eI cI 60, eI cI 60, .inr (8, no8 (sz + 26 + 1) (sz + 8) (sz + 14) (sz + 22)), eI cI 84, eI cI 12, eI cI 12, eI cI 7, eI cI 7, eI cI 10, eI cI 568, eI cI 568, .inr (4, no4 (sz + 35 + 1) (sz + 8) (sz + 14) (sz + 22)), eI cI 6, eI cI 6, eI cI 20, eI cI 20, eI cI 10] := h
  refine W.widen (k := 41) (n := 1917) (by show 35 + 1 + 5 ≤ 41; omega) (Nat.le_of_ble_eq_true rfl) ?_
  refine n_putC (ci := 9) (k := 7) (ty := .object "GladGlasses$Notebook") (v := .ref (sz + 35)) C hK h (by decide +kernel) rfl (by decide +kernel) rfl rfl (Nat.le_of_ble_eq_true rfl) dn9_133 (fun H locs h => ?_)
  have h : CH D h0 sz s.heap H locs (.inr (9, [.ref (sz + 0), .ref (sz + 2), .ref (sz + 8), .ref (sz + 14), .ref (sz + 22), .ref (sz + 23), .ref (sz + 26), .ref (sz + 35), .null, .null, .int 0])) [.inr (5, no5 (sz + 0 + 1)), eI cI 240, .inr (0, no0 (sz + 2 + 1)), eI cI 12, eI cI 7, eI cI 7, eI cI 5, eI cI 5, .inr (0, no0 (sz + 8 + 1)), eI cI 12, eI cI 7, eI cI 7, eI cI 5, eI cI 5, .inr (7, no7 (sz + 14 + 1)), eI cI 7, eI cI 7, eI cI 7, eI cI 5, eI cI 20, eI cI 20, eI cI 20, .inr (6, no6 (sz + 22 + 1) (sz + 8) (sz + 14)), .inr (2, no2 (sz + 23 + 1) (sz + 8) (sz + 14) (sz + 22)), eI cI 60, eI cI 60, .inr (8, no8 (sz + 26 + 1) (sz + 8) (sz + 14) (sz + 22)), eI cI 84, eI cI 12, eI cI 12, eI cI 7, eI cI 7, eI cI 10, eI cI 568, eI cI 568, .inr (4, no4 (sz + 35 + 1) (sz + 8) (sz + 14) (sz + 22)), eI cI 6, eI cI 6, eI cI 20, eI cI 20, eI cI 10] := h
  refine lv_aload_n hx hb dn9_136 rfl (lv_at hl 0 rfl) ?_
  refine n_newC (ci := 1) (ix := 65) (fs := [.null, .int 0, .int 0]) (q := sz + 41) C hK h rfl (by decide) nw_g65 nw_in1 nw_it1 tyX1 tyX1_ok nw_df1 (by show 41 + 1 ≤ (nL9 cI cB cS sz).length; omega) (by show 1917 + 3 ≤ 5125; omega) dn9_137 (fun H h => ?_)
  refine lv_dup hx hb dn9_140 rfl ?_
  refine n_callC (ix := 67) (qb := sz + 41) (L0 := [.inr (5, no5 (sz + 0 + 1)), eI cI 240, .inr (0, no0 (sz + 2 + 1)), eI cI 12, eI cI 7, eI cI 7, eI cI 5, eI cI 5, .inr (0, no0 (sz + 8 + 1)), eI cI 12, eI cI 7, eI cI 7, eI cI 5, eI cI 5, .inr (7, no7 (sz + 14 + 1)), eI cI 7, eI cI 7, eI cI 7, eI cI 5, eI cI 20, eI cI 20, eI cI 20, .inr (6, no6 (sz + 22 + 1) (sz + 8) (sz + 14)), .inr (2, no2 (sz + 23 + 1) (sz + 8) (sz + 14) (sz + 22)), eI cI 60, eI cI 60, .inr (8, no8 (sz + 26 + 1) (sz + 8) (sz + 14) (sz + 22)), eI cI 84, eI cI 12, eI cI 12, eI cI 7, eI cI 7, eI cI 10, eI cI 568, eI cI 568, .inr (4, no4 (sz + 35 + 1) (sz + 8) (sz + 14) (sz + 22)), eI cI 6, eI cI 6, eI cI 20, eI cI 20, eI cI 10]) (rest := [.ref (sz + 41), .ref h0]) C hK rfl (n_X1 l D cI cB cS (sz + 41) (sz + 41 + 1) ) nw_cd1 nw_it1 nw_im1 rfl nw_pl1 (Or.inl (gT_at (i := 377) (by decide +kernel))) ⟨Nat.le_of_ble_eq_true rfl, Nat.le_of_ble_eq_true rfl⟩ ⟨by show 41 + 1 + (nL1 cI cB cS (sz + 41 + 1)).length ≤ (nL9 cI cB cS sz).length; omega, by show 1917 + 3 + 3000 ≤ 5125; omega⟩ h hl.1 (Nat.le_of_ble_eq_true rfl) rfl dn9_141 (fun H locs h => ?_)
  have h : CH D h0 sz s.heap H locs (.inr (9, [.ref (sz + 0), .ref (sz + 2), .ref (sz + 8), .ref (sz + 14), .ref (sz + 22), .ref (sz + 23), .ref (sz + 26), .ref (sz + 35), .null, .null, .int 0])) (nG2 cI cB cS sz) := h
  refine W.widen (k := 283) (n := 4920) (by show 41 + 1 + (nL1 cI cB cS (sz + 41 + 1)).length ≤ 283; omega) (Nat.le_of_ble_eq_true rfl) ?_
  refine n_putC (ci := 9) (k := 8) (ty := .object "GladGlasses$Deeds") (v := .ref (sz + 41)) C hK h (by decide +kernel) rfl (by decide +kernel) rfl rfl (Nat.le_of_ble_eq_true rfl) dn9_144 (fun H locs h => ?_)
  have h : CH D h0 sz s.heap H locs (.inr (9, [.ref (sz + 0), .ref (sz + 2), .ref (sz + 8), .ref (sz + 14), .ref (sz + 22), .ref (sz + 23), .ref (sz + 26), .ref (sz + 35), .ref (sz + 41), .null, .int 0])) (nG2 cI cB cS sz) := h
  refine lv_aload_n hx hb dn9_147 rfl (lv_at hl 0 rfl) ?_
  refine n_newC (ci := 3) (ix := 72) (fs := [.null, .null, .int 0]) (q := sz + 283) C hK h (by rw [hg2]) (by decide) nw_g72 nw_in3 nw_it3 tyX3 tyX3_ok nw_df3 (by show 283 + 1 ≤ (nL9 cI cB cS sz).length; omega) (by show 4920 + 3 ≤ 5125; omega) dn9_148 (fun H h => ?_)
  refine lv_dup hx hb dn9_151 rfl ?_
  refine n_callC (ix := 74) (qb := sz + 283) (L0 := (nG2 cI cB cS sz)) (rest := [.ref (sz + 283), .ref h0]) C hK (by rw [hg2]) (n_X3 l D cI cB cS (sz + 283) (sz + 283 + 1) ) nw_cd3 nw_it3 nw_im3 rfl nw_pl3 (Or.inl (gT_at (i := 397) (by decide +kernel))) ⟨Nat.le_of_ble_eq_true rfl, Nat.le_of_ble_eq_true rfl⟩ ⟨by show 283 + 1 + (nL3 cI cB cS (sz + 283 + 1)).length ≤ (nL9 cI cB cS sz).length; omega, by show 4920 + 3 + 202 ≤ 5125; omega⟩ h hl.1 (Nat.le_of_ble_eq_true rfl) rfl dn9_152 (fun H locs h => ?_)
  have h : CH D h0 sz s.heap H locs (.inr (9, [.ref (sz + 0), .ref (sz + 2), .ref (sz + 8), .ref (sz + 14), .ref (sz + 22), .ref (sz + 23), .ref (sz + 26), .ref (sz + 35), .ref (sz + 41), .null, .int 0])) (nL9 cI cB cS sz) := h
  refine W.widen (k := 302) (n := 5125) (by show 283 + 1 + (nL3 cI cB cS (sz + 283 + 1)).length ≤ 302; omega) (Nat.le_of_ble_eq_true rfl) ?_
  refine n_putC (ci := 9) (k := 9) (ty := .object "GladGlasses$Images") (v := .ref (sz + 283)) C hK h (by decide +kernel) rfl (by decide +kernel) rfl rfl (Nat.le_of_ble_eq_true rfl) dn9_155 (fun H locs h => ?_)
  have h : CH D h0 sz s.heap H locs (.inr (9, [.ref (sz + 0), .ref (sz + 2), .ref (sz + 8), .ref (sz + 14), .ref (sz + 22), .ref (sz + 23), .ref (sz + 26), .ref (sz + 35), .ref (sz + 41), .ref (sz + 283), .int 0])) (nL9 cI cB cS sz) := h
  refine lv_aload_n hx hb dn9_158 rfl (lv_at hl 0 rfl) ?_
  refine lv_iconst (v := nI 0) hx hb dn9_159 (by decide) ?_
  refine n_putC (ci := 9) (k := 10) (ty := .int) (v := .int (nI 0)) C hK h (by decide +kernel) rfl (by decide +kernel) rfl rfl (Nat.le_of_ble_eq_true rfl) dn9_160 (fun H locs h => ?_)
  have h : CH D h0 sz s.heap H locs (.inr (9, [.ref (sz + 0), .ref (sz + 2), .ref (sz + 8), .ref (sz + 14), .ref (sz + 22), .ref (sz + 23), .ref (sz + 26), .ref (sz + 35), .ref (sz + 41), .ref (sz + 283), .int (nI 0)])) (nL9 cI cB cS sz) := h
  refine W.widen (k := (nL9 cI cB cS sz).length) (n := 5125) (by omega) (Nat.le_refl _) ?_
  exact n_retC (L1 := nL9 cI cB cS sz) (o1 := .inr (9, no9 sz)) C h dn9_163
