/-! the law from its entry to its loop -/
theorem dw_0 : decode code 0 = .ok (.new 7, 3) := by decide +kernel
theorem dw_3 : decode code 3 = .ok (.dup, 1) := by decide +kernel
theorem dw_4 : decode code 4 = .ok (.invokespecial 9, 3) := by decide +kernel
theorem dw_7 : decode code 7 = .ok (.astore_n 1, 1) := by decide +kernel
theorem dw_8 : decode code 8 = .ok (.new 10, 3) := by decide +kernel
theorem dw_11 : decode code 11 = .ok (.dup, 1) := by decide +kernel
theorem dw_12 : decode code 12 = .ok (.invokespecial 12, 3) := by decide +kernel
theorem dw_15 : decode code 15 = .ok (.astore_n 2, 1) := by decide +kernel
theorem dw_16 : decode code 16 = .ok (.iconst 0, 1) := by decide +kernel
theorem dw_17 : decode code 17 = .ok (.istore_n 3, 1) := by decide +kernel
theorem nw_w9 : Cond.classLink R_law 7 (zcs 9).1 ∈ gT := gT_at (i := 85) (by decide +kernel)
theorem nw_w10 : Cond.classLink R_law 10 (zcs 10).1 ∈ gT := gT_at (i := 1012) (by decide +kernel)
theorem nw_i9 : Cond.methodLink R_law 9 yX9_init ∈ gT := gT_at (i := 87) (by decide +kernel)
theorem nw_i10 : Cond.methodLink R_law 12 yX10_init ∈ gT := gT_at (i := 1014) (by decide +kernel)
theorem nw_e1 : lw_tbl[95]? = some (.methodLinkNest RX9 11 yX5_init RX9) := by decide +kernel
theorem nw_e2 : lw_tbl[120]? = some (.methodLinkNest RX9 18 yX0_init RX9) := by decide +kernel
theorem nw_e3 : lw_tbl[181]? = some (.methodLinkNest RX9 28 yX7_init RX9) := by decide +kernel
theorem nw_e4 : lw_tbl[383]? = some (.methodLinkNest RX1 24 yX7_init RX9) := by decide +kernel
theorem nw_e5 : lw_tbl[402]? = some (.methodLinkNest RX3 25 yX7_init RX9) := by decide +kernel
theorem nw_e6 : lw_tbl[382]? = some (.arrayOver (.object RX7)) := by decide +kernel
theorem nw_inst : ∀ c, c < 11 → Cond.instantiable (zcs c).1 (zcs c).2.2 ∈ gT := by
  intro c hc
  match c with
  | 0 => exact nw_in0
  | 1 => exact nw_in1
  | 2 => exact nw_in2
  | 3 => exact nw_in3
  | 4 => exact nw_in4
  | 5 => exact nw_in5
  | 6 => exact nw_in6
  | 7 => exact nw_in7
  | 8 => exact nw_in8
  | 9 => exact nw_in9
  | 10 => exact nw_in10
  | n + 11 => exact absurd hc (by omega)
/-- what the tables say of the classes -/
theorem l_known {args : Array Value} {s : State} (hts : ∀ w ∈ gT, w.before args s = true) (hE : nE s) : ∃ (D : va_G) (cI cB cS : ClassId), va_K D vwCl (nTy cI cB cS) s := by
  have h : ∀ c : Nat, ∃ q : ClassId × (Nat → Nat), c < 11 → u_Kn s (zcs c).1 (zcs c).2.1 (zcs c).2.2 q.1 q.2 := by
    intro c
    by_cases hc : c < 11
    · obtain ⟨cC, iS, h⟩ := u_known hts (zuin c hc) (hts _ (nw_inst c hc))
      exact ⟨(cC, iS), fun _ => h⟩
    · exact ⟨(0, fun _ => 0), fun q => absurd q hc⟩
  obtain ⟨cI, kI, compI, i1, i2, i3⟩ := Cond.arrayClass_spec (hts _ nw_int)
  obtain ⟨cB, kB, compB, b1, b2, b3⟩ := Cond.arrayClass_spec (hts _ nw_bool)
  obtain ⟨compS, cS, kS, s1, -, s3, s4, s5⟩ := Cond.arrayOver_spec hE.2.2
  refine ⟨(fun c => (Classical.choose (h c)).1, fun c => (Classical.choose (h c)).2), cI, cB, cS, fun c q hq => ?_, fun k q hq => ?_⟩
  · have hc : c < 11 := (List.getElem?_eq_some_iff.mp hq).1
    have e : q = zcs c := by
      unfold zcs
      rw [List.getD_eq_getElem?_getD, hq]
      rfl
    rw [e]
    exact Classical.choose_spec (h c) hc
  · match k with
    | 0 =>
      cases hq
      exact ⟨fun n z => ⟨fun k h => (by cases h), kI, i2, compI, i3⟩, i1⟩
    | 1 =>
      cases hq
      exact ⟨fun n z => ⟨fun k h => (by cases h), kB, b2, compB, b3⟩, b1⟩
    | 2 =>
      cases hq
      exact ⟨fun n z => ⟨fun k h => (by cases h), kS, s3, compS, s4⟩, kS, compS, s3, s4, s1, s5⟩
    | n + 3 => exact absurd (List.getElem?_eq_some_iff.mp hq).1 (by show ¬ n + 3 < 3; omega)
set_option maxHeartbeats 4000000 in
theorem whole_start {p : Program} {e : Env} {s : State} {m : MethodId} {below : List Frame} {meth : Method} {c : Code} (l : Launch) {b L : Nat} {xs : Nat → Int32} (hL : L ≤ 1536) (C0 : lw_At p s m meth c b L xs) : W p l e room_1 s m #[Value.ref b] below meth c s.heap [] 0 0 (lw_Z below #[Value.ref b] s) (entryFrame m ([Value.ref b] : List Value).toArray 4) := by
  obtain ⟨hx, hb, hr, hml, hown, hts0, hX, hbl, hlocks, -⟩ := C0
  have hts : ∀ w ∈ gT, w.before #[Value.ref b] s = true := fun w hw => hts0 w (List.mem_filter.mp hw).1
  have hE : nE s := ⟨⟨va_Nw.of rfl (hts0 _ (List.mem_of_getElem? nw_e1)), va_Nw.of rfl (hts0 _ (List.mem_of_getElem? nw_e2)), va_Nw.of rfl (hts0 _ (List.mem_of_getElem? nw_e3))⟩, ⟨va_Nw.of rfl (hts0 _ (List.mem_of_getElem? nw_e4)), va_Nw.of rfl (hts0 _ (List.mem_of_getElem? nw_e5))⟩, va_AO.of (hts0 _ (List.mem_of_getElem? nw_e6))⟩
  have hnw : zNw s := by
    intro q hq h1
    have h2 := hts0 _ (List.mem_of_getElem? (zML_ok q hq).1)
    unfold zMw at h2 ⊢
    rw [if_pos h1] at h2 ⊢
    exact va_Nw.of rfl h2
  obtain ⟨D, cI, cB, cS, hK⟩ := l_known hts hE
  have hlen := nL9_len cI cB cS (s.heap.size + 1)
  have hl := lv_entry ([.ref b]) (n := 4) (Nat.le_of_ble_eq_true rfl)
  rw [lg_entry_eq]
  generalize (lg_sl ([.ref b]) ++ List.replicate (4 - (lg_sl ([.ref b])).length) Slot.unset).toArray = ls at hl ⊢
  have hl : lv_has ls 4 [(0, .ref b)] := hl
  refine n_new (ci := 9) (index := 7) hx hb hts hown hK (by decide) nw_w9 nw_in9 nw_it9 tyX9 tyX9_ok nw_df9 (Nat.le_of_ble_eq_true rfl) (Nat.le_of_ble_eq_true rfl) dw_0 (fun H1 z1 o1 a1 => ?_)
  refine lv_dup hx hb dw_3 rfl ?_
  refine n_call0 (ix := 9) (bb := s.heap.size) (sz1 := s.heap.size + 1) (rest := [.ref s.heap.size]) ⟨hx, hb, hml, hown, hts⟩ hE hK (n_X9 l D cI cB cS s.heap.size (s.heap.size + 1)) nw_cd9 nw_it9 nw_im9 rfl nw_pl9 (Or.inl nw_i9) ⟨Nat.le_of_ble_eq_true rfl, Nat.le_of_ble_eq_true rfl⟩ ⟨by rw [hlen]; exact Nat.le_of_ble_eq_true rfl, Nat.le_of_ble_eq_true rfl⟩ z1 (by omega) a1 hl.1 (Nat.le_of_ble_eq_true rfl) rfl dw_4 (fun H2 locs2 z2 a2 n2 o2 l2 => ?_)
  refine lv_astore_n hx hb dw_7 rfl hl (by decide) (lv' := [(1, .ref s.heap.size), (0, .ref b)]) rfl (fun ls hl => ?_)
  have z2 : H2.size = s.heap.size + 303 := by rw [z2, hlen]
  refine W.widen (k := 303) (n := 5136) (by rw [hlen]; exact Nat.le_of_ble_eq_true rfl) (Nat.le_of_ble_eq_true rfl) ?_
  refine n_new (ci := 10) (index := 10) hx hb hts hown hK (by decide) nw_w10 nw_in10 nw_it10 tyX10 tyX10_ok nw_df10 (Nat.le_of_ble_eq_true rfl) (Nat.le_of_ble_eq_true rfl) dw_8 (fun H3 z3 o3 a3 => ?_)
  rw [z2] at z3 o3 a3 ⊢
  refine lv_dup hx hb dw_11 rfl ?_
  refine n_call0 (ix := 12) (bb := s.heap.size + 303) (sz1 := s.heap.size + 303 + 1) (rest := [.ref (s.heap.size + 303)]) ⟨hx, hb, hml, hown, hts⟩ hE hK (n_X10 l D cI cB cS (s.heap.size + 303) (s.heap.size + 303 + 1)) nw_cd10 nw_it10 nw_im10 rfl nw_pl10 (Or.inl nw_i10) ⟨Nat.le_of_ble_eq_true rfl, Nat.le_of_ble_eq_true rfl⟩ ⟨Nat.le_of_ble_eq_true rfl, Nat.le_of_ble_eq_true rfl⟩ z3 (by omega) a3 hl.1 (Nat.le_of_ble_eq_true rfl) rfl dw_12 (fun H4 locs4 z4 a4 n4 o4 l4 => ?_)
  refine lv_astore_n hx hb dw_15 rfl hl (by decide) (lv' := [(2, .ref (s.heap.size + 303)), (1, .ref s.heap.size), (0, .ref b)]) rfl (fun ls hl => ?_)
  refine lv_iconst (v := nI 0) hx hb dw_16 rfl ?_
  refine lv_istore_n hx hb dw_17 rfl hl (by decide) (lv' := [(3, .int (nI 0)), (2, .ref (s.heap.size + 303)), (1, .ref s.heap.size), (0, .ref b)]) rfl (fun ls hl => ?_)
  refine W.widen (k := 321) (n := 9912) (Nat.le_of_ble_eq_true rfl) (Nat.le_of_ble_eq_true rfl) ?_
  have keep : ∀ q, q < s.heap.size + 303 → H4[q]? = H2[q]? := fun q hq => (o4 q (by omega) (by omega)).trans (o3 q hq)
  have hG : va_at D vwCl (s.heap.size, .inr (9, no9 (s.heap.size + 1))) H4 := a2.kept (keep _ (by show s.heap.size < _; omega))
  have hN : ∀ (k : Nat) (x : va_E), (nL9 cI cB cS (s.heap.size + 1))[k]? = some x → va_at D vwCl (s.heap.size + 1 + k, x) H4 := fun k x hk => (n2 k x hk).kept (keep _ (by
    have := (List.getElem?_eq_some_iff.mp hk).1
    rw [hlen] at this
    show s.heap.size + 1 + k < _
    omega))
  refine l_loop ⟨hx, hb, hr, hml, hown, hts, hlocks, hnw, w_K hK, hX, hbl⟩ hL ⟨by decide, by decide⟩ L 0 H4 locs4 ls (by omega) (by omega) hl ⟨a0, X0, OKA_0, CI_0, MI_0, w_all hG hN a4 n4, w_D, ?_, fun q h1 h2 => ?_, fun q hq => ?_⟩
  · rw [z4]; omega
  · have h3 : H2[q]? = H1[q]? := o2 q (by omega) (by omega)
    rw [keep q (by omega), h3, o1 q h1]
  · rcases l4 q hq with z | z | z
    · rcases l2 q z with y | y | y
      · cases y
      · rw [y]; exact Nat.le_refl _
      · show s.heap.size ≤ q.base
        omega
    · rw [z]
      show s.heap.size ≤ s.heap.size + 303
      omega
    · show s.heap.size ≤ q.base
      omega
