/-! the law's loop -/
theorem dw_18 : decode code 18 = .ok (.iload_n 3, 1) := by decide +kernel
theorem dw_19 : decode code 19 = .ok (.aload_n 0, 1) := by decide +kernel
theorem dw_20 : decode code 20 = .ok (.arraylength, 1) := by decide +kernel
theorem dw_21 : decode code 21 = .ok (.iconst 3, 1) := by decide +kernel
theorem dw_22 : decode code 22 = .ok (.isub, 1) := by decide +kernel
theorem dw_23 : decode code 23 = .ok (.if_icmp .gt 1187, 3) := by decide +kernel
theorem dw_26 : decode code 26 = .ok (.aload_n 0, 1) := by decide +kernel
theorem dw_27 : decode code 27 = .ok (.iload_n 3, 1) := by decide +kernel
theorem dw_28 : decode code 28 = .ok (.iaload, 1) := by decide +kernel
theorem dw_29 : decode code 29 = .ok (.bipush 63, 2) := by decide +kernel
theorem dw_31 : decode code 31 = .ok (.iand, 1) := by decide +kernel
def lwO : Array Int := #[176, 199, 212, 225, 248, 271, 304, 337, 370, 393, 416, 439, 472, 505, 554, 577, 600, 623, 646, 679, 702, 735, 758, 781, 804, 827, 860, 883, 916, 929, 952, 985, 1018, 1031, 1044, 1077, 1090, 1103, 1126, 1149]
theorem dw_32 : decode code 32 = .ok (.tableswitch 1172 0 39 lwO, 176) := by decide +kernel
theorem dw_1204 : decode code 1204 = .ok (.iinc 3 3, 3) := by decide +kernel
theorem dw_1207 : decode code 1207 = .ok (.goto (-1189), 3) := by decide +kernel
theorem dw_1210 : decode code 1210 = .ok (.iconst 1, 1) := by decide +kernel
theorem dw_1211 : decode code 1211 = .ok (.ireturn, 1) := by decide +kernel
theorem lwO_at : ∀ n, n < 40 → lwO[n]? = some (((lwT.getD n 0 : Nat) : Int) - 32) := by decide +kernel
section LL
variable {p : Program} {l : Launch} {e : Env} {s : State} {m : MethodId} {below : List Frame} {meth : Method} {c : Code} {H : Heap} {locs : List Loc} {cells slots : Nat} {Qz : State → Prop} {b L : Nat} {xs : Nat → Int32} {D : va_G} {cI cB cS : ClassId} {ls : Array Slot} {i : Nat}
theorem l_sw {x : Int32} (C : lC p s m meth c b L xs D cI cB cS) (k : ∀ n, n < 40 → W p l e room_1 s m #[Value.ref b] below meth c H locs cells slots Qz (F0 m (lwT.getD n 0) ls [])) (kd : W p l e room_1 s m #[Value.ref b] below meth c H locs cells slots Qz (F0 m 1204 ls [])) : W p l e room_1 s m #[Value.ref b] below meth c H locs cells slots Qz (F0 m 32 ls [.int x]) := by
  have hx := C.1
  have hb := C.2.1
  by_cases h1 : x.toInt < 0
  · exact lv_tableOut hx hb dw_32 (Or.inl h1) (tgt := 1204) (by decide) kd
  · by_cases h2 : 39 < x.toInt
    · exact lv_tableOut hx hb dw_32 (Or.inr h2) (tgt := 1204) (by decide) kd
    · have hn : x.toInt.toNat < 40 := by omega
      exact lv_tableIn hx hb dw_32 h1 h2 (off := ((lwT.getD x.toInt.toNat 0 : Nat) : Int) - 32) (tgt := lwT.getD x.toInt.toNat 0) (by rw [Int.sub_zero]; exact lwO_at _ hn) (by omega) (k _ hn)
theorem l_bound (hL : L ≤ 1536) (hi : i ≤ 1600) (h : ¬ Int32.ofNat L - nI 3 < nI i) : i + 3 ≤ L := by
  by_cases c : 3 ≤ L
  · have e : Int32.ofNat L - nI 3 = nI (L - 3) := pk_sub (a := L) (b := 3) c
    rw [e] at h
    have := (nI_leI (by omega) (by omega)).mp (Int32.not_lt.mp h)
    omega
  · exfalso
    apply h
    have e : Int32.ofNat L - nI 3 < 0 := by
      rcases (show L = 0 ∨ L = 1 ∨ L = 2 by omega) with q | q | q <;> subst q <;> decide
    exact Int32.lt_of_lt_of_le e (Int32.not_lt.mp (nI_pos (by omega)))
theorem l_loop (C : lC p s m meth c b L xs D cI cB cS) (hL : L ≤ 1536) (hcs : cells ≤ 600000 ∧ slots ≤ 7302250) : ∀ (n i : Nat) (H : Heap) (locs : List Loc) (ls : Array Slot), L ≤ i + n → i ≤ 1540 → lv_has ls 4 [(3, .int (nI i)), (2, .ref (asF s.heap.size 39)), (1, .ref (asF s.heap.size 0)), (0, .ref b)] → lI D cI cB cS s H locs → W p l e room_1 s m #[Value.ref b] below meth c H locs cells slots (lw_Z below #[Value.ref b] s) (F0 m 18 ls []) := by
  obtain ⟨hx, hb, hr, hml, hown, hts, hlocks, hnw, hK, hX, hbl⟩ := id C
  have hbA : ¬ s.heap.size ≤ b := by omega
  intro n
  induction n with
  | zero =>
    intro i H locs ls hn hi hl h
    obtain ⟨a, X, ha, hCI, hMI, hP, hD, hS⟩ := id h
    refine lv_iload_n hx hb dw_18 rfl (lv_at hl 0 rfl) ?_
    refine lv_aload_n hx hb dw_19 rfl (lv_at hl 3 rfl) ?_
    refine va_slen hx hb hX hbl hbA hS dw_20 ?_
    refine lv_iconst (v := nI 3) hx hb dw_21 rfl ?_
    refine lv_isub hx hb dw_22 ?_
    refine lv_icmp_gt hx hb dw_23 (tgt := 1210) (by decide) (fun _ => ?_) (fun q => absurd (l_bound hL (by omega) q) (by omega))
    refine lv_iconst (v := 1) hx hb dw_1210 rfl ?_
    refine va_forget (fun q hq => hS.2.2 q hq) ?_
    refine W.widen (k := 600000) (n := 7302250) hcs.1 hcs.2 ?_
    exact lw_ret hx hb hr hlocks dw_1211
  | succ n ih =>
    intro i H locs ls hn hi hl h
    obtain ⟨a, X, ha, hCI, hMI, hP, hD, hS⟩ := id h
    refine lv_iload_n hx hb dw_18 rfl (lv_at hl 0 rfl) ?_
    refine lv_aload_n hx hb dw_19 rfl (lv_at hl 3 rfl) ?_
    refine va_slen hx hb hX hbl hbA hS dw_20 ?_
    refine lv_iconst (v := nI 3) hx hb dw_21 rfl ?_
    refine lv_isub hx hb dw_22 ?_
    refine lv_icmp_gt hx hb dw_23 (tgt := 1210) (by decide) (fun _ => ?_) (fun q => ?_)
    · refine lv_iconst (v := 1) hx hb dw_1210 rfl ?_
      refine va_forget (fun q hq => hS.2.2 q hq) ?_
      refine W.widen (k := 600000) (n := 7302250) hcs.1 hcs.2 ?_
      exact lw_ret hx hb hr hlocks dw_1211
    · have hi3 := l_bound hL (by omega) q
      refine lv_aload_n hx hb dw_26 rfl (lv_at hl 3 rfl) ?_
      refine lv_iload_n hx hb dw_27 rfl (lv_at hl 0 rfl) ?_
      refine va_sld hx hb hX hbl hbA hS (zinr (j := i) (m := L) (by omega) (by omega)).1 dw_28 ?_
      refine lv_bipush (v := nI 63) hx hb dw_29 (by decide) ?_
      refine lv_iand hx hb dw_31 ?_
      have fin : ∀ (H1 : Heap) (locs1 : List Loc), lI D cI cB cS s H1 locs1 → W p l e room_1 s m #[Value.ref b] below meth c H1 locs1 cells slots (lw_Z below #[Value.ref b] s) (F0 m 1204 ls []) := by
        intro H1 locs1 h1
        refine lv_iinc (v := nI (i + 3)) (k := 0) hx hb dw_1204 hl rfl (by rw [show Int32.ofInt 3 = nI 3 from rfl, nI_add]) (by decide) (lv' := [(3, .int (nI (i + 3))), (2, .ref (asF s.heap.size 39)), (1, .ref (asF s.heap.size 0)), (0, .ref b)]) rfl (fun ls hl => ?_)
        refine lv_goto hx hb dw_1207 (tgt := 18) (by decide) ?_
        exact ih (i + 3) H1 locs1 ls (by omega) (by omega) hl h1
      exact l_sw C (l_case C hL hi3 hl hcs h fin) (fin H locs h)
end LL
