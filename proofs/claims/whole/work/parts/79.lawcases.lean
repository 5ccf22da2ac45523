/-! the cases of the law; written by wip/gen/gen79.py -/
def dB0 (pc ixc ixm : Nat) (off : Int) : Prop := decode code pc = .ok (.aload_n 1, 1) ∧ decode code (pc + 1) = .ok (.invokevirtual ixc, 3) ∧ decode code (pc + 4) = .ok (.aload_n 2, 1) ∧ decode code (pc + 5) = .ok (.invokevirtual ixm, 3) ∧ decode code (pc + 8) = .ok (.if_icmp .eq off, 3) ∧ ((pc + 8 : Nat) : Int) + off = ((1204 : Nat) : Int)
def dB1 (pc ixc ixm : Nat) (off : Int) : Prop := decode code pc = .ok (.aload_n 1, 1) ∧ dA (pc + 1) 1 ∧ decode code (pc + 6) = .ok (.invokevirtual ixc, 3) ∧ decode code (pc + 9) = .ok (.aload_n 2, 1) ∧ dA (pc + 10) 1 ∧ decode code (pc + 15) = .ok (.invokevirtual ixm, 3) ∧ decode code (pc + 18) = .ok (.if_icmp .eq off, 3) ∧ ((pc + 18 : Nat) : Int) + off = ((1204 : Nat) : Int)
def dB2 (pc ixc ixm : Nat) (off : Int) : Prop := decode code pc = .ok (.aload_n 1, 1) ∧ dA (pc + 1) 1 ∧ dA (pc + 6) 2 ∧ decode code (pc + 11) = .ok (.invokevirtual ixc, 3) ∧ decode code (pc + 14) = .ok (.aload_n 2, 1) ∧ dA (pc + 15) 1 ∧ dA (pc + 20) 2 ∧ decode code (pc + 25) = .ok (.invokevirtual ixm, 3) ∧ decode code (pc + 28) = .ok (.if_icmp .eq off, 3) ∧ ((pc + 28 : Nat) : Int) + off = ((1204 : Nat) : Int)
section LK
variable {p : Program} {l : Launch} {e : Env} {s : State} {m : MethodId} {below : List Frame} {meth : Method} {c : Code} {H : Heap} {locs : List Loc} {cells slots : Nat} {Qz : State → Prop} {b L : Nat} {xs : Nat → Int32} {D : va_G} {cI cB cS : ClassId} {pc : Nat} {ls : Array Slot} {rest st : List Value} {i : Nat} {X : zM} {a : aT}
/-- the two sides hold one value, in the machine -/
def lI (D : va_G) (cI cB cS : ClassId) (s : State) (H : Heap) (locs : List Loc) : Prop := ∃ (a : aT) (X : zM), OKA a ∧ CI a X ∧ MI a X ∧ lX D cI cB cS s H locs X
/-- both calls, the arguments of the first on the stack; 'push' brings those of the second -/
theorem l_two {yc ym ixc ixm pc2 : Nat} {off : Int} {av : List Value} (C : lC p s m meth c b L xs D cI cB cS) (hl : lv_has ls 4 [(3, .int (nI i)), (2, .ref (asF s.heap.size 39)), (1, .ref (asF s.heap.size 0)), (0, .ref b)]) (hcs : cells ≤ 600000 ∧ slots ≤ 7302250) (ok : okCall yc ym av) (hyc : lY yc 0 av.length) (hym : lY ym 39 av.length) (hlc : Cond.methodLink R_law ixc (znm yc) ∈ gT) (hlm : Cond.methodLink R_law ixm (znm ym) ∈ gT) (hz : av.map (zmv (asF s.heap.size)) = av) (hc : decode code pc = .ok (.invokevirtual ixc, 3)) (hm : decode code pc2 = .ok (.invokevirtual ixm, 3)) (hif : decode code (pc2 + 3) = .ok (.if_icmp .eq off, 3)) (hoff : ((pc2 + 3 : Nat) : Int) + off = ((1204 : Nat) : Int)) (h : lI D cI cB cS s H locs)
    (push : ∀ (v : Int32) (X : zM) (H : Heap) (locs : List Loc), lX D cI cB cS s H locs X → W p l e room_1 s m #[Value.ref b] below meth c H locs cells slots Qz (F0 m pc2 ls (av.reverse ++ [.ref (asF s.heap.size 39), .int v])) → W p l e room_1 s m #[Value.ref b] below meth c H locs cells slots Qz (F0 m (pc + 3) ls [.int v]))
    (kk : ∀ (H1 : Heap) (locs1 : List Loc), lI D cI cB cS s H1 locs1 → W p l e room_1 s m #[Value.ref b] below meth c H1 locs1 cells slots Qz (F0 m 1204 ls [])) : W p l e room_1 s m #[Value.ref b] below meth c H locs cells slots Qz (F0 m pc ls (av.reverse ++ [.ref (asF s.heap.size 0)])) := by
  obtain ⟨a, X, ha, hCI, hMI, hX⟩ := h
  obtain ⟨a1, v, ha1, okc, okm⟩ := ok a ha
  refine l_call (rest := []) C (okc X (fun r Y => r = some (.int v) ∧ CI a1 Y ∧ frM X Y) hCI (fun Y h1 h2 => ⟨rfl, h1, h2⟩)) hyc hlc hcs (Nat.zero_le 8) hl.1 hX (by rw [hz]) hc (fun r Y H locs hQ hY => ?_)
  obtain ⟨rfl, hC1, hf1⟩ := hQ
  refine push v Y H locs hY ?_
  refine l_call (rest := [.int v]) C (okm Y (fun r Z => r = some (.int v) ∧ MI a1 Z ∧ frK Y Z) (MI_fr hMI hf1) (fun Z h1 h2 => ⟨rfl, h1, h2⟩)) hym hlm hcs (Nat.le_of_ble_eq_true rfl) hl.1 hY (by rw [hz]) hm (fun r Z H locs hQ hZ => ?_)
  obtain ⟨rfl, hM1, hf2⟩ := hQ
  refine lv_icmp_eq (x := v) (y := v) (rest := []) C.1 C.2.1 hif hoff (fun _ => ?_) (fun q => absurd rfl q)
  exact kk H locs ⟨a1, Z, ha1, CI_fr hC1 hf2, hM1, hZ⟩
theorem l_k0 {yc ym ixc ixm : Nat} {off : Int} (C : lC p s m meth c b L xs D cI cB cS) (hl : lv_has ls 4 [(3, .int (nI i)), (2, .ref (asF s.heap.size 39)), (1, .ref (asF s.heap.size 0)), (0, .ref b)]) (hcs : cells ≤ 600000 ∧ slots ≤ 7302250) (ok : okCall yc ym []) (hd : dB0 pc ixc ixm off) (hyc : lY yc 0 0) (hym : lY ym 39 0) (hlc : Cond.methodLink R_law ixc (znm yc) ∈ gT) (hlm : Cond.methodLink R_law ixm (znm ym) ∈ gT) (h : lI D cI cB cS s H locs)
    (kk : ∀ (H1 : Heap) (locs1 : List Loc), lI D cI cB cS s H1 locs1 → W p l e room_1 s m #[Value.ref b] below meth c H1 locs1 cells slots Qz (F0 m 1204 ls [])) : W p l e room_1 s m #[Value.ref b] below meth c H locs cells slots Qz (F0 m pc ls []) := by
  obtain ⟨d0, d1, d2, d3, d4, d5⟩ := hd
  refine lv_aload_n C.1 C.2.1 d0 rfl (lv_at hl 2 rfl) ?_
  exact l_two (pc2 := pc + 5) (av := []) C hl hcs ok hyc hym hlc hlm rfl d1 d3 d4 d5 h (fun v X H locs hX k => lv_aload_n C.1 C.2.1 d2 rfl (lv_at hl 1 rfl) k) kk
theorem l_k1 {yc ym ixc ixm : Nat} {off : Int} (C : lC p s m meth c b L xs D cI cB cS) (hL : L ≤ 1536) (hi : i + 3 ≤ L) (hl : lv_has ls 4 [(3, .int (nI i)), (2, .ref (asF s.heap.size 39)), (1, .ref (asF s.heap.size 0)), (0, .ref b)]) (hcs : cells ≤ 600000 ∧ slots ≤ 7302250) (ok : ∀ x, okCall yc ym [.int x]) (hd : dB1 pc ixc ixm off) (hyc : lY yc 0 1) (hym : lY ym 39 1) (hlc : Cond.methodLink R_law ixc (znm yc) ∈ gT) (hlm : Cond.methodLink R_law ixm (znm ym) ∈ gT) (h : lI D cI cB cS s H locs)
    (kk : ∀ (H1 : Heap) (locs1 : List Loc), lI D cI cB cS s H1 locs1 → W p l e room_1 s m #[Value.ref b] below meth c H1 locs1 cells slots Qz (F0 m 1204 ls [])) : W p l e room_1 s m #[Value.ref b] below meth c H locs cells slots Qz (F0 m pc ls []) := by
  obtain ⟨d0, d1, d2, d3, d4, d5, d6, d7⟩ := hd
  obtain ⟨_, X0, _, _, _, hX⟩ := id h
  refine lv_aload_n C.1 C.2.1 d0 rfl (lv_at hl 2 rfl) ?_
  refine l_arg (j := 1) (lv := []) C d1 rfl hL (by omega) (lv_at hl 3 rfl) (lv_at hl 0 rfl) hX ?_
  exact l_two (pc2 := pc + 15) (av := [.int (xs (i + 1))]) C hl hcs (ok _) hyc hym hlc hlm rfl d2 d5 d6 d7 h (fun v X H locs hX k => lv_aload_n C.1 C.2.1 d3 rfl (lv_at hl 1 rfl) (l_arg (j := 1) (lv := []) C d4 rfl hL (by omega) (lv_at hl 3 rfl) (lv_at hl 0 rfl) hX k)) kk
theorem l_k2 {yc ym ixc ixm : Nat} {off : Int} (C : lC p s m meth c b L xs D cI cB cS) (hL : L ≤ 1536) (hi : i + 3 ≤ L) (hl : lv_has ls 4 [(3, .int (nI i)), (2, .ref (asF s.heap.size 39)), (1, .ref (asF s.heap.size 0)), (0, .ref b)]) (hcs : cells ≤ 600000 ∧ slots ≤ 7302250) (ok : ∀ x y, okCall yc ym [.int x, .int y]) (hd : dB2 pc ixc ixm off) (hyc : lY yc 0 2) (hym : lY ym 39 2) (hlc : Cond.methodLink R_law ixc (znm yc) ∈ gT) (hlm : Cond.methodLink R_law ixm (znm ym) ∈ gT) (h : lI D cI cB cS s H locs)
    (kk : ∀ (H1 : Heap) (locs1 : List Loc), lI D cI cB cS s H1 locs1 → W p l e room_1 s m #[Value.ref b] below meth c H1 locs1 cells slots Qz (F0 m 1204 ls [])) : W p l e room_1 s m #[Value.ref b] below meth c H locs cells slots Qz (F0 m pc ls []) := by
  obtain ⟨d0, d1, d1b, d2, d3, d4, d4b, d5, d6, d7⟩ := hd
  obtain ⟨_, X0, _, _, _, hX⟩ := id h
  refine lv_aload_n C.1 C.2.1 d0 rfl (lv_at hl 2 rfl) ?_
  refine l_arg (j := 1) (lv := []) C d1 rfl hL (by omega) (lv_at hl 3 rfl) (lv_at hl 0 rfl) hX ?_
  refine l_arg (j := 2) (lv := []) C d1b rfl hL (by omega) (lv_at hl 3 rfl) (lv_at hl 0 rfl) hX ?_
  exact l_two (pc2 := pc + 25) (av := [.int (xs (i + 1)), .int (xs (i + 2))]) C hl hcs (ok _ _) hyc hym hlc hlm rfl d2 d5 d6 d7 h (fun v X H locs hX k => lv_aload_n C.1 C.2.1 d3 rfl (lv_at hl 1 rfl) (l_arg (j := 1) (lv := []) C d4 rfl hL (by omega) (lv_at hl 3 rfl) (lv_at hl 0 rfl) hX (l_arg (j := 2) (lv := []) C d4b rfl hL (by omega) (lv_at hl 3 rfl) (lv_at hl 0 rfl) hX k))) kk
def dN (pc : Nat) : Prop := decode code pc = .ok (.ifCond .eq 7, 3) ∧ decode code (pc + 3) = .ok (.iconst 1, 1) ∧ decode code (pc + 4) = .ok (.goto 4, 3) ∧ decode code (pc + 7) = .ok (.iconst 0, 1)
theorem l_not {x : Int32} (C : lC p s m meth c b L xs D cI cB cS) (hd : dN pc) (kk : W p l e room_1 s m #[Value.ref b] below meth c H locs cells slots Qz (F0 m (pc + 8) ls (.int (if x = 0 then nI 0 else nI 1) :: rest))) : W p l e room_1 s m #[Value.ref b] below meth c H locs cells slots Qz (F0 m pc ls (.int x :: rest)) := by
  obtain ⟨d0, d1, d2, d3⟩ := hd
  have hx := C.1
  have hb := C.2.1
  refine lv_if_eq hx hb d0 (tgt := pc + 7) (by omega) (fun q => ?_) (fun q => ?_)
  · rw [if_pos q] at kk
    exact lv_iconst (v := nI 0) hx hb d3 rfl kk
  · rw [if_neg q] at kk
    refine lv_iconst (v := nI 1) hx hb d1 rfl ?_
    exact lv_goto hx hb d2 (tgt := pc + 8) (by omega) kk
def dBh (pc ixc ixm : Nat) (off : Int) : Prop := decode code pc = .ok (.aload_n 1, 1) ∧ dA (pc + 1) 1 ∧ dA (pc + 6) 2 ∧ dN (pc + 11) ∧ decode code (pc + 19) = .ok (.invokevirtual ixc, 3) ∧ decode code (pc + 22) = .ok (.aload_n 2, 1) ∧ dA (pc + 23) 1 ∧ dA (pc + 28) 2 ∧ dN (pc + 33) ∧ decode code (pc + 41) = .ok (.invokevirtual ixm, 3) ∧ decode code (pc + 44) = .ok (.if_icmp .eq off, 3) ∧ ((pc + 44 : Nat) : Int) + off = ((1204 : Nat) : Int)
theorem l_kh {yc ym ixc ixm : Nat} {off : Int} (C : lC p s m meth c b L xs D cI cB cS) (hL : L ≤ 1536) (hi : i + 3 ≤ L) (hl : lv_has ls 4 [(3, .int (nI i)), (2, .ref (asF s.heap.size 39)), (1, .ref (asF s.heap.size 0)), (0, .ref b)]) (hcs : cells ≤ 600000 ∧ slots ≤ 7302250) (ok : ∀ x y, okCall yc ym [.int x, .int y]) (hd : dBh pc ixc ixm off) (hyc : lY yc 0 2) (hym : lY ym 39 2) (hlc : Cond.methodLink R_law ixc (znm yc) ∈ gT) (hlm : Cond.methodLink R_law ixm (znm ym) ∈ gT) (h : lI D cI cB cS s H locs)
    (kk : ∀ (H1 : Heap) (locs1 : List Loc), lI D cI cB cS s H1 locs1 → W p l e room_1 s m #[Value.ref b] below meth c H1 locs1 cells slots Qz (F0 m 1204 ls [])) : W p l e room_1 s m #[Value.ref b] below meth c H locs cells slots Qz (F0 m pc ls []) := by
  obtain ⟨d0, d1, d1b, dn1, d2, d3, d4, d4b, dn2, d5, d6, d7⟩ := hd
  obtain ⟨_, X0, _, _, _, hX⟩ := id h
  refine lv_aload_n C.1 C.2.1 d0 rfl (lv_at hl 2 rfl) ?_
  refine l_arg (j := 1) (lv := []) C d1 rfl hL (by omega) (lv_at hl 3 rfl) (lv_at hl 0 rfl) hX ?_
  refine l_arg (j := 2) (lv := []) C d1b rfl hL (by omega) (lv_at hl 3 rfl) (lv_at hl 0 rfl) hX ?_
  refine l_not C dn1 ?_
  exact l_two (pc2 := pc + 41) (av := [.int (xs (i + 1)), .int (if xs (i + 2) = 0 then nI 0 else nI 1)]) C hl hcs (ok _ _) hyc hym hlc hlm rfl d2 d5 d6 d7 h (fun v X H locs hX k => lv_aload_n C.1 C.2.1 d3 rfl (lv_at hl 1 rfl) (l_arg (j := 1) (lv := []) C d4 rfl hL (by omega) (lv_at hl 3 rfl) (lv_at hl 0 rfl) hX (l_arg (j := 2) (lv := []) C d4b rfl hL (by omega) (lv_at hl 3 rfl) (lv_at hl 0 rfl) hX (l_not C dn2 k)))) kk
end LK
theorem ld_0 : dB1 208 13 17 978 := ⟨(by decide +kernel), (by unfold dA; decide +kernel), (by decide +kernel), (by decide +kernel), (by unfold dA; decide +kernel), (by decide +kernel), (by decide +kernel), (by decide +kernel)⟩
theorem ly_0 : lY 78 0 1 ∧ lY 89 39 1 := by unfold lY; decide +kernel
theorem lc_0 : Cond.methodLink R_law 13 (znm 78) ∈ gT := gT_at (i := 448) (by decide +kernel)
theorem lm_0 : Cond.methodLink R_law 17 (znm 89) ∈ gT := gT_at (i := 1122) (by decide +kernel)
theorem ld_1 : dB0 231 18 22 965 := ⟨(by decide +kernel), (by decide +kernel), (by decide +kernel), (by decide +kernel), (by decide +kernel), (by decide +kernel)⟩
theorem ly_1 : lY 191 0 0 ∧ lY 197 39 0 := by unfold lY; decide +kernel
theorem lc_1 : Cond.methodLink R_law 18 (znm 191) ∈ gT := gT_at (i := 461) (by decide +kernel)
theorem lm_1 : Cond.methodLink R_law 22 (znm 197) ∈ gT := gT_at (i := 1132) (by decide +kernel)
theorem ld_2 : dB0 244 23 26 952 := ⟨(by decide +kernel), (by decide +kernel), (by decide +kernel), (by decide +kernel), (by decide +kernel), (by decide +kernel)⟩
theorem ly_2 : lY 31 0 0 ∧ lY 46 39 0 := by unfold lY; decide +kernel
theorem lc_2 : Cond.methodLink R_law 23 (znm 31) ∈ gT := gT_at (i := 563) (by decide +kernel)
theorem lm_2 : Cond.methodLink R_law 26 (znm 46) ∈ gT := gT_at (i := 1179) (by decide +kernel)
theorem ld_3 : dB1 257 27 30 929 := ⟨(by decide +kernel), (by unfold dA; decide +kernel), (by decide +kernel), (by decide +kernel), (by unfold dA; decide +kernel), (by decide +kernel), (by decide +kernel), (by decide +kernel)⟩
theorem ly_3 : lY 177 0 1 ∧ lY 201 39 1 := by unfold lY; decide +kernel
theorem lc_3 : Cond.methodLink R_law 27 (znm 177) ∈ gT := gT_at (i := 567) (by decide +kernel)
theorem lm_3 : Cond.methodLink R_law 30 (znm 201) ∈ gT := gT_at (i := 1183) (by decide +kernel)
theorem ld_4 : dB1 280 31 34 906 := ⟨(by decide +kernel), (by unfold dA; decide +kernel), (by decide +kernel), (by decide +kernel), (by unfold dA; decide +kernel), (by decide +kernel), (by decide +kernel), (by decide +kernel)⟩
theorem ly_4 : lY 122 0 1 ∧ lY 98 39 1 := by unfold lY; decide +kernel
theorem lc_4 : Cond.methodLink R_law 31 (znm 122) ∈ gT := gT_at (i := 617) (by decide +kernel)
theorem lm_4 : Cond.methodLink R_law 34 (znm 98) ∈ gT := gT_at (i := 1237) (by decide +kernel)
theorem ld_5 : dB2 303 35 39 873 := ⟨(by decide +kernel), (by unfold dA; decide +kernel), (by unfold dA; decide +kernel), (by decide +kernel), (by decide +kernel), (by unfold dA; decide +kernel), (by unfold dA; decide +kernel), (by decide +kernel), (by decide +kernel), (by decide +kernel)⟩
theorem ly_5 : lY 123 0 2 ∧ lY 185 39 2 := by unfold lY; decide +kernel
theorem lc_5 : Cond.methodLink R_law 35 (znm 123) ∈ gT := gT_at (i := 627) (by decide +kernel)
theorem lm_5 : Cond.methodLink R_law 39 (znm 185) ∈ gT := gT_at (i := 1243) (by decide +kernel)
theorem ld_6 : dB2 336 40 43 840 := ⟨(by decide +kernel), (by unfold dA; decide +kernel), (by unfold dA; decide +kernel), (by decide +kernel), (by decide +kernel), (by unfold dA; decide +kernel), (by unfold dA; decide +kernel), (by decide +kernel), (by decide +kernel), (by decide +kernel)⟩
theorem ly_6 : lY 124 0 2 ∧ lY 141 39 2 := by unfold lY; decide +kernel
theorem lc_6 : Cond.methodLink R_law 40 (znm 124) ∈ gT := gT_at (i := 637) (by decide +kernel)
theorem lm_6 : Cond.methodLink R_law 43 (znm 141) ∈ gT := gT_at (i := 1252) (by decide +kernel)
theorem ld_7 : dB2 369 44 47 807 := ⟨(by decide +kernel), (by unfold dA; decide +kernel), (by unfold dA; decide +kernel), (by decide +kernel), (by decide +kernel), (by unfold dA; decide +kernel), (by unfold dA; decide +kernel), (by decide +kernel), (by decide +kernel), (by decide +kernel)⟩
theorem ly_7 : lY 79 0 2 ∧ lY 99 39 2 := by unfold lY; decide +kernel
theorem lc_7 : Cond.methodLink R_law 44 (znm 79) ∈ gT := gT_at (i := 646) (by decide +kernel)
theorem lm_7 : Cond.methodLink R_law 47 (znm 99) ∈ gT := gT_at (i := 1260) (by decide +kernel)
theorem ld_8 : dB1 402 48 51 784 := ⟨(by decide +kernel), (by unfold dA; decide +kernel), (by decide +kernel), (by decide +kernel), (by unfold dA; decide +kernel), (by decide +kernel), (by decide +kernel), (by decide +kernel)⟩
theorem ly_8 : lY 192 0 1 ∧ lY 202 39 1 := by unfold lY; decide +kernel
theorem lc_8 : Cond.methodLink R_law 48 (znm 192) ∈ gT := gT_at (i := 654) (by decide +kernel)
theorem lm_8 : Cond.methodLink R_law 51 (znm 202) ∈ gT := gT_at (i := 1265) (by decide +kernel)
theorem ld_9 : dB1 425 52 55 761 := ⟨(by decide +kernel), (by unfold dA; decide +kernel), (by decide +kernel), (by decide +kernel), (by unfold dA; decide +kernel), (by decide +kernel), (by decide +kernel), (by decide +kernel)⟩
theorem ly_9 : lY 125 0 1 ∧ lY 142 39 1 := by unfold lY; decide +kernel
theorem lc_9 : Cond.methodLink R_law 52 (znm 125) ∈ gT := gT_at (i := 699) (by decide +kernel)
theorem lm_9 : Cond.methodLink R_law 55 (znm 142) ∈ gT := gT_at (i := 1295) (by decide +kernel)
theorem ld_10 : dB1 448 56 59 738 := ⟨(by decide +kernel), (by unfold dA; decide +kernel), (by decide +kernel), (by decide +kernel), (by unfold dA; decide +kernel), (by decide +kernel), (by decide +kernel), (by decide +kernel)⟩
theorem ly_10 : lY 126 0 1 ∧ lY 143 39 1 := by unfold lY; decide +kernel
theorem lc_10 : Cond.methodLink R_law 56 (znm 126) ∈ gT := gT_at (i := 703) (by decide +kernel)
theorem lm_10 : Cond.methodLink R_law 59 (znm 143) ∈ gT := gT_at (i := 1299) (by decide +kernel)
theorem ld_11 : dB2 471 60 63 705 := ⟨(by decide +kernel), (by unfold dA; decide +kernel), (by unfold dA; decide +kernel), (by decide +kernel), (by decide +kernel), (by unfold dA; decide +kernel), (by unfold dA; decide +kernel), (by decide +kernel), (by decide +kernel), (by decide +kernel)⟩
theorem ly_11 : lY 127 0 2 ∧ lY 167 39 2 := by unfold lY; decide +kernel
theorem lc_11 : Cond.methodLink R_law 60 (znm 127) ∈ gT := gT_at (i := 707) (by decide +kernel)
theorem lm_11 : Cond.methodLink R_law 63 (znm 167) ∈ gT := gT_at (i := 1303) (by decide +kernel)
theorem ld_12 : dB2 504 64 67 672 := ⟨(by decide +kernel), (by unfold dA; decide +kernel), (by unfold dA; decide +kernel), (by decide +kernel), (by decide +kernel), (by unfold dA; decide +kernel), (by unfold dA; decide +kernel), (by decide +kernel), (by decide +kernel), (by decide +kernel)⟩
theorem ly_12 : lY 128 0 2 ∧ lY 168 39 2 := by unfold lY; decide +kernel
theorem lc_12 : Cond.methodLink R_law 64 (znm 128) ∈ gT := gT_at (i := 711) (by decide +kernel)
theorem lm_12 : Cond.methodLink R_law 67 (znm 168) ∈ gT := gT_at (i := 1311) (by decide +kernel)
theorem ld_13 : dBh 537 68 72 623 := ⟨(by decide +kernel), (by unfold dA; decide +kernel), (by unfold dA; decide +kernel), (by unfold dN; decide +kernel), (by decide +kernel), (by decide +kernel), (by unfold dA; decide +kernel), (by unfold dA; decide +kernel), (by unfold dN; decide +kernel), (by decide +kernel), (by decide +kernel), (by decide +kernel)⟩
theorem ly_13 : lY 129 0 2 ∧ lY 169 39 2 := by unfold lY; decide +kernel
theorem lc_13 : Cond.methodLink R_law 68 (znm 129) ∈ gT := gT_at (i := 715) (by decide +kernel)
theorem lm_13 : Cond.methodLink R_law 72 (znm 169) ∈ gT := gT_at (i := 1316) (by decide +kernel)
theorem ld_14 : dB1 586 73 76 600 := ⟨(by decide +kernel), (by unfold dA; decide +kernel), (by decide +kernel), (by decide +kernel), (by unfold dA; decide +kernel), (by decide +kernel), (by decide +kernel), (by decide +kernel)⟩
theorem ly_14 : lY 130 0 1 ∧ lY 145 39 1 := by unfold lY; decide +kernel
theorem lc_14 : Cond.methodLink R_law 73 (znm 130) ∈ gT := gT_at (i := 719) (by decide +kernel)
theorem lm_14 : Cond.methodLink R_law 76 (znm 145) ∈ gT := gT_at (i := 1320) (by decide +kernel)
theorem ld_15 : dB1 609 77 80 577 := ⟨(by decide +kernel), (by unfold dA; decide +kernel), (by decide +kernel), (by decide +kernel), (by unfold dA; decide +kernel), (by decide +kernel), (by decide +kernel), (by decide +kernel)⟩
theorem ly_15 : lY 193 0 1 ∧ lY 208 39 1 := by unfold lY; decide +kernel
theorem lc_15 : Cond.methodLink R_law 77 (znm 193) ∈ gT := gT_at (i := 724) (by decide +kernel)
theorem lm_15 : Cond.methodLink R_law 80 (znm 208) ∈ gT := gT_at (i := 1324) (by decide +kernel)
theorem ld_16 : dB1 632 81 84 554 := ⟨(by decide +kernel), (by unfold dA; decide +kernel), (by decide +kernel), (by decide +kernel), (by unfold dA; decide +kernel), (by decide +kernel), (by decide +kernel), (by decide +kernel)⟩
theorem ly_16 : lY 131 0 1 ∧ lY 103 39 1 := by unfold lY; decide +kernel
theorem lc_16 : Cond.methodLink R_law 81 (znm 131) ∈ gT := gT_at (i := 741) (by decide +kernel)
theorem lm_16 : Cond.methodLink R_law 84 (znm 103) ∈ gT := gT_at (i := 1340) (by decide +kernel)
theorem ld_17 : dB1 655 85 88 531 := ⟨(by decide +kernel), (by unfold dA; decide +kernel), (by decide +kernel), (by decide +kernel), (by unfold dA; decide +kernel), (by decide +kernel), (by decide +kernel), (by decide +kernel)⟩
theorem ly_17 : lY 158 0 1 ∧ lY 209 39 1 := by unfold lY; decide +kernel
theorem lc_17 : Cond.methodLink R_law 85 (znm 158) ∈ gT := gT_at (i := 749) (by decide +kernel)
theorem lm_17 : Cond.methodLink R_law 88 (znm 209) ∈ gT := gT_at (i := 1344) (by decide +kernel)
theorem ld_18 : dB2 678 89 92 498 := ⟨(by decide +kernel), (by unfold dA; decide +kernel), (by unfold dA; decide +kernel), (by decide +kernel), (by decide +kernel), (by unfold dA; decide +kernel), (by unfold dA; decide +kernel), (by decide +kernel), (by decide +kernel), (by decide +kernel)⟩
theorem ly_18 : lY 194 0 2 ∧ lY 210 39 2 := by unfold lY; decide +kernel
theorem lc_18 : Cond.methodLink R_law 89 (znm 194) ∈ gT := gT_at (i := 753) (by decide +kernel)
theorem lm_18 : Cond.methodLink R_law 92 (znm 210) ∈ gT := gT_at (i := 1352) (by decide +kernel)
theorem ld_19 : dB1 711 93 96 475 := ⟨(by decide +kernel), (by unfold dA; decide +kernel), (by decide +kernel), (by decide +kernel), (by unfold dA; decide +kernel), (by decide +kernel), (by decide +kernel), (by decide +kernel)⟩
theorem ly_19 : lY 195 0 1 ∧ lY 211 39 1 := by unfold lY; decide +kernel
theorem lc_19 : Cond.methodLink R_law 93 (znm 195) ∈ gT := gT_at (i := 773) (by decide +kernel)
theorem lm_19 : Cond.methodLink R_law 96 (znm 211) ∈ gT := gT_at (i := 1356) (by decide +kernel)
theorem ld_20 : dB2 734 97 100 442 := ⟨(by decide +kernel), (by unfold dA; decide +kernel), (by unfold dA; decide +kernel), (by decide +kernel), (by decide +kernel), (by unfold dA; decide +kernel), (by unfold dA; decide +kernel), (by decide +kernel), (by decide +kernel), (by decide +kernel)⟩
theorem ly_20 : lY 196 0 2 ∧ lY 212 39 2 := by unfold lY; decide +kernel
theorem lc_20 : Cond.methodLink R_law 97 (znm 196) ∈ gT := gT_at (i := 781) (by decide +kernel)
theorem lm_20 : Cond.methodLink R_law 100 (znm 212) ∈ gT := gT_at (i := 1360) (by decide +kernel)
theorem ld_21 : dB1 767 101 104 419 := ⟨(by decide +kernel), (by unfold dA; decide +kernel), (by decide +kernel), (by decide +kernel), (by unfold dA; decide +kernel), (by decide +kernel), (by decide +kernel), (by decide +kernel)⟩
theorem ly_21 : lY 178 0 1 ∧ lY 213 39 1 := by unfold lY; decide +kernel
theorem lc_21 : Cond.methodLink R_law 101 (znm 178) ∈ gT := gT_at (i := 789) (by decide +kernel)
theorem lm_21 : Cond.methodLink R_law 104 (znm 213) ∈ gT := gT_at (i := 1372) (by decide +kernel)
theorem ld_22 : dB1 790 105 108 396 := ⟨(by decide +kernel), (by unfold dA; decide +kernel), (by decide +kernel), (by decide +kernel), (by unfold dA; decide +kernel), (by decide +kernel), (by decide +kernel), (by decide +kernel)⟩
theorem ly_22 : lY 179 0 1 ∧ lY 214 39 1 := by unfold lY; decide +kernel
theorem lc_22 : Cond.methodLink R_law 105 (znm 179) ∈ gT := gT_at (i := 811) (by decide +kernel)
theorem lm_22 : Cond.methodLink R_law 108 (znm 214) ∈ gT := gT_at (i := 1383) (by decide +kernel)
theorem ld_23 : dB1 813 109 112 373 := ⟨(by decide +kernel), (by unfold dA; decide +kernel), (by decide +kernel), (by decide +kernel), (by unfold dA; decide +kernel), (by decide +kernel), (by decide +kernel), (by decide +kernel)⟩
theorem ly_23 : lY 180 0 1 ∧ lY 215 39 1 := by unfold lY; decide +kernel
theorem lc_23 : Cond.methodLink R_law 109 (znm 180) ∈ gT := gT_at (i := 821) (by decide +kernel)
theorem lm_23 : Cond.methodLink R_law 112 (znm 215) ∈ gT := gT_at (i := 1388) (by decide +kernel)
theorem ld_24 : dB1 836 113 116 350 := ⟨(by decide +kernel), (by unfold dA; decide +kernel), (by decide +kernel), (by decide +kernel), (by unfold dA; decide +kernel), (by decide +kernel), (by decide +kernel), (by decide +kernel)⟩
theorem ly_24 : lY 159 0 1 ∧ lY 186 39 1 := by unfold lY; decide +kernel
theorem lc_24 : Cond.methodLink R_law 113 (znm 159) ∈ gT := gT_at (i := 848) (by decide +kernel)
theorem lm_24 : Cond.methodLink R_law 116 (znm 186) ∈ gT := gT_at (i := 1403) (by decide +kernel)
theorem ld_25 : dB2 859 117 120 317 := ⟨(by decide +kernel), (by unfold dA; decide +kernel), (by unfold dA; decide +kernel), (by decide +kernel), (by decide +kernel), (by unfold dA; decide +kernel), (by unfold dA; decide +kernel), (by decide +kernel), (by decide +kernel), (by decide +kernel)⟩
theorem ly_25 : lY 132 0 2 ∧ lY 146 39 2 := by unfold lY; decide +kernel
theorem lc_25 : Cond.methodLink R_law 117 (znm 132) ∈ gT := gT_at (i := 866) (by decide +kernel)
theorem lm_25 : Cond.methodLink R_law 120 (znm 146) ∈ gT := gT_at (i := 1411) (by decide +kernel)
theorem ld_26 : dB1 892 121 124 294 := ⟨(by decide +kernel), (by unfold dA; decide +kernel), (by decide +kernel), (by decide +kernel), (by unfold dA; decide +kernel), (by decide +kernel), (by decide +kernel), (by decide +kernel)⟩
theorem ly_26 : lY 181 0 1 ∧ lY 187 39 1 := by unfold lY; decide +kernel
theorem lc_26 : Cond.methodLink R_law 121 (znm 181) ∈ gT := gT_at (i := 884) (by decide +kernel)
theorem lm_26 : Cond.methodLink R_law 124 (znm 187) ∈ gT := gT_at (i := 1419) (by decide +kernel)
theorem ld_27 : dB2 915 125 128 261 := ⟨(by decide +kernel), (by unfold dA; decide +kernel), (by unfold dA; decide +kernel), (by decide +kernel), (by decide +kernel), (by unfold dA; decide +kernel), (by unfold dA; decide +kernel), (by decide +kernel), (by decide +kernel), (by decide +kernel)⟩
theorem ly_27 : lY 133 0 2 ∧ lY 147 39 2 := by unfold lY; decide +kernel
theorem lc_27 : Cond.methodLink R_law 125 (znm 133) ∈ gT := gT_at (i := 898) (by decide +kernel)
theorem lm_27 : Cond.methodLink R_law 128 (znm 147) ∈ gT := gT_at (i := 1423) (by decide +kernel)
theorem ld_28 : dB0 948 129 132 248 := ⟨(by decide +kernel), (by decide +kernel), (by decide +kernel), (by decide +kernel), (by decide +kernel), (by decide +kernel)⟩
theorem ly_28 : lY 160 0 0 ∧ lY 188 39 0 := by unfold lY; decide +kernel
theorem lc_28 : Cond.methodLink R_law 129 (znm 160) ∈ gT := gT_at (i := 906) (by decide +kernel)
theorem lm_28 : Cond.methodLink R_law 132 (znm 188) ∈ gT := gT_at (i := 1432) (by decide +kernel)
theorem ld_29 : dB1 961 133 136 225 := ⟨(by decide +kernel), (by unfold dA; decide +kernel), (by decide +kernel), (by decide +kernel), (by unfold dA; decide +kernel), (by decide +kernel), (by decide +kernel), (by decide +kernel)⟩
theorem ly_29 : lY 80 0 1 ∧ lY 106 39 1 := by unfold lY; decide +kernel
theorem lc_29 : Cond.methodLink R_law 133 (znm 80) ∈ gT := gT_at (i := 914) (by decide +kernel)
theorem lm_29 : Cond.methodLink R_law 136 (znm 106) ∈ gT := gT_at (i := 1436) (by decide +kernel)
theorem ld_30 : dB2 984 137 140 192 := ⟨(by decide +kernel), (by unfold dA; decide +kernel), (by unfold dA; decide +kernel), (by decide +kernel), (by decide +kernel), (by unfold dA; decide +kernel), (by unfold dA; decide +kernel), (by decide +kernel), (by decide +kernel), (by decide +kernel)⟩
theorem ly_30 : lY 81 0 2 ∧ lY 107 39 2 := by unfold lY; decide +kernel
theorem lc_30 : Cond.methodLink R_law 137 (znm 81) ∈ gT := gT_at (i := 923) (by decide +kernel)
theorem lm_30 : Cond.methodLink R_law 140 (znm 107) ∈ gT := gT_at (i := 1440) (by decide +kernel)
theorem ld_31 : dB2 1017 141 144 159 := ⟨(by decide +kernel), (by unfold dA; decide +kernel), (by unfold dA; decide +kernel), (by decide +kernel), (by decide +kernel), (by unfold dA; decide +kernel), (by unfold dA; decide +kernel), (by decide +kernel), (by decide +kernel), (by decide +kernel)⟩
theorem ly_31 : lY 134 0 2 ∧ lY 148 39 2 := by unfold lY; decide +kernel
theorem lc_31 : Cond.methodLink R_law 141 (znm 134) ∈ gT := gT_at (i := 929) (by decide +kernel)
theorem lm_31 : Cond.methodLink R_law 144 (znm 148) ∈ gT := gT_at (i := 1446) (by decide +kernel)
theorem ld_32 : dB0 1050 145 148 146 := ⟨(by decide +kernel), (by decide +kernel), (by decide +kernel), (by decide +kernel), (by decide +kernel), (by decide +kernel)⟩
theorem ly_32 : lY 161 0 0 ∧ lY 189 39 0 := by unfold lY; decide +kernel
theorem lc_32 : Cond.methodLink R_law 145 (znm 161) ∈ gT := gT_at (i := 937) (by decide +kernel)
theorem lm_32 : Cond.methodLink R_law 148 (znm 189) ∈ gT := gT_at (i := 1450) (by decide +kernel)
theorem ld_33 : dB0 1063 149 152 133 := ⟨(by decide +kernel), (by decide +kernel), (by decide +kernel), (by decide +kernel), (by decide +kernel), (by decide +kernel)⟩
theorem ly_33 : lY 182 0 0 ∧ lY 200 39 0 := by unfold lY; decide +kernel
theorem lc_33 : Cond.methodLink R_law 149 (znm 182) ∈ gT := gT_at (i := 949) (by decide +kernel)
theorem lm_33 : Cond.methodLink R_law 152 (znm 200) ∈ gT := gT_at (i := 1458) (by decide +kernel)
theorem ld_34 : dB2 1076 153 156 100 := ⟨(by decide +kernel), (by unfold dA; decide +kernel), (by unfold dA; decide +kernel), (by decide +kernel), (by decide +kernel), (by unfold dA; decide +kernel), (by unfold dA; decide +kernel), (by decide +kernel), (by decide +kernel), (by decide +kernel)⟩
theorem ly_34 : lY 135 0 2 ∧ lY 149 39 2 := by unfold lY; decide +kernel
theorem lc_34 : Cond.methodLink R_law 153 (znm 135) ∈ gT := gT_at (i := 966) (by decide +kernel)
theorem lm_34 : Cond.methodLink R_law 156 (znm 149) ∈ gT := gT_at (i := 1467) (by decide +kernel)
theorem ld_35 : dB0 1109 157 160 87 := ⟨(by decide +kernel), (by decide +kernel), (by decide +kernel), (by decide +kernel), (by decide +kernel), (by decide +kernel)⟩
theorem ly_35 : lY 82 0 0 ∧ lY 54 39 0 := by unfold lY; decide +kernel
theorem lc_35 : Cond.methodLink R_law 157 (znm 82) ∈ gT := gT_at (i := 974) (by decide +kernel)
theorem lm_35 : Cond.methodLink R_law 160 (znm 54) ∈ gT := gT_at (i := 1472) (by decide +kernel)
theorem ld_36 : dB0 1122 161 164 74 := ⟨(by decide +kernel), (by decide +kernel), (by decide +kernel), (by decide +kernel), (by decide +kernel), (by decide +kernel)⟩
theorem ly_36 : lY 83 0 0 ∧ lY 55 39 0 := by unfold lY; decide +kernel
theorem lc_36 : Cond.methodLink R_law 161 (znm 83) ∈ gT := gT_at (i := 982) (by decide +kernel)
theorem lm_36 : Cond.methodLink R_law 164 (znm 55) ∈ gT := gT_at (i := 1476) (by decide +kernel)
theorem ld_37 : dB1 1135 165 168 51 := ⟨(by decide +kernel), (by unfold dA; decide +kernel), (by decide +kernel), (by decide +kernel), (by unfold dA; decide +kernel), (by decide +kernel), (by decide +kernel), (by decide +kernel)⟩
theorem ly_37 : lY 32 0 1 ∧ lY 56 39 1 := by unfold lY; decide +kernel
theorem lc_37 : Cond.methodLink R_law 165 (znm 32) ∈ gT := gT_at (i := 986) (by decide +kernel)
theorem lm_37 : Cond.methodLink R_law 168 (znm 56) ∈ gT := gT_at (i := 1480) (by decide +kernel)
theorem ld_38 : dB1 1158 169 172 28 := ⟨(by decide +kernel), (by unfold dA; decide +kernel), (by decide +kernel), (by decide +kernel), (by unfold dA; decide +kernel), (by decide +kernel), (by decide +kernel), (by decide +kernel)⟩
theorem ly_38 : lY 136 0 1 ∧ lY 108 39 1 := by unfold lY; decide +kernel
theorem lc_38 : Cond.methodLink R_law 169 (znm 136) ∈ gT := gT_at (i := 990) (by decide +kernel)
theorem lm_38 : Cond.methodLink R_law 172 (znm 108) ∈ gT := gT_at (i := 1484) (by decide +kernel)
theorem ld_39 : dB1 1181 173 176 5 := ⟨(by decide +kernel), (by unfold dA; decide +kernel), (by decide +kernel), (by decide +kernel), (by unfold dA; decide +kernel), (by decide +kernel), (by decide +kernel), (by decide +kernel)⟩
theorem ly_39 : lY 137 0 1 ∧ lY 109 39 1 := by unfold lY; decide +kernel
theorem lc_39 : Cond.methodLink R_law 173 (znm 137) ∈ gT := gT_at (i := 999) (by decide +kernel)
theorem lm_39 : Cond.methodLink R_law 176 (znm 109) ∈ gT := gT_at (i := 1488) (by decide +kernel)
def lwT : List Nat := [208, 231, 244, 257, 280, 303, 336, 369, 402, 425, 448, 471, 504, 537, 586, 609, 632, 655, 678, 711, 734, 767, 790, 813, 836, 859, 892, 915, 948, 961, 984, 1017, 1050, 1063, 1076, 1109, 1122, 1135, 1158, 1181]
theorem l_case {p : Program} {l : Launch} {e : Env} {s : State} {m : MethodId} {below : List Frame} {meth : Method} {c : Code} {H : Heap} {locs : List Loc} {cells slots : Nat} {Qz : State → Prop} {b L : Nat} {xs : Nat → Int32} {D : va_G} {cI cB cS : ClassId} {ls : Array Slot} {i : Nat} (C : lC p s m meth c b L xs D cI cB cS) (hL : L ≤ 1536) (hi : i + 3 ≤ L) (hl : lv_has ls 4 [(3, .int (nI i)), (2, .ref (asF s.heap.size 39)), (1, .ref (asF s.heap.size 0)), (0, .ref b)]) (hcs : cells ≤ 600000 ∧ slots ≤ 7302250) (h : lI D cI cB cS s H locs)
    (kk : ∀ (H1 : Heap) (locs1 : List Loc), lI D cI cB cS s H1 locs1 → W p l e room_1 s m #[Value.ref b] below meth c H1 locs1 cells slots Qz (F0 m 1204 ls [])) : ∀ n, n < 40 → W p l e room_1 s m #[Value.ref b] below meth c H locs cells slots Qz (F0 m (lwT.getD n 0) ls []) := by
  intro n hn
  match n with
  | 0 => exact l_k1 C hL hi hl hcs ok_feed ld_0 ly_0.1 ly_0.2 lc_0 lm_0 h kk
  | 1 => exact l_k0 C hl hcs ok_coast ld_1 ly_1.1 ly_1.2 lc_1 lm_1 h kk
  | 2 => exact l_k0 C hl hcs ok_fault ld_2 ly_2.1 ly_2.2 lc_2 lm_2 h kk
  | 3 => exact l_k1 C hL hi hl hcs ok_told ld_3 ly_3.1 ly_3.2 lc_3 lm_3 h kk
  | 4 => exact l_k1 C hL hi hl hcs ok_weather ld_4 ly_4.1 ly_4.2 lc_4 lm_4 h kk
  | 5 => exact l_k2 C hL hi hl hcs ok_glass ld_5 ly_5.1 ly_5.2 lc_5 lm_5 h kk
  | 6 => exact l_k2 C hL hi hl hcs ok_boat ld_6 ly_6.1 ly_6.2 lc_6 lm_6 h kk
  | 7 => exact l_k2 C hL hi hl hcs ok_logged ld_7 ly_7.1 ly_7.2 lc_7 lm_7 h kk
  | 8 => exact l_k1 C hL hi hl hcs ok_day ld_8 ly_8.1 ly_8.2 lc_8 lm_8 h kk
  | 9 => exact l_k1 C hL hi hl hcs ok_drink ld_9 ly_9.1 ly_9.2 lc_9 lm_9 h kk
  | 10 => exact l_k1 C hL hi hl hcs ok_keepFrom ld_10 ly_10.1 ly_10.2 lc_10 lm_10 h kk
  | 11 => exact l_k2 C hL hi hl hcs ok_glad ld_11 ly_11.1 ly_11.2 lc_11 lm_11 h kk
  | 12 => exact l_k2 C hL hi hl hcs ok_weigh ld_12 ly_12.1 ly_12.2 lc_12 lm_12 h kk
  | 13 => exact l_kh C hL hi hl hcs ok_hold ld_13 ly_13.1 ly_13.2 lc_13 lm_13 h kk
  | 14 => exact l_k1 C hL hi hl hcs ok_find ld_14 ly_14.1 ly_14.2 lc_14 lm_14 h kk
  | 15 => exact l_k1 C hL hi hl hcs ok_drift ld_15 ly_15.1 ly_15.2 lc_15 lm_15 h kk
  | 16 => exact l_k1 C hL hi hl hcs ok_undo ld_16 ly_16.1 ly_16.2 lc_16 lm_16 h kk
  | 17 => exact l_k1 C hL hi hl hcs ok_tells ld_17 ly_17.1 ly_17.2 lc_17 lm_17 h kk
  | 18 => exact l_k2 C hL hi hl hcs ok_catches ld_18 ly_18.1 ly_18.2 lc_18 lm_18 h kk
  | 19 => exact l_k1 C hL hi hl hcs ok_loses ld_19 ly_19.1 ly_19.2 lc_19 lm_19 h kk
  | 20 => exact l_k2 C hL hi hl hcs ok_bestLimit ld_20 ly_20.1 ly_20.2 lc_20 lm_20 h kk
  | 21 => exact l_k1 C hL hi hl hcs ok_error ld_21 ly_21.1 ly_21.2 lc_21 lm_21 h kk
  | 22 => exact l_k1 C hL hi hl hcs ok_truest ld_22 ly_22.1 ly_22.2 lc_22 lm_22 h kk
  | 23 => exact l_k1 C hL hi hl hcs ok_bestWeights ld_23 ly_23.1 ly_23.2 lc_23 lm_23 h kk
  | 24 => exact l_k1 C hL hi hl hcs ok_steps ld_24 ly_24.1 ly_24.2 lc_24 lm_24 h kk
  | 25 => exact l_k2 C hL hi hl hcs ok_allTrue ld_25 ly_25.1 ly_25.2 lc_25 lm_25 h kk
  | 26 => exact l_k1 C hL hi hl hcs ok_differ ld_26 ly_26.1 ly_26.2 lc_26 lm_26 h kk
  | 27 => exact l_k2 C hL hi hl hcs ok_fair ld_27 ly_27.1 ly_27.2 lc_27 lm_27 h kk
  | 28 => exact l_k0 C hl hcs ok_falseOnes ld_28 ly_28.1 ly_28.2 lc_28 lm_28 h kk
  | 29 => exact l_k1 C hL hi hl hcs ok_holds ld_29 ly_29.1 ly_29.2 lc_29 lm_29 h kk
  | 30 => exact l_k2 C hL hi hl hcs ok_homeBy ld_30 ly_30.1 ly_30.2 lc_30 lm_30 h kk
  | 31 => exact l_k2 C hL hi hl hcs ok_tap ld_31 ly_31.1 ly_31.2 lc_31 lm_31 h kk
  | 32 => exact l_k0 C hl hcs ok_could ld_32 ly_32.1 ly_32.2 lc_32 lm_32 h kk
  | 33 => exact l_k0 C hl hcs ok_tapNext ld_33 ly_33.1 ly_33.2 lc_33 lm_33 h kk
  | 34 => exact l_k2 C hL hi hl hcs ok_write ld_34 ly_34.1 ly_34.2 lc_34 lm_34 h kk
  | 35 => exact l_k0 C hl hcs ok_judge ld_35 ly_35.1 ly_35.2 lc_35 lm_35 h kk
  | 36 => exact l_k0 C hl hcs ok_tear ld_36 ly_36.1 ly_36.2 lc_36 lm_36 h kk
  | 37 => exact l_k1 C hL hi hl hcs ok_seed ld_37 ly_37.1 ly_37.2 lc_37 lm_37 h kk
  | 38 => exact l_k1 C hL hi hl hcs ok_keep ld_38 ly_38.1 ly_38.2 lc_38 lm_38 h kk
  | 39 => exact l_k1 C hL hi hl hcs ok_goBack ld_39 ly_39.1 ly_39.2 lc_39 lm_39 h kk
  | n + 40 => exact absurd hn (by omega)
