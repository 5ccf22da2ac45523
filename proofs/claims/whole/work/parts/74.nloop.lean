/-! constructors: Deeds, Images; written by wip/gen/gen74.py -/
theorem nw_in0 : Cond.instantiable (zcs 0).1 (zcs 0).2.2 ∈ gT := gT_at (i := 119) (by decide +kernel)
theorem nw_it0 : Cond.initialized (zcs 0).1 ∈ gT := gT_at (i := 72) (by decide +kernel)
theorem nw_im0 : Cond.instanceMethod yX0_init ∈ gT := gT_at (i := 121) (by decide +kernel)
set_option maxRecDepth 20000 in
theorem nw_cd0 : Cond.code yX0_init cX0_init 1 none ∈ gT := gT_at (i := 122) ⟨rfl, rfl⟩
theorem nw_pl0 : yX0_init.cls ≠ "java/lang/invoke/MethodHandle" ∧ yX0_init.cls ≠ "java/lang/invoke/VarHandle" ∧ (parseMethodDescriptor yX0_init.desc).map (fun d => d.parameters.length) = some 0 := by decide +kernel
theorem nw_df0 : ∀ j, j < (zcs 0).2.2 → defaultValue (tyX0 j) = vp_V nf0 j := by decide +kernel
theorem nw_in1 : Cond.instantiable (zcs 1).1 (zcs 1).2.2 ∈ gT := gT_at (i := 376) (by decide +kernel)
theorem nw_it1 : Cond.initialized (zcs 1).1 ∈ gT := gT_at (i := 78) (by decide +kernel)
theorem nw_im1 : Cond.instanceMethod yX1_init ∈ gT := gT_at (i := 378) (by decide +kernel)
set_option maxRecDepth 20000 in
theorem nw_cd1 : Cond.code yX1_init cX1_init 2 none ∈ gT := gT_at (i := 379) ⟨rfl, rfl⟩
theorem nw_pl1 : yX1_init.cls ≠ "java/lang/invoke/MethodHandle" ∧ yX1_init.cls ≠ "java/lang/invoke/VarHandle" ∧ (parseMethodDescriptor yX1_init.desc).map (fun d => d.parameters.length) = some 0 := by decide +kernel
theorem nw_df1 : ∀ j, j < (zcs 1).2.2 → defaultValue (tyX1 j) = vp_V [.null, .int 0, .int 0] j := by decide +kernel
theorem nw_in2 : Cond.instantiable (zcs 2).1 (zcs 2).2.2 ∈ gT := gT_at (i := 263) (by decide +kernel)
theorem nw_it2 : Cond.initialized (zcs 2).1 ∈ gT := gT_at (i := 75) (by decide +kernel)
theorem nw_im2 : Cond.instanceMethod yX2_init ∈ gT := gT_at (i := 265) (by decide +kernel)
set_option maxRecDepth 20000 in
theorem nw_cd2 : Cond.code yX2_init cX2_init 4 none ∈ gT := gT_at (i := 266) ⟨rfl, rfl⟩
theorem nw_pl2 : yX2_init.cls ≠ "java/lang/invoke/MethodHandle" ∧ yX2_init.cls ≠ "java/lang/invoke/VarHandle" ∧ (parseMethodDescriptor yX2_init.desc).map (fun d => d.parameters.length) = some 3 := by decide +kernel
theorem nw_df2 : ∀ j, j < (zcs 2).2.2 → defaultValue (tyX2 j) = vp_V nf2 j := by decide +kernel
theorem nw_in3 : Cond.instantiable (zcs 3).1 (zcs 3).2.2 ∈ gT := gT_at (i := 396) (by decide +kernel)
theorem nw_it3 : Cond.initialized (zcs 3).1 ∈ gT := gT_at (i := 79) (by decide +kernel)
theorem nw_im3 : Cond.instanceMethod yX3_init ∈ gT := gT_at (i := 398) (by decide +kernel)
set_option maxRecDepth 20000 in
theorem nw_cd3 : Cond.code yX3_init cX3_init 2 none ∈ gT := gT_at (i := 399) ⟨rfl, rfl⟩
theorem nw_pl3 : yX3_init.cls ≠ "java/lang/invoke/MethodHandle" ∧ yX3_init.cls ≠ "java/lang/invoke/VarHandle" ∧ (parseMethodDescriptor yX3_init.desc).map (fun d => d.parameters.length) = some 0 := by decide +kernel
theorem nw_df3 : ∀ j, j < (zcs 3).2.2 → defaultValue (tyX3 j) = vp_V [.null, .null, .int 0] j := by decide +kernel
theorem nw_in4 : Cond.instantiable (zcs 4).1 (zcs 4).2.2 ∈ gT := gT_at (i := 337) (by decide +kernel)
theorem nw_it4 : Cond.initialized (zcs 4).1 ∈ gT := gT_at (i := 77) (by decide +kernel)
theorem nw_im4 : Cond.instanceMethod yX4_init ∈ gT := gT_at (i := 339) (by decide +kernel)
set_option maxRecDepth 20000 in
theorem nw_cd4 : Cond.code yX4_init cX4_init 4 none ∈ gT := gT_at (i := 340) ⟨rfl, rfl⟩
theorem nw_pl4 : yX4_init.cls ≠ "java/lang/invoke/MethodHandle" ∧ yX4_init.cls ≠ "java/lang/invoke/VarHandle" ∧ (parseMethodDescriptor yX4_init.desc).map (fun d => d.parameters.length) = some 3 := by decide +kernel
theorem nw_df4 : ∀ j, j < (zcs 4).2.2 → defaultValue (tyX4 j) = vp_V nf4 j := by decide +kernel
theorem nw_in5 : Cond.instantiable (zcs 5).1 (zcs 5).2.2 ∈ gT := gT_at (i := 94) (by decide +kernel)
theorem nw_it5 : Cond.initialized (zcs 5).1 ∈ gT := gT_at (i := 71) (by decide +kernel)
theorem nw_im5 : Cond.instanceMethod yX5_init ∈ gT := gT_at (i := 96) (by decide +kernel)
set_option maxRecDepth 20000 in
theorem nw_cd5 : Cond.code yX5_init cX5_init 1 none ∈ gT := gT_at (i := 97) ⟨rfl, rfl⟩
theorem nw_pl5 : yX5_init.cls ≠ "java/lang/invoke/MethodHandle" ∧ yX5_init.cls ≠ "java/lang/invoke/VarHandle" ∧ (parseMethodDescriptor yX5_init.desc).map (fun d => d.parameters.length) = some 0 := by decide +kernel
theorem nw_df5 : ∀ j, j < (zcs 5).2.2 → defaultValue (tyX5 j) = vp_V nf5 j := by decide +kernel
theorem nw_in6 : Cond.instantiable (zcs 6).1 (zcs 6).2.2 ∈ gT := gT_at (i := 250) (by decide +kernel)
theorem nw_it6 : Cond.initialized (zcs 6).1 ∈ gT := gT_at (i := 74) (by decide +kernel)
theorem nw_im6 : Cond.instanceMethod yX6_init ∈ gT := gT_at (i := 252) (by decide +kernel)
set_option maxRecDepth 20000 in
theorem nw_cd6 : Cond.code yX6_init cX6_init 3 none ∈ gT := gT_at (i := 253) ⟨rfl, rfl⟩
theorem nw_pl6 : yX6_init.cls ≠ "java/lang/invoke/MethodHandle" ∧ yX6_init.cls ≠ "java/lang/invoke/VarHandle" ∧ (parseMethodDescriptor yX6_init.desc).map (fun d => d.parameters.length) = some 2 := by decide +kernel
theorem nw_df6 : ∀ j, j < (zcs 6).2.2 → defaultValue (tyX6 j) = vp_V nf6 j := by decide +kernel
theorem nw_in7 : Cond.instantiable (zcs 7).1 (zcs 7).2.2 ∈ gT := gT_at (i := 180) (by decide +kernel)
theorem nw_it7 : Cond.initialized (zcs 7).1 ∈ gT := gT_at (i := 73) (by decide +kernel)
theorem nw_im7 : Cond.instanceMethod yX7_init ∈ gT := gT_at (i := 182) (by decide +kernel)
set_option maxRecDepth 20000 in
theorem nw_cd7 : Cond.code yX7_init cX7_init 1 none ∈ gT := gT_at (i := 183) ⟨rfl, rfl⟩
theorem nw_pl7 : yX7_init.cls ≠ "java/lang/invoke/MethodHandle" ∧ yX7_init.cls ≠ "java/lang/invoke/VarHandle" ∧ (parseMethodDescriptor yX7_init.desc).map (fun d => d.parameters.length) = some 0 := by decide +kernel
theorem nw_df7 : ∀ j, j < (zcs 7).2.2 → defaultValue (tyX7 j) = vp_V nf7 j := by decide +kernel
theorem nw_in8 : Cond.instantiable (zcs 8).1 (zcs 8).2.2 ∈ gT := gT_at (i := 293) (by decide +kernel)
theorem nw_it8 : Cond.initialized (zcs 8).1 ∈ gT := gT_at (i := 76) (by decide +kernel)
theorem nw_im8 : Cond.instanceMethod yX8_init ∈ gT := gT_at (i := 295) (by decide +kernel)
set_option maxRecDepth 20000 in
theorem nw_cd8 : Cond.code yX8_init cX8_init 4 none ∈ gT := gT_at (i := 296) ⟨rfl, rfl⟩
theorem nw_pl8 : yX8_init.cls ≠ "java/lang/invoke/MethodHandle" ∧ yX8_init.cls ≠ "java/lang/invoke/VarHandle" ∧ (parseMethodDescriptor yX8_init.desc).map (fun d => d.parameters.length) = some 3 := by decide +kernel
theorem nw_df8 : ∀ j, j < (zcs 8).2.2 → defaultValue (tyX8 j) = vp_V nf8 j := by decide +kernel
theorem nw_in9 : Cond.instantiable (zcs 9).1 (zcs 9).2.2 ∈ gT := gT_at (i := 86) (by decide +kernel)
theorem nw_it9 : Cond.initialized (zcs 9).1 ∈ gT := gT_at (i := 70) (by decide +kernel)
theorem nw_im9 : Cond.instanceMethod yX9_init ∈ gT := gT_at (i := 88) (by decide +kernel)
set_option maxRecDepth 20000 in
theorem nw_cd9 : Cond.code yX9_init cX9_init 1 none ∈ gT := gT_at (i := 89) ⟨rfl, rfl⟩
theorem nw_pl9 : yX9_init.cls ≠ "java/lang/invoke/MethodHandle" ∧ yX9_init.cls ≠ "java/lang/invoke/VarHandle" ∧ (parseMethodDescriptor yX9_init.desc).map (fun d => d.parameters.length) = some 0 := by decide +kernel
theorem nw_df9 : ∀ j, j < (zcs 9).2.2 → defaultValue (tyX9 j) = vp_V [.null, .null, .null, .null, .null, .null, .null, .null, .null, .null, .int 0] j := by decide +kernel
theorem nw_in10 : Cond.instantiable (zcs 10).1 (zcs 10).2.2 ∈ gT := gT_at (i := 1013) (by decide +kernel)
theorem nw_it10 : Cond.initialized (zcs 10).1 ∈ gT := gT_at (i := 80) (by decide +kernel)
theorem nw_im10 : Cond.instanceMethod yX10_init ∈ gT := gT_at (i := 1015) (by decide +kernel)
set_option maxRecDepth 20000 in
theorem nw_cd10 : Cond.code yX10_init cX10_init 1 none ∈ gT := gT_at (i := 1016) ⟨rfl, rfl⟩
theorem nw_pl10 : yX10_init.cls ≠ "java/lang/invoke/MethodHandle" ∧ yX10_init.cls ≠ "java/lang/invoke/VarHandle" ∧ (parseMethodDescriptor yX10_init.desc).map (fun d => d.parameters.length) = some 0 := by decide +kernel
theorem nw_df10 : ∀ j, j < (zcs 10).2.2 → defaultValue (tyX10 j) = vp_V nf10 j := by decide +kernel
section NL
variable {p : Program} {l : Launch} {e : Env} {R : Room} {s : State} {m : MethodId} {args : Array Value} {below : List Frame} {meth : Method} {c : Code} {H : Heap} {locs : List Loc} {cells slots : Nat} {Q : State → Prop}
variable {b : ByteArray} {ml o pc : Nat} {ls : Array Slot} {rest : List Value} {D : va_G} {cI cB cS : ClassId} {h0 sz : Nat} {oo : va_E} {L : List va_E}
theorem n_astC {N j0 jv q0 qv : Nat} {f : Nat → Option Nat} {vs : List Value} {i : Int32} (C : nC p s m args meth c b ml o) (hK : va_K D vwCl (nTy cI cB cS) s) (h : CH D h0 sz s.heap H locs oo L) (hj0 : L[j0]? = some (.inl (cS, N, .inr (.inr (.inr (.inr f)))))) (hjv : L[jv]? = some (.inr (7, vs))) (h0q : sz + j0 = q0) (hvq : sz + jv = qv) (hin : vp_in i N) (hdg : decode b pc = .ok (.aastore, 1))
    (kk : ∀ (H1 : Heap) (locs1 : List Loc), CH D h0 sz s.heap H1 locs1 oo (L.set j0 (.inl (cS, N, .inr (.inr (.inr (.inr (va_up f i.toNatClampNeg (some qv)))))))) → W p l e R s m args below meth c H1 locs1 cells slots Q (F0 m (pc + 1) ls rest)) : W p l e R s m args below meth c H locs cells slots Q (F0 m pc ls (.ref qv :: .int i :: .ref q0 :: rest)) := by
  subst h0q
  subst hvq
  obtain ⟨hx, hb, hr, hml, hown, hts, hlocks, hini, hE⟩ := C
  obtain ⟨⟨h1, h2⟩, h3, h4, h5, h6, h7⟩ := h
  refine n_ast hx hb hK (h5 j0 _ hj0) (h5 jv _ hjv) hin hdg (fun H1 j z1 o1 a1 => kk H1 _ ⟨⟨h1, h2⟩, by rw [z1, List.length_set]; exact h3, h4.kept (o1 _ (by show h0 ≠ _; omega)), fun k x hk => ?_, fun q q1 q2 => (o1 q (by omega)).trans (h6 q q1 q2), fun q hq => ?_⟩)
  · by_cases e : k = j0
    · subst e
      rw [List.getElem?_set_self (List.getElem?_eq_some_iff.mp hj0).1] at hk
      cases hk
      exact a1
    · rw [List.getElem?_set_ne (fun z => e z.symm)] at hk
      exact (h5 k x hk).kept (o1 _ (by show sz + k ≠ _; omega))
  · rcases List.mem_append.mp hq with z | z
    · exact h7 q z
    · rw [List.mem_singleton.mp z]; exact Or.inr (by show sz ≤ sz + j0; omega)
end NL
/-- a State's eight cells -/
def stE8 (cI cB : ClassId) (b : Nat) : List va_E := .inr (7, no7 (b + 1)) :: nL7 cI cB
def dsL (cI cB : ClassId) (b : Nat) : Nat → List va_E
  | 0 => []
  | n + 1 => dsL cI cB b n ++ stE8 cI cB (b + 8 * n)
theorem dsL_len (cI cB : ClassId) (b : Nat) : ∀ n, (dsL cI cB b n).length = 8 * n
  | 0 => rfl
  | n + 1 => by
    rw [dsL, List.length_append, dsL_len cI cB b n]
    show 8 * n + 8 = _
    omega
theorem dsL_get (cI cB : ClassId) (b : Nat) : ∀ n i m, i < n → m < 8 → (dsL cI cB b n)[8 * i + m]? = (stE8 cI cB (b + 8 * i))[m]?
  | 0, _, _, h, _ => absurd h (by omega)
  | n + 1, i, m, h, hm => by
    rw [dsL]
    by_cases e : i = n
    · subst e
      rw [List.getElem?_append_right (by rw [dsL_len]; omega), dsL_len, show 8 * i + m - 8 * i = m by omega]
    · rw [List.getElem?_append_left (by rw [dsL_len]; omega)]
      exact dsL_get cI cB b n i m (by omega) hm
def arS (cS : ClassId) (N b i : Nat) : va_E := .inl (cS, N, .inr (.inr (.inr (.inr (fun j => if j < i then some (b + 8 * j) else none)))))
theorem arS_up (b i : Nat) : va_up (fun j => if j < i then some (b + 8 * j) else none) i (some (b + 8 * i)) = (fun j => if j < i + 1 then some (b + 8 * j) else none) := by
  funext j
  unfold va_up
  by_cases e : j = i
  · rw [if_pos e, e, if_pos (by omega)]
  · rw [if_neg e]
    show (if j < i then some (b + 8 * j) else none) = _
    by_cases e2 : j < i
    · rw [if_pos e2, if_pos (by omega)]
    · rw [if_neg e2, if_neg (by omega)]
theorem dn1_0 : decode cX1_init 0 = .ok (.aload_n 0, 1) := by decide +kernel
theorem dn1_1 : decode cX1_init 1 = .ok (.invokespecial 3, 3) := by decide +kernel
theorem dn1_4 : decode cX1_init 4 = .ok (.aload_n 0, 1) := by decide +kernel
theorem dn1_5 : decode cX1_init 5 = .ok (.bipush 30, 2) := by decide +kernel
theorem dn1_7 : decode cX1_init 7 = .ok (.anewarray 9, 3) := by decide +kernel
theorem dn1_10 : decode cX1_init 10 = .ok (.putfield 11, 3) := by decide +kernel
theorem dn1_13 : decode cX1_init 13 = .ok (.aload_n 0, 1) := by decide +kernel
theorem dn1_14 : decode cX1_init 14 = .ok (.iconst 0, 1) := by decide +kernel
theorem dn1_15 : decode cX1_init 15 = .ok (.putfield 17, 3) := by decide +kernel
theorem dn1_18 : decode cX1_init 18 = .ok (.aload_n 0, 1) := by decide +kernel
theorem dn1_19 : decode cX1_init 19 = .ok (.iconst 0, 1) := by decide +kernel
theorem dn1_20 : decode cX1_init 20 = .ok (.putfield 21, 3) := by decide +kernel
theorem dn1_23 : decode cX1_init 23 = .ok (.iconst 0, 1) := by decide +kernel
theorem dn1_24 : decode cX1_init 24 = .ok (.istore_n 1, 1) := by decide +kernel
theorem dn1_25 : decode cX1_init 25 = .ok (.iload_n 1, 1) := by decide +kernel
theorem dn1_26 : decode cX1_init 26 = .ok (.bipush 30, 2) := by decide +kernel
theorem dn1_28 : decode cX1_init 28 = .ok (.if_icmp .ge 22, 3) := by decide +kernel
theorem dn1_31 : decode cX1_init 31 = .ok (.aload_n 0, 1) := by decide +kernel
theorem dn1_32 : decode cX1_init 32 = .ok (.getfield 11, 3) := by decide +kernel
theorem dn1_35 : decode cX1_init 35 = .ok (.iload_n 1, 1) := by decide +kernel
theorem dn1_36 : decode cX1_init 36 = .ok (.new 9, 3) := by decide +kernel
theorem dn1_39 : decode cX1_init 39 = .ok (.dup, 1) := by decide +kernel
theorem dn1_40 : decode cX1_init 40 = .ok (.invokespecial 24, 3) := by decide +kernel
theorem dn1_43 : decode cX1_init 43 = .ok (.aastore, 1) := by decide +kernel
theorem dn1_44 : decode cX1_init 44 = .ok (.iinc 1 1, 3) := by decide +kernel
theorem dn1_47 : decode cX1_init 47 = .ok (.goto (-22), 3) := by decide +kernel
theorem dn1_50 : decode cX1_init 50 = .ok (.return_, 1) := by decide +kernel
def no1 (sz : Nat) : List Value := [.ref (sz + 0), .int (nI 0), .int (nI 0)]
def nL1 (cI cB cS : ClassId) (sz : Nat) : List va_E := (arS cS 30 (sz + 1) 30 :: dsL cI cB (sz + 1) 30)
theorem nL1_len (cI cB cS : ClassId) (sz : Nat) : (nL1 cI cB cS sz).length = 241 := by
  show ((arS cS 30 (sz + 1) 30 :: dsL cI cB (sz + 1) 30) : List va_E).length = 241
  simp only [List.length_cons, dsL_len]
theorem nw_cl1 : Cond.classLink (zcn.getD 1 "") 9 RX7 ∈ gT := gT_at (i := 381) (by decide +kernel)
set_option maxHeartbeats 4000000 in
theorem n_X1_loop {p : Program} {l : Launch} {e : Env} {s : State} {m : MethodId} {args : Array Value} {below : List Frame} {meth : Method} {c : Code} {D : va_G} {cI cB cS : ClassId} {h0 sz : Nat} (C : nC p s m args meth c cX1_init 2 1) (hK : va_K D vwCl (nTy cI cB cS) s) : ∀ (n i : Nat) (H : Heap) (locs : List Loc) (ls : Array Slot), i + n = 30 → lv_has ls 2 [(1, .int (nI i)), (0, .ref h0)] → CH D h0 sz s.heap H locs (.inr (1, no1 sz)) (arS cS 30 (sz + 1) i :: dsL cI cB (sz + 1) i) → W p l e (nrm 2 (nL1 cI cB cS sz).length 3000) s m args below meth c H locs (1 + 8 * i) (30 + 99 * i) (MQ below (nQc D h0 sz (.inr (1, no1 sz)) (nL1 cI cB cS sz)) args s (nL1 cI cB cS sz).length 3000 (nA h0 sz)) (F0 m 25 ls []) := by
  have hx := C.1
  have hb := C.2.1
  have hE := C.2.2.2.2.2.2.2.2
  have hlen := nL1_len cI cB cS sz
  intro n
  induction n with
  | zero =>
    intro i H locs ls hi hl h
    have e : i = 30 := by omega
    subst e
    refine lv_iload_n hx hb dn1_25 rfl (lv_at hl 0 rfl) ?_
    refine lv_bipush (v := nI 30) hx hb dn1_26 (by decide) ?_
    refine lv_icmp_ge hx hb dn1_28 (tgt := 50) (by decide) (fun _ => ?_) (fun q => absurd (by decide) q)
    refine W.widen (k := (nL1 cI cB cS sz).length) (n := 3000) (by rw [hlen]; omega) (by omega) ?_
    exact n_retC (L1 := nL1 cI cB cS sz) (o1 := .inr (1, no1 sz)) C h dn1_50
  | succ n ih =>
    intro i H locs ls hi hl h
    refine lv_iload_n hx hb dn1_25 rfl (lv_at hl 0 rfl) ?_
    refine lv_bipush (v := nI 30) hx hb dn1_26 (by decide) ?_
    refine lv_icmp_ge hx hb dn1_28 (tgt := 50) (by decide) (fun q => absurd ((nI_leI (by omega) (by omega)).mp q) (by omega)) (fun _ => ?_)
    refine lv_aload_n hx hb dn1_31 rfl (lv_at hl 1 rfl) ?_
    refine n_getC (ix := 11) (ci := 1) (k := 0) (v := .ref (sz + 0)) C hK h (by decide +kernel) rfl dn1_32 ?_
    refine lv_iload_n hx hb dn1_35 rfl (lv_at hl 0 rfl) ?_
    have hll : (arS cS 30 (sz + 1) i :: dsL cI cB (sz + 1) i).length = 1 + 8 * i := by simp only [List.length_cons, dsL_len]; omega
    refine n_newC (ci := 7) (ix := 9) (fs := nf7) (q := sz + 1 + 8 * i) C hK h (by rw [hll]; omega) (by decide) nw_cl1 nw_in7 nw_it7 tyX7 tyX7_ok nw_df7 (by show 1 + 8 * i + 1 ≤ (nL1 cI cB cS sz).length; rw [hlen]; omega) (by show 30 + 99 * i + 13 ≤ 3000; omega) dn1_36 (fun H h => ?_)
    refine lv_dup hx hb dn1_39 rfl ?_
    refine n_callC (ix := 24) (qb := sz + 1 + 8 * i) (L0 := (arS cS 30 (sz + 1) i :: dsL cI cB (sz + 1) i)) (rest := [.ref (sz + 1 + 8 * i), .int (nI i), .ref (sz + 0)]) C hK (by rw [hll]; omega) (n_X7 l D cI cB cS (sz + 1 + 8 * i) (sz + 1 + 8 * i + 1)) nw_cd7 nw_it7 nw_im7 rfl nw_pl7 (Or.inr hE.2.1.1) ⟨Nat.le_of_ble_eq_true rfl, Nat.le_of_ble_eq_true rfl⟩ ⟨by show 1 + 8 * i + 1 + 7 ≤ (nL1 cI cB cS sz).length; rw [hlen]; omega, by show 30 + 99 * i + 13 + 86 ≤ 3000; omega⟩ h hl.1 (Nat.le_of_ble_eq_true rfl) rfl dn1_40 (fun H locs h => ?_)
    have hget : ((arS cS 30 (sz + 1) i :: dsL cI cB (sz + 1) i) ++ .inr (7, no7 (sz + 1 + 8 * i + 1)) :: nL7 cI cB)[1 + 8 * i]? = some (.inr (7, no7 (sz + 1 + 8 * i + 1))) := by
      rw [List.getElem?_append_right (by rw [hll]; omega), hll, Nat.sub_self]
      rfl
    refine n_astC (j0 := 0) (jv := 1 + 8 * i) (q0 := sz + 0) (qv := sz + 1 + 8 * i) C hK h rfl hget rfl (by omega) (zinr (show i < 30 by omega) (by decide)).1 dn1_43 (fun H locs h => ?_)
    rw [(zinr (show i < 30 by omega) (by decide)).2, arS_up] at h
    have h : CH D h0 sz s.heap H locs (.inr (1, no1 sz)) (arS cS 30 (sz + 1) (i + 1) :: dsL cI cB (sz + 1) (i + 1)) := h
    refine lv_iinc (v := nI (i + 1)) (k := 0) hx hb dn1_44 hl rfl (by rw [show Int32.ofInt 1 = nI 1 from rfl, nI_add]) (by decide) (lv' := [(1, .int (nI (i + 1))), (0, .ref h0)]) rfl (fun ls hl => ?_)
    refine lv_goto hx hb dn1_47 (tgt := 25) (by decide) ?_
    refine W.widen (k := 1 + 8 * (i + 1)) (n := 30 + 99 * (i + 1)) (by show 1 + 8 * i + 1 + 7 ≤ _; omega) (by show 30 + 99 * i + 13 + 86 ≤ _; omega) ?_
    exact ih (i + 1) H locs ls (by omega) hl h
set_option maxHeartbeats 4000000 in
theorem n_X1 (l : Launch) (D : va_G) (cI cB cS : ClassId) (h0 sz : Nat) : nMet l yX1_init cX1_init 2 2 D cI cB cS h0 sz [] (.inr (1, [.null, .int 0, .int 0])) (.inr (1, no1 sz)) (nL1 cI cB cS sz) 3000 := by
  refine nMet_in 1 (by decide +kernel) rfl rfl (Nat.le_of_ble_eq_true rfl) ?_
  intro p e s m args below meth c ls C hK hl h
  have hx := C.1
  have hb := C.2.1
  have hlen := nL1_len cI cB cS sz
  have h : CH D h0 sz s.heap s.heap [] (.inr (1, [.null, .int 0, .int 0])) [] := h
  refine lv_aload_n hx hb dn1_0 rfl (lv_at hl 0 rfl) ?_
  refine n_objC (ix := 3) C hl.1 (gT_at (i := 380) (by decide +kernel)) (Nat.le_of_ble_eq_true rfl) (Nat.le_of_ble_eq_true rfl) dn1_1 ?_
  refine lv_aload_n hx hb dn1_4 rfl (lv_at hl 0 rfl) ?_
  refine lv_bipush (v := nI 30) hx hb dn1_5 (by decide) ?_
  refine n_newSC (ix := 9) (n := nI 30) (N := 30) (q := sz + 0) C hK h rfl nw_cl1 (by decide) (by decide) (by decide) (by show 0 + 1 ≤ (nL1 cI cB cS sz).length; rw [hlen]; omega) (by show 0 + 30 ≤ 3000; omega) dn1_7 (fun H h => ?_)
  have h : CH D h0 sz s.heap H [] (.inr (1, [.null, .int 0, .int 0])) [.inl (cS, 30, .inr (.inr (.inr (.inr (fun _ => none)))))] := h
  refine n_putC (ci := 1) (k := 0) (ty := .array (.object "GladGlasses$State")) (v := .ref (sz + 0)) C hK h (by decide +kernel) rfl (by decide +kernel) rfl rfl (Nat.le_of_ble_eq_true rfl) dn1_10 (fun H locs h => ?_)
  have h : CH D h0 sz s.heap H locs (.inr (1, [.ref (sz + 0), .int 0, .int 0])) [.inl (cS, 30, .inr (.inr (.inr (.inr (fun _ => none)))))] := h
  refine lv_aload_n hx hb dn1_13 rfl (lv_at hl 0 rfl) ?_
  refine lv_iconst (v := nI 0) hx hb dn1_14 (by decide) ?_
  refine n_putC (ci := 1) (k := 1) (ty := .int) (v := .int (nI 0)) C hK h (by decide +kernel) rfl (by decide +kernel) rfl rfl (Nat.le_of_ble_eq_true rfl) dn1_15 (fun H locs h => ?_)
  have h : CH D h0 sz s.heap H locs (.inr (1, [.ref (sz + 0), .int (nI 0), .int 0])) [.inl (cS, 30, .inr (.inr (.inr (.inr (fun _ => none)))))] := h
  refine lv_aload_n hx hb dn1_18 rfl (lv_at hl 0 rfl) ?_
  refine lv_iconst (v := nI 0) hx hb dn1_19 (by decide) ?_
  refine n_putC (ci := 1) (k := 2) (ty := .int) (v := .int (nI 0)) C hK h (by decide +kernel) rfl (by decide +kernel) rfl rfl (Nat.le_of_ble_eq_true rfl) dn1_20 (fun H locs h => ?_)
  have h : CH D h0 sz s.heap H locs (.inr (1, [.ref (sz + 0), .int (nI 0), .int (nI 0)])) [.inl (cS, 30, .inr (.inr (.inr (.inr (fun _ => none)))))] := h
  refine lv_iconst (v := nI 0) hx hb dn1_23 (by decide) ?_
  refine lv_istore_n hx hb dn1_24 rfl hl (by decide) (lv' := [(1, .int (nI 0)), (0, .ref h0)]) rfl (fun ls hl => ?_)
  have ea : (fun _ => none : Nat → Option Nat) = (fun j => if j < 0 then some (sz + 1 + 8 * j) else none) := by
    funext j
    rw [if_neg (by omega)]
  rw [ea] at h
  exact n_X1_loop C hK 30 0 H locs ls (by omega) hl h
theorem dn3_0 : decode cX3_init 0 = .ok (.aload_n 0, 1) := by decide +kernel
theorem dn3_1 : decode cX3_init 1 = .ok (.invokespecial 3, 3) := by decide +kernel
theorem dn3_4 : decode cX3_init 4 = .ok (.aload_n 0, 1) := by decide +kernel
theorem dn3_5 : decode cX3_init 5 = .ok (.iconst 2, 1) := by decide +kernel
theorem dn3_6 : decode cX3_init 6 = .ok (.anewarray 9, 3) := by decide +kernel
theorem dn3_9 : decode cX3_init 9 = .ok (.putfield 11, 3) := by decide +kernel
theorem dn3_12 : decode cX3_init 12 = .ok (.aload_n 0, 1) := by decide +kernel
theorem dn3_13 : decode cX3_init 13 = .ok (.iconst 2, 1) := by decide +kernel
theorem dn3_14 : decode cX3_init 14 = .ok (.newarray .int, 2) := by decide +kernel
theorem dn3_16 : decode cX3_init 16 = .ok (.putfield 17, 3) := by decide +kernel
theorem dn3_19 : decode cX3_init 19 = .ok (.aload_n 0, 1) := by decide +kernel
theorem dn3_20 : decode cX3_init 20 = .ok (.iconst 0, 1) := by decide +kernel
theorem dn3_21 : decode cX3_init 21 = .ok (.putfield 21, 3) := by decide +kernel
theorem dn3_24 : decode cX3_init 24 = .ok (.iconst 0, 1) := by decide +kernel
theorem dn3_25 : decode cX3_init 25 = .ok (.istore_n 1, 1) := by decide +kernel
theorem dn3_26 : decode cX3_init 26 = .ok (.iload_n 1, 1) := by decide +kernel
theorem dn3_27 : decode cX3_init 27 = .ok (.iconst 2, 1) := by decide +kernel
theorem dn3_28 : decode cX3_init 28 = .ok (.if_icmp .ge 22, 3) := by decide +kernel
theorem dn3_31 : decode cX3_init 31 = .ok (.aload_n 0, 1) := by decide +kernel
theorem dn3_32 : decode cX3_init 32 = .ok (.getfield 11, 3) := by decide +kernel
theorem dn3_35 : decode cX3_init 35 = .ok (.iload_n 1, 1) := by decide +kernel
theorem dn3_36 : decode cX3_init 36 = .ok (.new 9, 3) := by decide +kernel
theorem dn3_39 : decode cX3_init 39 = .ok (.dup, 1) := by decide +kernel
theorem dn3_40 : decode cX3_init 40 = .ok (.invokespecial 25, 3) := by decide +kernel
theorem dn3_43 : decode cX3_init 43 = .ok (.aastore, 1) := by decide +kernel
theorem dn3_44 : decode cX3_init 44 = .ok (.iinc 1 1, 3) := by decide +kernel
theorem dn3_47 : decode cX3_init 47 = .ok (.goto (-21), 3) := by decide +kernel
theorem dn3_50 : decode cX3_init 50 = .ok (.return_, 1) := by decide +kernel
def no3 (sz : Nat) : List Value := [.ref (sz + 0), .ref (sz + 1), .int (nI 0)]
def nL3 (cI cB cS : ClassId) (sz : Nat) : List va_E := (arS cS 2 (sz + 2) 2 :: eI cI 2 :: dsL cI cB (sz + 2) 2)
theorem nL3_len (cI cB cS : ClassId) (sz : Nat) : (nL3 cI cB cS sz).length = 18 := by
  show ((arS cS 2 (sz + 2) 2 :: eI cI 2 :: dsL cI cB (sz + 2) 2) : List va_E).length = 18
  simp only [List.length_cons, dsL_len]
theorem nw_cl3 : Cond.classLink (zcn.getD 3 "") 9 RX7 ∈ gT := gT_at (i := 401) (by decide +kernel)
set_option maxHeartbeats 4000000 in
theorem n_X3_loop {p : Program} {l : Launch} {e : Env} {s : State} {m : MethodId} {args : Array Value} {below : List Frame} {meth : Method} {c : Code} {D : va_G} {cI cB cS : ClassId} {h0 sz : Nat} (C : nC p s m args meth c cX3_init 2 3) (hK : va_K D vwCl (nTy cI cB cS) s) : ∀ (n i : Nat) (H : Heap) (locs : List Loc) (ls : Array Slot), i + n = 2 → lv_has ls 2 [(1, .int (nI i)), (0, .ref h0)] → CH D h0 sz s.heap H locs (.inr (3, no3 sz)) (arS cS 2 (sz + 2) i :: eI cI 2 :: dsL cI cB (sz + 2) i) → W p l e (nrm 2 (nL3 cI cB cS sz).length 202) s m args below meth c H locs (2 + 8 * i) (4 + 99 * i) (MQ below (nQc D h0 sz (.inr (3, no3 sz)) (nL3 cI cB cS sz)) args s (nL3 cI cB cS sz).length 202 (nA h0 sz)) (F0 m 26 ls []) := by
  have hx := C.1
  have hb := C.2.1
  have hE := C.2.2.2.2.2.2.2.2
  have hlen := nL3_len cI cB cS sz
  intro n
  induction n with
  | zero =>
    intro i H locs ls hi hl h
    have e : i = 2 := by omega
    subst e
    refine lv_iload_n hx hb dn3_26 rfl (lv_at hl 0 rfl) ?_
    refine lv_iconst (v := nI 2) hx hb dn3_27 (by decide) ?_
    refine lv_icmp_ge hx hb dn3_28 (tgt := 50) (by decide) (fun _ => ?_) (fun q => absurd (by decide) q)
    refine W.widen (k := (nL3 cI cB cS sz).length) (n := 202) (by rw [hlen]; omega) (by omega) ?_
    exact n_retC (L1 := nL3 cI cB cS sz) (o1 := .inr (3, no3 sz)) C h dn3_50
  | succ n ih =>
    intro i H locs ls hi hl h
    refine lv_iload_n hx hb dn3_26 rfl (lv_at hl 0 rfl) ?_
    refine lv_iconst (v := nI 2) hx hb dn3_27 (by decide) ?_
    refine lv_icmp_ge hx hb dn3_28 (tgt := 50) (by decide) (fun q => absurd ((nI_leI (by omega) (by omega)).mp q) (by omega)) (fun _ => ?_)
    refine lv_aload_n hx hb dn3_31 rfl (lv_at hl 1 rfl) ?_
    refine n_getC (ix := 11) (ci := 3) (k := 0) (v := .ref (sz + 0)) C hK h (by decide +kernel) rfl dn3_32 ?_
    refine lv_iload_n hx hb dn3_35 rfl (lv_at hl 0 rfl) ?_
    have hll : (arS cS 2 (sz + 2) i :: eI cI 2 :: dsL cI cB (sz + 2) i).length = 2 + 8 * i := by simp only [List.length_cons, dsL_len]; omega
    refine n_newC (ci := 7) (ix := 9) (fs := nf7) (q := sz + 2 + 8 * i) C hK h (by rw [hll]; omega) (by decide) nw_cl3 nw_in7 nw_it7 tyX7 tyX7_ok nw_df7 (by show 2 + 8 * i + 1 ≤ (nL3 cI cB cS sz).length; rw [hlen]; omega) (by show 4 + 99 * i + 13 ≤ 202; omega) dn3_36 (fun H h => ?_)
    refine lv_dup hx hb dn3_39 rfl ?_
    refine n_callC (ix := 25) (qb := sz + 2 + 8 * i) (L0 := (arS cS 2 (sz + 2) i :: eI cI 2 :: dsL cI cB (sz + 2) i)) (rest := [.ref (sz + 2 + 8 * i), .int (nI i), .ref (sz + 0)]) C hK (by rw [hll]; omega) (n_X7 l D cI cB cS (sz + 2 + 8 * i) (sz + 2 + 8 * i + 1)) nw_cd7 nw_it7 nw_im7 rfl nw_pl7 (Or.inr hE.2.1.2) ⟨Nat.le_of_ble_eq_true rfl, Nat.le_of_ble_eq_true rfl⟩ ⟨by show 2 + 8 * i + 1 + 7 ≤ (nL3 cI cB cS sz).length; rw [hlen]; omega, by show 4 + 99 * i + 13 + 86 ≤ 202; omega⟩ h hl.1 (Nat.le_of_ble_eq_true rfl) rfl dn3_40 (fun H locs h => ?_)
    have hget : ((arS cS 2 (sz + 2) i :: eI cI 2 :: dsL cI cB (sz + 2) i) ++ .inr (7, no7 (sz + 2 + 8 * i + 1)) :: nL7 cI cB)[2 + 8 * i]? = some (.inr (7, no7 (sz + 2 + 8 * i + 1))) := by
      rw [List.getElem?_append_right (by rw [hll]; omega), hll, Nat.sub_self]
      rfl
    refine n_astC (j0 := 0) (jv := 2 + 8 * i) (q0 := sz + 0) (qv := sz + 2 + 8 * i) C hK h rfl hget rfl (by omega) (zinr (show i < 2 by omega) (by decide)).1 dn3_43 (fun H locs h => ?_)
    rw [(zinr (show i < 2 by omega) (by decide)).2, arS_up] at h
    have h : CH D h0 sz s.heap H locs (.inr (3, no3 sz)) (arS cS 2 (sz + 2) (i + 1) :: eI cI 2 :: dsL cI cB (sz + 2) (i + 1)) := h
    refine lv_iinc (v := nI (i + 1)) (k := 0) hx hb dn3_44 hl rfl (by rw [show Int32.ofInt 1 = nI 1 from rfl, nI_add]) (by decide) (lv' := [(1, .int (nI (i + 1))), (0, .ref h0)]) rfl (fun ls hl => ?_)
    refine lv_goto hx hb dn3_47 (tgt := 26) (by decide) ?_
    refine W.widen (k := 2 + 8 * (i + 1)) (n := 4 + 99 * (i + 1)) (by show 2 + 8 * i + 1 + 7 ≤ _; omega) (by show 4 + 99 * i + 13 + 86 ≤ _; omega) ?_
    exact ih (i + 1) H locs ls (by omega) hl h
set_option maxHeartbeats 4000000 in
theorem n_X3 (l : Launch) (D : va_G) (cI cB cS : ClassId) (h0 sz : Nat) : nMet l yX3_init cX3_init 2 2 D cI cB cS h0 sz [] (.inr (3, [.null, .null, .int 0])) (.inr (3, no3 sz)) (nL3 cI cB cS sz) 202 := by
  refine nMet_in 3 (by decide +kernel) rfl rfl (Nat.le_of_ble_eq_true rfl) ?_
  intro p e s m args below meth c ls C hK hl h
  have hx := C.1
  have hb := C.2.1
  have hlen := nL3_len cI cB cS sz
  have h : CH D h0 sz s.heap s.heap [] (.inr (3, [.null, .null, .int 0])) [] := h
  refine lv_aload_n hx hb dn3_0 rfl (lv_at hl 0 rfl) ?_
  refine n_objC (ix := 3) C hl.1 (gT_at (i := 400) (by decide +kernel)) (Nat.le_of_ble_eq_true rfl) (Nat.le_of_ble_eq_true rfl) dn3_1 ?_
  refine lv_aload_n hx hb dn3_4 rfl (lv_at hl 0 rfl) ?_
  refine lv_iconst (v := nI 2) hx hb dn3_5 (by decide) ?_
  refine n_newSC (ix := 9) (n := nI 2) (N := 2) (q := sz + 0) C hK h rfl nw_cl3 (by decide) (by decide) (by decide) (by show 0 + 1 ≤ (nL3 cI cB cS sz).length; rw [hlen]; omega) (by show 0 + 2 ≤ 202; omega) dn3_6 (fun H h => ?_)
  have h : CH D h0 sz s.heap H [] (.inr (3, [.null, .null, .int 0])) [.inl (cS, 2, .inr (.inr (.inr (.inr (fun _ => none)))))] := h
  refine n_putC (ci := 3) (k := 0) (ty := .array (.object "GladGlasses$State")) (v := .ref (sz + 0)) C hK h (by decide +kernel) rfl (by decide +kernel) rfl rfl (Nat.le_of_ble_eq_true rfl) dn3_9 (fun H locs h => ?_)
  have h : CH D h0 sz s.heap H locs (.inr (3, [.ref (sz + 0), .null, .int 0])) [.inl (cS, 2, .inr (.inr (.inr (.inr (fun _ => none)))))] := h
  refine lv_aload_n hx hb dn3_12 rfl (lv_at hl 0 rfl) ?_
  refine lv_iconst (v := nI 2) hx hb dn3_13 (by decide) ?_
  refine n_newIC (n := nI 2) (N := 2) (q := sz + 1) C hK h rfl (by decide) (by decide) (by decide) (by show 1 + 1 ≤ (nL3 cI cB cS sz).length; rw [hlen]; omega) (by show 2 + 2 ≤ 202; omega) dn3_14 (fun H h => ?_)
  have h : CH D h0 sz s.heap H locs (.inr (3, [.ref (sz + 0), .null, .int 0])) [.inl (cS, 2, .inr (.inr (.inr (.inr (fun _ => none))))), eI cI 2] := h
  refine n_putC (ci := 3) (k := 1) (ty := .array .int) (v := .ref (sz + 1)) C hK h (by decide +kernel) rfl (by decide +kernel) rfl rfl (Nat.le_of_ble_eq_true rfl) dn3_16 (fun H locs h => ?_)
  have h : CH D h0 sz s.heap H locs (.inr (3, [.ref (sz + 0), .ref (sz + 1), .int 0])) [.inl (cS, 2, .inr (.inr (.inr (.inr (fun _ => none))))), eI cI 2] := h
  refine lv_aload_n hx hb dn3_19 rfl (lv_at hl 0 rfl) ?_
  refine lv_iconst (v := nI 0) hx hb dn3_20 (by decide) ?_
  refine n_putC (ci := 3) (k := 2) (ty := .int) (v := .int (nI 0)) C hK h (by decide +kernel) rfl (by decide +kernel) rfl rfl (Nat.le_of_ble_eq_true rfl) dn3_21 (fun H locs h => ?_)
  have h : CH D h0 sz s.heap H locs (.inr (3, [.ref (sz + 0), .ref (sz + 1), .int (nI 0)])) [.inl (cS, 2, .inr (.inr (.inr (.inr (fun _ => none))))), eI cI 2] := h
  refine lv_iconst (v := nI 0) hx hb dn3_24 (by decide) ?_
  refine lv_istore_n hx hb dn3_25 rfl hl (by decide) (lv' := [(1, .int (nI 0)), (0, .ref h0)]) rfl (fun ls hl => ?_)
  have ea : (fun _ => none : Nat → Option Nat) = (fun j => if j < 0 then some (sz + 2 + 8 * j) else none) := by
    funext j
    rw [if_neg (by omega)]
  rw [ea] at h
  exact n_X3_loop C hK 2 0 H locs ls (by omega) hl h
