/-! the first state of both sides; a call from the law -/
def a0 : aT := ((0, 0, 0, 0, fun _ => 0, fun _ => 0, fun _ => 0), fun _ => 0, (0, fun _ _ => 0), (0, fun _ _ => 0, fun _ => 0), 0, (0, fun _ => 0, -1), (0, fun _ => 0, fun _ => 0, 0, fun _ => 0, fun _ => 0))
theorem OKA_0 : OKA a0 := by
  refine ⟨⟨by decide, by decide, by decide, by decide, fun _ => Nat.zero_le _, fun _ => Nat.zero_le _, fun _ => Nat.zero_le _, fun _ => ⟨rfl, rfl, rfl⟩⟩, ⟨⟨fun _ _ => ⟨Nat.zero_le _, Nat.zero_le _, Nat.zero_le _⟩, by decide, by decide, fun _ _ => Nat.zero_le _, by decide, by decide, by decide, fun _ _ => ⟨Nat.zero_le _, Nat.zero_le _, Nat.zero_le _⟩⟩, by decide⟩, ⟨by decide, fun i hi => absurd hi (by omega)⟩, ⟨by decide, fun i _ hb => absurd hb (newA_ok.bt_z i)⟩, by decide, ⟨by decide, fun i hi => absurd hi (by omega)⟩, ⟨by decide, fun i hi => absurd hi (by omega)⟩, ⟨by decide, fun i hi => absurd hi (by omega)⟩⟩
theorem CI_0 : CI a0 X0 := by
  refine ⟨0, 0, fun _ => 0, fun _ => 0, ⟨rfl, rfl, rfl, rfl, fun k hk => absurd hk (Nat.not_lt_zero k), fun k hk => absurd hk (Nat.not_lt_zero k)⟩, ⟨⟨rfl, rfl, rfl, rfl⟩, ⟨rfl, rfl, by decide, fun _ => rfl⟩, fun k hk => absurd hk (Nat.not_lt_zero k), fun k hk => absurd hk (Nat.not_lt_zero k), fun k hk => absurd hk (Nat.not_lt_zero k)⟩, ⟨rfl, rfl, by decide, by decide, fun k hk => absurd hk (Nat.not_lt_zero k)⟩, ⟨rfl, fun i _ hb => absurd hb (newA_ok.bt_z i)⟩, rfl, ⟨rfl, rfl, fun k hk => absurd hk (Nat.not_lt_zero k)⟩, ⟨rfl, rfl, fun k hk => absurd hk (Nat.not_lt_zero k), fun k hk => absurd hk (Nat.not_lt_zero k)⟩, Or.inl ⟨rfl, rfl⟩⟩
theorem MI_0 : MI a0 X0 := by
  refine ⟨⟨rfl, rfl, rfl, rfl, fun k hk => absurd hk (by omega), fun k hk => absurd hk (by omega)⟩, fun i _ => rfl, ⟨rfl, fun k hk => absurd hk (by omega)⟩, ⟨fun i _ => ?_, fun i _ hb => absurd hb (newA_ok.bt_z i)⟩, rfl, ⟨rfl, rfl, fun k hk => absurd hk (by omega)⟩, ⟨rfl, rfl, fun k hk => absurd hk (by omega), fun k hk => absurd hk (by omega)⟩⟩
  have e : bt 0 i = 0 := by unfold bt; simp
  rw [e]
  rfl
/-- the world between calls -/
def lX (D : va_G) (cI cB cS : ClassId) (s : State) (H : Heap) (locs : List Loc) (X : zM) : Prop := va_P D vwCl (zws (asF s.heap.size) (caF cI cB cS) X) H ∧ va_D (fun q => s.heap.size ≤ q) (zws (asF s.heap.size) (caF cI cB cS) X) ∧ va_S (fun q => s.heap.size ≤ q) s.heap H locs
def lC (p : Program) (s : State) (m : MethodId) (meth : Method) (c : Code) (b L : Nat) (xs : Nat → Int32) (D : va_G) (cI cB cS : ClassId) : Prop := p.tables.exec = Jvm.exec ∧ c.code = code ∧ meth.sig.returnType = ret ∧ c.maxLocals = 4 ∧ s.vm.findClass R_law = some m.cls ∧ (∀ w ∈ gT, w.before #[Value.ref b] s = true) ∧ meth.locks = false ∧ zNw s ∧ va_K D vwCl (ztys (caF cI cB cS)) s ∧ va_X b L xs s s.heap ∧ b < s.heap.size
def lY (y i n : Nat) : Prop := y < zmi.length ∧ zkd i = (0, zrc y) ∧ zrc y ≠ 99 ∧ n = znp y ∧ zdp y + 1 ≤ 10 ∧ 8 + (zmx y + 11) + 30 * zdp y ≤ 368
section LW
variable {p : Program} {l : Launch} {e : Env} {s : State} {m : MethodId} {below : List Frame} {meth : Method} {c : Code} {H : Heap} {locs : List Loc} {cells slots : Nat} {Qz : State → Prop} {b L : Nat} {xs : Nat → Int32} {D : va_G} {cI cB cS : ClassId} {pc : Nat} {ls : Array Slot} {rest st : List Value}
theorem l_call {y i ix : Nat} {av : List Value} {X : zM} {Q : Option Value → zM → Prop} (C : lC p s m meth c b L xs D cI cB cS) (hcl : zcl y (.ref i :: av) X Q) (hy : lY y i av.length) (hlk : Cond.methodLink R_law ix (znm y) ∈ gT) (hcs : cells ≤ 600000 ∧ slots ≤ 7302250) (hW : (rest.map fun v => v.category).sum ≤ 8) (hls : ls.size = 4) (h : lX D cI cB cS s H locs X) (hst : st = (av.map (zmv (asF s.heap.size))).reverse ++ .ref (asF s.heap.size i) :: rest) (hdg : decode code pc = .ok (.invokevirtual ix, 3))
    (kk : ∀ (v : Option Value) (Y : zM) (H1 : Heap) (locs1 : List Loc), Q v Y → lX D cI cB cS s H1 locs1 Y → W p l e room_1 s m #[Value.ref b] below meth c H1 locs1 cells slots Qz (F0 m (pc + 3) ls ((v.map (zmv (asF s.heap.size))).toList ++ rest))) : W p l e room_1 s m #[Value.ref b] below meth c H locs cells slots Qz (F0 m pc ls st) := by
  obtain ⟨hx, hb, hr, hml, hown, hts, hlocks, hnw, hK, hX, hbl⟩ := C
  obtain ⟨hy, hkd, hne, hnp, hfr, hlo⟩ := hy
  obtain ⟨hP, hD, hS⟩ := h
  obtain ⟨r, hQ, hM⟩ := zmet hcl
  have hM := hM l D (asF s.heap.size) (caF cI cB cS) H.size
  obtain ⟨w1, w2, w3, w4, w5, w6⟩ := zYw_y hy
  have hpar : ∀ sig, parseMethodDescriptor (znm y).desc = some sig → znp y = sig.parameters.length := by
    intro sig hsig
    have := w3.2.2
    rw [hsig] at this
    exact (Option.some.inj this).symm
  have hlt : i < zN := zkd_lt (by rw [hkd]; exact Nat.zero_le 3)
  obtain ⟨ws1, ws2⟩ : Cond.instanceMethod (znm y) ∈ gT ∧ Cond.selects (zcs (zrc y)).1 (znm y) (znm y) ∈ gT := by
    rcases w2 with q | q
    · exact absurd q.1 hne
    · exact q.2
  have hcls : vwCl[zrc y]? = some (zcs (zrc y)) := zcls_of hkd
  have hpre : ∀ U : State, U.heap = H → s.WarmedH U.vm → zPc D (asF s.heap.size) (caF cI cB cS) H.size X ((Value.ref i :: av).map (zmv (asF s.heap.size))) ((Value.ref i :: av).map (zmv (asF s.heap.size))).toArray U := fun U hU hW => ⟨rfl, by rw [hU], by rw [hU]; exact hP, va_K.moved hW.alike hK, zD_any (D := D) hD, zNw_warm hW hnw⟩
  have hrun := va_runV (R := room_1) (locs := locs) (cells := cells) (slots := slots) (As := av.map (zmv (asF s.heap.size))) (rest := rest) (g := F0 m pc ls st) (n := znp y) (index := ix) (below := below) (meth := meth) (e := e) (C := (zcs (zrc y)).1) (b := asF s.heap.size i) ⟨hx, hb, hml, hown, hts⟩ hM ⟨⟨rfl, rfl, hfr, hlo, fun w hw a1 U hW => zwl_words hy hts hW w hw, List.mem_cons_self, hts _ (zcode_in hy), hts _ w1, ⟨w3.1, w3.2.1⟩, hpar, hts _ hlk⟩, hts _ ws1, hts _ ws2⟩ ⟨zPc_blind D _ _ H.size X _, va_recv hK hP hcls (q0 := i) (by rw [zws_at hlt, zcell_0 hkd]), hpre⟩ rfl (by rw [List.length_map]; exact hnp) hls hst (lv_room hW) hdg ⟨hcs.1, hcs.2⟩
  have hsub : ∀ q, zA (asF s.heap.size) H.size q → s.heap.size ≤ q := by
    intro q hq
    rcases hq with ⟨k, -, rfl⟩ | hq
    · show s.heap.size ≤ s.heap.size + off k
      omega
    · exact Nat.le_trans hS.1 hq
  intro T hT XX
  obtain ⟨v, st₀, t, T', L1, g0, X', hL1, e1, e2, ⟨⟨hv, hB⟩, hz, hk⟩, stp⟩ := hrun T hT XX
  cases hv
  rw [g0] at hz hk
  obtain ⟨k1, k2, k3⟩ := hB
  obtain ⟨t2, a1, b1⟩ := kk r.1 r.2 T'.heap (locs ++ L1) hQ ⟨by rw [e1]; exact k1, ⟨k3.1, fun k q hq => hsub _ (k3.2 k q hq)⟩, Nat.le_trans hS.1 (by rw [e1]; exact hz), fun q h1 h2 => by rw [e1, hk q (Nat.lt_of_lt_of_le h1 hS.1) (fun z => h2 (hsub q z))]; exact hS.2.1 q h1 h2, fun q hq => by
    rcases List.mem_append.mp hq with h | h
    · exact hS.2.2 q h
    · exact hsub _ (hL1 q h)⟩ T' rfl X'
  exact ⟨t2, stp t2 a1, b1⟩
def dA (pc : Nat) (j : Int) : Prop := decode code pc = .ok (.aload_n 0, 1) ∧ decode code (pc + 1) = .ok (.iload_n 3, 1) ∧ decode code (pc + 2) = .ok (.iconst j, 1) ∧ decode code (pc + 3) = .ok (.iadd, 1) ∧ decode code (pc + 4) = .ok (.iaload, 1)
theorem l_arg {i j : Nat} {jj : Int} {X : zM} {lv : List (Nat × Value)} (C : lC p s m meth c b L xs D cI cB cS) (hd : dA pc jj) (hjj : Int32.ofInt jj = nI j) (hL : L ≤ 1536) (hj : i + j < L) (hl0 : ls[0]? = some (.val (.ref b))) (hl3 : ls[3]? = some (.val (.int (nI i)))) (h : lX D cI cB cS s H locs X) (kk : W p l e room_1 s m #[Value.ref b] below meth c H locs cells slots Qz (F0 m (pc + 5) ls (.int (xs (i + j)) :: rest))) : W p l e room_1 s m #[Value.ref b] below meth c H locs cells slots Qz (F0 m pc ls rest) := by
  obtain ⟨hx, hb, hr, hml, hown, hts, hlocks, hnw, hK, hX, hbl⟩ := C
  obtain ⟨d0, d1, d2, d3, d4⟩ := hd
  obtain ⟨hP, hD, hS⟩ := h
  refine lv_aload_n hx hb d0 rfl hl0 ?_
  refine lv_iload_n hx hb d1 rfl hl3 ?_
  refine lv_iconst (v := nI j) hx hb d2 hjj ?_
  refine lv_iadd hx hb d3 ?_
  rw [nI_add]
  have z := zinr (j := i + j) (m := L) hj (by omega)
  refine va_sld hx hb hX hbl (fun q => Nat.lt_irrefl _ (Nat.lt_of_lt_of_le hbl q)) hS z.1 d4 ?_
  rw [z.2]
  exact kk
end LW
