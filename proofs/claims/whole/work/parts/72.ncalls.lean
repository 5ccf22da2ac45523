/-! constructors: a heap that grows, contracts, calls -/
def nA (h0 sz : Nat) : Nat → Prop := fun q => q = h0 ∨ sz ≤ q
/-- the own cell h0 is o, the cells from sz on are L, all else is as in H0 -/
def CH (D : va_G) (h0 sz : Nat) (H0 H : Heap) (locs : List Loc) (o : va_E) (L : List va_E) : Prop := (H0.size = sz ∧ h0 < sz) ∧ H.size = sz + L.length ∧ va_at D vwCl (h0, o) H ∧ (∀ (k : Nat) (x : va_E), L[k]? = some x → va_at D vwCl (sz + k, x) H) ∧ (∀ q, q < sz → q ≠ h0 → H[q]? = H0[q]?) ∧ ∀ q ∈ locs, nA h0 sz q.base
def nPc (D : va_G) (cI cB cS : ClassId) (h0 sz : Nat) (av : List Value) (o : va_E) : Array Value → State → Prop := va_Pc (.ref h0 :: av) (fun U => U.heap.size = sz ∧ h0 < sz ∧ va_at D vwCl (h0, o) U.heap ∧ va_K D vwCl (nTy cI cB cS) U ∧ nE U)
def nQc (D : va_G) (h0 sz : Nat) (o1 : va_E) (L1 : List va_E) : Array Value → State → Outcome → State → Prop := fun _ st oc t => oc = .returned none ∧ (t.heap.size = sz + L1.length ∧ va_at D vwCl (h0, o1) t.heap ∧ ∀ (k : Nat) (x : va_E), L1[k]? = some x → va_at D vwCl (sz + k, x) t.heap) ∧ va_F (nA h0 sz) st t
def nwl (y : MethodName) (b : ByteArray) (ml : Nat) : List Cond := .code y b ml none :: gT
def nrm (fr mc ms : Nat) : Room := { frames := fr, cells := mc, slots := ms, locals := 30 * fr }
def nMet (l : Launch) (y : MethodName) (b : ByteArray) (ml fr : Nat) (D : va_G) (cI cB cS : ClassId) (h0 sz : Nat) (av : List Value) (o0 o1 : va_E) (L1 : List va_E) (ms : Nat) : Prop := Met l y (nwl y b ml) (nrm fr L1.length ms) (nPc D cI cB cS h0 sz av o0) (nQc D h0 sz o1 L1) L1.length ms (nA h0 sz)
def nC (p : Program) (s : State) (m : MethodId) (args : Array Value) (meth : Method) (c : Code) (b : ByteArray) (ml o : Nat) : Prop := p.tables.exec = Jvm.exec ∧ c.code = b ∧ meth.sig.returnType = none ∧ c.maxLocals = ml ∧ s.vm.findClass (zcn.getD o "") = some m.cls ∧ (∀ w ∈ gT, w.before args s = true) ∧ meth.locks = false ∧ meth.name = "<init>" ∧ nE s
theorem nMet_in {l : Launch} {y : MethodName} {b : ByteArray} {ml fr : Nat} {D : va_G} {cI cB cS : ClassId} {h0 sz : Nat} {av : List Value} {o0 o1 : va_E} {L1 : List va_E} {ms : Nat} (o : Nat) (hy : plainName y.cls = true) (hcls : y.cls = zcn.getD o "") (hnm : y.name = "<init>") (hlen : (lg_sl (.ref h0 :: av)).length ≤ ml)
    (body : ∀ (p : Program) (e : Env) (s : State) (m : MethodId) (args : Array Value) (below : List Frame) (meth : Method) (c : Code) (ls : Array Slot), nC p s m args meth c b ml o → va_K D vwCl (nTy cI cB cS) s → lv_has ls ml (lv_args 0 (.ref h0 :: av)) → CH D h0 sz s.heap s.heap [] o0 [] → W p l e (nrm fr L1.length ms) s m args below meth c s.heap [] 0 0 (MQ below (nQc D h0 sz o1 L1) args s L1.length ms (nA h0 sz)) (F0 m 0 ls [])) : nMet l y b ml fr D cI cB cS h0 sz av o0 o1 L1 ms := by
  refine Met.ofW (cc := b) (maxL := ml) (ret := none) hy rfl ?_
  intro p e s m args below meth c s₁ B hml hv
  obtain ⟨rfl, hsz, hlt, ha, hK, hE⟩ := hv
  rw [lg_entry_eq]
  have hts := atoms_spec (ws := nwl y b ml) B.pre
  have hown : s.vm.findClass y.cls = some m.cls := findClass_of_methodNamed B.named
  rw [hcls] at hown
  have hin : meth.name = y.name := (name_of_methodNamed B.named B.method).1
  rw [hnm] at hin
  exact body p e s m _ below meth c _ ⟨B.exec, B.bytes, B.returns, hml, hown, fun w hw => hts w (List.mem_cons_of_mem _ hw), B.notSynchronized, hin, hE⟩ hK (lv_entry (.ref h0 :: av) hlen) ⟨⟨hsz, hlt⟩, by rw [hsz]; rfl, ha, fun k x hx => by simp at hx, fun _ _ _ => rfl, fun q hq => by cases hq⟩
section NS
variable {p : Program} {l : Launch} {e : Env} {R : Room} {s : State} {m : MethodId} {args : Array Value} {below : List Frame} {meth : Method} {c : Code} {H : Heap} {locs : List Loc} {cells slots : Nat} {Q : State → Prop}
variable {b : ByteArray} {ml o pc : Nat} {ls : Array Slot} {rest : List Value} {D : va_G} {cI cB cS : ClassId} {h0 sz : Nat} {oo : va_E} {L : List va_E}
theorem n_retC {o1 : va_E} {L1 : List va_E} {ms : Nat} (C : nC p s m args meth c b ml o) (h : CH D h0 sz s.heap H locs o1 L1) (hdg : decode b pc = .ok (.return_, 1)) : W p l e R s m args below meth c H locs L1.length ms (MQ below (nQc D h0 sz o1 L1) args s L1.length ms (nA h0 sz)) (F0 m pc ls []) := by
  obtain ⟨hx, hb, hr, hml, hown, hts, hlocks, hin, hE⟩ := C
  obtain ⟨⟨h1, h2⟩, h3, h4, h5, h6, h7⟩ := h
  exact W.vret hx hb hr (fun t ht hW => ⟨rfl, ⟨by rw [ht]; exact h3, by rw [ht]; exact h4, by rw [ht]; exact h5⟩, ⟨by rw [ht, h3, h1]; omega, fun q q1 q2 => by rw [ht]; exact h6 q (by omega) (fun z => q2 (Or.inl z))⟩⟩) h7 hdg hlocks
theorem n_objC {ix : Nat} (C : nC p s m args meth c b ml o) (hl : ls.size = ml) (hlk : Cond.methodLink (zcn.getD o "") ix objectInit ∈ gT) (hf : 1 ≤ R.frames) (hlo : 30 ≤ R.locals) (hdg : decode b pc = .ok (.invokespecial ix, 3)) (kk : W p l e R s m args below meth c H locs cells slots Q (F0 m (pc + 3) ls [])) : W p l e R s m args below meth c H locs cells slots Q (F0 m pc ls [.ref h0]) := by
  obtain ⟨hx, hb, hr, hml, hown, hts, hlocks, hin, hE⟩ := C
  refine W.objInit hx hb hown (hts _ hlk) (hts _ nw_oi) (hts _ nw_oc) rfl (by rw [hml]; exact hl) rfl hdg hf (Nat.le_trans (Nat.add_le_add_right (lv_room (st := []) (Nat.zero_le 8)) 12) (Nat.le_trans (by decide) hlo)) ?_
  exact kk
  where
    nw_oi : Cond.instanceMethod objectInit ∈ gT := gT_at (i := 91) (by decide +kernel)
    nw_oc : Cond.code objectInit ⟨#[0xb1]⟩ 1 none ∈ gT := gT_at (i := 92) ⟨rfl, rfl⟩
theorem n_putC {ix ci k : Nat} {fs : List Value} {ty : FieldType} {v : Value} (C : nC p s m args meth c b ml o) (hK : va_K D vwCl (nTy cI cB cS) s) (h : CH D h0 sz s.heap H locs (.inr (ci, fs)) L) (hf : zhasF o ix ci k = true) (hci : (zcs ci).1 = zcn.getD o "") (hd : parseFieldDescriptor ((zcs ci).2.1 k).2.2.1 = some ty) (hn : narrow ty v = v) (hfit : fits ty v = true) (hl : k < fs.length) (hdg : decode b pc = .ok (.putfield ix, 3))
    (kk : ∀ (H1 : Heap) (locs1 : List Loc), CH D h0 sz s.heap H1 locs1 (.inr (ci, fs.set k v)) L → W p l e R s m args below meth c H1 locs1 cells slots Q (F0 m (pc + 3) ls rest)) : W p l e R s m args below meth c H locs cells slots Q (F0 m pc ls (v :: .ref h0 :: rest)) := by
  obtain ⟨hx, hb, hr, hml, hown, hts, hlocks, hin, hE⟩ := C
  obtain ⟨⟨h1, h2⟩, h3, h4, h5, h6, h7⟩ := h
  refine n_put hx hb hts hown hK h4 hf (fun _ => ⟨hin, hci⟩) hd hn hfit hl hdg (fun H1 i z1 o1 a1 => kk H1 _ ⟨⟨h1, h2⟩, by rw [z1]; exact h3, a1, fun k x hx => (h5 k x hx).kept (o1 _ ?_), fun q q1 q2 => (o1 q q2).trans (h6 q q1 q2), fun q hq => ?_⟩)
  · show sz + k ≠ h0
    omega
  · rcases List.mem_append.mp hq with z | z
    · exact h7 q z
    · rw [List.mem_singleton.mp z]; exact Or.inl rfl
theorem CH_push {H1 : Heap} {x : va_E} (h : CH D h0 sz s.heap H locs oo L) (z1 : H1.size = H.size + 1) (o1 : ∀ q, q < H.size → H1[q]? = H[q]?) (a1 : va_at D vwCl (H.size, x) H1) : CH D h0 sz s.heap H1 locs oo (L ++ [x]) := by
  obtain ⟨⟨h1, h2⟩, h3, h4, h5, h6, h7⟩ := h
  refine ⟨⟨h1, h2⟩, by rw [z1, h3, List.length_append]; rfl, h4.kept (o1 _ (by show h0 < _; omega)), fun k y hy => ?_, fun q q1 q2 => (o1 q (by omega)).trans (h6 q q1 q2), h7⟩
  by_cases hk : k < L.length
  · rw [List.getElem?_append_left hk] at hy
    exact (h5 k y hy).kept (o1 _ (by show sz + k < _; omega))
  · rw [List.getElem?_append_right (by omega)] at hy
    have hz : k - L.length < 1 := (List.getElem?_eq_some_iff.mp hy).1
    rw [show k - L.length = 0 by omega] at hy
    cases hy
    rw [show sz + k = H.size by omega]
    exact a1
theorem n_newIC {n : Int32} {N q : Nat} (C : nC p s m args meth c b ml o) (hK : va_K D vwCl (nTy cI cB cS) s) (h : CH D h0 sz s.heap H locs oo L) (hq : sz + L.length = q) (hn : ¬ n < 0) (hN : n.toNatClampNeg = N) (hbytes : N * 4 ≤ 536870912) (hcells : cells + 1 ≤ R.cells) (hslots : slots + N ≤ R.slots) (hdg : decode b pc = .ok (.newarray .int, 2))
    (kk : ∀ H1 : Heap, CH D h0 sz s.heap H1 locs oo (L ++ [.inl (cI, N, .inl (fun _ => 0))]) → W p l e R s m args below meth c H1 locs (cells + 1) (slots + N) Q (F0 m (pc + 2) ls (.ref q :: rest))) : W p l e R s m args below meth c H locs cells slots Q (F0 m pc ls (.int n :: rest)) := by
  obtain ⟨hx, hb, hr, hml, hown, hts, hlocks, hin, hE⟩ := C
  have hs : H.size = q := by rw [← hq]; exact h.2.1
  refine n_newI hx hb hts hK hn hN hbytes hcells hslots hdg (fun H1 z1 o1 a1 => ?_)
  have k := kk H1 (CH_push h z1 o1 a1)
  rw [hs]
  exact k
theorem n_newBC {n : Int32} {N q : Nat} (C : nC p s m args meth c b ml o) (hK : va_K D vwCl (nTy cI cB cS) s) (h : CH D h0 sz s.heap H locs oo L) (hq : sz + L.length = q) (hn : ¬ n < 0) (hN : n.toNatClampNeg = N) (hbytes : N * 1 ≤ 536870912) (hcells : cells + 1 ≤ R.cells) (hslots : slots + N ≤ R.slots) (hdg : decode b pc = .ok (.newarray .boolean, 2))
    (kk : ∀ H1 : Heap, CH D h0 sz s.heap H1 locs oo (L ++ [.inl (cB, N, .inl (fun _ => 0))]) → W p l e R s m args below meth c H1 locs (cells + 1) (slots + N) Q (F0 m (pc + 2) ls (.ref q :: rest))) : W p l e R s m args below meth c H locs cells slots Q (F0 m pc ls (.int n :: rest)) := by
  obtain ⟨hx, hb, hr, hml, hown, hts, hlocks, hin, hE⟩ := C
  have hs : H.size = q := by rw [← hq]; exact h.2.1
  refine n_newB hx hb hts hK hn hN hbytes hcells hslots hdg (fun H1 z1 o1 a1 => ?_)
  have k := kk H1 (CH_push h z1 o1 a1)
  rw [hs]
  exact k
theorem n_newSC {ix : Nat} {n : Int32} {N q : Nat} (C : nC p s m args meth c b ml o) (hK : va_K D vwCl (nTy cI cB cS) s) (h : CH D h0 sz s.heap H locs oo L) (hq : sz + L.length = q) (hlk : Cond.classLink (zcn.getD o "") ix RX7 ∈ gT) (hn : ¬ n < 0) (hN : n.toNatClampNeg = N) (hbytes : N * 4 ≤ 536870912) (hcells : cells + 1 ≤ R.cells) (hslots : slots + N ≤ R.slots) (hdg : decode b pc = .ok (.anewarray ix, 3))
    (kk : ∀ H1 : Heap, CH D h0 sz s.heap H1 locs oo (L ++ [.inl (cS, N, .inr (.inr (.inr (.inr (fun _ => none)))))]) → W p l e R s m args below meth c H1 locs (cells + 1) (slots + N) Q (F0 m (pc + 3) ls (.ref q :: rest))) : W p l e R s m args below meth c H locs cells slots Q (F0 m pc ls (.int n :: rest)) := by
  obtain ⟨hx, hb, hr, hml, hown, hts, hlocks, hin, hE⟩ := C
  have hs : H.size = q := by rw [← hq]; exact h.2.1
  refine n_newS hx hb hown (hts _ hlk) hE hK hn hN hbytes hcells hslots hdg (fun H1 z1 o1 a1 => ?_)
  have k := kk H1 (CH_push h z1 o1 a1)
  rw [hs]
  exact k
theorem n_newC {ci ix q : Nat} {fs : List Value} (C : nC p s m args meth c b ml o) (hK : va_K D vwCl (nTy cI cB cS) s) (h : CH D h0 sz s.heap H locs oo L) (hq : sz + L.length = q) (hci : ci < 11) (hlk : Cond.classLink (zcn.getD o "") ix (zcs ci).1 ∈ gT) (hins : Cond.instantiable (zcs ci).1 (zcs ci).2.2 ∈ gT) (hini : Cond.initialized (zcs ci).1 ∈ gT) (ty : Nat → FieldType) (hty : ∀ k, k < (zcs ci).2.2 → parseFieldDescriptor ((zcs ci).2.1 k).2.2.1 = some (ty k)) (hfs : ∀ j, j < (zcs ci).2.2 → defaultValue (ty j) = vp_V fs j) (hcells : cells + 1 ≤ R.cells) (hslots : slots + (zcs ci).2.2 ≤ R.slots) (hdg : decode b pc = .ok (.new ix, 3))
    (kk : ∀ H1 : Heap, CH D h0 sz s.heap H1 locs oo (L ++ [.inr (ci, fs)]) → W p l e R s m args below meth c H1 locs (cells + 1) (slots + (zcs ci).2.2) Q (F0 m (pc + 3) ls (.ref q :: rest))) : W p l e R s m args below meth c H locs cells slots Q (F0 m pc ls rest) := by
  obtain ⟨hx, hb, hr, hml, hown, hts, hlocks, hin, hE⟩ := C
  have hs : H.size = q := by rw [← hq]; exact h.2.1
  refine n_new hx hb hts hown hK hci hlk hins hini ty hty hfs hcells hslots hdg (fun H1 z1 o1 a1 => ?_)
  have k := kk H1 (CH_push h z1 o1 a1)
  rw [hs]
  exact k
theorem n_getC {ix ci k : Nat} {fs : List Value} {v : Value} (C : nC p s m args meth c b ml o) (hK : va_K D vwCl (nTy cI cB cS) s) (h : CH D h0 sz s.heap H locs (.inr (ci, fs)) L) (hf : zhasF o ix ci k = true) (hv : fs[k]? = some v) (hdg : decode b pc = .ok (.getfield ix, 3)) (kk : W p l e R s m args below meth c H locs cells slots Q (F0 m (pc + 3) ls (v :: rest))) : W p l e R s m args below meth c H locs cells slots Q (F0 m pc ls (.ref h0 :: rest)) := by
  obtain ⟨hx, hb, hr, hml, hown, hts, hlocks, hin, hE⟩ := C
  obtain ⟨hlk, hcl, hk⟩ := zhasF_ok hf
  obtain ⟨hc, hci⟩ := zcs_ok hk
  refine va_get hx hb hts (zuin ci hci) hown hK (ws := [(h0, .inr (ci, fs))]) (fun j q hq => ?_) 0 rfl hc k hk (hts _ hlk) (fun x hx => by rw [hcl] at hx; exact hx) hv hdg kk
  have hz : j < 1 := (List.getElem?_eq_some_iff.mp hq).1
  rw [show j = 0 by omega] at hq
  cases hq
  exact h.2.2.1
theorem nPc_blind {av : List Value} {o0 : va_E} : FrameBlind (nPc D cI cB cS h0 sz av o0) := by
  intro a U g mk q
  obtain ⟨q0, q1, q2, q3, q4, q5⟩ := q
  exact ⟨q0, q1, q2, q3, va_K.moved (u := U) (U := U.calling g mk a) (Vm.Alike.refl U.vm) q4, nE_blind q5⟩
theorem nwl_words {U : State} {a1 : Array Value} {y : MethodName} {b1 : ByteArray} {ml1 : Nat} (hc : Cond.code y b1 ml1 none ∈ gT) (hts : ∀ w ∈ gT, w.before args s = true) (hW : s.WarmedH U.vm) : ∀ w ∈ nwl y b1 ml1, w.before a1 U = true := by
  intro w hw
  have hw : w ∈ gT := by
    rcases List.mem_cons.mp hw with rfl | h
    · exact hc
    · exact h
  exact word_at hW (good_of_word (List.mem_filter.mp hw).2) (hts w hw)
/-- a call of a constructor, from any place -/
theorem n_call0 {own : String} {nL ix bb sz1 : Nat} {y : MethodName} {b1 : ByteArray} {ml1 fr1 ms1 : Nat} {av st : List Value} {o0 o1 : va_E} {L1 : List va_E} (S : CallFix p m c b nL s args gT own) (hE : nE s) (hK : va_K D vwCl (nTy cI cB cS) s) (hM : nMet l y b1 ml1 fr1 D cI cB cS bb sz1 av o0 o1 L1 ms1) (hcode : Cond.code y b1 ml1 none ∈ gT) (hini : Cond.initialized y.cls ∈ gT) (hinst : Cond.instanceMethod y ∈ gT) (hnm : y.name = "<init>") (hplain : y.cls ≠ "java/lang/invoke/MethodHandle" ∧ y.cls ≠ "java/lang/invoke/VarHandle" ∧ (parseMethodDescriptor y.desc).map (fun d => d.parameters.length) = some av.length) (hlk : Cond.methodLink own ix y ∈ gT ∨ va_Nw (.methodLinkNest own ix y RX9) s)
    (hroom : fr1 + 1 ≤ R.frames ∧ 8 + (ml1 + 11) + 30 * fr1 ≤ R.locals) (hcap : cells + L1.length ≤ R.cells ∧ slots + ms1 ≤ R.slots) (hz : H.size = sz1) (hbb : bb < sz1) (h0 : va_at D vwCl (bb, o0) H) (hls : ls.size = nL) (hW : (rest.map fun v => v.category).sum ≤ 8) (hst : st = av.reverse ++ .ref bb :: rest) (hdg : decode b pc = .ok (.invokespecial ix, 3))
    (kk : ∀ (H1 : Heap) (locs1 : List Loc), H1.size = sz1 + L1.length → va_at D vwCl (bb, o1) H1 → (∀ (k : Nat) (x : va_E), L1[k]? = some x → va_at D vwCl (sz1 + k, x) H1) → (∀ q, q < sz1 → q ≠ bb → H1[q]? = H[q]?) → (∀ q ∈ locs1, q ∈ locs ∨ nA bb sz1 q.base) → W p l e R s m args below meth c H1 locs1 (cells + L1.length) (slots + ms1) Q (F0 m (pc + 3) ls rest)) : W p l e R s m args below meth c H locs cells slots Q (F0 m pc ls st) := by
  subst hst
  have hts := S.2.2.2.2
  have hpar : ∀ sig, parseMethodDescriptor y.desc = some sig → av.length = sig.parameters.length := by
    intro sig hsig
    have := hplain.2.2
    rw [hsig] at this
    exact (Option.some.inj this).symm
  have hpre : PreS s H (nPc D cI cB cS bb sz1 av o0) (.ref bb :: av) := ⟨nPc_blind, fun U hU hW => ⟨rfl, by rw [hU]; exact hz, hbb, by rw [hU]; exact h0, va_K.moved hW.alike hK, nE_warm hW hE⟩⟩
  have hrun : va_Run p l e R s m args below meth c H locs cells slots L1.length ms1 (F0 m pc ls (av.reverse ++ .ref bb :: rest)) rest (nQc D bb sz1 o1 L1 (Value.ref bb :: av).toArray) (nA bb sz1) := by
    rcases hlk with hlk | hlk
    · exact va_runI (As := av) (rest := rest) (n := av.length) (index := ix) S hM ⟨⟨rfl, rfl, hroom.1, hroom.2, fun w hw a1 U hW => nwl_words hcode hts hW w hw, List.mem_cons_self, hts _ hcode, hts _ hini, ⟨hplain.1, hplain.2.1⟩, hpar, hts _ hlk⟩, hnm, hts _ hinst⟩ hpre rfl rfl hls rfl (lv_room hW) hdg hcap
    · exact va_runIN (As := av) (rest := rest) (n := av.length) (index := ix) (host := RX9) S hM ⟨⟨⟨rfl, rfl, hroom.1, hroom.2, fun w hw a1 U hW => nwl_words hcode hts hW w hw, List.mem_cons_self⟩, hts _ hcode, hts _ hini, ⟨hplain.1, hplain.2.1⟩, hpar, va_Nw.use rfl hlk⟩, hnm, hts _ hinst⟩ hpre rfl rfl hls rfl (lv_room hW) hdg hcap
  intro T hT X
  obtain ⟨v, st₀, t, T', L, g0, X', hL, e1, e2, ⟨hv, ⟨k1, k2, k3⟩, hz1, hk1⟩, stp⟩ := hrun T hT X
  cases hv
  rw [g0] at hz1 hk1
  obtain ⟨t2, a1, b1⟩ := kk T'.heap (locs ++ L) (by rw [e1]; exact k1) (by rw [e1]; exact k2) (by rw [e1]; exact k3) (fun q q1 q2 => by rw [e1]; exact hk1 q (by omega) (fun z => z.elim q2 (fun z => by omega))) (fun q hq => by
    rcases List.mem_append.mp hq with h | h
    · exact Or.inl h
    · exact Or.inr (hL q h)) T' rfl X'
  exact ⟨t2, stp t2 a1, b1⟩
theorem n_callC {ix qb : Nat} {y : MethodName} {b1 : ByteArray} {ml1 fr1 ms1 : Nat} {av st : List Value} {o0 o1 : va_E} {L0 L1 : List va_E} (C : nC p s m args meth c b ml o) (hK : va_K D vwCl (nTy cI cB cS) s) (hqb : sz + L0.length = qb) (hM : nMet l y b1 ml1 fr1 D cI cB cS qb (qb + 1) av o0 o1 L1 ms1) (hcode : Cond.code y b1 ml1 none ∈ gT) (hini : Cond.initialized y.cls ∈ gT) (hinst : Cond.instanceMethod y ∈ gT) (hnm : y.name = "<init>") (hplain : y.cls ≠ "java/lang/invoke/MethodHandle" ∧ y.cls ≠ "java/lang/invoke/VarHandle" ∧ (parseMethodDescriptor y.desc).map (fun d => d.parameters.length) = some av.length) (hlk : Cond.methodLink (zcn.getD o "") ix y ∈ gT ∨ va_Nw (.methodLinkNest (zcn.getD o "") ix y RX9) s)
    (hroom : fr1 + 1 ≤ R.frames ∧ 8 + (ml1 + 11) + 30 * fr1 ≤ R.locals) (hcap : cells + L1.length ≤ R.cells ∧ slots + ms1 ≤ R.slots) (h : CH D h0 sz s.heap H locs oo (L0 ++ [o0])) (hls : ls.size = ml) (hW : (rest.map fun v => v.category).sum ≤ 8) (hst : st = av.reverse ++ .ref qb :: rest) (hdg : decode b pc = .ok (.invokespecial ix, 3))
    (kk : ∀ (H1 : Heap) (locs1 : List Loc), CH D h0 sz s.heap H1 locs1 oo (L0 ++ o1 :: L1) → W p l e R s m args below meth c H1 locs1 (cells + L1.length) (slots + ms1) Q (F0 m (pc + 3) ls rest)) : W p l e R s m args below meth c H locs cells slots Q (F0 m pc ls st) := by
  obtain ⟨hx, hb, hr, hml, hown, hts, hlocks, hin, hE⟩ := C
  obtain ⟨⟨h1, h2⟩, h3, h4, h5, h6, h7⟩ := h
  rw [List.length_append] at h3
  have h3 : H.size = sz + (L0.length + 1) := h3
  have h50 : va_at D vwCl (qb, o0) H := by
    have := h5 L0.length o0 (by rw [List.getElem?_append_right (Nat.le_refl _), Nat.sub_self]; rfl)
    rw [hqb] at this
    exact this
  refine n_call0 ⟨hx, hb, hml, hown, hts⟩ hE hK hM hcode hini hinst hnm hplain hlk hroom hcap (by omega) (by omega) h50 hls hW hst hdg (fun H1 locs1 z1 a1 n1 o1 l1 => kk H1 locs1 ⟨⟨h1, h2⟩, ?_, h4.kept (o1 _ (by show h0 < _; omega) (by show h0 ≠ _; omega)), fun k x hx => ?_, fun q q1 q2 => (o1 q (by omega) (by omega)).trans (h6 q q1 q2), fun q hq => ?_⟩)
  · rw [z1, List.length_append, List.length_cons]
    omega
  · by_cases hk : k < L0.length
    · rw [List.getElem?_append_left hk] at hx
      refine (h5 k x (by rw [List.getElem?_append_left hk]; exact hx)).kept (o1 _ ?_ ?_)
      · show sz + k < _; omega
      · show sz + k ≠ _; omega
    · rw [List.getElem?_append_right (by omega)] at hx
      cases hj : k - L0.length with
      | zero =>
        rw [hj] at hx
        cases hx
        rw [show sz + k = qb by omega]
        exact a1
      | succ j =>
        rw [hj] at hx
        rw [show sz + k = qb + 1 + j by omega]
        exact n1 j x hx
  · rcases l1 q hq with z | z | z
    · exact h7 q z
    · exact Or.inr (by omega)
    · exact Or.inr (by omega)
end NS
