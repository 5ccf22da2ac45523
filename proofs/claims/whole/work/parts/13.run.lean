/-! a run of the small machine is a run of the machine -/
def zrm (y : Nat) : Room := { frames := zdp y, cells := 0, slots := 0, locals := 30 * zdp y }
def zwl (y : Nat) : List Cond := .code (znm y) (zby y) (zmx y) (zret y) :: gT
def zB (D : va_G) (as : Nat → Nat) (ca : Nat → ClassId) (A : Nat → Prop) (X : zM) (t : State) : Prop := va_P D vwCl (zws as ca X) t.heap ∧ va_K D vwCl (ztys ca) t ∧ va_D A (zws as ca X)
def zPc (D : va_G) (as : Nat → Nat) (ca : Nat → ClassId) (sz : Nat) (X : zM) (av : List Value) : Array Value → State → Prop := va_Pc av (fun U => U.heap.size = sz ∧ va_P D vwCl (zws as ca X) U.heap ∧ va_K D vwCl (ztys ca) U ∧ va_D (zA as sz) (zws as ca X) ∧ zNw U)
def zQc (D : va_G) (as : Nat → Nat) (ca : Nat → ClassId) (A : Nat → Prop) (r : zR) : Array Value → State → Outcome → State → Prop := fun _ st oc t => (oc = .returned (r.1.map (zmv as)) ∧ zB D as ca A r.2 t) ∧ va_F A st t
theorem zent_pos (as : Nat → Nat) : ∀ av : List Value, (av.flatMap fun v => if v.category = 2 then [v, zU] else [v]).length = (lg_sl (av.map (zmv as))).length ∧ ∀ (j : Nat) (w : Value), (av.flatMap fun v => if v.category = 2 then [v, zU] else [v])[j]? = some w → w = zU ∨ (lg_sl (av.map (zmv as)))[j]? = some (.val (zmv as w))
  | [] => ⟨rfl, fun j w h => by simp at h⟩
  | v :: r => by
    obtain ⟨h1, h2⟩ := zent_pos as r
    unfold lg_sl at h1 h2 ⊢
    simp only [List.map_cons, List.flatMap_cons, zmv_cat]
    by_cases hc : v.category = 2
    · simp only [if_pos hc]
      refine ⟨by simp only [List.length_append]; rw [h1]; rfl, fun j w hj => ?_⟩
      match j, hj with
      | 0, hj => exact Or.inr (by cases hj; rfl)
      | 1, hj => exact Or.inl (by cases hj; rfl)
      | j + 2, hj => exact h2 j w hj
    · simp only [if_neg hc]
      refine ⟨by simp only [List.length_append]; rw [h1]; rfl, fun j w hj => ?_⟩
      match j, hj with
      | 0, hj => exact Or.inr (by cases hj; rfl)
      | j + 1, hj => exact h2 j w hj
theorem zent_lv (as : Nat → Nat) (n : Nat) (av : List Value) (h : (zent n av).length = n) : zlv as ((lg_sl (av.map (zmv as)) ++ List.replicate (n - (lg_sl (av.map (zmv as))).length) Slot.unset).toArray) n (zent n av) := by
  obtain ⟨h1, h2⟩ := zent_pos as av
  have hle : (lg_sl (av.map (zmv as))).length ≤ n := by
    rw [← h1]
    unfold zent at h
    rw [List.length_append] at h
    omega
  have hl := lv_entry (av.map (zmv as)) hle
  refine ⟨hl.1, h, hl.2.1, fun j w hj => ?_⟩
  unfold zent at hj
  by_cases hjl : j < (av.flatMap fun v => if v.category = 2 then [v, zU] else [v]).length
  · rw [List.getElem?_append_left hjl] at hj
    rcases h2 j w hj with q | q
    · exact Or.inl q
    · refine Or.inr (Or.inr ?_)
      rw [List.getElem?_toArray, List.getElem?_append_left (by rw [← h1]; exact hjl)]
      exact q
  · rw [List.getElem?_append_right (by omega)] at hj
    have := List.getElem?_eq_some_iff.mp hj
    obtain ⟨q1, q2⟩ := this
    rw [List.getElem_replicate] at q2
    exact Or.inl q2.symm
theorem zNw_blind {U : State} {g : JFrame} {mk : MethodId} {a : Array Value} (h : zNw U) : zNw (U.calling g mk a) := by
  intro q hq h1
  have h2 := h q hq h1
  unfold zMw at h2 ⊢
  rw [if_pos h1] at h2 ⊢
  exact va_Nw.same rfl rfl h2
theorem zNw_warm {s U : State} (hW : s.WarmedH U.vm) (h : zNw s) : zNw U := by
  intro q hq h1
  have h2 := h q hq h1
  unfold zMw at h2 ⊢
  rw [if_pos h1] at h2 ⊢
  exact va_Nw.warmM hW h2
theorem zPc_blind (D : va_G) (as : Nat → Nat) (ca : Nat → ClassId) (sz : Nat) (X : zM) (av : List Value) : FrameBlind (zPc D as ca sz X av) := by
  intro a U g mk q
  obtain ⟨q0, q1, qP, qK, qD, qN⟩ := q
  exact ⟨q0, q1, qP, va_K.moved (u := U) (U := U.calling g mk a) (Vm.Alike.refl U.vm) qK, qD, zNw_blind qN⟩
theorem zcode_in {y : Nat} (hy : y < zmi.length) : Cond.code (znm y) (zby y) (zmx y) (zret y) ∈ gT := by
  have h := zmi_code zmi[y] (List.getElem_mem hy)
  unfold znm zby zmx zret
  rw [List.getElem?_eq_getElem hy]
  exact h
theorem zwl_words {s U : State} {args a1 : Array Value} {y : Nat} (hy : y < zmi.length) (hts : ∀ w ∈ gT, w.before args s = true) (hW : s.WarmedH U.vm) : ∀ w ∈ zwl y, w.before a1 U = true := by
  intro w hw
  have hw : w ∈ gT := by
    rcases List.mem_cons.mp hw with rfl | h
    · exact zcode_in hy
    · exact h
  exact word_at hW (good_of_word (List.mem_filter.mp hw).2) (hts w hw)
section ZR
variable {p : Program} {l : Launch} {ev : Env} {R : Room} {s : State} {m : MethodId} {args : Array Value} {below : List Frame} {meth : Method} {c : Code} {H : Heap} {locs : List Loc} {Q : State → Prop} {pc : Nat} {ls : Array Slot} {rest st0 : List Value} {a : Array Value} {A0 A1 : Nat → Prop} {H0 : Heap} {free : Addr → Prop} {D : va_G} {as : Nat → Nat} {ca : Nat → ClassId}
theorem zcallK {r : zR} (hr : va_Run p l ev R s m args below meth c H locs 0 0 0 0 (F0 m pc ls st0) rest (zQc D as ca A1 r a) free) (hS : va_S A0 H0 H locs) (hA : ∀ q, q < H.size → A1 q → A0 q) (hf : ∀ q, free q → A0 q)
    (kk : ∀ (t : State) (H1 : Heap) (locs1 : List Loc), t.heap = H1 → s.vm.Alike t.vm → zB D as ca A1 r.2 t → va_S A0 H0 H1 locs1 → W p l ev R s m args below meth c H1 locs1 0 0 Q (F0 m (pc + 3) ls ((r.1.map (zmv as)).toList ++ rest))) : W p l ev R s m args below meth c H locs 0 0 Q (F0 m pc ls st0) := by
  intro T hT X
  obtain ⟨v, st₀, t, T', L, h0, X', hL, e1, e2, ⟨⟨hv, hb⟩, hz, hk⟩, st⟩ := hr T hT X
  cases hv
  rw [h0] at hz hk
  obtain ⟨t2, a1, b1⟩ := kk t T'.heap (locs ++ L) e1.symm (by rw [← e2]; exact X'.warmed.alike) hb
    ⟨Nat.le_trans hS.1 (by rw [e1]; exact hz), fun q h1 h2 => by rw [e1, hk q (Nat.lt_of_lt_of_le h1 hS.1) (fun z => h2 (hA q (Nat.lt_of_lt_of_le h1 hS.1) z))]; exact hS.2.1 q h1 h2, fun q hq => by
      rcases List.mem_append.mp hq with h | h
      · exact hS.2.2 q h
      · exact hf _ (hL q h)⟩ T' rfl X'
  exact ⟨t2, st t2 a1, b1⟩
end ZR
/-- what is to be shown of n steps of fuel -/
def zSnd (n : Nat) : Prop := ∀ (y pc : Nat) (L S : List Value) (X : zM) (r : zR), zrun n y pc L S X = some r → ∀ (p : Program) (l : Launch) (ev : Env) (s : State) (m : MethodId) (args : Array Value) (below : List Frame) (meth : Method) (c : Code) (D : va_G) (as : Nat → Nat) (ca : Nat → ClassId), zCx p s m args meth c y → va_K D vwCl (ztys ca) s →
  zGo p l ev (zrm y) s m args below meth c D as ca (zA as s.heap.size) (MQ below (zQc D as ca (zA as s.heap.size) r) args s 0 0 (zA as s.heap.size)) y pc L S X
theorem zrun_y {n y pc : Nat} {L S : List Value} {X : zM} {r : zR} (h : zrun n y pc L S X = some r) : y < zmi.length := by
  cases n with
  | zero => cases h
  | succ n =>
    cases hf : zfetch y pc with
    | none => rw [zrun, hf] at h; cases h
    | some e => rw [← zct_len]; exact (zok_of hf).2.2
theorem zYw_y {y : Nat} (hy : y < zmi.length) : Cond.initialized (znm y).cls ∈ gT ∧ ((zrc y = 99 ∧ Cond.static (znm y) ∈ gT) ∨ (zrc y ≠ 99 ∧ Cond.instanceMethod (znm y) ∈ gT ∧ Cond.selects (zcs (zrc y)).1 (znm y) (znm y) ∈ gT)) ∧ ((znm y).cls ≠ "java/lang/invoke/MethodHandle" ∧ (znm y).cls ≠ "java/lang/invoke/VarHandle" ∧ (parseMethodDescriptor (znm y).desc).map (fun d => d.parameters.length) = some (znp y)) ∧ plainName (znm y).cls = true ∧ (znm y).cls = zcn.getD (zow y) "" ∧ zmx y ≤ 8 := by
  obtain ⟨q, hq, rfl⟩ := zYw_of hy
  obtain ⟨h1, h2, h3, h4, h5, h6⟩ := zYL_ok q hq
  refine ⟨gT_at h1, ?_, h3, h4, h5, h6⟩
  rcases h2 with ⟨a, b⟩ | ⟨a, b, c⟩
  · exact Or.inl ⟨a, gT_at b⟩
  · exact Or.inr ⟨a, gT_at b, gT_at c⟩
theorem zmet_of {n : Nat} (ih : zSnd n) {y : Nat} {av : List Value} {X : zM} {r : zR} (hl : (zent (zmx y) av).length = zmx y) (h : zrun n y 0 (zent (zmx y) av) [] X = some r) (l : Launch) (D : va_G) (as : Nat → Nat) (ca : Nat → ClassId) (sz : Nat) : Met l (znm y) (zwl y) (zrm y) (zPc D as ca sz X (av.map (zmv as))) (zQc D as ca (zA as sz) r) 0 0 (zA as sz) := by
  have hy := zrun_y h
  obtain ⟨-, -, -, w4, w5, -⟩ := zYw_y hy
  refine Met.ofW (cc := zby y) (maxL := zmx y) (ret := zret y) w4 rfl ?_
  intro p e s m args below meth c s₁ B hml hv
  obtain ⟨rfl, hsz, hP, hK, hD, hN⟩ := hv
  subst hsz
  rw [lg_entry_eq]
  have hts := atoms_spec (ws := zwl y) B.pre
  have hown : s.vm.findClass (znm y).cls = some m.cls := findClass_of_methodNamed B.named
  rw [w5] at hown
  exact ih y 0 _ [] X r h p l e s m _ below meth c D as ca ⟨B.exec, B.bytes, B.returns, hml, hown, fun w hw => hts w (List.mem_cons_of_mem _ hw), B.notSynchronized, hN⟩ hK s.heap [] _ (zent_lv as (zmx y) av hl) hP hD va_S.rf
