def zLw : List ((Nat × Nat) × Nat) := [((0, 0), 158), ((0, 1), 160), ((0, 2), 162), ((0, 3), 164), ((0, 4), 166), ((0, 5), 168), ((0, 6), 170), ((0, 7), 172), ((0, 8), 174), ((0, 9), 176), ((1, 0), 388), ((1, 1), 390), ((1, 2), 392), ((2, 0), 277), ((2, 1), 279), ((2, 2), 281), ((2, 3), 283), ((2, 4), 285), ((2, 5), 287), ((2, 6), 289), ((3, 0), 407), ((3, 1), 409), ((3, 2), 411), ((4, 0), 354), ((4, 1), 356), ((4, 2), 358), ((4, 3), 360), ((4, 4), 362), ((4, 5), 364), ((4, 6), 366), ((4, 7), 368), ((4, 8), 370), ((4, 9), 372), ((5, 0), 106), ((5, 1), 108), ((5, 2), 110), ((5, 3), 112), ((5, 4), 114), ((6, 0), 257), ((6, 1), 259), ((7, 0), 222), ((7, 1), 224), ((7, 2), 226), ((7, 3), 228), ((7, 4), 230), ((7, 5), 232), ((7, 6), 234), ((7, 7), 236), ((7, 8), 238), ((7, 9), 240), ((7, 10), 242), ((7, 11), 244), ((7, 12), 246), ((8, 0), 311), ((8, 1), 313), ((8, 2), 315), ((8, 3), 317), ((8, 4), 319), ((8, 5), 321), ((8, 6), 323), ((8, 7), 325), ((8, 8), 327), ((8, 9), 329), ((8, 10), 331), ((8, 11), 333), ((9, 0), 425), ((9, 1), 427), ((9, 2), 429), ((9, 3), 431), ((9, 4), 433), ((9, 5), 435), ((9, 6), 437), ((9, 7), 439), ((9, 8), 441), ((9, 9), 443), ((9, 10), 445), ((10, 0), 1052), ((10, 1), 1054), ((10, 2), 1056), ((10, 3), 1058), ((10, 4), 1060), ((10, 5), 1062), ((10, 6), 1064), ((10, 7), 1066), ((10, 8), 1068), ((10, 9), 1070), ((10, 10), 1072), ((10, 11), 1074), ((10, 12), 1076), ((10, 13), 1078), ((10, 14), 1080), ((10, 15), 1082), ((10, 16), 1084), ((10, 17), 1086), ((10, 18), 1088), ((10, 19), 1090), ((10, 20), 1092), ((10, 21), 1094), ((10, 22), 1096), ((10, 23), 1098), ((10, 24), 1100), ((10, 25), 1102), ((10, 26), 1104), ((10, 27), 1106), ((10, 28), 1108), ((10, 29), 1110), ((10, 30), 1112), ((10, 31), 1114), ((10, 32), 1116), ((10, 33), 1118)]
theorem zLw_ok : ∀ q ∈ zLw, lw_tbl[q.2]? = some (u_lay (zcs q.1.1).1 (zcs q.1.1).2.1 q.1.2) ∧ goodWord (u_lay (zcs q.1.1).1 (zcs q.1.1).2.1 q.1.2) = true := by decide +kernel
/-! one instruction that is no call and no end -/
def zNw (U : State) : Prop := ∀ q ∈ zML, q.1.2.2 = 1 → va_Nw (zMw q.1) U
def zCx (p : Program) (s : State) (m : MethodId) (args : Array Value) (meth : Method) (c : Code) (y : Nat) : Prop := p.tables.exec = Jvm.exec ∧ c.code = zby y ∧ meth.sig.returnType = zret y ∧ c.maxLocals = zmx y ∧ s.vm.findClass (zcn.getD (zow y) "") = some m.cls ∧ (∀ w ∈ gT, w.before args s = true) ∧ meth.locks = false ∧ zNw s
def zGo (p : Program) (l : Launch) (ev : Env) (R : Room) (s : State) (m : MethodId) (args : Array Value) (below : List Frame) (meth : Method) (c : Code) (D : va_G) (as : Nat → Nat) (ca : Nat → ClassId) (A : Nat → Prop) (QQ : State → Prop) (y pc : Nat) (L S : List Value) (X : zM) : Prop :=
  ∀ (H : Heap) (locs : List Loc) (ls : Array Slot), zlv as ls (zmx y) L → va_P D vwCl (zws as ca X) H → va_D A (zws as ca X) → va_S A s.heap H locs → W p l ev R s m args below meth c H locs 0 0 QQ (F0 m pc ls (S.map (zmv as)))
theorem zhasF_ok {o ix a b : Nat} (h : zhasF o ix a b = true) : (.fieldLink (zcn.getD o "") ix (zcs a).1 ((zcs a).2.1 b).2.1 ((zcs a).2.1 b).2.2.1 : Cond) ∈ gT ∧ ((zcs a).2.1 b).1 = (zcs a).1 ∧ b < (zcs a).2.2 := by
  unfold zhasF at h
  obtain ⟨q, hq, hd⟩ := List.any_eq_true.mp h
  have e := of_decide_eq_true hd
  obtain ⟨h1, h2, h3⟩ := zFL_ok q hq
  rw [e] at h1 h2 h3
  exact ⟨gT_at h1, h2, h3⟩
theorem zhasC_ok {o ix : Nat} {x : Int32} (h : zhasC o ix x = true) : (.constant (zcn.getD o "") ix x : Cond) ∈ gT := by
  unfold zhasC at h
  obtain ⟨q, hq, hd⟩ := List.any_eq_true.mp h
  have e := of_decide_eq_true hd
  have h1 := zCL_ok q hq
  rw [e] at h1
  exact gT_at h1
theorem zhasD_ok {o ix : Nat} {x : Int64} (h : zhasD o ix x = true) : (.constantLong (zcn.getD o "") ix x : Cond) ∈ gT := by
  unfold zhasD at h
  obtain ⟨q, hq, hd⟩ := List.any_eq_true.mp h
  have e := of_decide_eq_true hd
  have h1 := zDL_ok q hq
  rw [e] at h1
  exact gT_at h1
theorem zhasA_ok {o ix : Nat} (h : zhasA o ix = true) : (.methodLink (zcn.getD o "") ix arraycopyName : Cond) ∈ gT := by
  unfold zhasA at h
  obtain ⟨q, hq, hd⟩ := List.any_eq_true.mp h
  have e := of_decide_eq_true hd
  have h1 := zAL_ok q hq
  rw [e] at h1
  exact gT_at h1
theorem zhasH_ok {o ix a : Nat} (h : zhasH o ix a = true) : (.methodLink (zcn.getD o "") ix (zHn a) : Cond) ∈ gT := by
  unfold zhasH at h
  obtain ⟨q, hq, hd⟩ := List.any_eq_true.mp h
  obtain ⟨h2, h3⟩ := Bool.and_eq_true_iff.mp hd
  have e := of_decide_eq_true h2
  have e3 := of_decide_eq_true h3
  have h1 := zHL_ok q hq
  rw [e, e3] at h1
  exact gT_at h1
theorem zcs_ok {a b : Nat} (h : b < (zcs a).2.2) : vwCl[a]? = some ((zcs a).1, (zcs a).2.1, (zcs a).2.2) ∧ a < 11 := by
  unfold zcs at h ⊢
  by_cases ha : a < vwCl.length
  · rw [List.getD_eq_getElem?_getD, List.getElem?_eq_getElem ha]
    exact ⟨rfl, ha⟩
  · rw [List.getD_eq_getElem?_getD, List.getElem?_eq_none (by omega)] at h
    exact absurd h (Nat.not_lt_zero _)
theorem zuin : ∀ a, a < 11 → ∀ w ∈ u_ws (zcs a).1 (zcs a).2.1 (zcs a).2.2, w ∈ gT := by
  intro a ha w hw
  have hq : ∀ a, a < 11 → ∀ w ∈ u_ws (zcs a).1 (zcs a).2.1 (zcs a).2.2, w ∈ lw_tbl ∧ goodWord w = true := (by
    have hx : (List.range 11).all (fun a => (List.range (zcs a).2.2).all (fun k => (zLw.any (fun q => decide (q.1 = (a, k)))))) = true := by decide +kernel
    intro a ha w hw
    obtain ⟨k, hk, rfl⟩ := List.mem_map.mp hw
    have h1 := List.all_eq_true.mp hx a (List.mem_range.mpr ha)
    have h2 := List.all_eq_true.mp h1 k hk
    obtain ⟨q, hq, hd⟩ := List.any_eq_true.mp h2
    have e := of_decide_eq_true hd
    have h3 := zLw_ok q hq
    rw [e] at h3
    exact ⟨List.mem_of_getElem? h3.1, h3.2⟩)
  obtain ⟨h1, h2⟩ := hq a ha w hw
  exact List.mem_filter.mpr ⟨h1, h2⟩
theorem zft_len {c k : Nat} (h : k < (zcs c).2.2) : k < (zftL.getD c []).length ∧ (zcs c).2.2 = (zftL.getD c []).length := by
  have hc := (zcs_ok h).2
  have h1 := List.all_eq_true.mp zFi_ok c (List.mem_range.mpr hc)
  unfold zFi at h1
  have h2 := beq_iff_eq.mp (Bool.and_eq_true_iff.mp h1).1
  exact ⟨by rw [← h2]; exact h, h2⟩
theorem zft_ty {c k : Nat} (h : k < (zcs c).2.2) : parseFieldDescriptor ((zcs c).2.1 k).2.2.1 = some (match zft c k with | 0 => .int | 3 => .boolean | _ => (match ((zcs c).2.1 k).2.2.1 with | "[I" => .array .int | d => (parseFieldDescriptor d).getD .int)) := by
  have hc := (zcs_ok h).2
  have h1 := List.all_eq_true.mp zFi_ok c (List.mem_range.mpr hc)
  unfold zFi at h1
  have h2 := (Bool.and_eq_true_iff.mp h1).2
  exact of_decide_eq_true (List.all_eq_true.mp h2 k (List.mem_range.mpr h))
theorem zty : ∀ a, a < 11 → ∃ ty : Nat → FieldType, ∀ k, k < (zcs a).2.2 → parseFieldDescriptor ((zcs a).2.1 k).2.2.1 = some (ty k) := by
  intro a ha
  exact ⟨fun k => (match zft a k with | 0 => .int | 3 => .boolean | _ => (match ((zcs a).2.1 k).2.2.1 with | "[I" => .array .int | d => (parseFieldDescriptor d).getD .int)), fun k hk => zft_ty hk⟩
theorem znmn : ∀ a, a < 11 → ∀ i, i < (zcs a).2.2 → ∀ j, j < (zcs a).2.2 → i ≠ j → ((zcs a).2.1 i).2.1 ≠ ((zcs a).2.1 j).2.1 := by
  intro a ha
  match a, ha with
  | 0, _ => exact nmX0
  | 1, _ => exact nmX1
  | 2, _ => exact nmX2
  | 3, _ => exact nmX3
  | 4, _ => exact nmX4
  | 5, _ => exact nmX5
  | 6, _ => exact nmX6
  | 7, _ => exact nmX7
  | 8, _ => exact nmX8
  | 9, _ => exact nmX9
  | 10, _ => exact nmX10
  | n + 11, h => exact absurd h (by omega)
theorem zgf_i {i c k : Nat} {X : zM} (h : zft c k = 0 ∨ zft c k = 3) : zgf i c k X = .int (X i k) := by
  unfold zgf
  rcases h with h | h <;> simp only [h]
theorem zgf_d {i c k : Nat} {X : zM} (h : zft c k = 2) : zgf i c k X = .ref (X i k).toNatClampNeg := by
  unfold zgf
  simp only [h]
theorem zsw_tb (pc : Nat) : ∀ (os : List Int) (lo : Int) (d : Nat) (x : Int32), -2147483648 ≤ lo → lo + os.length ≤ 2147483648 →
    zsw (ztb pc lo os) d x = if x.toInt < lo ∨ lo + os.length ≤ x.toInt then d else ((pc : Int) + (os[(x.toInt - lo).toNat]?).getD 0).toNat
  | [], lo, d, x, h1, h2 => by
    show d = _
    rw [if_pos]
    simp
    omega
  | o :: r, lo, d, x, h1, h2 => by
    show (if x = Int32.ofInt lo then ((pc : Int) + o).toNat else zsw (ztb pc (lo + 1) r) d x) = _
    have hlen : ((o :: r).length : Int) = r.length + 1 := by simp
    rw [hlen] at h2 ⊢
    have hlo : (Int32.ofInt lo).toInt = lo := Int32.toInt_ofInt_of_le (by omega) (by omega)
    by_cases hx : x = Int32.ofInt lo
    · have hxi : x.toInt = lo := by rw [hx, hlo]
      rw [if_pos hx, if_neg (by omega), hxi]
      simp
    · have hne : x.toInt ≠ lo := fun q => hx (Int32.toInt_inj.mp (by rw [hlo]; exact q))
      rw [if_neg hx, zsw_tb pc r (lo + 1) d x (by omega) (by omega)]
      by_cases hc : x.toInt < lo ∨ lo + (r.length + 1 : Int) ≤ x.toInt
      · rw [if_pos hc, if_pos (by omega)]
      · rw [if_neg hc, if_neg (by omega)]
        have : (x.toInt - lo).toNat = (x.toInt - (lo + 1)).toNat + 1 := by omega
        rw [this, List.getElem?_cons_succ]
theorem zsw_lk (pc : Nat) : ∀ (os : List (Int × Int)) (d : Int) (x : Int32), (∀ q ∈ os, -2147483648 ≤ q.1 ∧ q.1 < 2147483648) →
    zsw (zlk pc os) (((pc : Int) + d).toNat) x = ((pc : Int) + Op.lookupswitch.offset os d x.toInt).toNat
  | [], d, x, _ => rfl
  | o :: r, d, x, h => by
    have ih := zsw_lk pc r d x (fun q hq => h q (List.mem_cons_of_mem _ hq))
    have ho := h o List.mem_cons_self
    have hlo : (Int32.ofInt o.1).toInt = o.1 := Int32.toInt_ofInt_of_le (by omega) (by omega)
    show (if x = Int32.ofInt o.1 then ((pc : Int) + o.2).toNat else zsw (zlk pc r) (((pc : Int) + d).toNat) x) = _
    by_cases hx : x = Int32.ofInt o.1
    · rw [if_pos hx]
      have hxi : x.toInt = o.1 := by rw [hx, hlo]
      simp [Op.lookupswitch.offset, hxi]
    · have hne : ¬ x.toInt = o.1 := fun q => hx (Int32.toInt_inj.mp (by rw [hlo]; exact q))
      rw [if_neg hx, ih]
      have hne2 : ¬ o.1 = x.toInt := fun q => hne q.symm
      simp [Op.lookupswitch.offset, hne, hne2]
