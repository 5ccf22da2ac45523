/-! catches, loses: the calls -/
section CT
variable {D G B C : Nat} {W lim bear : Nat → Nat} {X : zM} {R : Nat → Nat} {nx x : Nat} {Q : Option Value → zM → Prop}
def wA (D : Nat) (W R : Nat → Nat) (k : Nat) : Nat := wN D W (R 29 + (k + 1))
theorem wA_le (hW : ∀ k, W k ≤ 9) (k : Nat) : wA D W R k ≤ 9 := wN_le hW _
/-- what was looked at ahead -/
def laC (D G : Nat) (W R : Nat → Nat) (n : Nat) (X Y : zM) : Prop := (∀ c, c ≠ 17 → c ≠ 18 → Y c = X c) ∧ ∀ k, k < n → Y 17 k = nI (tN D G W R k) ∧ Y 18 k = nI (wA D W R k)
theorem laC_P {n : Nat} {Y : zM} (h : laC D G W R n X Y) (hc : cP D G B C W lim bear X) (hs : cS G B X 57 R nx) : cP D G B C W lim bear Y ∧ cS G B Y 57 R nx :=
  ⟨cP_of hc (h.1 9 (by omega) (by omega)) (h.1 10 (by omega) (by omega)) (h.1 13 (by omega) (by omega)) (h.1 14 (by omega) (by omega)), cS_fr hs (fun c _ _ => h.1 c (by omega) (by omega))⟩
theorem look_loop {m : Nat} (ho : okP D G B C W lim bear) (hc : cP D G B C W lim bear X) (hs : cS G B X 57 R nx) (hr : okR B R) (hm : m ≤ 60) (hQ : ∀ Y, laC D G W R m X Y → Q none Y) : ∀ (n i : Nat) (Y : zM), i + n = m → laC D G W R i X Y → zev 151 2 [.ref 16, .int (nI m), .int (nI i)] [] Y Q := by
  intro n
  induction n with
  | zero =>
    intro i Y hi hY
    have q : i = m := by omega
    subst q
    rw [s151_2]
    simp (disch := first | omega | assumption | decide) only [e151, s151_0, s151_1, s151_3, s151_4, s151_7, s151_8, s151_10, s151_13, s151_14, s151_17, s151_18, s151_19, s151_22, s151_23, s151_26, s151_27, s151_28, s151_31, s151_32, s151_33, s151_36, s151_37, s151_38, s151_39, s151_42, s151_43, s151_46, s151_49, Option.toList_some, Option.toList_none, List.cons_append, List.nil_append, if_true, if_false, eq_self, n1n0, ne10, nI_ltI, Nat.lt_irrefl]
    exact hQ Y hY
  | succ n ih =>
    intro i Y hi hY
    have hlt : i < m := by omega
    have hl6 : i < 60 := by omega
    obtain ⟨p1, p2⟩ := laC_P hY hc hs
    have hte := fun Q => cc_telling (X := Y) (Q := Q) (n := i) ho p1 p2 hr (by omega)
    have h1 : laC D G W R i X (zst Y 17 (upd (Y 17) i (nI (tN D G W R i)))) := ⟨fun c c1 c2 => by rw [zst_ne _ _ c1]; exact hY.1 c c1 c2, fun k hk => ⟨by rw [zst_at, upd_ne _ _ (by omega)]; exact (hY.2 k hk).1, by rw [zst_ne _ _ (by omega)]; exact (hY.2 k hk).2⟩⟩
    generalize hZ : zst Y 17 (upd (Y 17) i (nI (tN D G W R i))) = Z at h1
    have hZi : Z 17 i = nI (tN D G W R i) := by rw [← hZ, zst_at, upd_at]
    obtain ⟨q1, q2⟩ := laC_P h1 hc hs
    have hwe := fun Q => cc_weatherAhead (X := Z) (Q := Q) (n := i + 1) ho q1 q2 hr (by omega)
    rw [s151_2]
    simp (disch := first | omega | assumption | decide) only [e151, s151_0, s151_1, s151_3, s151_4, s151_7, s151_8, s151_10, s151_13, s151_14, s151_17, s151_18, s151_19, s151_22, s151_23, s151_26, s151_27, s151_28, s151_31, s151_32, s151_33, s151_36, s151_37, s151_38, s151_39, s151_42, s151_43, s151_46, s151_49, Option.toList_some, Option.toList_none, List.cons_append, List.nil_append, if_true, if_false, eq_self, n1n0, ne10, nI_ltI, hlt, hl6, hte, hZ, nI_add, hwe]
    refine ih (i + 1) _ (by omega) ⟨fun c c1 c2 => ?_, fun k hk => ⟨?_, ?_⟩⟩
    · rw [zst_ne _ _ c2]; exact h1.1 c c1 c2
    · rw [zst_ne _ _ (by omega)]
      by_cases c : k = i
      · rw [c]; exact hZi
      · exact (h1.2 k (by omega)).1
    · rw [zst_at]
      by_cases c : k = i
      · rw [c, upd_at]; rfl
      · rw [upd_ne _ _ c]; exact (h1.2 k (by omega)).2
theorem c_look {m : Nat} (ho : okP D G B C W lim bear) (hc : cP D G B C W lim bear X) (hs : cS G B X 57 R nx) (hr : okR B R) (hm : m ≤ 60) (hQ : ∀ Y, laC D G W R m X Y → Q none Y) : zcl 151 [.ref 16, .int (nI m)] X Q := by
  simp (disch := first | omega | assumption | decide) only [e151, s151_0, s151_1, s151_3, s151_4, s151_7, s151_8, s151_10, s151_13, s151_14, s151_17, s151_18, s151_19, s151_22, s151_23, s151_26, s151_27, s151_28, s151_31, s151_32, s151_33, s151_36, s151_37, s151_38, s151_39, s151_42, s151_43, s151_46, s151_49, Option.toList_some, Option.toList_none, List.cons_append, List.nil_append, if_true, if_false, eq_self, n1n0, ne10]
  exact look_loop ho hc hs hr hm hQ m 0 X (by omega) ⟨fun _ _ _ => rfl, fun k hk => absurd hk (by omega)⟩
theorem safe_loop {b L m : Nat} {Y : zM} (ho : okP D G B C W lim bear) (hc : cP D G B C W lim bear Y) (hY : laC D G W R m X Y) (hb : b < B) (hL : L ≤ 9) (hm : m ≤ 60) : ∀ n i : Nat, i + n = m → zev 9 3 [.ref 16, .int (nI b), .int (nI L), .int (nI m), .int (nI i)] [] Y Q = Q (some (.int (nI (sfF (tN D G W R) (wA D W R) L (bear b) n i)))) Y := by
  have hB := ho.2.2.1
  intro n
  induction n with
  | zero =>
    intro i hi
    have q : i = m := by omega
    subst q
    rw [s9_3]
    simp (disch := first | omega | assumption | decide) only [e9, s9_0, s9_1, s9_5, s9_6, s9_9, s9_11, s9_13, s9_16, s9_17, s9_20, s9_22, s9_23, s9_24, s9_27, s9_28, s9_31, s9_33, s9_34, s9_35, s9_38, s9_41, s9_42, s9_43, s9_46, s9_48, s9_49, s9_52, s9_55, s9_56, Option.toList_some, Option.toList_none, List.cons_append, List.nil_append, if_true, if_false, eq_self, n1n0, ne10, nI_ltI, Nat.lt_irrefl]
    rfl
  | succ n ih =>
    intro i hi
    have hlt : i < m := by omega
    have hl6 : i < 60 := by omega
    obtain ⟨f1, f2⟩ := hY.2 i hlt
    have ht9 := tN_le (D := D) (G := G) (W := W) R i
    have hw9 := wA_le (D := D) (R := R) ho.2.2.2.2.1 i
    have hbe := ho.2.2.2.2.2.2.1 b
    have e1 := (hc.2.2.2.2.2 b hb).2
    rw [s9_3]
    show _ = Q (some (.int (nI (if L ≤ tN D G W R i ∧ wA D W R i < bear b then i else sfF (tN D G W R) (wA D W R) L (bear b) n (i + 1))))) Y
    by_cases c1 : tN D G W R i < L
    · rw [if_neg (by omega)]
      refine Eq.trans ?_ (ih (i + 1) (by omega))
      simp (disch := first | omega | assumption | decide) only [e9, s9_0, s9_1, s9_5, s9_6, s9_9, s9_11, s9_13, s9_16, s9_17, s9_20, s9_22, s9_23, s9_24, s9_27, s9_28, s9_31, s9_33, s9_34, s9_35, s9_38, s9_41, s9_42, s9_43, s9_46, s9_48, s9_49, s9_52, s9_55, s9_56, Option.toList_some, Option.toList_none, List.cons_append, List.nil_append, if_true, if_false, eq_self, n1n0, ne10, nI_ltI, hlt, hl6, f1, c1, nI_add]
    · by_cases c2 : wA D W R i < bear b
      · rw [if_pos ⟨by omega, c2⟩]
        simp (disch := first | omega | assumption | decide) only [e9, s9_0, s9_1, s9_5, s9_6, s9_9, s9_11, s9_13, s9_16, s9_17, s9_20, s9_22, s9_23, s9_24, s9_27, s9_28, s9_31, s9_33, s9_34, s9_35, s9_38, s9_41, s9_42, s9_43, s9_46, s9_48, s9_49, s9_52, s9_55, s9_56, Option.toList_some, Option.toList_none, List.cons_append, List.nil_append, if_true, if_false, eq_self, n1n0, ne10, nI_ltI, hlt, hl6, f1, c1, f2, e1, c2]
      · rw [if_neg (by omega)]
        refine Eq.trans ?_ (ih (i + 1) (by omega))
        simp (disch := first | omega | assumption | decide) only [e9, s9_0, s9_1, s9_5, s9_6, s9_9, s9_11, s9_13, s9_16, s9_17, s9_20, s9_22, s9_23, s9_24, s9_27, s9_28, s9_31, s9_33, s9_34, s9_35, s9_38, s9_41, s9_42, s9_43, s9_46, s9_48, s9_49, s9_52, s9_55, s9_56, Option.toList_some, Option.toList_none, List.cons_append, List.nil_append, if_true, if_false, eq_self, n1n0, ne10, nI_ltI, hlt, hl6, f1, c1, f2, e1, c2, nI_add]
theorem cc_safe {b L m : Nat} {Y : zM} (ho : okP D G B C W lim bear) (hc : cP D G B C W lim bear Y) (hY : laC D G W R m X Y) (hb : b < B) (hL : L ≤ 9) (hm : m ≤ 60) : zcl 9 [.ref 16, .int (nI b), .int (nI L), .int (nI m)] Y Q = Q (some (.int (nI (sB (tN D G W R) (wA D W R) L (bear b) m)))) Y := by
  have k := safe_loop (Q := Q) ho hc hY hb hL hm m 0 (by omega)
  rw [sf_sB m 0 rfl, Nat.zero_add] at k
  refine Eq.trans ?_ k
  simp (disch := first | omega | assumption | decide) only [e9, s9_0, s9_1, s9_5, s9_6, s9_9, s9_11, s9_13, s9_16, s9_17, s9_20, s9_22, s9_23, s9_24, s9_27, s9_28, s9_31, s9_33, s9_34, s9_35, s9_38, s9_41, s9_42, s9_43, s9_46, s9_48, s9_49, s9_52, s9_55, s9_56, Option.toList_some, Option.toList_none, List.cons_append, List.nil_append, if_true, if_false, eq_self, n1n0, ne10]
theorem haul_loop {b L m m2 : Nat} {Y : zM} (ho : okP D G B C W lim bear) (hs : cS G B Y 57 R nx) (hr : okR B R) (hY : laC D G W R m X Y) (hb : b < B) (hL : L ≤ 9) (hm : m ≤ 60) (hm2 : m2 ≤ m) : ∀ n i : Nat, i + n = m2 → zev 10 14 [.ref 16, .int (nI b), .int (nI L), .int (nI m2), .int (nI (R (23 + b) + hlN (tN D G W R) (wA D W R) L i)), .int (nI i)] [] Y Q = Q (some (.int (nI (hlN (tN D G W R) (wA D W R) L m2)))) Y := by
  have hB := ho.2.2.1
  have e1 := hs.2.2.2.1 b hb
  have hcb := hr.2.2.2.1 b (by omega)
  have h29 := hr.2.2.2.2.2.1
  intro n
  induction n with
  | zero =>
    intro i hi
    have q : i = m2 := by omega
    subst q
    have e2 : nI (R (23 + b) + hlN (tN D G W R) (wA D W R) L i) - nI (R (23 + b)) = nI (hlN (tN D G W R) (wA D W R) L i) := by
      rw [pk_sub (by omega)]
      exact congrArg nI (by omega)
    rw [s10_14]
    simp (disch := first | omega | assumption | decide) only [e10, s10_0, s10_1, s10_4, s10_7, s10_8, s10_9, s10_11, s10_12, s10_16, s10_17, s10_20, s10_22, s10_24, s10_27, s10_28, s10_31, s10_33, s10_34, s10_35, s10_38, s10_40, s10_41, s10_44, s10_46, s10_47, s10_48, s10_50, s10_53, s10_55, s10_58, s10_61, s10_63, s10_64, s10_67, s10_70, s10_71, s10_72, s10_73, Option.toList_some, Option.toList_none, List.cons_append, List.nil_append, if_true, if_false, eq_self, n1n0, ne10, nI_ltI, Nat.lt_irrefl, e1, e2]
  | succ n ih =>
    intro i hi
    have hlt : i < m2 := by omega
    have hl6 : i < 60 := by omega
    obtain ⟨f1, f2⟩ := hY.2 i (by omega)
    have ht9 := tN_le (D := D) (G := G) (W := W) R i
    have hw9 := wA_le (D := D) (R := R) ho.2.2.2.2.1 i
    have hh := hlN_le (t := tN D G W R) (w := wA D W R) (L := L) (n := i) (wA_le ho.2.2.2.2.1)
    refine Eq.trans ?_ (ih (i + 1) (by omega))
    rw [s10_14, hlN_s]
    by_cases c1 : tN D G W R i < L
    · rw [if_neg (by omega)]
      simp (disch := first | omega | assumption | decide) only [e10, s10_0, s10_1, s10_4, s10_7, s10_8, s10_9, s10_11, s10_12, s10_16, s10_17, s10_20, s10_22, s10_24, s10_27, s10_28, s10_31, s10_33, s10_34, s10_35, s10_38, s10_40, s10_41, s10_44, s10_46, s10_47, s10_48, s10_50, s10_53, s10_55, s10_58, s10_61, s10_63, s10_64, s10_67, s10_70, s10_71, s10_72, s10_73, Option.toList_some, Option.toList_none, List.cons_append, List.nil_append, if_true, if_false, eq_self, n1n0, ne10, nI_ltI, hlt, hl6, f1, c1, nI_add, Nat.add_zero]
    · have c2 : ¬ 999999 < R (23 + b) + hlN (tN D G W R) (wA D W R) L i + wA D W R i := by omega
      rw [if_pos (show L ≤ tN D G W R i by omega), ← Nat.add_assoc]
      simp (disch := first | omega | assumption | decide) only [e10, s10_0, s10_1, s10_4, s10_7, s10_8, s10_9, s10_11, s10_12, s10_16, s10_17, s10_20, s10_22, s10_24, s10_27, s10_28, s10_31, s10_33, s10_34, s10_35, s10_38, s10_40, s10_41, s10_44, s10_46, s10_47, s10_48, s10_50, s10_53, s10_55, s10_58, s10_61, s10_63, s10_64, s10_67, s10_70, s10_71, s10_72, s10_73, Option.toList_some, Option.toList_none, List.cons_append, List.nil_append, if_true, if_false, eq_self, n1n0, ne10, nI_ltI, hlt, hl6, f1, c1, f2, nI_add, c2]
theorem cc_haul {b L m m2 : Nat} {Y : zM} (ho : okP D G B C W lim bear) (hs : cS G B Y 57 R nx) (hr : okR B R) (hY : laC D G W R m X Y) (hb : b < B) (hL : L ≤ 9) (hm : m ≤ 60) (hm2 : m2 ≤ m) : zcl 10 [.ref 16, .int (nI b), .int (nI L), .int (nI m2)] Y Q = Q (some (.int (nI (hlN (tN D G W R) (wA D W R) L m2)))) Y := by
  have hB := ho.2.2.1
  have e1 := hs.2.2.2.1 b hb
  refine Eq.trans ?_ (haul_loop ho hs hr hY hb hL hm hm2 m2 0 (by omega))
  simp (disch := first | omega | assumption | decide) only [e10, s10_0, s10_1, s10_4, s10_7, s10_8, s10_9, s10_11, s10_12, s10_16, s10_17, s10_20, s10_22, s10_24, s10_27, s10_28, s10_31, s10_33, s10_34, s10_35, s10_38, s10_40, s10_41, s10_44, s10_46, s10_47, s10_48, s10_50, s10_53, s10_55, s10_58, s10_61, s10_63, s10_64, s10_67, s10_70, s10_71, s10_72, s10_73, Option.toList_some, Option.toList_none, List.cons_append, List.nil_append, if_true, if_false, eq_self, n1n0, ne10, e1]
  rfl
theorem laC_CI {n : Nat} {Y : zM} {p : pT} {R1 : Nat → Nat} {uu : Nat × (Nat → Nat → Nat)} {im : Nat × (Nat → Nat → Nat) × (Nat → Nat)} {sd : Nat} {tt : Nat × (Nat → Nat) × Int32} {nb : Nat × (Nat → Nat) × (Nat → Nat) × Nat × (Nat → Nat) × (Nat → Nat)} (h : laC D G W R n X Y) (hX : CI (p, R1, uu, im, sd, tt, nb) X) : CI (p, R1, uu, im, sd, tt, nb) Y ∧ frM X Y := by
  refine ⟨CI_tun hX (fun c hc => h.1 c (by omega) (by omega)) ?_, fun c c1 c2 => h.1 c (by omega) (by omega)⟩
  obtain ⟨D, G, B, C, W, lim, bear⟩ := p
  obtain ⟨nx, k, ns, ni, h1, h2, h3, h4, h5, h6, h7, h8⟩ := hX
  exact cTu_fr h8 (h.1 19 (by omega) (by omega))
/-- who is lost within days, by the class -/
def loB (D G : Nat) (W lim bear R : Nat → Nat) (m b : Nat) : Bool := decide ((bt (R 21) b = 0 ∧ bt (R 22) b = 0) ∧ sB (tN D G W R) (wA D W R) (lim b) (bear b) m < m)
theorem lost_loop {m : Nat} {Y : zM} (ho : okP D G B C W lim bear) (hc : cP D G B C W lim bear Y) (hs : cS G B Y 57 R nx) (hr : okR B R) (hY : laC D G W R m X Y) (hm : m ≤ 60) : ∀ n i : Nat, i + n = B → zev 174 9 [.ref 16, .int (nI m), .int (nI (stN (loB D G W lim bear R m) i)), .int (nI i)] [] Y Q = Q (some (.int (nI (stN (loB D G W lim bear R m) B)))) Y := by
  have hB := ho.2.2.1
  have h32 := two_pow_le hB
  have r1 := hr.2.1
  have r2 := hr.2.2.1
  intro n
  induction n with
  | zero =>
    intro i hi
    have q : i = B := by omega
    subst q
    rw [s174_9]
    simp (disch := first | omega | assumption | decide) only [e174, s174_0, s174_1, s174_2, s174_5, s174_6, s174_7, s174_8, s174_10, s174_11, s174_14, s174_17, s174_20, s174_21, s174_22, s174_25, s174_28, s174_29, s174_30, s174_31, s174_34, s174_37, s174_38, s174_39, s174_40, s174_43, s174_44, s174_47, s174_48, s174_49, s174_50, s174_51, s174_52, s174_53, s174_56, s174_59, s174_60, Option.toList_some, Option.toList_none, List.cons_append, List.nil_append, if_true, if_false, eq_self, n1n0, ne10, hc.2.2.1, nI_ltI, Nat.lt_irrefl]
  | succ n ih =>
    intro i hi
    have hlt : i < B := by omega
    have hir := fun Q => c_isReady (X := Y) (Q := Q) (b := i) hs.1.2.2.1 hs.1.2.2.2 (by omega) (by omega) (by omega)
    have hsf := fun Q => cc_safe (X := X) (Y := Y) (Q := Q) (b := i) (L := lim i) (m := m) ho hc hY hlt (ho.2.2.2.2.2.1 i) hm
    have hsl := sB_le (t := tN D G W R) (w := wA D W R) (L := lim i) (be := bear i) m
    have e1 := (hc.2.2.2.2.2 i hlt).1
    refine Eq.trans ?_ (ih (i + 1) (by omega))
    rw [s174_9]
    by_cases c : bt (R 21 ||| R 22) i = 0
    · rw [if_pos c] at hir
      have c0 := (bt_or (R 21) (R 22) i).mp c
      by_cases c2 : sB (tN D G W R) (wA D W R) (lim i) (bear i) m < m
      · rw [stN_y (p := loB D G W lim bear R m) (decide_eq_true ⟨c0, c2⟩)]
        simp (disch := first | omega | assumption | decide) only [e174, s174_0, s174_1, s174_2, s174_5, s174_6, s174_7, s174_8, s174_10, s174_11, s174_14, s174_17, s174_20, s174_21, s174_22, s174_25, s174_28, s174_29, s174_30, s174_31, s174_34, s174_37, s174_38, s174_39, s174_40, s174_43, s174_44, s174_47, s174_48, s174_49, s174_50, s174_51, s174_52, s174_53, s174_56, s174_59, s174_60, Option.toList_some, Option.toList_none, List.cons_append, List.nil_append, if_true, if_false, eq_self, n1n0, ne10, hc.2.2.1, nI_ltI, hlt, hir, e1, hsf, c2, shl_nI, or_nI, nI_add]
      · rw [stN_n (p := loB D G W lim bear R m) (decide_eq_false (fun q => c2 q.2))]
        simp (disch := first | omega | assumption | decide) only [e174, s174_0, s174_1, s174_2, s174_5, s174_6, s174_7, s174_8, s174_10, s174_11, s174_14, s174_17, s174_20, s174_21, s174_22, s174_25, s174_28, s174_29, s174_30, s174_31, s174_34, s174_37, s174_38, s174_39, s174_40, s174_43, s174_44, s174_47, s174_48, s174_49, s174_50, s174_51, s174_52, s174_53, s174_56, s174_59, s174_60, Option.toList_some, Option.toList_none, List.cons_append, List.nil_append, if_true, if_false, eq_self, n1n0, ne10, hc.2.2.1, nI_ltI, hlt, hir, e1, hsf, c2, nI_add]
    · rw [if_neg c] at hir
      rw [stN_n (p := loB D G W lim bear R m) (decide_eq_false (fun q => c ((bt_or (R 21) (R 22) i).mpr q.1)))]
      simp (disch := first | omega | assumption | decide) only [e174, s174_0, s174_1, s174_2, s174_5, s174_6, s174_7, s174_8, s174_10, s174_11, s174_14, s174_17, s174_20, s174_21, s174_22, s174_25, s174_28, s174_29, s174_30, s174_31, s174_34, s174_37, s174_38, s174_39, s174_40, s174_43, s174_44, s174_47, s174_48, s174_49, s174_50, s174_51, s174_52, s174_53, s174_56, s174_59, s174_60, Option.toList_some, Option.toList_none, List.cons_append, List.nil_append, if_true, if_false, eq_self, n1n0, ne10, hc.2.2.1, nI_ltI, hlt, hir, nI_add]
theorem an_lem : ∀ a, a < 32 → ∀ c, c < 32 → nI a &&& (nI c ^^^ (-1)) = nI (stN (fun b => decide (bt a b = 1 ∧ bt c b = 0)) 5) := by decide +kernel
theorem stN_big {p : Nat → Bool} {B : Nat} (h : ∀ i, B ≤ i → p i = false) : ∀ n, B ≤ n → stN p n = stN p B := by
  intro n
  induction n with
  | zero => intro hn; rw [Nat.le_zero.mp hn]
  | succ n ih =>
    intro hn
    by_cases c : B = n + 1
    · rw [c]
    · rw [stN_n (h n (by omega)), ih (by omega)]
theorem loses_eq {m : Nat} (ho : okP D G B C W lim bear) (hr : okR B R) (hm : m ≤ 60) (h29 : R 29 + m ≤ 9100) : nI (dayI D G B C W lim bear m R 21) &&& (nI (R 21) ^^^ (-1)) = nI (stN (loB D G W lim bear R m) B) := by
  have hB := ho.2.2.1
  have h32 := two_pow_le hB
  have hok := (dayI_ok ho m R hr h29).1
  have r1 := hok.2.1
  have r2 := hr.2.1
  rw [an_lem _ (by omega) _ (by omega)]
  refine congrArg nI ?_
  rw [stN_big (B := B) (fun i hi => decide_eq_false (fun q => by
    have : bt (dayI D G B C W lim bear m R 21) i = 0 := bt_big (Nat.lt_of_lt_of_le r1 (Nat.pow_le_pow_right (by decide) hi))
    omega)) 5 hB]
  refine stN_cg (fun b hb => ?_)
  obtain ⟨-, k1, k2⟩ := dayI_boat (b := b) ho hr hb m hm h29
  unfold loB
  by_cases c : bt (R 21) b = 0 ∧ bt (R 22) b = 0
  · rw [(k1 c).1]
    have ew : (fun k => wN D W (R 29 + (k + 1))) = wA D W R := rfl
    rw [ew]
    by_cases c2 : sB (tN D G W R) (wA D W R) (lim b) (bear b) m < m
    · rw [if_pos c2, decide_eq_true ⟨rfl, c.1⟩, decide_eq_true ⟨c, c2⟩]
    · rw [if_neg c2, decide_eq_false (fun q => absurd q.1 (by decide)), decide_eq_false (fun q => c2 q.2)]
  · rw [(k2 c).1, decide_eq_false (fun q => by have := q.1; have := q.2; omega), decide_eq_false (fun q => c q.1)]
end CT
theorem ok_catches (x y : Int32) : okCall 194 210 [.int x, .int y] := by
  rintro ⟨⟨D, G, B, C, W, lim, bear⟩, R, ⟨u, Rs⟩, ⟨kb, Ri, si⟩, sd, ⟨t, tx, fa⟩, ⟨tn, tg, tr, en, eg, et⟩⟩ ha
  have hD := ha.1.1
  have hB := ha.1.2.2.1
  have h32 := two_pow_le hB
  have hr := ha.2.1.1
  have h29 := ha.2.1.2
  have r1 := hr.2.1
  have r2 := hr.2.2.1
  rcases rngm x B (by omega) with h | ⟨h, h2⟩ | ⟨j, hj, rfl, n1, n2⟩
  · refine ⟨_, -1000000001, ha, okC_ro ?_, okM_ro ?_⟩
    · rintro X Q ⟨nx, k, ns, ni, h1, -⟩
      simp (disch := first | omega | assumption | decide) only [e194, s194_0, s194_1, s194_2, s194_5, s194_8, s194_10, s194_11, s194_12, s194_13, s194_15, s194_18, s194_21, s194_23, s194_24, s194_25, s194_28, s194_29, s194_30, s194_33, Option.toList_some, Option.toList_none, List.cons_append, List.nil_append, if_true, if_false, eq_self, n1n0, ne10, c_noBoat x h1.2.2.1, if_pos h, n1n0]
    · rintro X Q ⟨h1, -⟩
      simp (disch := first | omega | assumption | decide) only [e210, s210_0, s210_1, s210_2, s210_5, s210_8, s210_10, s210_11, s210_12, s210_13, s210_14, s210_17, s210_20, s210_23, s210_25, s210_26, s210_27, s210_28, s210_31, s210_32, s210_35, s210_37, s210_38, s210_39, s210_40, s210_41, s210_44, s210_46, s210_47, s210_48, s210_49, s210_50, Option.toList_some, Option.toList_none, List.cons_append, List.nil_append, if_true, if_false, eq_self, n1n0, ne10, c_isBoat x h1.2.2.1, if_pos h]
  · refine ⟨_, -1000000001, ha, okC_ro ?_, okM_ro ?_⟩
    · rintro X Q ⟨nx, k, ns, ni, h1, -⟩
      simp (disch := first | omega | assumption | decide) only [e194, s194_0, s194_1, s194_2, s194_5, s194_8, s194_10, s194_11, s194_12, s194_13, s194_15, s194_18, s194_21, s194_23, s194_24, s194_25, s194_28, s194_29, s194_30, s194_33, Option.toList_some, Option.toList_none, List.cons_append, List.nil_append, if_true, if_false, eq_self, n1n0, ne10, c_noBoat x h1.2.2.1, if_neg h, if_pos h2, n1n0]
    · rintro X Q ⟨h1, -⟩
      simp (disch := first | omega | assumption | decide) only [e210, s210_0, s210_1, s210_2, s210_5, s210_8, s210_10, s210_11, s210_12, s210_13, s210_14, s210_17, s210_20, s210_23, s210_25, s210_26, s210_27, s210_28, s210_31, s210_32, s210_35, s210_37, s210_38, s210_39, s210_40, s210_41, s210_44, s210_46, s210_47, s210_48, s210_49, s210_50, Option.toList_some, Option.toList_none, List.cons_append, List.nil_append, if_true, if_false, eq_self, n1n0, ne10, c_isBoat x h1.2.2.1, if_neg h, if_pos h2]
  · have h0 : 0 < D := by
      rcases Nat.eq_zero_or_pos D with q | q
      · have := (ha.1.2.2.2.2.2.2.2 q).2.1; omega
      · exact q
    have hnb := fun X Q (h : X 9 2 = nI B) => c_noBoat_in (X := X) (Q := Q) h hj (by omega)
    have hib := fun X Q (h : X 39 11 = nI B) => c_isBoat_in (X := X) (Q := Q) h hj (by omega)
    rcases rng y 0 60 (by decide) (by decide) with h | ⟨h, hh2⟩ | ⟨m, -, hm, rfl⟩
    · refine ⟨_, -1000000002, ha, okC_ro ?_, okM_ro ?_⟩
      · rintro X Q ⟨nx, k, ns, ni, h1, h2, h3, h4, h5, h6, h7, h8⟩
        simp (disch := first | omega | assumption | decide) only [e194, s194_0, s194_1, s194_2, s194_5, s194_8, s194_10, s194_11, s194_12, s194_13, s194_15, s194_18, s194_21, s194_23, s194_24, s194_25, s194_28, s194_29, s194_30, s194_33, Option.toList_some, Option.toList_none, List.cons_append, List.nil_append, if_true, if_false, eq_self, n1n0, ne10, hnb X _ h1.2.2.1, c_isOut, if_pos h]
      · rintro X Q ⟨h1, h2, h3, h4, h5, h6, h7⟩
        simp (disch := first | omega | assumption | decide) only [e210, s210_0, s210_1, s210_2, s210_5, s210_8, s210_10, s210_11, s210_12, s210_13, s210_14, s210_17, s210_20, s210_23, s210_25, s210_26, s210_27, s210_28, s210_31, s210_32, s210_35, s210_37, s210_38, s210_39, s210_40, s210_41, s210_44, s210_46, s210_47, s210_48, s210_49, s210_50, Option.toList_some, Option.toList_none, List.cons_append, List.nil_append, if_true, if_false, eq_self, n1n0, ne10, hib X _ h1.2.2.1, li_0, li_1, li_255, li_48, li_57, li_60, li_30, li_9, li_10, li_12, li_2, li_100, c_in, if_pos h]
    · refine ⟨_, -1000000002, ha, okC_ro ?_, okM_ro ?_⟩
      · rintro X Q ⟨nx, k, ns, ni, h1, h2, h3, h4, h5, h6, h7, h8⟩
        simp (disch := first | omega | assumption | decide) only [e194, s194_0, s194_1, s194_2, s194_5, s194_8, s194_10, s194_11, s194_12, s194_13, s194_15, s194_18, s194_21, s194_23, s194_24, s194_25, s194_28, s194_29, s194_30, s194_33, Option.toList_some, Option.toList_none, List.cons_append, List.nil_append, if_true, if_false, eq_self, n1n0, ne10, hnb X _ h1.2.2.1, c_isOut, if_neg h, if_pos hh2]
      · rintro X Q ⟨h1, h2, h3, h4, h5, h6, h7⟩
        simp (disch := first | omega | assumption | decide) only [e210, s210_0, s210_1, s210_2, s210_5, s210_8, s210_10, s210_11, s210_12, s210_13, s210_14, s210_17, s210_20, s210_23, s210_25, s210_26, s210_27, s210_28, s210_31, s210_32, s210_35, s210_37, s210_38, s210_39, s210_40, s210_41, s210_44, s210_46, s210_47, s210_48, s210_49, s210_50, Option.toList_some, Option.toList_none, List.cons_append, List.nil_append, if_true, if_false, eq_self, n1n0, ne10, hib X _ h1.2.2.1, li_0, li_1, li_255, li_48, li_57, li_60, li_30, li_9, li_10, li_12, li_2, li_100, c_in, if_neg h, if_pos hh2]
    · have hio := fun X Q => c_isOut_in (X := X) (Q := Q) (j := m) (lo := 0) (hi := 60) (Nat.zero_le m) hm (by decide)
      have hii := fun X Q => c_in_in (X := X) (Q := Q) (j := m) (lo := 0) (hi := 60) (Nat.zero_le m) hm (by decide)
      obtain ⟨-, k1, k2⟩ := dayI_boat (b := j) ha.1 hr hj m hm (by omega)
      have ew : (fun k => wN D W (R 29 + (k + 1))) = wA D W R := rfl
      rw [ew] at k1
      refine ⟨_, if bt (R 21 ||| R 22) j = 0 then nI (hlN (tN D G W R) (wA D W R) (lim j) (sB (tN D G W R) (wA D W R) (lim j) (bear j) m)) else nI 0, ha, ?_, ?_⟩
      · intro X Q hX hQ
        obtain ⟨nx, k, ns, ni, h1, h2, h3, h4, h5, h6, h7, h8⟩ := id hX
        have hir := fun Q => c_isReady (X := X) (Q := Q) (b := j) h2.1.2.2.1 h2.1.2.2.2 (by omega) (by omega) (by omega)
        by_cases c : bt (R 21 ||| R 22) j = 0
        · rw [if_pos c] at hir hQ
          simp (disch := first | omega | assumption | decide) only [e194, s194_0, s194_1, s194_2, s194_5, s194_8, s194_10, s194_11, s194_12, s194_13, s194_15, s194_18, s194_21, s194_23, s194_24, s194_25, s194_28, s194_29, s194_30, s194_33, e173, s173_0, s173_1, s173_2, s173_5, s173_8, s173_9, s173_10, s173_11, s173_12, s173_15, s173_16, s173_19, s173_22, s173_23, s173_24, s173_25, s173_26, s173_27, s173_28, s173_29, s173_30, s173_31, s173_32, s173_35, s173_38, Option.toList_some, Option.toList_none, List.cons_append, List.nil_append, if_true, if_false, eq_self, n1n0, ne10, hnb X _ h1.2.2.1, hio, hir]
          refine c_look ha.1 h1 h2 hr hm (fun Y hY => ?_)
          obtain ⟨p1, p2⟩ := laC_P hY h1 h2
          have e1 := (p1.2.2.2.2.2 j hj).1
          have hl9 := ha.1.2.2.2.2.2.1 j
          have hsf := fun Q => cc_safe (X := X) (Y := Y) (Q := Q) (b := j) (L := lim j) (m := m) ha.1 p1 hY hj hl9 hm
          have hhl := fun Q => cc_haul (X := X) (Y := Y) (Q := Q) (b := j) (L := lim j) (m := m) (m2 := sB (tN D G W R) (wA D W R) (lim j) (bear j) m) ha.1 p2 hr hY hj hl9 hm (sB_le m)
          simp (disch := first | omega | assumption | decide) only [e194, s194_0, s194_1, s194_2, s194_5, s194_8, s194_10, s194_11, s194_12, s194_13, s194_15, s194_18, s194_21, s194_23, s194_24, s194_25, s194_28, s194_29, s194_30, s194_33, e173, s173_0, s173_1, s173_2, s173_5, s173_8, s173_9, s173_10, s173_11, s173_12, s173_15, s173_16, s173_19, s173_22, s173_23, s173_24, s173_25, s173_26, s173_27, s173_28, s173_29, s173_30, s173_31, s173_32, s173_35, s173_38, Option.toList_some, Option.toList_none, List.cons_append, List.nil_append, if_true, if_false, eq_self, n1n0, ne10, e1, hsf, hhl]
          obtain ⟨z1, z2⟩ := laC_CI hY hX
          exact hQ Y z1 z2
        · rw [if_neg c] at hir hQ
          simp (disch := first | omega | assumption | decide) only [e194, s194_0, s194_1, s194_2, s194_5, s194_8, s194_10, s194_11, s194_12, s194_13, s194_15, s194_18, s194_21, s194_23, s194_24, s194_25, s194_28, s194_29, s194_30, s194_33, e173, s173_0, s173_1, s173_2, s173_5, s173_8, s173_9, s173_10, s173_11, s173_12, s173_15, s173_16, s173_19, s173_22, s173_23, s173_24, s173_25, s173_26, s173_27, s173_28, s173_29, s173_30, s173_31, s173_32, s173_35, s173_38, Option.toList_some, Option.toList_none, List.cons_append, List.nil_append, if_true, if_false, eq_self, n1n0, ne10, hnb X _ h1.2.2.1, hio, hir]
          exact hQ X hX frM.rf
      · intro X Q hX hQ
        obtain ⟨h1, h2, h3, h4, h5, h6, h7⟩ := id hX
        simp (disch := first | omega | assumption | decide) only [e210, s210_0, s210_1, s210_2, s210_5, s210_8, s210_10, s210_11, s210_12, s210_13, s210_14, s210_17, s210_20, s210_23, s210_25, s210_26, s210_27, s210_28, s210_31, s210_32, s210_35, s210_37, s210_38, s210_39, s210_40, s210_41, s210_44, s210_46, s210_47, s210_48, s210_49, s210_50, Option.toList_some, Option.toList_none, List.cons_append, List.nil_append, if_true, if_false, eq_self, n1n0, ne10, hib X _ h1.2.2.1, li_0, li_60, hii]
        refine c_goOn ha.1 h1 h2 h0 hm hr (by omega) (fun Z hZ => ?_)
        obtain ⟨w, rfl, hw, hf⟩ := hZ
        have e1 : zst X 40 w 40 (115 + j) = nI (dayI D G B C W lim bear m R (23 + j)) := by
          rw [zst_at, show 115 + j = 92 + (23 + j) by omega]; exact hw (23 + j) (by omega)
        have e2 : zst X 40 w 40 (23 + j) = nI (R (23 + j)) := by
          rw [zst_at, hf _ (by omega)]; exact at0 h2 (by omega)
        have key : nI (dayI D G B C W lim bear m R (23 + j)) - nI (R (23 + j)) = if bt (R 21 ||| R 22) j = 0 then nI (hlN (tN D G W R) (wA D W R) (lim j) (sB (tN D G W R) (wA D W R) (lim j) (bear j) m)) else nI 0 := by
          by_cases c : bt (R 21 ||| R 22) j = 0
          · rw [if_pos c, (k1 ((bt_or _ _ _).mp c)).2, pk_sub (by omega)]
            exact congrArg nI (by omega)
          · rw [if_neg c, (k2 (fun q => c ((bt_or _ _ _).mpr q))).2, pk_sub (by omega)]
            exact congrArg nI (by omega)
        simp (disch := first | omega | assumption | decide) only [e210, s210_0, s210_1, s210_2, s210_5, s210_8, s210_10, s210_11, s210_12, s210_13, s210_14, s210_17, s210_20, s210_23, s210_25, s210_26, s210_27, s210_28, s210_31, s210_32, s210_35, s210_37, s210_38, s210_39, s210_40, s210_41, s210_44, s210_46, s210_47, s210_48, s210_49, s210_50, Option.toList_some, Option.toList_none, List.cons_append, List.nil_append, if_true, if_false, eq_self, n1n0, ne10, nI_add, e1, e2, key]
        exact hQ _ (MI_tried hX hf) (fun c hc => zst_ne _ _ (by omega))
theorem ok_loses (x : Int32) : okCall 195 211 [.int x] := by
  rintro ⟨⟨D, G, B, C, W, lim, bear⟩, R, ⟨u, Rs⟩, ⟨kb, Ri, si⟩, sd, ⟨t, tx, fa⟩, ⟨tn, tg, tr, en, eg, et⟩⟩ ha
  have hD := ha.1.1
  have hB := ha.1.2.2.1
  have hr := ha.2.1.1
  have h29 := ha.2.1.2
  rcases rng x 0 60 (by decide) (by decide) with h | ⟨h, hh2⟩ | ⟨m, -, hm, rfl⟩
  · refine ⟨_, -1000000002, ha, okC_ro ?_, okM_ro ?_⟩
    · intro X Q _
      simp (disch := first | omega | assumption | decide) only [e195, s195_0, s195_1, s195_2, s195_4, s195_7, s195_10, s195_12, s195_13, s195_14, s195_17, s195_18, s195_21, Option.toList_some, Option.toList_none, List.cons_append, List.nil_append, if_true, if_false, eq_self, n1n0, ne10, c_isOut, if_pos h]
    · intro X Q _
      simp (disch := first | omega | assumption | decide) only [e211, s211_0, s211_1, s211_2, s211_3, s211_6, s211_9, s211_12, s211_14, s211_15, s211_16, s211_19, s211_22, s211_23, s211_24, s211_25, s211_26, s211_29, s211_30, s211_33, s211_35, s211_36, s211_37, s211_40, s211_42, s211_43, s211_44, s211_45, s211_46, Option.toList_some, Option.toList_none, List.cons_append, List.nil_append, if_true, if_false, eq_self, n1n0, ne10, li_0, li_1, li_255, li_48, li_57, li_60, li_30, li_9, li_10, li_12, li_2, li_100, c_in, if_pos h]
  · refine ⟨_, -1000000002, ha, okC_ro ?_, okM_ro ?_⟩
    · intro X Q _
      simp (disch := first | omega | assumption | decide) only [e195, s195_0, s195_1, s195_2, s195_4, s195_7, s195_10, s195_12, s195_13, s195_14, s195_17, s195_18, s195_21, Option.toList_some, Option.toList_none, List.cons_append, List.nil_append, if_true, if_false, eq_self, n1n0, ne10, c_isOut, if_neg h, if_pos hh2]
    · intro X Q _
      simp (disch := first | omega | assumption | decide) only [e211, s211_0, s211_1, s211_2, s211_3, s211_6, s211_9, s211_12, s211_14, s211_15, s211_16, s211_19, s211_22, s211_23, s211_24, s211_25, s211_26, s211_29, s211_30, s211_33, s211_35, s211_36, s211_37, s211_40, s211_42, s211_43, s211_44, s211_45, s211_46, Option.toList_some, Option.toList_none, List.cons_append, List.nil_append, if_true, if_false, eq_self, n1n0, ne10, li_0, li_1, li_255, li_48, li_57, li_60, li_30, li_9, li_10, li_12, li_2, li_100, c_in, if_neg h, if_pos hh2]
  · have hio := fun X Q => c_isOut_in (X := X) (Q := Q) (j := m) (lo := 0) (hi := 60) (Nat.zero_le m) hm (by decide)
    have hii := fun X Q => c_in_in (X := X) (Q := Q) (j := m) (lo := 0) (hi := 60) (Nat.zero_le m) hm (by decide)
    refine ⟨_, nI (stN (loB D G W lim bear R m) B), ha, ?_, ?_⟩
    · intro X Q hX hQ
      obtain ⟨nx, k, ns, ni, h1, h2, h3, h4, h5, h6, h7, h8⟩ := id hX
      simp (disch := first | omega | assumption | decide) only [e195, s195_0, s195_1, s195_2, s195_4, s195_7, s195_10, s195_12, s195_13, s195_14, s195_17, s195_18, s195_21, e174, s174_0, s174_1, s174_2, s174_5, s174_6, s174_7, s174_8, s174_10, s174_11, s174_14, s174_17, s174_20, s174_21, s174_22, s174_25, s174_28, s174_29, s174_30, s174_31, s174_34, s174_37, s174_38, s174_39, s174_40, s174_43, s174_44, s174_47, s174_48, s174_49, s174_50, s174_51, s174_52, s174_53, s174_56, s174_59, s174_60, Option.toList_some, Option.toList_none, List.cons_append, List.nil_append, if_true, if_false, eq_self, n1n0, ne10, hio]
      refine c_look ha.1 h1 h2 hr hm (fun Y hY => ?_)
      obtain ⟨p1, p2⟩ := laC_P hY h1 h2
      obtain ⟨z1, z2⟩ := laC_CI hY hX
      have hl := fun Q => lost_loop (X := X) (Y := Y) (Q := Q) ha.1 p1 p2 hr hY hm B 0 (by omega)
      rw [show stN (loB D G W lim bear R m) 0 = 0 from rfl] at hl
      simp (disch := first | omega | assumption | decide) only [e195, s195_0, s195_1, s195_2, s195_4, s195_7, s195_10, s195_12, s195_13, s195_14, s195_17, s195_18, s195_21, e174, s174_0, s174_1, s174_2, s174_5, s174_6, s174_7, s174_8, s174_10, s174_11, s174_14, s174_17, s174_20, s174_21, s174_22, s174_25, s174_28, s174_29, s174_30, s174_31, s174_34, s174_37, s174_38, s174_39, s174_40, s174_43, s174_44, s174_47, s174_48, s174_49, s174_50, s174_51, s174_52, s174_53, s174_56, s174_59, s174_60, Option.toList_some, Option.toList_none, List.cons_append, List.nil_append, if_true, if_false, eq_self, n1n0, ne10, hl]
      exact hQ Y z1 z2
    · intro X Q hX hQ
      obtain ⟨h1, h2, h3, h4, h5, h6, h7⟩ := id hX
      by_cases h0 : D = 0
      · have q := h1.1
        rw [h0] at q
        have hB0 := (ha.1.2.2.2.2.2.2.2 h0).2.1
        rw [hB0] at hQ
        simp (disch := first | omega | assumption | decide) only [e211, s211_0, s211_1, s211_2, s211_3, s211_6, s211_9, s211_12, s211_14, s211_15, s211_16, s211_19, s211_22, s211_23, s211_24, s211_25, s211_26, s211_29, s211_30, s211_33, s211_35, s211_36, s211_37, s211_40, s211_42, s211_43, s211_44, s211_45, s211_46, Option.toList_some, Option.toList_none, List.cons_append, List.nil_append, if_true, if_false, eq_self, n1n0, ne10, li_0, li_60, hii, q]
        refine hQ X ?_ frK.rf
        rw [← hB0]
        exact hX
      · have c0 : ¬ nI D = nI 0 := fun q => h0 ((nI_eq (by omega) (by omega)).mp q)
        simp (disch := first | omega | assumption | decide) only [e211, s211_0, s211_1, s211_2, s211_3, s211_6, s211_9, s211_12, s211_14, s211_15, s211_16, s211_19, s211_22, s211_23, s211_24, s211_25, s211_26, s211_29, s211_30, s211_33, s211_35, s211_36, s211_37, s211_40, s211_42, s211_43, s211_44, s211_45, s211_46, Option.toList_some, Option.toList_none, List.cons_append, List.nil_append, if_true, if_false, eq_self, n1n0, ne10, li_0, li_60, hii, h1.1, c0]
        refine c_goOn ha.1 h1 h2 (by omega) hm hr (by omega) (fun Z hZ => ?_)
        obtain ⟨w, rfl, hw, hf⟩ := hZ
        have e1 : zst X 40 w 40 113 = nI (dayI D G B C W lim bear m R 21) := by
          rw [zst_at]; exact hw 21 (by omega)
        have e2 : zst X 40 w 40 21 = nI (R 21) := by
          rw [zst_at, hf _ (by omega)]; exact at0 h2 (by omega)
        have key := loses_eq (m := m) ha.1 hr hm (by omega)
        simp (disch := first | omega | assumption | decide) only [e211, s211_0, s211_1, s211_2, s211_3, s211_6, s211_9, s211_12, s211_14, s211_15, s211_16, s211_19, s211_22, s211_23, s211_24, s211_25, s211_26, s211_29, s211_30, s211_33, s211_35, s211_36, s211_37, s211_40, s211_42, s211_43, s211_44, s211_45, s211_46, Option.toList_some, Option.toList_none, List.cons_append, List.nil_append, if_true, if_false, eq_self, n1n0, ne10, e1, e2, key]
        exact hQ _ (MI_tried hX hf) (fun c hc => zst_ne _ _ (by omega))
