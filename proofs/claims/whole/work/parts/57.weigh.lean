/-! bestWeights: the reference's side, the call -/
theorem n_m1 : ∀ a, a < 10 → nI (a + 1) + (-1) = nI a := by decide +kernel
section WM
variable {D G B C : Nat} {W lim bear : Nat → Nat} {X : zM} {R : Nat → Nat} {nx x : Nat} {Q : Option Value → zM → Prop}
theorem wof_loop {c g : Nat} (hG : G ≤ 7) (hg : g < G) (hc : c < 10000) : ∀ n p : Nat, p + n = G - 1 - g → zev 53 7 [.int (nI c), .int (nI g), .int (nI G), .int (nI (c / 3 ^ p)), .int (nI (G - 1 - p))] [] X Q = Q (some (.int (nI (dgC G c g)))) X := by
  have h30 : ¬ nI 3 = nI 0 := by decide
  intro n
  induction n with
  | zero =>
    intro p hp
    have q : G - 1 - p = g := by omega
    have hle : c / 3 ^ p ≤ c := Nat.div_le_self _ _
    have e1 : zrem (nI (c / 3 ^ p)) (nI 3) = nI (c / 3 ^ p % 3) := zrem_nI (by omega) (by decide) (by decide)
    rw [q, s53_7]
    simp (disch := first | omega | assumption | decide) only [e53, s53_0, s53_1, s53_2, s53_3, s53_4, s53_5, s53_9, s53_10, s53_13, s53_14, s53_15, s53_16, s53_17, s53_20, s53_23, s53_24, s53_25, s53_26, Option.toList_some, Option.toList_none, List.cons_append, List.nil_append, if_true, if_false, eq_self, n1n0, ne10, nI_ltI, Nat.lt_irrefl, h30, e1]
    unfold dgC
    rw [show G - 1 - g = p by omega]
  | succ n ih =>
    intro p hp
    have hlt : g < G - 1 - p := by omega
    have hle : c / 3 ^ p ≤ c := Nat.div_le_self _ _
    have e1 : nI (c / 3 ^ p) / nI 3 = nI (c / 3 ^ p / 3) := pk_div (by omega) (by decide) (by decide)
    have e2 : nI (G - 1 - p) + (-1) = nI (G - 1 - (p + 1)) := by
      have := n_m1 (G - 1 - (p + 1)) (by omega)
      rwa [show G - 1 - (p + 1) + 1 = G - 1 - p by omega] at this
    have k := ih (p + 1) (by omega)
    rw [Nat.pow_succ, ← Nat.div_div_eq_div_mul] at k
    refine Eq.trans ?_ k
    rw [s53_7]
    simp (disch := first | omega | assumption | decide) only [e53, s53_0, s53_1, s53_2, s53_3, s53_4, s53_5, s53_9, s53_10, s53_13, s53_14, s53_15, s53_16, s53_17, s53_20, s53_23, s53_24, s53_25, s53_26, Option.toList_some, Option.toList_none, List.cons_append, List.nil_append, if_true, if_false, eq_self, n1n0, ne10, nI_ltI, hlt, h30, e1, e2]
theorem c_wof {c g : Nat} (hG : G ≤ 7) (hg : g < G) (hc : c < 10000) : zcl 53 [.int (nI c), .int (nI g), .int (nI G)] X Q = Q (some (.int (nI (dgC G c g)))) X := by
  have k := wof_loop (X := X) (Q := Q) hG hg hc (G - 1 - g) 0 (by omega)
  have e1 : nI G - nI 1 = nI (G - 1) := pk_sub (by omega)
  rw [Nat.pow_zero, Nat.div_one, Nat.sub_zero] at k
  refine Eq.trans ?_ k
  simp (disch := first | omega | assumption | decide) only [e53, s53_0, s53_1, s53_2, s53_3, s53_4, s53_5, s53_9, s53_10, s53_13, s53_14, s53_15, s53_16, s53_17, s53_20, s53_23, s53_24, s53_25, s53_26, Option.toList_some, Option.toList_none, List.cons_append, List.nil_append, if_true, if_false, eq_self, n1n0, ne10, e1]
/-- readings laid ahead by the reference -/
def lrM (D G B C : Nat) (W lim bear R : Nat → Nat) (a i g : Nat) (X Y : zM) : Prop := (∀ c, c ≠ 40 → c ≠ 49 → c ≠ 50 → Y c = X c) ∧ mW (Y 40) 92 (dayI D G B C W lim bear a R) ∧ (∀ j, (j < 92 ∨ 184 ≤ j) → Y 40 j = X 40 j) ∧ (∀ k, k < i → Y 49 k = nI (wA D W R k)) ∧ ∀ g', g' < G → ∀ k, k < 12 → (k < i ∨ (k = i ∧ g' < g)) → Y 50 (7 * k + g') = nI (rN D W R g' k)
theorem layR_in {i : Nat} (ho : okP D G B C W lim bear) (hm : mP D G B C W lim bear X) (hD : 0 < D) (hr : okR B R) (h29 : R 29 + 12 ≤ 9100) (hi : i < 12) (hQ : ∀ Y, lrM D G B C W lim bear R i i G X Y → zev 207 49 [.ref 39, .int (nI i), .int (nI G)] [] Y Q) : ∀ (n g : Nat) (Y : zM), g + n = G → lrM D G B C W lim bear R i i g X Y → zev 207 17 [.ref 39, .int (nI i), .int (nI g)] [] Y Q := by
  have hG := ho.2.1
  intro n
  induction n with
  | zero =>
    intro g Y hg hY
    have q : g = G := by omega
    subst q
    have k := hQ Y hY
    have p1 : mP D g B C W lim bear Y := mP_of hm (fun c hc => hY.1 c (by omega) (by omega) (by omega))
    have hgg := p1.2.1
    rw [s207_17]
    simp (disch := first | omega | assumption | decide) only [s207_18, s207_19, s207_22, hgg, nI_ltI, Nat.lt_irrefl, if_false]
    exact k
  | succ n ih =>
    intro g Y hg hY
    have hlt : g < G := by omega
    have hrd := (dayI_ok ho i R hr (by omega)).1
    obtain ⟨y1, y2, y3, y4, y5⟩ := hY
    have p1 : mP D G B C W lim bear Y := mP_of hm (fun c hc => y1 c (by omega) (by omega) (by omega))
    have hre := fun Q => mm_reads (X := Y) (Q := Q) (x := 92) (g := g) ho p1 (fun i hi => y2 i hi) hrd hD (by omega) (by omega)
    rw [rN_ahead ho hr (by omega) hlt] at hre
    rw [s207_17]
    simp (disch := first | omega | assumption | decide) only [e207, s207_0, s207_1, s207_2, s207_4, s207_7, s207_8, s207_10, s207_12, s207_15, s207_16, s207_18, s207_19, s207_22, s207_25, s207_26, s207_29, s207_31, s207_32, s207_33, s207_34, s207_35, s207_36, s207_38, s207_39, s207_42, s207_43, s207_46, s207_49, s207_50, s207_53, s207_54, s207_55, s207_57, s207_60, s207_61, s207_62, s207_64, s207_67, s207_70, s207_73, Option.toList_some, Option.toList_none, List.cons_append, List.nil_append, if_true, if_false, eq_self, n1n0, ne10, p1.2.1, nI_ltI, hlt, pk_mul, nI_add, hre]
    refine ih (g + 1) _ (by omega) ⟨fun c c1 c2 c3 => ?_, ?_, fun j hj => ?_, fun k hk => ?_, fun g' hg' k hk hh => ?_⟩
    · rw [zst_ne _ _ c3]; exact y1 c c1 c2 c3
    · rw [zst_ne _ _ (by omega)]; exact y2
    · rw [zst_ne _ _ (by omega)]; exact y3 j hj
    · rw [zst_ne _ _ (by omega)]; exact y4 k hk
    · rw [zst_at]
      by_cases c : 7 * k + g' = 7 * i + g
      · have c1 : g' = g := by omega
        have c2 : k = i := by omega
        rw [c, upd_at, c1, c2]
      · rw [upd_ne _ _ c]
        exact y5 g' hg' k hk (by omega)
theorem layR_out (ho : okP D G B C W lim bear) (hm : mP D G B C W lim bear X) (hD : 0 < D) (hr : okR B R) (h29 : R 29 + 12 ≤ 9100) (hQ : ∀ Y, lrM D G B C W lim bear R 12 12 0 X Y → Q none Y) : ∀ (n i : Nat) (Y : zM) (l2 : Value), i + n = 12 → lrM D G B C W lim bear R i i 0 X Y → zev 207 9 [.ref 39, .int (nI i), l2] [] Y Q := by
  intro n
  induction n with
  | zero =>
    intro i Y l2 hi hY
    have q : i = 12 := by omega
    subst q
    rw [s207_9]
    simp (disch := first | omega | assumption | decide) only [e207, s207_0, s207_1, s207_2, s207_4, s207_7, s207_8, s207_10, s207_12, s207_15, s207_16, s207_18, s207_19, s207_22, s207_25, s207_26, s207_29, s207_31, s207_32, s207_33, s207_34, s207_35, s207_36, s207_38, s207_39, s207_42, s207_43, s207_46, s207_49, s207_50, s207_53, s207_54, s207_55, s207_57, s207_60, s207_61, s207_62, s207_64, s207_67, s207_70, s207_73, Option.toList_some, Option.toList_none, List.cons_append, List.nil_append, if_true, if_false, eq_self, n1n0, ne10, nI_ltI, Nat.lt_irrefl]
    exact hQ Y hY
  | succ n ih =>
    intro i Y l2 hi hY
    have hlt : i < 12 := by omega
    have hrd := (dayI_ok ho i R hr (by omega)).1
    rw [s207_9]
    simp (disch := first | omega | assumption | decide) only [e207, s207_0, s207_1, s207_2, s207_4, s207_7, s207_8, s207_10, s207_12, s207_15, s207_16, s207_18, s207_19, s207_22, s207_25, s207_26, s207_29, s207_31, s207_32, s207_33, s207_34, s207_35, s207_36, s207_38, s207_39, s207_42, s207_43, s207_46, s207_49, s207_50, s207_53, s207_54, s207_55, s207_57, s207_60, s207_61, s207_62, s207_64, s207_67, s207_70, s207_73, Option.toList_some, Option.toList_none, List.cons_append, List.nil_append, if_true, if_false, eq_self, n1n0, ne10, nI_ltI, hlt]
    refine layR_in ho hm hD hr h29 hlt (fun Z hZ => ?_) G 0 Y (by omega) hY
    obtain ⟨z1, z2, z3, z4, z5⟩ := hZ
    have p1 : mP D G B C W lim bear Z := mP_of hm (fun c hc => z1 c (by omega) (by omega) (by omega))
    have hto := fun Q => mm_tomorrow (X := Z) (Q := Q) (x := 92) ho p1 (fun i hi => z2 i hi) hrd hD (by omega)
    rw [wN_ahead ho hr (by omega)] at hto
    simp (disch := first | omega | assumption | decide) only [e207, s207_0, s207_1, s207_2, s207_4, s207_7, s207_8, s207_10, s207_12, s207_15, s207_16, s207_18, s207_19, s207_22, s207_25, s207_26, s207_29, s207_31, s207_32, s207_33, s207_34, s207_35, s207_36, s207_38, s207_39, s207_42, s207_43, s207_46, s207_49, s207_50, s207_53, s207_54, s207_55, s207_57, s207_60, s207_61, s207_62, s207_64, s207_67, s207_70, s207_73, Option.toList_some, Option.toList_none, List.cons_append, List.nil_append, if_true, if_false, eq_self, n1n0, ne10, hto]
    generalize hV : zst Z 49 (upd (Z 49) i (nI (wN D W (R 29 + (i + 1))))) = V
    have v0 : ∀ c, c ≠ 49 → V c = Z c := fun c hc => by rw [← hV]; exact zst_ne _ _ hc
    have v49 : V 49 = upd (Z 49) i (nI (wN D W (R 29 + (i + 1)))) := by rw [← hV, zst_at]
    have r1 : mP D G B C W lim bear V := mP_of p1 (fun c hc => v0 c (by omega))
    have r2 : mW (V 40) 92 (dayI D G B C W lim bear i R) := by rw [v0 40 (by omega)]; exact z2
    refine c_dayIn ho r1 r2 hrd hD (by omega) (fun w hw fw => ?_)
    simp (disch := first | omega | assumption | decide) only [e207, s207_0, s207_1, s207_2, s207_4, s207_7, s207_8, s207_10, s207_12, s207_15, s207_16, s207_18, s207_19, s207_22, s207_25, s207_26, s207_29, s207_31, s207_32, s207_33, s207_34, s207_35, s207_36, s207_38, s207_39, s207_42, s207_43, s207_46, s207_49, s207_50, s207_53, s207_54, s207_55, s207_57, s207_60, s207_61, s207_62, s207_64, s207_67, s207_70, s207_73, Option.toList_some, Option.toList_none, List.cons_append, List.nil_append, if_true, if_false, eq_self, n1n0, ne10, nI_add]
    refine ih (i + 1) _ _ (by omega) ⟨fun c c1 c2 c3 => ?_, ?_, fun j hj => ?_, fun k hk => ?_, fun g' hg' k hk hh => ?_⟩
    · rw [zst_ne _ _ c1, v0 c c2]; exact z1 c c1 c2 c3
    · rw [zst_at, dayI_succ]; exact hw
    · rw [zst_at, fw j (by omega), v0 40 (by omega)]; exact z3 j hj
    · rw [zst_ne _ _ (by omega), v49]
      by_cases c : k = i
      · rw [c, upd_at]; rfl
      · rw [upd_ne _ _ c]; exact z4 k (by omega)
    · rw [zst_ne _ _ (by omega), v0 50 (by omega)]; exact z5 g' hg' k hk (by omega)
theorem c_layR (ho : okP D G B C W lim bear) (hm : mP D G B C W lim bear X) (hs : mW (X 40) 0 R) (hD : 0 < D) (hr : okR B R) (h29 : R 29 + 12 ≤ 9100) (hQ : ∀ Y, lrM D G B C W lim bear R 12 12 0 X Y → Q none Y) : zcl 207 [.ref 39] X Q := by
  simp (disch := first | omega | assumption | decide) only [e207, s207_0, s207_1, s207_2, s207_4, s207_7, s207_8, s207_10, s207_12, s207_15, s207_16, s207_18, s207_19, s207_22, s207_25, s207_26, s207_29, s207_31, s207_32, s207_33, s207_34, s207_35, s207_36, s207_38, s207_39, s207_42, s207_43, s207_46, s207_49, s207_50, s207_53, s207_54, s207_55, s207_57, s207_60, s207_61, s207_62, s207_64, s207_67, s207_70, s207_73, Option.toList_some, Option.toList_none, List.cons_append, List.nil_append, if_true, if_false, eq_self, n1n0, ne10]
  refine c_tryStart hs (fun Y hY => ?_)
  obtain ⟨w, rfl, hw, hf⟩ := hY
  simp (disch := first | omega | assumption | decide) only [e207, s207_0, s207_1, s207_2, s207_4, s207_7, s207_8, s207_10, s207_12, s207_15, s207_16, s207_18, s207_19, s207_22, s207_25, s207_26, s207_29, s207_31, s207_32, s207_33, s207_34, s207_35, s207_36, s207_38, s207_39, s207_42, s207_43, s207_46, s207_49, s207_50, s207_53, s207_54, s207_55, s207_57, s207_60, s207_61, s207_62, s207_64, s207_67, s207_70, s207_73, Option.toList_some, Option.toList_none, List.cons_append, List.nil_append, if_true, if_false, eq_self, n1n0, ne10]
  exact layR_out ho hm hD hr h29 hQ 12 0 _ _ (by omega) ⟨fun c c1 _ _ => zst_ne _ _ c1, by rw [zst_at]; exact hw, fun j hj => by rw [zst_at]; exact hf j hj, fun k hk => absurd hk (by omega), fun g' _ k _ hh => absurd hh (by omega)⟩
theorem eby_in {c i : Nat} {l2 : Value} {Y : zM} (hG : G ≤ 7) (h9 : Y 39 9 = nI G) (hc : c < 10000) (hi : i < 12) (hy : ∀ g, g < G → ∀ k, k < 12 → Y 50 (7 * k + g) = nI (rN D W R g k)) : ∀ (n g : Nat) (l7 : Value), g + n = G → (∀ l7, zev 104 73 [.ref 39, .int (nI c), l2, .int (nI i), .int (nI (sgN D W R G (dgC G c) i)), .int (nI (smN (dgC G c) G)), .int (nI G), l7] [] Y Q) → zev 104 19 [.ref 39, .int (nI c), l2, .int (nI i), .int (nI (smN (fun g => dgC G c g * rN D W R g i) g)), .int (nI (smN (dgC G c) g)), .int (nI g), l7] [] Y Q := by
  intro n
  induction n with
  | zero =>
    intro g l7 hg hQ
    have q : g = G := by omega
    have k := hQ l7
    rw [q, s104_19]
    simp (disch := first | omega | assumption | decide) only [s104_21, s104_22, s104_25, h9, nI_ltI, Nat.lt_irrefl, if_false]
    exact k
  | succ n ih =>
    intro g l7 hg hQ
    have hlt : g < G := by omega
    have hwf := fun Q => c_wof (X := Y) (Q := Q) (c := c) (g := g) hG hlt hc
    have e1 := hy g hlt i hi
    have k := ih (g + 1) (.int (nI (dgC G c g))) (by omega) hQ
    rw [s104_19]
    simp (disch := first | omega | assumption | decide) only [e104, s104_0, s104_1, s104_2, s104_3, s104_5, s104_7, s104_10, s104_11, s104_13, s104_14, s104_16, s104_17, s104_21, s104_22, s104_25, s104_28, s104_29, s104_31, s104_32, s104_35, s104_38, s104_40, s104_42, s104_44, s104_45, s104_48, s104_50, s104_51, s104_52, s104_54, s104_55, s104_56, s104_57, s104_58, s104_60, s104_62, s104_64, s104_65, s104_67, s104_70, s104_73, s104_74, s104_76, s104_79, s104_80, s104_83, s104_85, s104_87, s104_88, s104_89, s104_92, s104_93, s104_94, s104_97, s104_98, s104_99, s104_102, s104_105, s104_106, Option.toList_some, Option.toList_none, List.cons_append, List.nil_append, if_true, if_false, eq_self, n1n0, ne10, h9, nI_ltI, hlt, hwf, pk_mul, nI_add, e1]
    exact k
theorem eby_out {c : Nat} {Y : zM} (ho : okP D G B C W lim bear) (h9 : Y 39 9 = nI G) (hc : c < 10000) (hy : ∀ g, g < G → ∀ k, k < 12 → Y 50 (7 * k + g) = nI (rN D W R g k)) (hw : ∀ k, k < 12 → Y 49 k = nI (wA D W R k)) : ∀ (n i : Nat) (l4 l5 l6 l7 : Value), i + n = 12 → Q (some (.int (nI (ewN D G W R (dgC G c) 12)))) Y → zev 104 4 [.ref 39, .int (nI c), .int (nI (ewN D G W R (dgC G c) i)), .int (nI i), l4, l5, l6, l7] [] Y Q := by
  have hG := ho.2.1
  have hd2 : ∀ g, g < G → dgC G c g ≤ 2 := fun g _ => by
    have : dgC G c g < 3 := Nat.mod_lt _ (by decide)
    omega
  intro n
  induction n with
  | zero =>
    intro i l4 l5 l6 l7 hi hQ
    have q : i = 12 := by omega
    subst q
    rw [s104_4]
    simp (disch := first | omega | assumption | decide) only [e104, s104_0, s104_1, s104_2, s104_3, s104_5, s104_7, s104_10, s104_11, s104_13, s104_14, s104_16, s104_17, s104_21, s104_22, s104_25, s104_28, s104_29, s104_31, s104_32, s104_35, s104_38, s104_40, s104_42, s104_44, s104_45, s104_48, s104_50, s104_51, s104_52, s104_54, s104_55, s104_56, s104_57, s104_58, s104_60, s104_62, s104_64, s104_65, s104_67, s104_70, s104_73, s104_74, s104_76, s104_79, s104_80, s104_83, s104_85, s104_87, s104_88, s104_89, s104_92, s104_93, s104_94, s104_97, s104_98, s104_99, s104_102, s104_105, s104_106, Option.toList_some, Option.toList_none, List.cons_append, List.nil_append, if_true, if_false, eq_self, n1n0, ne10, nI_ltI, Nat.lt_irrefl]
    exact hQ
  | succ n ih =>
    intro i l4 l5 l6 l7 hi hQ
    have hlt : i < 12 := by omega
    rw [s104_4]
    simp (disch := first | omega | assumption | decide) only [e104, s104_0, s104_1, s104_2, s104_3, s104_5, s104_7, s104_10, s104_11, s104_13, s104_14, s104_16, s104_17, s104_21, s104_22, s104_25, s104_28, s104_29, s104_31, s104_32, s104_35, s104_38, s104_40, s104_42, s104_44, s104_45, s104_48, s104_50, s104_51, s104_52, s104_54, s104_55, s104_56, s104_57, s104_58, s104_60, s104_62, s104_64, s104_65, s104_67, s104_70, s104_73, s104_74, s104_76, s104_79, s104_80, s104_83, s104_85, s104_87, s104_88, s104_89, s104_92, s104_93, s104_94, s104_97, s104_98, s104_99, s104_102, s104_105, s104_106, Option.toList_some, Option.toList_none, List.cons_append, List.nil_append, if_true, if_false, eq_self, n1n0, ne10, nI_ltI, hlt]
    refine eby_in (D := D) (W := W) (R := R) hG h9 hc hlt hy G 0 _ (by omega) (fun l7 => ?_)
    have hsl := sg_le (D := D) (W := W) (R := R) (k := i) hG hd2
    have htl : smN (dgC G c) G ≤ G * 2 := smN_le hd2
    have ht9 := ew_tel (D := D) (G := G) (W := W) (R := R) (dgC G c) i
    have hw9 := wA_le (D := D) (R := R) ho.2.2.2.2.1 i
    have had := ad_M (telN (sgN D W R G (dgC G c) i) (smN (dgC G c) G)) (by omega) (wA D W R i) (by omega)
    have hwi := hw i hlt
    have k := fun l4 l5 l6 l7 => ih (i + 1) l4 l5 l6 l7 (by omega) hQ
    by_cases c0 : smN (dgC G c) G = 0
    · have et : telN (sgN D W R G (dgC G c) i) (smN (dgC G c) G) = 5 := if_pos c0
      rw [et] at had
      have ks := k (.int (nI (sgN D W R G (dgC G c) i))) (.int (nI 0)) (.int (nI G)) l7
      rw [show ewN D G W R (dgC G c) (i + 1) = ewN D G W R (dgC G c) i + adN 5 (wA D W R i) by rw [← et]; rfl] at ks
      rw [c0]
      simp (disch := first | omega | assumption | decide) only [e104, s104_0, s104_1, s104_2, s104_3, s104_5, s104_7, s104_10, s104_11, s104_13, s104_14, s104_16, s104_17, s104_21, s104_22, s104_25, s104_28, s104_29, s104_31, s104_32, s104_35, s104_38, s104_40, s104_42, s104_44, s104_45, s104_48, s104_50, s104_51, s104_52, s104_54, s104_55, s104_56, s104_57, s104_58, s104_60, s104_62, s104_64, s104_65, s104_67, s104_70, s104_73, s104_74, s104_76, s104_79, s104_80, s104_83, s104_85, s104_87, s104_88, s104_89, s104_92, s104_93, s104_94, s104_97, s104_98, s104_99, s104_102, s104_105, s104_106, Option.toList_some, Option.toList_none, List.cons_append, List.nil_append, if_true, if_false, eq_self, n1n0, ne10, hwi, c_apart, had, nI_add]
      exact ks
    · have c1 : ¬ nI (smN (dgC G c) G) = nI 0 := fun q => c0 ((nI_eq (by omega) (by omega)).mp q)
      have et : nI (sgN D W R G (dgC G c) i) / nI (smN (dgC G c) G) = nI (telN (sgN D W R G (dgC G c) i) (smN (dgC G c) G)) := by
        rw [pk_div (by omega) (by omega) (by omega)]
        unfold telN
        rw [if_neg c0]
      have ks := k (.int (nI (sgN D W R G (dgC G c) i))) (.int (nI (smN (dgC G c) G))) (.int (nI G)) l7
      simp (disch := first | omega | assumption | decide) only [e104, s104_0, s104_1, s104_2, s104_3, s104_5, s104_7, s104_10, s104_11, s104_13, s104_14, s104_16, s104_17, s104_21, s104_22, s104_25, s104_28, s104_29, s104_31, s104_32, s104_35, s104_38, s104_40, s104_42, s104_44, s104_45, s104_48, s104_50, s104_51, s104_52, s104_54, s104_55, s104_56, s104_57, s104_58, s104_60, s104_62, s104_64, s104_65, s104_67, s104_70, s104_73, s104_74, s104_76, s104_79, s104_80, s104_83, s104_85, s104_87, s104_88, s104_89, s104_92, s104_93, s104_94, s104_97, s104_98, s104_99, s104_102, s104_105, s104_106, Option.toList_some, Option.toList_none, List.cons_append, List.nil_append, if_true, if_false, eq_self, n1n0, ne10, c1, et, hwi, c_apart, had, nI_add]
      exact ks
theorem c_eby {c : Nat} {Y : zM} (ho : okP D G B C W lim bear) (h9 : Y 39 9 = nI G) (hc : c < 10000) (hy : ∀ g, g < G → ∀ k, k < 12 → Y 50 (7 * k + g) = nI (rN D W R g k)) (hw : ∀ k, k < 12 → Y 49 k = nI (wA D W R k)) (hQ : Q (some (.int (nI (ewN D G W R (dgC G c) 12)))) Y) : zcl 104 [.ref 39, .int (nI c)] Y Q := by
  simp (disch := first | omega | assumption | decide) only [e104, s104_0, s104_1, s104_2, s104_3, s104_5, s104_7, s104_10, s104_11, s104_13, s104_14, s104_16, s104_17, s104_21, s104_22, s104_25, s104_28, s104_29, s104_31, s104_32, s104_35, s104_38, s104_40, s104_42, s104_44, s104_45, s104_48, s104_50, s104_51, s104_52, s104_54, s104_55, s104_56, s104_57, s104_58, s104_60, s104_62, s104_64, s104_65, s104_67, s104_70, s104_73, s104_74, s104_76, s104_79, s104_80, s104_83, s104_85, s104_87, s104_88, s104_89, s104_92, s104_93, s104_94, s104_97, s104_98, s104_99, s104_102, s104_105, s104_106, Option.toList_some, Option.toList_none, List.cons_append, List.nil_append, if_true, if_false, eq_self, n1n0, ne10]
  exact eby_out ho h9 hc hy hw 12 0 _ _ _ _ (by omega) hQ
theorem pow_loop {v : Int32} {l4 l5 l6 : Value} {Y : zM} (hG : G ≤ 7) (h9 : Y 39 9 = nI G) : ∀ n i : Nat, i + n = G → zev 215 34 [.ref 39, .int v, .int (nI (3 ^ i)), .int (nI i), l4, l5, l6] [] Y Q = zev 215 62 [.ref 39, .int v, .int (nI (3 ^ G)), .int (nI 0), .int (nI 99999999), .int (nI 0), l6] [] Y Q := by
  intro n
  induction n with
  | zero =>
    intro i hi
    have q : i = G := by omega
    subst q
    rw [s215_34]
    simp (disch := first | omega | assumption | decide) only [e215, s215_0, s215_1, s215_2, s215_5, s215_6, s215_7, s215_10, s215_13, s215_15, s215_16, s215_17, s215_20, s215_23, s215_25, s215_26, s215_27, s215_30, s215_31, s215_32, s215_33, s215_35, s215_36, s215_39, s215_42, s215_43, s215_44, s215_45, s215_46, s215_49, s215_52, s215_53, s215_54, s215_57, s215_59, s215_60, s215_64, s215_65, s215_68, s215_69, s215_71, s215_74, s215_76, s215_78, s215_80, s215_83, s215_85, s215_88, s215_89, s215_90, s215_92, s215_94, s215_97, s215_99, s215_102, s215_105, s215_106, s215_107, s215_110, s215_112, s215_115, s215_116, s215_117, s215_118, s215_121, s215_124, Option.toList_some, Option.toList_none, List.cons_append, List.nil_append, if_true, if_false, eq_self, n1n0, ne10, h9, nI_ltI, Nat.lt_irrefl]
  | succ n ih =>
    intro i hi
    have hlt : i < G := by omega
    refine Eq.trans ?_ (ih (i + 1) (by omega))
    rw [s215_34, Nat.pow_succ]
    simp (disch := first | omega | assumption | decide) only [e215, s215_0, s215_1, s215_2, s215_5, s215_6, s215_7, s215_10, s215_13, s215_15, s215_16, s215_17, s215_20, s215_23, s215_25, s215_26, s215_27, s215_30, s215_31, s215_32, s215_33, s215_35, s215_36, s215_39, s215_42, s215_43, s215_44, s215_45, s215_46, s215_49, s215_52, s215_53, s215_54, s215_57, s215_59, s215_60, s215_64, s215_65, s215_68, s215_69, s215_71, s215_74, s215_76, s215_78, s215_80, s215_83, s215_85, s215_88, s215_89, s215_90, s215_92, s215_94, s215_97, s215_99, s215_102, s215_105, s215_106, s215_107, s215_110, s215_112, s215_115, s215_116, s215_117, s215_118, s215_121, s215_124, Option.toList_some, Option.toList_none, List.cons_append, List.nil_append, if_true, if_false, eq_self, n1n0, ne10, h9, nI_ltI, hlt, pk_mul, nI_add]
theorem codes_loop {v : Int32} {e : Nat → Nat} {Y : zM} (ho : okP D G B C W lim bear) (h9 : Y 39 9 = nI G) (he : ∀ i, e i = ewN D G W R (dgC G i) 12) (hy : ∀ g, g < G → ∀ k, k < 12 → Y 50 (7 * k + g) = nI (rN D W R g k)) (hw : ∀ k, k < 12 → Y 49 k = nI (wA D W R k)) (hQ : ∀ l6, zev 215 105 [.ref 39, .int v, .int (nI (3 ^ G)), .int (nI (tb e (3 ^ G))), .int (nI (lsN 99999999 e (3 ^ G))), .int (nI (3 ^ G)), l6] [] Y Q) : ∀ (n i : Nat) (l6 : Value), i + n = 3 ^ G → zev 215 62 [.ref 39, .int v, .int (nI (3 ^ G)), .int (nI (tb e i)), .int (nI (lsN 99999999 e i)), .int (nI i), l6] [] Y Q := by
  have hG := ho.2.1
  have h37 : 3 ^ G ≤ 2187 := Nat.pow_le_pow_right (n := 3) (by decide) (show G ≤ 7 from hG)
  have he8 : ∀ i, e i ≤ 108 := fun i => by rw [he]; exact ewN_le ho.2.2.2.2.1 _ 12
  intro n
  induction n with
  | zero =>
    intro i l6 hi
    have q : i = 3 ^ G := by omega
    have k := hQ l6
    rw [q, s215_62]
    simp (disch := first | omega | assumption | decide) only [s215_64, s215_65, nI_ltI, Nat.lt_irrefl, if_false]
    exact k
  | succ n ih =>
    intro i l6 hi
    have hlt : i < 3 ^ G := by omega
    have h8 := he8 i
    have hl := lsN_le (F := 99999999) (n := i) (e := e) (fun i => by have := he8 i; omega)
    rw [s215_62]
    simp (disch := first | omega | assumption | decide) only [e215, s215_0, s215_1, s215_2, s215_5, s215_6, s215_7, s215_10, s215_13, s215_15, s215_16, s215_17, s215_20, s215_23, s215_25, s215_26, s215_27, s215_30, s215_31, s215_32, s215_33, s215_35, s215_36, s215_39, s215_42, s215_43, s215_44, s215_45, s215_46, s215_49, s215_52, s215_53, s215_54, s215_57, s215_59, s215_60, s215_64, s215_65, s215_68, s215_69, s215_71, s215_74, s215_76, s215_78, s215_80, s215_83, s215_85, s215_88, s215_89, s215_90, s215_92, s215_94, s215_97, s215_99, s215_102, s215_105, s215_106, s215_107, s215_110, s215_112, s215_115, s215_116, s215_117, s215_118, s215_121, s215_124, Option.toList_some, Option.toList_none, List.cons_append, List.nil_append, if_true, if_false, eq_self, n1n0, ne10, nI_ltI, hlt]
    refine c_eby ho h9 (by omega) hy hw ?_
    rw [← he i]
    by_cases c : e i < lsN 99999999 e i
    · obtain ⟨b1, b2⟩ := bsI_y (F := 99999999) (e := e) (n := i) (by omega) c
      have htb : tb e (i + 1) = i := if_pos ((tb_step (F := 99999999) (by omega)).mp c)
      have k := ih (i + 1) (.int (nI (e i))) (by omega)
      rw [b2, htb] at k
      simp (disch := first | omega | assumption | decide) only [e215, s215_0, s215_1, s215_2, s215_5, s215_6, s215_7, s215_10, s215_13, s215_15, s215_16, s215_17, s215_20, s215_23, s215_25, s215_26, s215_27, s215_30, s215_31, s215_32, s215_33, s215_35, s215_36, s215_39, s215_42, s215_43, s215_44, s215_45, s215_46, s215_49, s215_52, s215_53, s215_54, s215_57, s215_59, s215_60, s215_64, s215_65, s215_68, s215_69, s215_71, s215_74, s215_76, s215_78, s215_80, s215_83, s215_85, s215_88, s215_89, s215_90, s215_92, s215_94, s215_97, s215_99, s215_102, s215_105, s215_106, s215_107, s215_110, s215_112, s215_115, s215_116, s215_117, s215_118, s215_121, s215_124, Option.toList_some, Option.toList_none, List.cons_append, List.nil_append, if_true, if_false, eq_self, n1n0, ne10, nI_ltI, c, c_least, nI_add]
      exact k
    · obtain ⟨b1, b2⟩ := bsI_n (F := 99999999) (e := e) (n := i) (by omega) c
      have htb : tb e (i + 1) = tb e i := if_neg (fun q => c ((tb_step (F := 99999999) (n := i) (e := e) (by omega)).mpr q))
      have k := ih (i + 1) (.int (nI (e i))) (by omega)
      rw [b2, htb] at k
      simp (disch := first | omega | assumption | decide) only [e215, s215_0, s215_1, s215_2, s215_5, s215_6, s215_7, s215_10, s215_13, s215_15, s215_16, s215_17, s215_20, s215_23, s215_25, s215_26, s215_27, s215_30, s215_31, s215_32, s215_33, s215_35, s215_36, s215_39, s215_42, s215_43, s215_44, s215_45, s215_46, s215_49, s215_52, s215_53, s215_54, s215_57, s215_59, s215_60, s215_64, s215_65, s215_68, s215_69, s215_71, s215_74, s215_76, s215_78, s215_80, s215_83, s215_85, s215_88, s215_89, s215_90, s215_92, s215_94, s215_97, s215_99, s215_102, s215_105, s215_106, s215_107, s215_110, s215_112, s215_115, s215_116, s215_117, s215_118, s215_121, s215_124, Option.toList_some, Option.toList_none, List.cons_append, List.nil_append, if_true, if_false, eq_self, n1n0, ne10, nI_ltI, c, c_least, nI_add]
      exact k
/-- both sides, for the row (v = -1) or a glass -/
theorem weightsC {v : Int32} {e : Nat → Nat} {ans : Int32} {uu : Nat × (Nat → Nat → Nat)} {im : Nat × (Nat → Nat → Nat) × (Nat → Nat)} {sd : Nat} {tt : Nat × (Nat → Nat) × Int32} {nb : Nat × (Nat → Nat) × (Nat → Nat) × Nat × (Nat → Nat) × (Nat → Nat)} (ho : okP D G B C W lim bear) (hr : okR B R) (he : ∀ i, e i = ewN D G W R (dgC G i) 12) (hv : (v = -1 ∧ ans = nI (e (tb e (3 ^ G)))) ∨ ∃ g, g < G ∧ v = nI g ∧ ans = nI (dgC G (tb e (3 ^ G)) g)) (hX : CI ((D, G, B, C, W, lim, bear), R, uu, im, sd, tt, nb) X) (hQ : ∀ Y, CI ((D, G, B, C, W, lim, bear), R, uu, im, sd, tt, nb) Y → frM X Y → Q (some (.int ans)) Y) : zev 180 12 [.ref 0, .int v, .int (nI 0), zU] [] X Q := by
  have hG := ho.2.1
  obtain ⟨nx, k, ns, ni, h1, h2, h3, h4, h5, h6, h7, h8⟩ := id hX
  simp (disch := first | omega | assumption | decide) only [e180, s180_0, s180_1, s180_2, s180_5, s180_6, s180_7, s180_10, s180_11, s180_12, s180_13, s180_16, s180_19, s180_20, s180_21, s180_22, s180_25, s180_26, s180_29, s180_30, s180_33, s180_36, s180_37, s180_38, Option.toList_some, Option.toList_none, List.cons_append, List.nil_append, if_true, if_false, eq_self, n1n0, ne10]
  refine c_weigh ho h1 h2 hr he (fun Z z1 z2 z3 => ?_)
  have hQ2 := hQ Z (CI_tun hX (fun c hc => z1 c (by omega)) (by unfold cTu at h8 ⊢; rw [z2 10 (by omega), z2 11 (by omega)]; exact h8)) (fun c c1 c2 => z1 c (by omega))
  rcases hv with ⟨rfl, rfl⟩ | ⟨g, hg, rfl, rfl⟩
  · simp (disch := first | omega | assumption | decide) only [e180, s180_0, s180_1, s180_2, s180_5, s180_6, s180_7, s180_10, s180_11, s180_12, s180_13, s180_16, s180_19, s180_20, s180_21, s180_22, s180_25, s180_26, s180_29, s180_30, s180_33, s180_36, s180_37, s180_38, Option.toList_some, Option.toList_none, List.cons_append, List.nil_append, if_true, if_false, eq_self, n1n0, ne10]
    exact hQ2
  · have n1 := nm1 g (by omega)
    have e1 := z3 g hg
    simp (disch := first | omega | assumption | decide) only [e180, s180_0, s180_1, s180_2, s180_5, s180_6, s180_7, s180_10, s180_11, s180_12, s180_13, s180_16, s180_19, s180_20, s180_21, s180_22, s180_25, s180_26, s180_29, s180_30, s180_33, s180_36, s180_37, s180_38, Option.toList_some, Option.toList_none, List.cons_append, List.nil_append, if_true, if_false, eq_self, n1n0, ne10, n1, e1]
    exact hQ2
theorem weightsM {v : Int32} {e : Nat → Nat} {ans : Int32} {u : Nat} {Rs : Nat → Nat → Nat} {kb : Nat} {Ri : Nat → Nat → Nat} {si : Nat → Nat} {sd : Nat} {tt : Nat × (Nat → Nat) × Int32} {nb : Nat × (Nat → Nat) × (Nat → Nat) × Nat × (Nat → Nat) × (Nat → Nat)} (ho : okP D G B C W lim bear) (hr : okR B R) (h29 : R 29 ≤ 9030) (hD : 0 < D) (he : ∀ i, e i = ewN D G W R (dgC G i) 12) (hv : (v = -1 ∧ ans = nI (e (tb e (3 ^ G)))) ∨ ∃ g, g < G ∧ v = nI g ∧ ans = nI (dgC G (tb e (3 ^ G)) g)) (hX : MI ((D, G, B, C, W, lim, bear), R, (u, Rs), (kb, Ri, si), sd, tt, nb) X) (hQ : ∀ Y, MI ((D, G, B, C, W, lim, bear), R, (u, Rs), (kb, Ri, si), sd, tt, nb) Y → frK X Y → Q (some (.int ans)) Y) : zev 215 26 [.ref 39, .int v, zU, zU, zU, zU, zU] [] X Q := by
  have hG := ho.2.1
  have hp := p3_pos G
  have h37 : 3 ^ G ≤ 2187 := Nat.pow_le_pow_right (n := 3) (by decide) (show G ≤ 7 from hG)
  simp (disch := first | omega | assumption | decide) only [e215, s215_0, s215_1, s215_2, s215_5, s215_6, s215_7, s215_10, s215_13, s215_15, s215_16, s215_17, s215_20, s215_23, s215_25, s215_26, s215_27, s215_30, s215_31, s215_32, s215_33, s215_35, s215_36, s215_39, s215_42, s215_43, s215_44, s215_45, s215_46, s215_49, s215_52, s215_53, s215_54, s215_57, s215_59, s215_60, s215_64, s215_65, s215_68, s215_69, s215_71, s215_74, s215_76, s215_78, s215_80, s215_83, s215_85, s215_88, s215_89, s215_90, s215_92, s215_94, s215_97, s215_99, s215_102, s215_105, s215_106, s215_107, s215_110, s215_112, s215_115, s215_116, s215_117, s215_118, s215_121, s215_124, Option.toList_some, Option.toList_none, List.cons_append, List.nil_append, if_true, if_false, eq_self, n1n0, ne10]
  refine c_layR ho hX.1 hX.2.1 hD hr (by omega) (fun Z hZ => ?_)
  obtain ⟨z1, z2, z3, z4, z5⟩ := hZ
  have h9 : Z 39 9 = nI G := by rw [z1 39 (by omega) (by omega) (by omega)]; exact hX.1.2.1
  have hpw := fun l4 l5 l6 => pow_loop (Y := Z) (Q := Q) (v := v) (l4 := l4) (l5 := l5) (l6 := l6) hG h9 G 0 (by omega)
  rw [Nat.pow_zero] at hpw
  simp (disch := first | omega | assumption | decide) only [e215, s215_0, s215_1, s215_2, s215_5, s215_6, s215_7, s215_10, s215_13, s215_15, s215_16, s215_17, s215_20, s215_23, s215_25, s215_26, s215_27, s215_30, s215_31, s215_32, s215_33, s215_35, s215_36, s215_39, s215_42, s215_43, s215_44, s215_45, s215_46, s215_49, s215_52, s215_53, s215_54, s215_57, s215_59, s215_60, s215_64, s215_65, s215_68, s215_69, s215_71, s215_74, s215_76, s215_78, s215_80, s215_83, s215_85, s215_88, s215_89, s215_90, s215_92, s215_94, s215_97, s215_99, s215_102, s215_105, s215_106, s215_107, s215_110, s215_112, s215_115, s215_116, s215_117, s215_118, s215_121, s215_124, Option.toList_some, Option.toList_none, List.cons_append, List.nil_append, if_true, if_false, eq_self, n1n0, ne10, hpw]
  have hQ2 := hQ Z (MI_scr (MI_tried hX (w := Z 40) z3) (fun c c1 c2 c3 => by
          by_cases c4 : c = 40
          · rw [c4, zst_at]
          · rw [zst_ne _ _ c4]; exact z1 c c4 (by omega) (by omega))) (fun c hc => z1 c (by omega) (by omega) (by omega))
  have htl := tb_lt (e := e) (n := 3 ^ G) hp
  refine codes_loop (e := e) ho h9 he (fun g hg k hk => z5 g hg k hk (by omega)) z4 (fun l6 => ?_) (3 ^ G) 0 _ (by omega)
  rw [show lsN 99999999 e (3 ^ G) = e (tb e (3 ^ G)) from if_neg (by omega)]
  rcases hv with ⟨rfl, rfl⟩ | ⟨g, hg, rfl, rfl⟩
  · simp (disch := first | omega | assumption | decide) only [e215, s215_0, s215_1, s215_2, s215_5, s215_6, s215_7, s215_10, s215_13, s215_15, s215_16, s215_17, s215_20, s215_23, s215_25, s215_26, s215_27, s215_30, s215_31, s215_32, s215_33, s215_35, s215_36, s215_39, s215_42, s215_43, s215_44, s215_45, s215_46, s215_49, s215_52, s215_53, s215_54, s215_57, s215_59, s215_60, s215_64, s215_65, s215_68, s215_69, s215_71, s215_74, s215_76, s215_78, s215_80, s215_83, s215_85, s215_88, s215_89, s215_90, s215_92, s215_94, s215_97, s215_99, s215_102, s215_105, s215_106, s215_107, s215_110, s215_112, s215_115, s215_116, s215_117, s215_118, s215_121, s215_124, Option.toList_some, Option.toList_none, List.cons_append, List.nil_append, if_true, if_false, eq_self, n1n0, ne10]
    exact hQ2
  · have n1 := nm1 g (by omega)
    have hwf := fun Q => c_wof (X := Z) (Q := Q) (c := tb e (3 ^ G)) (g := g) hG hg (by omega)
    simp (disch := first | omega | assumption | decide) only [e215, s215_0, s215_1, s215_2, s215_5, s215_6, s215_7, s215_10, s215_13, s215_15, s215_16, s215_17, s215_20, s215_23, s215_25, s215_26, s215_27, s215_30, s215_31, s215_32, s215_33, s215_35, s215_36, s215_39, s215_42, s215_43, s215_44, s215_45, s215_46, s215_49, s215_52, s215_53, s215_54, s215_57, s215_59, s215_60, s215_64, s215_65, s215_68, s215_69, s215_71, s215_74, s215_76, s215_78, s215_80, s215_83, s215_85, s215_88, s215_89, s215_90, s215_92, s215_94, s215_97, s215_99, s215_102, s215_105, s215_106, s215_107, s215_110, s215_112, s215_115, s215_116, s215_117, s215_118, s215_121, s215_124, Option.toList_some, Option.toList_none, List.cons_append, List.nil_append, if_true, if_false, eq_self, n1n0, ne10, n1, h9, hwf]
    exact hQ2
end WM
theorem ok_bestWeights (x : Int32) : okCall 180 215 [.int x] := by
  rintro ⟨⟨D, G, B, C, W, lim, bear⟩, R, ⟨u, Rs⟩, ⟨kb, Ri, si⟩, sd, ⟨t, tx, fa⟩, ⟨tn, tg, tr, en, eg, et⟩⟩ ha
  have hD := ha.1.1
  have hG := ha.1.2.1
  have hr := ha.2.1.1
  have h29 := ha.2.1.2
  have u0 : ¬ (-1000000001 : Int32) = nI 0 := by decide
  have u3 : ¬ (-1000000003 : Int32) = nI 0 := by decide
  generalize he : (fun i => ewN D G W R (dgC G i) 12) = e
  have he2 : ∀ i, e i = ewN D G W R (dgC G i) 12 := fun i => by rw [← he]
  by_cases hx : x = -1
  · by_cases h0 : D = 0
    · subst hx
      refine ⟨_, -1000000003, ha, okC_ro ?_, okM_ro ?_⟩
      · rintro X Q ⟨nx, k, ns, ni, h1, h2, h3, h4, h5, h6, h7, h8⟩
        have hnc := fun Q => c_noCoast (X := X) (Q := Q) h1.1 hD
        simp (disch := first | omega | assumption | decide) only [e180, s180_0, s180_1, s180_2, s180_5, s180_6, s180_7, s180_10, s180_11, s180_12, s180_13, s180_16, s180_19, s180_20, s180_21, s180_22, s180_25, s180_26, s180_29, s180_30, s180_33, s180_36, s180_37, s180_38, e138, s138_0, s138_1, s138_2, s138_5, s138_6, s138_7, s138_10, s138_13, s138_15, s138_16, s138_17, s138_20, s138_23, s138_25, s138_28, s138_29, Option.toList_some, Option.toList_none, List.cons_append, List.nil_append, if_true, if_false, eq_self, n1n0, ne10, hnc, h0, u3]
      · rintro X Q ⟨h1, h2, h3, h4, h5, h6, h7⟩
        have q := h1.1
        rw [h0] at q
        simp (disch := first | omega | assumption | decide) only [e215, s215_0, s215_1, s215_2, s215_5, s215_6, s215_7, s215_10, s215_13, s215_15, s215_16, s215_17, s215_20, s215_23, s215_25, s215_26, s215_27, s215_30, s215_31, s215_32, s215_33, s215_35, s215_36, s215_39, s215_42, s215_43, s215_44, s215_45, s215_46, s215_49, s215_52, s215_53, s215_54, s215_57, s215_59, s215_60, s215_64, s215_65, s215_68, s215_69, s215_71, s215_74, s215_76, s215_78, s215_80, s215_83, s215_85, s215_88, s215_89, s215_90, s215_92, s215_94, s215_97, s215_99, s215_102, s215_105, s215_106, s215_107, s215_110, s215_112, s215_115, s215_116, s215_117, s215_118, s215_121, s215_124, Option.toList_some, Option.toList_none, List.cons_append, List.nil_append, if_true, if_false, eq_self, n1n0, ne10, q]
    · have c0 : ¬ nI D = nI 0 := fun q => h0 ((nI_eq (by omega) (by omega)).mp q)
      have hv : (x = -1 ∧ nI (e (tb e (3 ^ G))) = nI (e (tb e (3 ^ G)))) ∨ ∃ g, g < G ∧ x = nI g ∧ nI (e (tb e (3 ^ G))) = nI (dgC G (tb e (3 ^ G)) g) := Or.inl ⟨hx, rfl⟩
      refine ⟨_, nI (e (tb e (3 ^ G))), ha, ?_, ?_⟩
      · intro X Q hX hQ
        obtain ⟨nx, k, ns, ni, h1, h2, h3, h4, h5, h6, h7, h8⟩ := id hX
        have hnc := fun Q => c_noCoast (X := X) (Q := Q) h1.1 hD
        have k := weightsC (Q := Q) ha.1 hr he2 hv hX hQ
        subst hx
        simp (disch := first | omega | assumption | decide) only [e180, s180_0, s180_1, s180_2, s180_5, s180_6, s180_7, s180_10, s180_11, s180_12, s180_13, s180_16, s180_19, s180_20, s180_21, s180_22, s180_25, s180_26, s180_29, s180_30, s180_33, s180_36, s180_37, s180_38, Option.toList_some, Option.toList_none, List.cons_append, List.nil_append, if_true, if_false, eq_self, n1n0, ne10] at k
        simp (disch := first | omega | assumption | decide) only [e180, s180_0, s180_1, s180_2, s180_5, s180_6, s180_7, s180_10, s180_11, s180_12, s180_13, s180_16, s180_19, s180_20, s180_21, s180_22, s180_25, s180_26, s180_29, s180_30, s180_33, s180_36, s180_37, s180_38, e138, s138_0, s138_1, s138_2, s138_5, s138_6, s138_7, s138_10, s138_13, s138_15, s138_16, s138_17, s138_20, s138_23, s138_25, s138_28, s138_29, Option.toList_some, Option.toList_none, List.cons_append, List.nil_append, if_true, if_false, eq_self, n1n0, ne10, hnc, h0]
        exact k
      · intro X Q hX hQ
        obtain ⟨h1, h2, h3, h4, h5, h6, h7⟩ := id hX
        have k := weightsM (Q := Q) ha.1 hr h29 (by omega) he2 hv hX hQ
        subst hx
        simp (disch := first | omega | assumption | decide) only [e215, s215_0, s215_1, s215_2, s215_5, s215_6, s215_7, s215_10, s215_13, s215_15, s215_16, s215_17, s215_20, s215_23, s215_25, s215_26, s215_27, s215_30, s215_31, s215_32, s215_33, s215_35, s215_36, s215_39, s215_42, s215_43, s215_44, s215_45, s215_46, s215_49, s215_52, s215_53, s215_54, s215_57, s215_59, s215_60, s215_64, s215_65, s215_68, s215_69, s215_71, s215_74, s215_76, s215_78, s215_80, s215_83, s215_85, s215_88, s215_89, s215_90, s215_92, s215_94, s215_97, s215_99, s215_102, s215_105, s215_106, s215_107, s215_110, s215_112, s215_115, s215_116, s215_117, s215_118, s215_121, s215_124, Option.toList_some, Option.toList_none, List.cons_append, List.nil_append, if_true, if_false, eq_self, n1n0, ne10] at k
        simp (disch := first | omega | assumption | decide) only [e215, s215_0, s215_1, s215_2, s215_5, s215_6, s215_7, s215_10, s215_13, s215_15, s215_16, s215_17, s215_20, s215_23, s215_25, s215_26, s215_27, s215_30, s215_31, s215_32, s215_33, s215_35, s215_36, s215_39, s215_42, s215_43, s215_44, s215_45, s215_46, s215_49, s215_52, s215_53, s215_54, s215_57, s215_59, s215_60, s215_64, s215_65, s215_68, s215_69, s215_71, s215_74, s215_76, s215_78, s215_80, s215_83, s215_85, s215_88, s215_89, s215_90, s215_92, s215_94, s215_97, s215_99, s215_102, s215_105, s215_106, s215_107, s215_110, s215_112, s215_115, s215_116, s215_117, s215_118, s215_121, s215_124, Option.toList_some, Option.toList_none, List.cons_append, List.nil_append, if_true, if_false, eq_self, n1n0, ne10, h1.1, c0]
        exact k
  · rcases rngm x G (by omega) with h | ⟨h, hh2⟩ | ⟨j, hj, rfl, n1, n2⟩
    · refine ⟨_, -1000000001, ha, okC_ro ?_, okM_ro ?_⟩
      · rintro X Q ⟨nx, k, ns, ni, h1, -⟩
        simp (disch := first | omega | assumption | decide) only [e180, s180_0, s180_1, s180_2, s180_5, s180_6, s180_7, s180_10, s180_11, s180_12, s180_13, s180_16, s180_19, s180_20, s180_21, s180_22, s180_25, s180_26, s180_29, s180_30, s180_33, s180_36, s180_37, s180_38, e138, s138_0, s138_1, s138_2, s138_5, s138_6, s138_7, s138_10, s138_13, s138_15, s138_16, s138_17, s138_20, s138_23, s138_25, s138_28, s138_29, Option.toList_some, Option.toList_none, List.cons_append, List.nil_append, if_true, if_false, eq_self, n1n0, ne10, hx, c_noGlass x h1.2.1, if_pos h, n1n0, u0]
      · rintro X Q ⟨h1, -⟩
        simp (disch := first | omega | assumption | decide) only [e215, s215_0, s215_1, s215_2, s215_5, s215_6, s215_7, s215_10, s215_13, s215_15, s215_16, s215_17, s215_20, s215_23, s215_25, s215_26, s215_27, s215_30, s215_31, s215_32, s215_33, s215_35, s215_36, s215_39, s215_42, s215_43, s215_44, s215_45, s215_46, s215_49, s215_52, s215_53, s215_54, s215_57, s215_59, s215_60, s215_64, s215_65, s215_68, s215_69, s215_71, s215_74, s215_76, s215_78, s215_80, s215_83, s215_85, s215_88, s215_89, s215_90, s215_92, s215_94, s215_97, s215_99, s215_102, s215_105, s215_106, s215_107, s215_110, s215_112, s215_115, s215_116, s215_117, s215_118, s215_121, s215_124, Option.toList_some, Option.toList_none, List.cons_append, List.nil_append, if_true, if_false, eq_self, n1n0, ne10, hx, c_isGlass x h1.2.1, if_pos h]
    · refine ⟨_, -1000000001, ha, okC_ro ?_, okM_ro ?_⟩
      · rintro X Q ⟨nx, k, ns, ni, h1, -⟩
        simp (disch := first | omega | assumption | decide) only [e180, s180_0, s180_1, s180_2, s180_5, s180_6, s180_7, s180_10, s180_11, s180_12, s180_13, s180_16, s180_19, s180_20, s180_21, s180_22, s180_25, s180_26, s180_29, s180_30, s180_33, s180_36, s180_37, s180_38, e138, s138_0, s138_1, s138_2, s138_5, s138_6, s138_7, s138_10, s138_13, s138_15, s138_16, s138_17, s138_20, s138_23, s138_25, s138_28, s138_29, Option.toList_some, Option.toList_none, List.cons_append, List.nil_append, if_true, if_false, eq_self, n1n0, ne10, hx, c_noGlass x h1.2.1, if_neg h, if_pos hh2, n1n0, u0]
      · rintro X Q ⟨h1, -⟩
        simp (disch := first | omega | assumption | decide) only [e215, s215_0, s215_1, s215_2, s215_5, s215_6, s215_7, s215_10, s215_13, s215_15, s215_16, s215_17, s215_20, s215_23, s215_25, s215_26, s215_27, s215_30, s215_31, s215_32, s215_33, s215_35, s215_36, s215_39, s215_42, s215_43, s215_44, s215_45, s215_46, s215_49, s215_52, s215_53, s215_54, s215_57, s215_59, s215_60, s215_64, s215_65, s215_68, s215_69, s215_71, s215_74, s215_76, s215_78, s215_80, s215_83, s215_85, s215_88, s215_89, s215_90, s215_92, s215_94, s215_97, s215_99, s215_102, s215_105, s215_106, s215_107, s215_110, s215_112, s215_115, s215_116, s215_117, s215_118, s215_121, s215_124, Option.toList_some, Option.toList_none, List.cons_append, List.nil_append, if_true, if_false, eq_self, n1n0, ne10, hx, c_isGlass x h1.2.1, if_neg h, if_pos hh2]
    · have h0 : ¬ D = 0 := fun q => by have := (ha.1.2.2.2.2.2.2.2 q).1; omega
      have c0 : ¬ nI D = nI 0 := fun q => h0 ((nI_eq (by omega) (by omega)).mp q)
      have hv : (nI j = -1 ∧ nI (dgC G (tb e (3 ^ G)) j) = nI (e (tb e (3 ^ G)))) ∨ ∃ g, g < G ∧ nI j = nI g ∧ nI (dgC G (tb e (3 ^ G)) j) = nI (dgC G (tb e (3 ^ G)) g) := Or.inr ⟨j, hj, rfl, rfl⟩
      refine ⟨_, nI (dgC G (tb e (3 ^ G)) j), ha, ?_, ?_⟩
      · intro X Q hX hQ
        obtain ⟨nx, k, ns, ni, h1, h2, h3, h4, h5, h6, h7, h8⟩ := id hX
        have hnc := fun Q => c_noCoast (X := X) (Q := Q) h1.1 hD
        have hng := fun Q => c_noGlass_in (X := X) (Q := Q) h1.2.1 hj (by omega)
        have k := weightsC (Q := Q) ha.1 hr he2 hv hX hQ
        simp (disch := first | omega | assumption | decide) only [e180, s180_0, s180_1, s180_2, s180_5, s180_6, s180_7, s180_10, s180_11, s180_12, s180_13, s180_16, s180_19, s180_20, s180_21, s180_22, s180_25, s180_26, s180_29, s180_30, s180_33, s180_36, s180_37, s180_38, Option.toList_some, Option.toList_none, List.cons_append, List.nil_append, if_true, if_false, eq_self, n1n0, ne10, hx] at k
        simp (disch := first | omega | assumption | decide) only [e180, s180_0, s180_1, s180_2, s180_5, s180_6, s180_7, s180_10, s180_11, s180_12, s180_13, s180_16, s180_19, s180_20, s180_21, s180_22, s180_25, s180_26, s180_29, s180_30, s180_33, s180_36, s180_37, s180_38, e138, s138_0, s138_1, s138_2, s138_5, s138_6, s138_7, s138_10, s138_13, s138_15, s138_16, s138_17, s138_20, s138_23, s138_25, s138_28, s138_29, Option.toList_some, Option.toList_none, List.cons_append, List.nil_append, if_true, if_false, eq_self, n1n0, ne10, hx, hng, hnc, h0]
        exact k
      · intro X Q hX hQ
        obtain ⟨h1, h2, h3, h4, h5, h6, h7⟩ := id hX
        have hig := fun Q => c_isGlass_in (X := X) (Q := Q) h1.2.1 hj (by omega)
        have k := weightsM (Q := Q) ha.1 hr h29 (by omega) he2 hv hX hQ
        simp (disch := first | omega | assumption | decide) only [e215, s215_0, s215_1, s215_2, s215_5, s215_6, s215_7, s215_10, s215_13, s215_15, s215_16, s215_17, s215_20, s215_23, s215_25, s215_26, s215_27, s215_30, s215_31, s215_32, s215_33, s215_35, s215_36, s215_39, s215_42, s215_43, s215_44, s215_45, s215_46, s215_49, s215_52, s215_53, s215_54, s215_57, s215_59, s215_60, s215_64, s215_65, s215_68, s215_69, s215_71, s215_74, s215_76, s215_78, s215_80, s215_83, s215_85, s215_88, s215_89, s215_90, s215_92, s215_94, s215_97, s215_99, s215_102, s215_105, s215_106, s215_107, s215_110, s215_112, s215_115, s215_116, s215_117, s215_118, s215_121, s215_124, Option.toList_some, Option.toList_none, List.cons_append, List.nil_append, if_true, if_false, eq_self, n1n0, ne10, hx] at k
        simp (disch := first | omega | assumption | decide) only [e215, s215_0, s215_1, s215_2, s215_5, s215_6, s215_7, s215_10, s215_13, s215_15, s215_16, s215_17, s215_20, s215_23, s215_25, s215_26, s215_27, s215_30, s215_31, s215_32, s215_33, s215_35, s215_36, s215_39, s215_42, s215_43, s215_44, s215_45, s215_46, s215_49, s215_52, s215_53, s215_54, s215_57, s215_59, s215_60, s215_64, s215_65, s215_68, s215_69, s215_71, s215_74, s215_76, s215_78, s215_80, s215_83, s215_85, s215_88, s215_89, s215_90, s215_92, s215_94, s215_97, s215_99, s215_102, s215_105, s215_106, s215_107, s215_110, s215_112, s215_115, s215_116, s215_117, s215_118, s215_121, s215_124, Option.toList_some, Option.toList_none, List.cons_append, List.nil_append, if_true, if_false, eq_self, n1n0, ne10, hx, hig, h1.1, c0]
        exact k
