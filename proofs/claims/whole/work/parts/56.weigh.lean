/-! bestWeights: the class's side -/
def teF (E : Nat → Nat) (en : Nat) : Nat → Nat → Nat
  | 0, k => E k
  | s + 1, k => if E k < en then teF E en s (k + 1) else E k
theorem te_ok {E : Nat → Nat} {en m : Nat} (hE : ∀ k, E k ≤ E (k + 1)) : ∀ s k, k + s = m → (E m < en → teF E en s k = E m) ∧ (¬ E m < en → ¬ teF E en s k < en) ∧ teF E en s k ≤ E m
  | 0, k, h => by
    have q : k = m := by omega
    subst q
    exact ⟨fun _ => rfl, fun h => h, Nat.le_refl _⟩
  | s + 1, k, h => by
    obtain ⟨i1, i2, i3⟩ := te_ok (m := m) (en := en) hE s (k + 1) (by omega)
    have hmono : ∀ d, E k ≤ E (k + d) := fun d => by
      induction d with
      | zero => exact Nat.le_refl _
      | succ d ih => exact Nat.le_trans ih (hE (k + d))
    have hk := hmono (s + 1)
    rw [h] at hk
    unfold teF
    by_cases c : E k < en
    · rw [if_pos c]; exact ⟨i1, i2, i3⟩
    · rw [if_neg c]; exact ⟨fun q => by omega, fun _ => c, hk⟩
theorem tb_stop {e : Nat → Nat} {i : Nat} (hi : 0 < i) (h : e (tb e i) = 0) : ∀ n, i ≤ n → tb e n = tb e i := by
  intro n
  induction n with
  | zero => intro hn; omega
  | succ n ih =>
    intro hn
    by_cases c : i = n + 1
    · rw [c]
    · have k := ih (by omega)
      show (if n = 0 ∨ e n < e (tb e n) then n else tb e n) = _
      rw [k, h, if_neg (by omega)]
section WH
variable {D G B C : Nat} {W lim bear : Nat → Nat} {X : zM} {R : Nat → Nat} {nx x : Nat} {Q : Option Value → zM → Prop}
def ewN (D G : Nat) (W R dg : Nat → Nat) (n : Nat) : Nat := smN (fun k => adN (telN (sgN D W R G dg k) (smN dg G)) (wA D W R k)) n
theorem ew_tel (dg : Nat → Nat) (k : Nat) : telN (sgN D W R G dg k) (smN dg G) ≤ 9 := tel_le (f := dg) (r := fun g => rN D W R g k) (fun g _ => rN_le R g k)
theorem ewN_le (hW : ∀ k, W k ≤ 9) (dg : Nat → Nat) (n : Nat) : ewN D G W R dg n ≤ n * 9 := smN_le (fun k _ => adN_le (ew_tel dg k) (wA_le hW k))
theorem ewN_mono (dg : Nat → Nat) (k : Nat) : ewN D G W R dg k ≤ ewN D G W R dg (k + 1) := Nat.le_add_right _ _
theorem tried_loop {en : Nat} {dg : Nat → Nat} {Y : zM} (ho : okP D G B C W lim bear) (hd : ∀ g, g < G → dg g ≤ 2) (hY : wgC D G W R dg X Y) (hen : en ≤ 1000000) : ∀ n k : Nat, k + n = 12 → zev 72 4 [.ref 19, .int (nI en), .int (nI (ewN D G W R dg k)), .int (nI k)] [] Y Q = Q (some (.int (nI (teF (ewN D G W R dg) en n k)))) Y := by
  have hG := ho.2.1
  intro n
  induction n with
  | zero =>
    intro k hk
    have q : k = 12 := by omega
    subst q
    rw [s72_4]
    simp (disch := first | omega | assumption | decide) only [e72, s72_0, s72_1, s72_2, s72_3, s72_5, s72_7, s72_10, s72_11, s72_12, s72_15, s72_16, s72_17, s72_20, s72_21, s72_22, s72_23, s72_26, s72_29, s72_30, s72_33, s72_34, s72_35, s72_36, s72_39, s72_40, s72_41, s72_44, s72_47, s72_48, Option.toList_some, Option.toList_none, List.cons_append, List.nil_append, if_true, if_false, eq_self, n1n0, ne10, nI_ltI, Nat.lt_irrefl]
    rfl
  | succ n ih =>
    intro k hk
    have hlt : k < 12 := by omega
    have hl := ewN_le (D := D) (G := G) (R := R) ho.2.2.2.2.1 dg k
    obtain ⟨f1, f2⟩ := hY.2.2.2.2.1 k hlt
    have f3 := hY.2.2.1
    have hsl := sg_le (D := D) (W := W) (R := R) (k := k) hG hd
    have htl : smN dg G ≤ G * 2 := smN_le hd
    have htel : (if nI 0 < nI (smN dg G) then nI (sgN D W R G dg k) / nI (smN dg G) else nI 5) = nI (telN (sgN D W R G dg k) (smN dg G)) := tl_nI (by omega) (by omega)
    have ht9 := ew_tel (D := D) (G := G) (W := W) (R := R) dg k
    have hw9 := wA_le (D := D) (R := R) ho.2.2.2.2.1 k
    have had := ad_C (telN (sgN D W R G dg k) (smN dg G)) (by omega) (wA D W R k) (by omega)
    rw [s72_4]
    show _ = Q (some (.int (nI (if ewN D G W R dg k < en then teF (ewN D G W R dg) en n (k + 1) else ewN D G W R dg k)))) Y
    by_cases c : ewN D G W R dg k < en
    · rw [if_pos c]
      refine Eq.trans ?_ (ih (k + 1) (by omega))
      have hct : ∀ X Q, zcl 23 [.int (nI (sgN D W R G dg k)), .int (nI (smN dg G))] X Q = Q (some (.int (nI (telN (sgN D W R G dg k) (smN dg G))))) X := fun X Q => by rw [c_tellingOf, htel]
      simp (disch := first | omega | assumption | decide) only [e72, s72_0, s72_1, s72_2, s72_3, s72_5, s72_7, s72_10, s72_11, s72_12, s72_15, s72_16, s72_17, s72_20, s72_21, s72_22, s72_23, s72_26, s72_29, s72_30, s72_33, s72_34, s72_35, s72_36, s72_39, s72_40, s72_41, s72_44, s72_47, s72_48, Option.toList_some, Option.toList_none, List.cons_append, List.nil_append, if_true, if_false, eq_self, n1n0, ne10, nI_ltI, hlt, c, f1, f2, f3, hct, had, nI_add]
      rfl
    · rw [if_neg c]
      simp (disch := first | omega | assumption | decide) only [e72, s72_0, s72_1, s72_2, s72_3, s72_5, s72_7, s72_10, s72_11, s72_12, s72_15, s72_16, s72_17, s72_20, s72_21, s72_22, s72_23, s72_26, s72_29, s72_30, s72_33, s72_34, s72_35, s72_36, s72_39, s72_40, s72_41, s72_44, s72_47, s72_48, Option.toList_some, Option.toList_none, List.cons_append, List.nil_append, if_true, if_false, eq_self, n1n0, ne10, nI_ltI, hlt, c]
/-- what is set up before weighings are tried -/
def stW (D G : Nat) (W R : Nat → Nat) (a i g : Nat) (X Y : zM) : Prop := (∀ c, (c < 19 ∨ 24 < c) → Y c = X c) ∧ (∀ j, j ≠ 8 → Y 19 j = X 19 j) ∧ Y 19 8 = nI 0 ∧ (∀ g, g < G → Y 23 g = nI 0) ∧ (∀ k, k < 12 → Y 22 k = nI 0) ∧ (∀ k, k < a → Y 21 k = nI (wA D W R k)) ∧ ∀ g', g' < G → ∀ k, k < 12 → (k < i ∨ (k = i ∧ g' < g)) → Y 20 (g' * 12 + k) = nI (rN D W R g' k)
theorem stW_P {a i g : Nat} {Y : zM} (h : stW D G W R a i g X Y) (hc : cP D G B C W lim bear X) (hs : cS G B X 57 R nx) : cP D G B C W lim bear Y ∧ cS G B Y 57 R nx :=
  ⟨cP_of hc (h.1 9 (by omega)) (h.1 10 (by omega)) (h.1 13 (by omega)) (h.1 14 (by omega)), cS_fr hs (fun c _ _ => h.1 c (by omega))⟩
theorem startW_in {i : Nat} (ho : okP D G B C W lim bear) (hc : cP D G B C W lim bear X) (hs : cS G B X 57 R nx) (hr : okR B R) (hi : i < 12) (hQ : ∀ Y l2, stW D G W R (i + 1) (i + 1) 0 X Y → zev 120 23 [.ref 19, .int (nI (i + 1)), l2] [] Y Q) : ∀ (n g : Nat) (Y : zM), g + n = G → stW D G W R (i + 1) i g X Y → zev 120 47 [.ref 19, .int (nI i), .int (nI g)] [] Y Q := by
  have hG := ho.2.1
  intro n
  induction n with
  | zero =>
    intro g Y hg hY
    have q : g = G := by omega
    subst q
    obtain ⟨p1, p2⟩ := stW_P hY hc hs
    rw [s120_47]
    simp (disch := first | omega | assumption | decide) only [e120, s120_0, s120_1, s120_4, s120_5, s120_8, s120_9, s120_12, s120_13, s120_16, s120_17, s120_18, s120_21, s120_22, s120_24, s120_26, s120_29, s120_30, s120_33, s120_34, s120_35, s120_38, s120_39, s120_40, s120_41, s120_44, s120_45, s120_46, s120_48, s120_49, s120_52, s120_55, s120_58, s120_59, s120_62, s120_63, s120_65, s120_66, s120_67, s120_68, s120_69, s120_72, s120_73, s120_74, s120_77, s120_78, s120_81, s120_84, s120_87, s120_90, Option.toList_some, Option.toList_none, List.cons_append, List.nil_append, if_true, if_false, eq_self, n1n0, ne10, p1.2.1, nI_ltI, Nat.lt_irrefl, nI_add]
    obtain ⟨h1, h2, h3, h4, h5, h6, h7⟩ := hY
    exact hQ Y _ ⟨h1, h2, h3, h4, h5, h6, fun g' hg' k hk hh => h7 g' hg' k hk (by omega)⟩
  | succ n ih =>
    intro g Y hg hY
    have hlt : g < G := by omega
    obtain ⟨p1, p2⟩ := stW_P hY hc hs
    have hrd := fun Q => cc_reading (X := Y) (Q := Q) (g := g) (n := i) ho p1 p2 hr hlt (by omega)
    obtain ⟨h1, h2, h3, h4, h5, h6, h7⟩ := hY
    rw [s120_47]
    simp (disch := first | omega | assumption | decide) only [e120, s120_0, s120_1, s120_4, s120_5, s120_8, s120_9, s120_12, s120_13, s120_16, s120_17, s120_18, s120_21, s120_22, s120_24, s120_26, s120_29, s120_30, s120_33, s120_34, s120_35, s120_38, s120_39, s120_40, s120_41, s120_44, s120_45, s120_46, s120_48, s120_49, s120_52, s120_55, s120_58, s120_59, s120_62, s120_63, s120_65, s120_66, s120_67, s120_68, s120_69, s120_72, s120_73, s120_74, s120_77, s120_78, s120_81, s120_84, s120_87, s120_90, Option.toList_some, Option.toList_none, List.cons_append, List.nil_append, if_true, if_false, eq_self, n1n0, ne10, p1.2.1, nI_ltI, hlt, pk_mul, nI_add, hrd]
    refine ih (g + 1) _ (by omega) ⟨fun c hc => ?_, fun j hj => ?_, ?_, fun g' hg' => ?_, fun k hk => ?_, fun k hk => ?_, fun g' hg' k hk hh => ?_⟩
    · rw [zst_ne _ _ (by omega)]; exact h1 c hc
    · rw [zst_ne _ _ (by omega)]; exact h2 j hj
    · rw [zst_ne _ _ (by omega)]; exact h3
    · rw [zst_ne _ _ (by omega)]; exact h4 g' hg'
    · rw [zst_ne _ _ (by omega)]; exact h5 k hk
    · rw [zst_ne _ _ (by omega)]; exact h6 k hk
    · rw [zst_at]
      by_cases c : g' * 12 + k = g * 12 + i
      · have c1 : g' = g := by omega
        have c2 : k = i := by omega
        rw [c, upd_at, c1, c2]
      · rw [upd_ne _ _ c]
        exact h7 g' hg' k hk (by omega)
theorem startW_out (ho : okP D G B C W lim bear) (hc : cP D G B C W lim bear X) (hs : cS G B X 57 R nx) (hr : okR B R) (hQ : ∀ Y, stW D G W R 12 12 0 X Y → Q none Y) : ∀ (n i : Nat) (Y : zM) (l2 : Value), i + n = 12 → stW D G W R i i 0 X Y → zev 120 23 [.ref 19, .int (nI i), l2] [] Y Q := by
  intro n
  induction n with
  | zero =>
    intro i Y l2 hi hY
    have q : i = 12 := by omega
    subst q
    rw [s120_23]
    simp (disch := first | omega | assumption | decide) only [e120, s120_0, s120_1, s120_4, s120_5, s120_8, s120_9, s120_12, s120_13, s120_16, s120_17, s120_18, s120_21, s120_22, s120_24, s120_26, s120_29, s120_30, s120_33, s120_34, s120_35, s120_38, s120_39, s120_40, s120_41, s120_44, s120_45, s120_46, s120_48, s120_49, s120_52, s120_55, s120_58, s120_59, s120_62, s120_63, s120_65, s120_66, s120_67, s120_68, s120_69, s120_72, s120_73, s120_74, s120_77, s120_78, s120_81, s120_84, s120_87, s120_90, Option.toList_some, Option.toList_none, List.cons_append, List.nil_append, if_true, if_false, eq_self, n1n0, ne10, nI_ltI, Nat.lt_irrefl]
    exact hQ Y hY
  | succ n ih =>
    intro i Y l2 hi hY
    have hlt : i < 12 := by omega
    obtain ⟨p1, p2⟩ := stW_P hY hc hs
    have hwe := fun Q => cc_weatherAhead (X := Y) (Q := Q) (n := i + 1) ho p1 p2 hr (by omega)
    obtain ⟨h1, h2, h3, h4, h5, h6, h7⟩ := hY
    rw [s120_23]
    simp (disch := first | omega | assumption | decide) only [e120, s120_0, s120_1, s120_4, s120_5, s120_8, s120_9, s120_12, s120_13, s120_16, s120_17, s120_18, s120_21, s120_22, s120_24, s120_26, s120_29, s120_30, s120_33, s120_34, s120_35, s120_38, s120_39, s120_40, s120_41, s120_44, s120_45, s120_46, s120_48, s120_49, s120_52, s120_55, s120_58, s120_59, s120_62, s120_63, s120_65, s120_66, s120_67, s120_68, s120_69, s120_72, s120_73, s120_74, s120_77, s120_78, s120_81, s120_84, s120_87, s120_90, Option.toList_some, Option.toList_none, List.cons_append, List.nil_append, if_true, if_false, eq_self, n1n0, ne10, nI_ltI, hlt, nI_add, hwe]
    refine startW_in ho hc hs hr hlt (fun Z l2 hZ => ih (i + 1) Z l2 (by omega) hZ) G 0 _ (by omega) ⟨fun c hc => ?_, fun j hj => ?_, ?_, fun g' hg' => ?_, fun k hk => ?_, fun k hk => ?_, fun g' hg' k hk hh => ?_⟩
    · rw [zst_ne _ _ (by omega)]; exact h1 c hc
    · rw [zst_ne _ _ (by omega)]; exact h2 j hj
    · rw [zst_ne _ _ (by omega)]; exact h3
    · rw [zst_ne _ _ (by omega)]; exact h4 g' hg'
    · rw [zst_ne _ _ (by omega)]; exact h5 k hk
    · rw [zst_at]
      by_cases c : k = i
      · rw [c, upd_at]; rfl
      · rw [upd_ne _ _ c]; exact h6 k (by omega)
    · rw [zst_ne _ _ (by omega)]; exact h7 g' hg' k hk (by omega)
theorem sm_0 : ∀ n, smN (fun _ => 0) n = 0
  | 0 => rfl
  | n + 1 => by show smN _ n + 0 = 0; rw [sm_0 n]
theorem c_startW (ho : okP D G B C W lim bear) (hc : cP D G B C W lim bear X) (hs : cS G B X 57 R nx) (hr : okR B R) (hQ : ∀ Y, wgC D G W R (dgC G 0) X Y → Q none Y) : zcl 120 [.ref 19] X Q := by
  have hG := ho.2.1
  simp (disch := first | omega | assumption | decide) only [e120, s120_0, s120_1, s120_4, s120_5, s120_8, s120_9, s120_12, s120_13, s120_16, s120_17, s120_18, s120_21, s120_22, s120_24, s120_26, s120_29, s120_30, s120_33, s120_34, s120_35, s120_38, s120_39, s120_40, s120_41, s120_44, s120_45, s120_46, s120_48, s120_49, s120_52, s120_55, s120_58, s120_59, s120_62, s120_63, s120_65, s120_66, s120_67, s120_68, s120_69, s120_72, s120_73, s120_74, s120_77, s120_78, s120_81, s120_84, s120_87, s120_90, Option.toList_some, Option.toList_none, List.cons_append, List.nil_append, if_true, if_false, eq_self, n1n0, ne10]
  refine c_fill (i := 23) (m := 7) rfl (by decide) (fun p hp => ?_)
  simp (disch := first | omega | assumption | decide) only [e120, s120_0, s120_1, s120_4, s120_5, s120_8, s120_9, s120_12, s120_13, s120_16, s120_17, s120_18, s120_21, s120_22, s120_24, s120_26, s120_29, s120_30, s120_33, s120_34, s120_35, s120_38, s120_39, s120_40, s120_41, s120_44, s120_45, s120_46, s120_48, s120_49, s120_52, s120_55, s120_58, s120_59, s120_62, s120_63, s120_65, s120_66, s120_67, s120_68, s120_69, s120_72, s120_73, s120_74, s120_77, s120_78, s120_81, s120_84, s120_87, s120_90, Option.toList_some, Option.toList_none, List.cons_append, List.nil_append, if_true, if_false, eq_self, n1n0, ne10]
  refine c_fill (i := 22) (m := 12) rfl (by decide) (fun p2 hp2 => ?_)
  simp (disch := first | omega | assumption | decide) only [e120, s120_0, s120_1, s120_4, s120_5, s120_8, s120_9, s120_12, s120_13, s120_16, s120_17, s120_18, s120_21, s120_22, s120_24, s120_26, s120_29, s120_30, s120_33, s120_34, s120_35, s120_38, s120_39, s120_40, s120_41, s120_44, s120_45, s120_46, s120_48, s120_49, s120_52, s120_55, s120_58, s120_59, s120_62, s120_63, s120_65, s120_66, s120_67, s120_68, s120_69, s120_72, s120_73, s120_74, s120_77, s120_78, s120_81, s120_84, s120_87, s120_90, Option.toList_some, Option.toList_none, List.cons_append, List.nil_append, if_true, if_false, eq_self, n1n0, ne10]
  refine startW_out ho hc hs hr (fun Y hY => ?_) 12 0 _ _ (by omega) ⟨fun c hc => ?_, fun j hj => ?_, ?_, fun g' hg' => ?_, fun k hk => ?_, fun k hk => absurd hk (by omega), fun g' hg' k hk hh => absurd hh (by omega)⟩
  · obtain ⟨h1, h2, h3, h4, h5, h6, h7⟩ := hY
    have z0 : ∀ g, dgC G 0 g = 0 := fun g => by unfold dgC; rw [Nat.zero_div, Nat.zero_mod]
    have z1 : dgC G 0 = fun _ => 0 := funext z0
    refine hQ Y ⟨h1, h2, ?_, fun g hg => ?_, fun k hk => ⟨?_, h6 k hk⟩, fun g hg k hk => h7 g hg k hk (by omega)⟩
    · rw [z1, sm_0]; exact h3
    · rw [z0]; exact h4 g hg
    · unfold sgN
      rw [show (fun g => dgC G 0 g * rN D W R g k) = fun _ => 0 from funext (fun g => by rw [z0, Nat.zero_mul]), sm_0]
      exact h5 k hk
  · rw [zst_ne _ _ (by omega), zst_ne _ _ (by omega), zst_ne _ _ (by omega)]
  · rw [zst_at, upd_ne _ _ hj, zst_ne _ _ (by omega), zst_ne _ _ (by omega)]
  · rw [zst_at, upd_at]
  · rw [zst_ne _ _ (by omega), zst_ne _ _ (by omega), zst_at]; exact hp g' (by omega)
  · rw [zst_ne _ _ (by omega), zst_at]; exact hp2 k hk
theorem c_tried {en : Nat} {dg : Nat → Nat} {Y : zM} (ho : okP D G B C W lim bear) (hd : ∀ g, g < G → dg g ≤ 2) (hY : wgC D G W R dg X Y) (hen : en ≤ 1000000) : zcl 72 [.ref 19, .int (nI en)] Y Q = Q (some (.int (nI (teF (ewN D G W R dg) en 12 0)))) Y := by
  refine Eq.trans ?_ (tried_loop ho hd hY hen 12 0 (by omega))
  simp (disch := first | omega | assumption | decide) only [e72, s72_0, s72_1, s72_2, s72_3, s72_5, s72_7, s72_10, s72_11, s72_12, s72_15, s72_16, s72_17, s72_20, s72_21, s72_22, s72_23, s72_26, s72_29, s72_30, s72_33, s72_34, s72_35, s72_36, s72_39, s72_40, s72_41, s72_44, s72_47, s72_48, Option.toList_some, Option.toList_none, List.cons_append, List.nil_append, if_true, if_false, eq_self, n1n0, ne10]
  rfl
theorem weigh_step {e : Nat → Nat} {i : Nat} {Y : zM} {l4 : Value} (ho : okP D G B C W lim bear) (hc1 : X 9 1 = nI G) (he : ∀ i, e i = ewN D G W R (dgC G i) 12) (hQ : ∀ Z, (∀ c, (c < 19 ∨ 24 < c) → Z c = X c) → (∀ j, j ≠ 8 → Z 19 j = X 19 j) → (∀ g, g < G → Z 24 g = nI (dgC G (tb e (3 ^ G)) g)) → Q (some (.int (nI (lsN 1000000 e (3 ^ G))))) Z) (hi : i < 3 ^ G) (hY : wgC D G W R (dgC G i) X Y) (hb : 0 < i → ∀ g, g < G → Y 24 g = nI (dgC G (tb e i) g)) (hN : i + 1 < 3 ^ G → ∀ (Z : zM) (l4 : Value), wgC D G W R (dgC G (i + 1)) X Z → (∀ g, g < G → Z 24 g = nI (dgC G (tb e (i + 1)) g)) → zev 157 11 [.ref 19, .int (nI (lsN 1000000 e (i + 1))), .int (nI 1), .int (nI (i + 1)), l4] [] Z Q) : zev 157 11 [.ref 19, .int (nI (lsN 1000000 e i)), .int (nI 1), .int (nI i), l4] [] Y Q := by
  have hG := ho.2.1
  have h37 : 3 ^ G ≤ 2187 := Nat.pow_le_pow_right (n := 3) (by decide) (show G ≤ 7 from hG)
  have he8 : ∀ i, e i ≤ 108 := fun i => by rw [he]; exact ewN_le ho.2.2.2.2.1 _ 12
  have hlt : i < 2187 := by omega
  have hl := lsN_le (F := 1000000) (n := i) (e := e) (fun i => by have := he8 i; omega)
  by_cases c0 : lsN 1000000 e i = 0
  · have i0 : 0 < i := by
      rcases Nat.eq_zero_or_pos i with q | q
      · rw [q] at c0
        have c1 : (1000000 : Nat) = 0 := c0
        omega
      · exact q
    have et : e (tb e i) = 0 := by have := c0; unfold lsN at this; rwa [if_neg (by omega)] at this
    have hst := tb_stop i0 et (3 ^ G) (by omega)
    have hQ2 := hQ Y hY.1 hY.2.1 (by rw [hst]; exact hb i0)
    have e2 : lsN 1000000 e (3 ^ G) = 0 := by unfold lsN; rw [if_neg (by omega), hst, et]
    rw [e2] at hQ2
    rw [c0, s157_11]
    simp (disch := first | omega | assumption | decide) only [e157, s157_0, s157_1, s157_4, s157_6, s157_7, s157_8, s157_9, s157_10, s157_12, s157_15, s157_18, s157_19, s157_22, s157_23, s157_26, s157_27, s157_28, s157_31, s157_33, s157_35, s157_36, s157_39, s157_41, s157_42, s157_43, s157_46, s157_47, s157_48, s157_51, s157_52, s157_54, s157_57, s157_58, s157_61, s157_62, s157_65, s157_68, s157_69, Option.toList_some, Option.toList_none, List.cons_append, List.nil_append, if_true, if_false, eq_self, n1n0, ne10, nI_ltI, hlt, Nat.lt_irrefl]
    exact hQ2
  · have cp : 0 < lsN 1000000 e i := by omega
    have hd2 : ∀ g, g < G → dgC G i g ≤ 2 := fun g _ => by
      have : dgC G i g < 3 := Nat.mod_lt _ (by decide)
      omega
    have htr := fun Q => c_tried (Q := Q) (en := lsN 1000000 e i) ho hd2 hY hl
    obtain ⟨t1, t2, t3⟩ := te_ok (en := lsN 1000000 e i) (m := 12) (E := ewN D G W R (dgC G i)) (ewN_mono (dgC G i)) 12 0 (by omega)
    rw [← he i] at t1 t2 t3
    have hei := he8 i
    generalize hr : teF (ewN D G W R (dgC G i)) (lsN 1000000 e i) 12 0 = r at t1 t2 t3 htr
    -- what is left once the weighing has been held against the best
    have rest : ∀ (V : zM) (l4 : Value), wgC D G W R (dgC G i) X V → (∀ g, g < G → V 24 g = nI (dgC G (tb e (i + 1)) g)) → zev 157 57 [.ref 19, .int (nI (lsN 1000000 e (i + 1))), .int (nI 1), .int (nI i), l4] [] V Q := by
      intro V l4 hV h24
      have hl2 := lsN_le (F := 1000000) (n := i + 1) (e := e) (fun i => by have := he8 i; omega)
      simp (disch := first | omega | assumption | decide) only [e157, s157_0, s157_1, s157_4, s157_6, s157_7, s157_8, s157_9, s157_10, s157_12, s157_15, s157_18, s157_19, s157_22, s157_23, s157_26, s157_27, s157_28, s157_31, s157_33, s157_35, s157_36, s157_39, s157_41, s157_42, s157_43, s157_46, s157_47, s157_48, s157_51, s157_52, s157_54, s157_57, s157_58, s157_61, s157_62, s157_65, s157_68, s157_69, Option.toList_some, Option.toList_none, List.cons_append, List.nil_append, if_true, if_false, eq_self, n1n0, ne10]
      refine c_next hG hc1 hi hV (fun q Z hZ z24 => ?_) (fun q Z dg hZ z24 => ?_)
      · simp (disch := first | omega | assumption | decide) only [e157, s157_0, s157_1, s157_4, s157_6, s157_7, s157_8, s157_9, s157_10, s157_12, s157_15, s157_18, s157_19, s157_22, s157_23, s157_26, s157_27, s157_28, s157_31, s157_33, s157_35, s157_36, s157_39, s157_41, s157_42, s157_43, s157_46, s157_47, s157_48, s157_51, s157_52, s157_54, s157_57, s157_58, s157_61, s157_62, s157_65, s157_68, s157_69, Option.toList_some, Option.toList_none, List.cons_append, List.nil_append, if_true, if_false, eq_self, n1n0, ne10, nI_add]
        exact hN q Z l4 hZ (fun g hg => by rw [z24]; exact h24 g hg)
      · have hQ2 := hQ Z hZ.1 hZ.2.1 (fun g hg => by rw [z24, ← q]; exact h24 g hg)
        rw [← q] at hQ2
        simp (disch := first | omega | assumption | decide) only [e157, s157_0, s157_1, s157_4, s157_6, s157_7, s157_8, s157_9, s157_10, s157_12, s157_15, s157_18, s157_19, s157_22, s157_23, s157_26, s157_27, s157_28, s157_31, s157_33, s157_35, s157_36, s157_39, s157_41, s157_42, s157_43, s157_46, s157_47, s157_48, s157_51, s157_52, s157_54, s157_57, s157_58, s157_61, s157_62, s157_65, s157_68, s157_69, Option.toList_some, Option.toList_none, List.cons_append, List.nil_append, if_true, if_false, eq_self, n1n0, ne10, nI_add]
        rw [s157_11]
        by_cases c5 : i + 1 < 2187
        · simp (disch := first | omega | assumption | decide) only [e157, s157_0, s157_1, s157_4, s157_6, s157_7, s157_8, s157_9, s157_10, s157_12, s157_15, s157_18, s157_19, s157_22, s157_23, s157_26, s157_27, s157_28, s157_31, s157_33, s157_35, s157_36, s157_39, s157_41, s157_42, s157_43, s157_46, s157_47, s157_48, s157_51, s157_52, s157_54, s157_57, s157_58, s157_61, s157_62, s157_65, s157_68, s157_69, Option.toList_some, Option.toList_none, List.cons_append, List.nil_append, if_true, if_false, eq_self, n1n0, ne10, nI_ltI, c5]
          exact hQ2
        · simp (disch := first | omega | assumption | decide) only [e157, s157_0, s157_1, s157_4, s157_6, s157_7, s157_8, s157_9, s157_10, s157_12, s157_15, s157_18, s157_19, s157_22, s157_23, s157_26, s157_27, s157_28, s157_31, s157_33, s157_35, s157_36, s157_39, s157_41, s157_42, s157_43, s157_46, s157_47, s157_48, s157_51, s157_52, s157_54, s157_57, s157_58, s157_61, s157_62, s157_65, s157_68, s157_69, Option.toList_some, Option.toList_none, List.cons_append, List.nil_append, if_true, if_false, eq_self, n1n0, ne10, nI_ltI, c5]
          exact hQ2
    rw [s157_11]
    by_cases c : e i < lsN 1000000 e i
    · obtain ⟨b1, b2⟩ := bsI_y (F := 1000000) (e := e) (n := i) (by omega) c
      have htb : tb e (i + 1) = i := if_pos ((tb_step (F := 1000000) (by omega)).mp c)
      have t1' := t1 c
      subst t1'
      rw [b2, htb] at rest
      have k := rest (zst Y 24 (va_cpy (Y 23) (Y 24) 0 0 7)) (.int (nI (e i))) (by
        obtain ⟨h1, h2, h3, h4, h5, h6⟩ := hY
        refine ⟨fun c hc => ?_, fun j hj => ?_, ?_, fun g hg => ?_, fun k hk => ⟨?_, ?_⟩, fun g hg k hk => ?_⟩
        · rw [zst_ne _ _ (by omega)]; exact h1 c hc
        · rw [zst_ne _ _ (by omega)]; exact h2 j hj
        · rw [zst_ne _ _ (by omega)]; exact h3
        · rw [zst_ne _ _ (by omega)]; exact h4 g hg
        · rw [zst_ne _ _ (by omega)]; exact (h5 k hk).1
        · rw [zst_ne _ _ (by omega)]; exact (h5 k hk).2
        · rw [zst_ne _ _ (by omega)]; exact h6 g hg k hk) (fun g hg => by rw [zst_at, cpy0 (by omega)]; exact hY.2.2.2.1 g hg)
      simp (disch := first | omega | assumption | decide) only [e157, s157_0, s157_1, s157_4, s157_6, s157_7, s157_8, s157_9, s157_10, s157_12, s157_15, s157_18, s157_19, s157_22, s157_23, s157_26, s157_27, s157_28, s157_31, s157_33, s157_35, s157_36, s157_39, s157_41, s157_42, s157_43, s157_46, s157_47, s157_48, s157_51, s157_52, s157_54, s157_57, s157_58, s157_61, s157_62, s157_65, s157_68, s157_69, Option.toList_some, Option.toList_none, List.cons_append, List.nil_append, if_true, if_false, eq_self, n1n0, ne10] at k
      simp (disch := first | omega | assumption | decide) only [e157, s157_0, s157_1, s157_4, s157_6, s157_7, s157_8, s157_9, s157_10, s157_12, s157_15, s157_18, s157_19, s157_22, s157_23, s157_26, s157_27, s157_28, s157_31, s157_33, s157_35, s157_36, s157_39, s157_41, s157_42, s157_43, s157_46, s157_47, s157_48, s157_51, s157_52, s157_54, s157_57, s157_58, s157_61, s157_62, s157_65, s157_68, s157_69, Option.toList_some, Option.toList_none, List.cons_append, List.nil_append, if_true, if_false, eq_self, n1n0, ne10, nI_ltI, hlt, cp, htr, c]
      exact k
    · obtain ⟨b1, b2⟩ := bsI_n (F := 1000000) (e := e) (n := i) (by omega) c
      have ht0 := t2 c
      have c2 := fun q => c ((tb_step (F := 1000000) (n := i) (e := e) (by omega)).mpr q)
      have htb : tb e (i + 1) = tb e i := if_neg c2
      have i0 : 0 < i := by
        rcases Nat.eq_zero_or_pos i with q | q
        · exact absurd (Or.inl q) c2
        · exact q
      rw [b2, htb] at rest
      have k := rest Y (.int (nI r)) hY (hb i0)
      simp (disch := first | omega | assumption | decide) only [e157, s157_0, s157_1, s157_4, s157_6, s157_7, s157_8, s157_9, s157_10, s157_12, s157_15, s157_18, s157_19, s157_22, s157_23, s157_26, s157_27, s157_28, s157_31, s157_33, s157_35, s157_36, s157_39, s157_41, s157_42, s157_43, s157_46, s157_47, s157_48, s157_51, s157_52, s157_54, s157_57, s157_58, s157_61, s157_62, s157_65, s157_68, s157_69, Option.toList_some, Option.toList_none, List.cons_append, List.nil_append, if_true, if_false, eq_self, n1n0, ne10] at k
      simp (disch := first | omega | assumption | decide) only [e157, s157_0, s157_1, s157_4, s157_6, s157_7, s157_8, s157_9, s157_10, s157_12, s157_15, s157_18, s157_19, s157_22, s157_23, s157_26, s157_27, s157_28, s157_31, s157_33, s157_35, s157_36, s157_39, s157_41, s157_42, s157_43, s157_46, s157_47, s157_48, s157_51, s157_52, s157_54, s157_57, s157_58, s157_61, s157_62, s157_65, s157_68, s157_69, Option.toList_some, Option.toList_none, List.cons_append, List.nil_append, if_true, if_false, eq_self, n1n0, ne10, nI_ltI, hlt, cp, htr, ht0]
      exact k
theorem weigh_loop {e : Nat → Nat} (ho : okP D G B C W lim bear) (hc1 : X 9 1 = nI G) (he : ∀ i, e i = ewN D G W R (dgC G i) 12) (hQ : ∀ Z, (∀ c, (c < 19 ∨ 24 < c) → Z c = X c) → (∀ j, j ≠ 8 → Z 19 j = X 19 j) → (∀ g, g < G → Z 24 g = nI (dgC G (tb e (3 ^ G)) g)) → Q (some (.int (nI (lsN 1000000 e (3 ^ G))))) Z) : ∀ (n i : Nat) (Y : zM) (l4 : Value), i + (n + 1) = 3 ^ G → wgC D G W R (dgC G i) X Y → (0 < i → ∀ g, g < G → Y 24 g = nI (dgC G (tb e i) g)) → zev 157 11 [.ref 19, .int (nI (lsN 1000000 e i)), .int (nI 1), .int (nI i), l4] [] Y Q := by
  intro n
  induction n with
  | zero =>
    intro i Y l4 hi hY hb
    exact weigh_step ho hc1 he hQ (by omega) hY hb (fun q => absurd q (by omega))
  | succ n ih =>
    intro i Y l4 hi hY hb
    exact weigh_step ho hc1 he hQ (by omega) hY hb (fun _ Z l4 hZ hz => ih (i + 1) Z l4 (by omega) hZ (fun _ => hz))
theorem c_weigh {e : Nat → Nat} (ho : okP D G B C W lim bear) (hc : cP D G B C W lim bear X) (hs : cS G B X 57 R nx) (hr : okR B R) (he : ∀ i, e i = ewN D G W R (dgC G i) 12) (hQ : ∀ Z, (∀ c, (c < 19 ∨ 24 < c) → Z c = X c) → (∀ j, j ≠ 8 → Z 19 j = X 19 j) → (∀ g, g < G → Z 24 g = nI (dgC G (tb e (3 ^ G)) g)) → Q (some (.int (nI (e (tb e (3 ^ G)))))) Z) : zcl 157 [.ref 19] X Q := by
  have hp := p3_pos G
  simp (disch := first | omega | assumption | decide) only [e157, s157_0, s157_1, s157_4, s157_6, s157_7, s157_8, s157_9, s157_10, s157_12, s157_15, s157_18, s157_19, s157_22, s157_23, s157_26, s157_27, s157_28, s157_31, s157_33, s157_35, s157_36, s157_39, s157_41, s157_42, s157_43, s157_46, s157_47, s157_48, s157_51, s157_52, s157_54, s157_57, s157_58, s157_61, s157_62, s157_65, s157_68, s157_69, Option.toList_some, Option.toList_none, List.cons_append, List.nil_append, if_true, if_false, eq_self, n1n0, ne10]
  refine c_startW ho hc hs hr (fun Y hY => ?_)
  simp (disch := first | omega | assumption | decide) only [e157, s157_0, s157_1, s157_4, s157_6, s157_7, s157_8, s157_9, s157_10, s157_12, s157_15, s157_18, s157_19, s157_22, s157_23, s157_26, s157_27, s157_28, s157_31, s157_33, s157_35, s157_36, s157_39, s157_41, s157_42, s157_43, s157_46, s157_47, s157_48, s157_51, s157_52, s157_54, s157_57, s157_58, s157_61, s157_62, s157_65, s157_68, s157_69, Option.toList_some, Option.toList_none, List.cons_append, List.nil_append, if_true, if_false, eq_self, n1n0, ne10]
  have k := weigh_loop (e := e) (Q := Q) ho hc.2.1 he (fun Z z1 z2 z3 => by
    have := hQ Z z1 z2 z3
    rw [show lsN 1000000 e (3 ^ G) = e (tb e (3 ^ G)) from if_neg (by omega)]
    exact this) (3 ^ G - 1) 0 Y zU (by omega) hY (fun q => absurd q (by omega))
  exact k
end WH
