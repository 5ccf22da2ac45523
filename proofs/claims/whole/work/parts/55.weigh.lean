/-! bestWeights: digits, the class's side -/
def dgC (G i g : Nat) : Nat := i / 3 ^ (G - 1 - g) % 3
theorem p3 (p : Nat) : 3 ^ (p + 1) = 3 * 3 ^ p := by rw [Nat.pow_succ]; omega
theorem p3_pos (p : Nat) : 0 < 3 ^ p := Nat.pow_pos (by decide)
/-- i ends in p twos -/
theorem tw_s {i p : Nat} (h : i % 3 ^ p = 3 ^ p - 1) (h2 : i / 3 ^ p % 3 = 2) : i % 3 ^ (p + 1) = 3 ^ (p + 1) - 1 := by
  have hp := p3_pos p
  rw [Nat.pow_succ, Nat.mod_mul, h, h2]
  omega
theorem tw_lo {i p q : Nat} (h : i % 3 ^ p = 3 ^ p - 1) (hq : q < p) : (i + 1) / 3 ^ q % 3 = 0 := by
  have hp := p3_pos p
  have e : i + 1 = 3 ^ p * (i / 3 ^ p + 1) := by
    have := Nat.div_add_mod i (3 ^ p)
    rw [h] at this
    rw [Nat.mul_add, Nat.mul_one]
    omega
  obtain ⟨d, hd⟩ : ∃ d, p = q + (d + 1) := ⟨p - q - 1, by omega⟩
  rw [e, hd, Nat.pow_add, Nat.mul_assoc, Nat.mul_div_cancel_left _ (p3_pos q), Nat.pow_succ, Nat.mul_comm (3 ^ d) 3, Nat.mul_assoc, Nat.mul_mod_right]
theorem tw_at {i p : Nat} (h : i % 3 ^ p = 3 ^ p - 1) : (i + 1) / 3 ^ p = i / 3 ^ p + 1 := by
  have hp := p3_pos p
  have e : i + 1 = 3 ^ p * (i / 3 ^ p + 1) := by
    have := Nat.div_add_mod i (3 ^ p)
    rw [h] at this
    rw [Nat.mul_add, Nat.mul_one]
    omega
  rw [e, Nat.mul_div_cancel_left _ hp]
theorem tw_hi {i p q : Nat} (h : i % 3 ^ p = 3 ^ p - 1) (h2 : i / 3 ^ p % 3 < 2) (hq : p < q) : (i + 1) / 3 ^ q = i / 3 ^ q := by
  obtain ⟨d, hd⟩ : ∃ d, q = p + 1 + d := ⟨q - p - 1, by omega⟩
  rw [hd, Nat.pow_add, Nat.pow_succ, ← Nat.div_div_eq_div_mul, ← Nat.div_div_eq_div_mul, ← Nat.div_div_eq_div_mul, ← Nat.div_div_eq_div_mul, tw_at h, show (i / 3 ^ p + 1) / 3 = i / 3 ^ p / 3 by omega]
theorem smN_up {f f2 : Nat → Nat} {g : Nat} : ∀ {n : Nat}, g < n → (∀ j, j ≠ g → f2 j = f j) → smN f2 n + f g = smN f n + f2 g
  | 0, h, _ => absurd h (by omega)
  | n + 1, h, hf => by
    show smN f2 n + f2 n + f g = smN f n + f n + f2 g
    by_cases c : g = n
    · subst c
      rw [smN_cong (f := f2) (h := f) (fun i hi => hf i (by omega))]
      omega
    · have := smN_up (f := f) (f2 := f2) (g := g) (n := n) (by omega) hf
      rw [hf n (by omega)]
      omega
def gI (G p : Nat) : Int32 := if p < G then nI (G - 1 - p) else -1
theorem gI_0 : ∀ G, G < 8 → nI G - nI 1 = gI G 0 := by decide +kernel
theorem gI_s : ∀ G, G < 8 → ∀ p, p < 8 → p < G → nI (G - 1 - p) + (-1) = gI G (p + 1) := by decide +kernel
theorem m2_s : ∀ s, s < 128 → ∀ r, r < 10 → 2 * r ≤ s → nI s + (-2) * nI r = nI (s - 2 * r) := by decide +kernel
theorem m2_t : ∀ t, t < 16 → 2 ≤ t → nI t + (-2) = nI (t - 2) := by decide +kernel
section WG
variable {D G B C : Nat} {W lim bear : Nat → Nat} {X : zM} {R : Nat → Nat} {nx x : Nat} {Q : Option Value → zM → Prop}
def sgN (D : Nat) (W R : Nat → Nat) (G : Nat) (dg : Nat → Nat) (k : Nat) : Nat := smN (fun g => dg g * rN D W R g k) G
/-- a weighing that is tried, as the class holds it -/
def wgC (D G : Nat) (W R : Nat → Nat) (dg : Nat → Nat) (X Y : zM) : Prop := (∀ c, (c < 19 ∨ 24 < c) → Y c = X c) ∧ (∀ j, j ≠ 8 → Y 19 j = X 19 j) ∧ Y 19 8 = nI (smN dg G) ∧ (∀ g, g < G → Y 23 g = nI (dg g)) ∧ (∀ k, k < 12 → Y 22 k = nI (sgN D W R G dg k) ∧ Y 21 k = nI (wA D W R k)) ∧ ∀ g, g < G → ∀ k, k < 12 → Y 20 (g * 12 + k) = nI (rN D W R g k)
theorem wgC_cg {dg dg2 : Nat → Nat} {Y : zM} (h : wgC D G W R dg X Y) (hd : ∀ g, g < G → dg2 g = dg g) : wgC D G W R dg2 X Y := by
  obtain ⟨h1, h2, h3, h4, h5, h6⟩ := h
  refine ⟨h1, h2, ?_, fun g hg => by rw [hd g hg]; exact h4 g hg, fun k hk => ⟨?_, (h5 k hk).2⟩, h6⟩
  · rw [h3, smN_cong (fun i hi => (hd i hi).symm)]
  · rw [(h5 k hk).1]
    unfold sgN
    exact congrArg nI (smN_cong (fun i hi => by rw [hd i hi]))
theorem addW_loop {g : Nat} {more : Int32} {dg dg2 : Nat → Nat} {Y0 : zM} (hG : G ≤ 7) (hg : g < G) (hS : ∀ k, k < 12 → nI (sgN D W R G dg k) + more * nI (rN D W R g k) = nI (sgN D W R G dg2 k)) (hQ : ∀ Z, wgC D G W R dg2 X Z → Z 24 = Y0 24 → Q none Z) : ∀ (n i : Nat) (Y : zM), i + n = 12 → ((∀ c, (c < 19 ∨ 24 < c) → Y c = X c) ∧ (∀ j, j ≠ 8 → Y 19 j = X 19 j) ∧ Y 19 8 = nI (smN dg2 G) ∧ (∀ g, g < G → Y 23 g = nI (dg2 g)) ∧ (∀ k, k < 12 → Y 22 k = nI (if k < i then sgN D W R G dg2 k else sgN D W R G dg k) ∧ Y 21 k = nI (wA D W R k)) ∧ ∀ g, g < G → ∀ k, k < 12 → Y 20 (g * 12 + k) = nI (rN D W R g k)) → Y 24 = Y0 24 → zev 29 22 [.ref 19, .int (nI g), .int more, .int (nI i)] [] Y Q := by
  intro n
  induction n with
  | zero =>
    intro i Y hi hY h24
    have q : i = 12 := by omega
    subst q
    obtain ⟨h1, h2, h3, h4, h5, h6⟩ := hY
    rw [s29_22]
    simp (disch := first | omega | assumption | decide) only [e29, s29_0, s29_1, s29_4, s29_5, s29_6, s29_7, s29_8, s29_9, s29_10, s29_11, s29_12, s29_15, s29_16, s29_17, s29_20, s29_21, s29_23, s29_25, s29_28, s29_29, s29_32, s29_33, s29_34, s29_35, s29_36, s29_37, s29_40, s29_41, s29_43, s29_44, s29_45, s29_46, s29_47, s29_48, s29_49, s29_50, s29_53, s29_56, Option.toList_some, Option.toList_none, List.cons_append, List.nil_append, if_true, if_false, eq_self, n1n0, ne10, nI_ltI, Nat.lt_irrefl]
    refine hQ Y ⟨h1, h2, h3, h4, fun k hk => ⟨?_, (h5 k hk).2⟩, h6⟩ h24
    rw [(h5 k hk).1, if_pos hk]
  | succ n ih =>
    intro i Y hi hY h24
    have hlt : i < 12 := by omega
    obtain ⟨h1, h2, h3, h4, h5, h6⟩ := hY
    have e1 := (h5 i hlt).1
    rw [if_neg (by omega)] at e1
    have e2 := h6 g hg i hlt
    have e3 := hS i hlt
    rw [s29_22]
    simp (disch := first | omega | assumption | decide) only [e29, s29_0, s29_1, s29_4, s29_5, s29_6, s29_7, s29_8, s29_9, s29_10, s29_11, s29_12, s29_15, s29_16, s29_17, s29_20, s29_21, s29_23, s29_25, s29_28, s29_29, s29_32, s29_33, s29_34, s29_35, s29_36, s29_37, s29_40, s29_41, s29_43, s29_44, s29_45, s29_46, s29_47, s29_48, s29_49, s29_50, s29_53, s29_56, Option.toList_some, Option.toList_none, List.cons_append, List.nil_append, if_true, if_false, eq_self, n1n0, ne10, nI_ltI, hlt, pk_mul, nI_add, e1, e2, e3]
    refine ih (i + 1) _ (by omega) ⟨fun c hc => ?_, fun j hj => ?_, ?_, fun g hg => ?_, fun k hk => ⟨?_, ?_⟩, fun g hg k hk => ?_⟩ ?_
    · rw [zst_ne _ _ (by omega)]; exact h1 c hc
    · rw [zst_ne _ _ (by omega)]; exact h2 j hj
    · rw [zst_ne _ _ (by omega)]; exact h3
    · rw [zst_ne _ _ (by omega)]; exact h4 g hg
    · rw [zst_at]
      by_cases c : k = i
      · rw [c, upd_at, if_pos (by omega)]
      · rw [upd_ne _ _ c, (h5 k hk).1]
        by_cases c2 : k < i
        · rw [if_pos c2, if_pos (by omega)]
        · rw [if_neg c2, if_neg (by omega)]
    · rw [zst_ne _ _ (by omega)]; exact (h5 k hk).2
    · rw [zst_ne _ _ (by omega)]; exact h6 g hg k hk
    · rw [zst_ne _ _ (by omega)]; exact h24
theorem c_addW {g : Nat} {more : Int32} {dg dg2 : Nat → Nat} {Y : zM} (hG : G ≤ 7) (hg : g < G) (hY : wgC D G W R dg X Y) (hd : nI (dg g) + more = nI (dg2 g)) (hd2 : ∀ j, j ≠ g → dg2 j = dg j) (hT : nI (smN dg G) + more = nI (smN dg2 G)) (hS : ∀ k, k < 12 → nI (sgN D W R G dg k) + more * nI (rN D W R g k) = nI (sgN D W R G dg2 k)) (hQ : ∀ Z, wgC D G W R dg2 X Z → Z 24 = Y 24 → Q none Z) : zcl 29 [.ref 19, .int (nI g), .int more] Y Q := by
  obtain ⟨h1, h2, h3, h4, h5, h6⟩ := hY
  have e1 := h4 g hg
  have h19 : zst Y 23 (upd (Y 23) g (nI (dg2 g))) 19 8 = nI (smN dg G) := by rw [zst_ne _ _ (by omega)]; exact h3
  simp (disch := first | omega | assumption | decide) only [e29, s29_0, s29_1, s29_4, s29_5, s29_6, s29_7, s29_8, s29_9, s29_10, s29_11, s29_12, s29_15, s29_16, s29_17, s29_20, s29_21, s29_23, s29_25, s29_28, s29_29, s29_32, s29_33, s29_34, s29_35, s29_36, s29_37, s29_40, s29_41, s29_43, s29_44, s29_45, s29_46, s29_47, s29_48, s29_49, s29_50, s29_53, s29_56, Option.toList_some, Option.toList_none, List.cons_append, List.nil_append, if_true, if_false, eq_self, n1n0, ne10, e1, hd, h19, hT]
  refine addW_loop (Y0 := Y) hG hg hS hQ 12 0 _ (by omega) ⟨fun c hc => ?_, fun j hj => ?_, ?_, fun g' hg' => ?_, fun k hk => ⟨?_, ?_⟩, fun g' hg' k hk => ?_⟩ ?_
  · rw [zst_ne _ _ (by omega), zst_ne _ _ (by omega)]; exact h1 c hc
  · rw [zst_at, upd_ne _ _ hj, zst_ne _ _ (by omega)]; exact h2 j hj
  · rw [zst_at, upd_at]
  · rw [zst_ne _ _ (by omega), zst_at]
    by_cases c : g' = g
    · rw [c, upd_at]
    · rw [upd_ne _ _ c, hd2 g' c]; exact h4 g' hg'
  · rw [zst_ne _ _ (by omega), zst_ne _ _ (by omega), if_neg (by omega)]; exact (h5 k hk).1
  · rw [zst_ne _ _ (by omega), zst_ne _ _ (by omega)]; exact (h5 k hk).2
  · rw [zst_ne _ _ (by omega), zst_ne _ _ (by omega)]; exact h6 g' hg' k hk
  · rw [zst_ne _ _ (by omega), zst_ne _ _ (by omega)]
/-- the first p places from the right have turned to 0 -/
def dgP (G i p g : Nat) : Nat := if g + p < G then dgC G i g else 0
theorem sg_up {dg dg2 : Nat → Nat} {g k : Nat} (hg : g < G) (hd2 : ∀ j, j ≠ g → dg2 j = dg j) : sgN D W R G dg2 k + dg g * rN D W R g k = sgN D W R G dg k + dg2 g * rN D W R g k :=
  smN_up (f := fun g => dg g * rN D W R g k) (f2 := fun g => dg2 g * rN D W R g k) hg (fun j hj => by rw [hd2 j hj])
theorem sg_le {dg : Nat → Nat} {k : Nat} (hG : G ≤ 7) (h : ∀ g, g < G → dg g ≤ 2) : sgN D W R G dg k ≤ 126 := by
  have : sgN D W R G dg k ≤ G * 18 := smN_le (fun g hg => Nat.mul_le_mul (h g hg) (rN_le R g k))
  omega
theorem next_loop {i : Nat} {Y0 : zM} (hG : G ≤ 7) (hc1 : X 9 1 = nI G) (hi : i < 3 ^ G) (hQ1 : i + 1 < 3 ^ G → ∀ Z, wgC D G W R (dgC G (i + 1)) X Z → Z 24 = Y0 24 → Q (some (.int (nI 1))) Z) (hQ0 : i + 1 = 3 ^ G → ∀ Z dg, wgC D G W R dg X Z → Z 24 = Y0 24 → Q (some (.int (nI 0))) Z) : ∀ (n p : Nat) (Y : zM), p + n = G → i % 3 ^ p = 3 ^ p - 1 → wgC D G W R (dgP G i p) X Y → Y 24 = Y0 24 → zev 73 10 [.ref 19, .int (gI G p)] [] Y Q := by
  have h3 : ∀ g, dgC G i g < 3 := fun g => Nat.mod_lt _ (by decide)
  intro n
  induction n with
  | zero =>
    intro p Y hp hm hY h24
    have q : p = G := by omega
    subst q
    rw [Nat.mod_eq_of_lt hi] at hm
    have hp3 := p3_pos p
    have hg : gI p p = -1 := if_neg (Nat.lt_irrefl _)
    rw [hg, s73_10]
    simp (disch := first | omega | assumption | decide) only [e73, s73_0, s73_1, s73_4, s73_7, s73_8, s73_9, s73_11, s73_14, s73_15, s73_18, s73_19, s73_20, s73_21, s73_24, s73_25, s73_26, s73_27, s73_30, s73_31a, s73_31b, s73_31, s73_32, s73_33, s73_34, s73_36, s73_39, s73_42, s73_45, s73_46a, s73_46b, s73_46, Option.toList_some, Option.toList_none, List.cons_append, List.nil_append, if_true, if_false, eq_self, n1n0, ne10, show (-1 : Int32) < nI 0 by decide]
    exact hQ0 (by omega) Y _ hY h24
  | succ n ih =>
    intro p Y hp hm hY h24
    have hpG : p < G := by omega
    have hg : gI G p = nI (G - 1 - p) := if_pos hpG
    have hn0 : ¬ nI (G - 1 - p) < nI 0 := fun q => absurd ((nI_ltI (by omega) (by omega)).mp q) (by omega)
    have hgl : G - 1 - p < G := by omega
    have e1 := hY.2.2.2.1 (G - 1 - p) hgl
    have e2 : dgP G i p (G - 1 - p) = i / 3 ^ p % 3 := by
      unfold dgP dgC
      rw [if_pos (by omega), show G - 1 - (G - 1 - p) = p by omega]
    have hle : ∀ g, g < G → dgP G i p g ≤ 2 := fun g _ => by
      unfold dgP
      have := h3 g
      split <;> omega
    rw [hg, s73_10]
    rw [e2] at e1
    by_cases c : i / 3 ^ p % 3 < 2
    · have hfin : i + 1 < 3 ^ G := by
        rcases Nat.lt_or_ge (i + 1) (3 ^ G) with q | q
        · exact q
        · exfalso
          have q2 : i + 1 = 3 ^ G := by omega
          have t1 := tw_at hm
          rw [q2, show G = p + (G - p - 1 + 1) by omega, Nat.pow_add, Nat.mul_div_cancel_left _ (p3_pos p), p3] at t1
          omega
      simp (disch := first | omega | assumption | decide) only [e73, s73_0, s73_1, s73_4, s73_7, s73_8, s73_9, s73_11, s73_14, s73_15, s73_18, s73_19, s73_20, s73_21, s73_24, s73_25, s73_26, s73_27, s73_30, s73_31a, s73_31b, s73_31, s73_32, s73_33, s73_34, s73_36, s73_39, s73_42, s73_45, s73_46a, s73_46b, s73_46, Option.toList_some, Option.toList_none, List.cons_append, List.nil_append, if_true, if_false, eq_self, n1n0, ne10, hn0, e1, nI_ltI, c]
      have hup := fun k => sg_up (D := D) (W := W) (R := R) (G := G) (dg := dgP G i p) (dg2 := upN (dgP G i p) (G - 1 - p) (i / 3 ^ p % 3 + 1)) (g := G - 1 - p) (k := k) hgl (fun j hj => upN_ne _ _ hj)
      have hut := smN_up (f := dgP G i p) (f2 := upN (dgP G i p) (G - 1 - p) (i / 3 ^ p % 3 + 1)) hgl (fun j hj => upN_ne _ _ hj)
      rw [upN_at, e2] at hut
      refine c_addW hG hgl hY (dg2 := upN (dgP G i p) (G - 1 - p) (i / 3 ^ p % 3 + 1)) ?_ (fun j hj => upN_ne _ _ hj) ?_ (fun k hk => ?_) (fun Z hZ z24 => ?_)
      · rw [e2, upN_at, nI_add]
      · rw [nI_add]; exact congrArg nI (by omega)
      · have := hup k
        rw [upN_at, e2, Nat.add_mul, Nat.one_mul] at this
        rw [pk_mul, nI_add]
        exact congrArg nI (by omega)
      · simp (disch := first | omega | assumption | decide) only [e73, s73_0, s73_1, s73_4, s73_7, s73_8, s73_9, s73_11, s73_14, s73_15, s73_18, s73_19, s73_20, s73_21, s73_24, s73_25, s73_26, s73_27, s73_30, s73_31a, s73_31b, s73_31, s73_32, s73_33, s73_34, s73_36, s73_39, s73_42, s73_45, s73_46a, s73_46b, s73_46, Option.toList_some, Option.toList_none, List.cons_append, List.nil_append, if_true, if_false, eq_self, n1n0, ne10]
        refine hQ1 hfin Z (wgC_cg hZ (fun g hg => ?_)) (z24.trans h24)
        by_cases cg : g = G - 1 - p
        · rw [cg, upN_at]
          unfold dgC
          rw [show G - 1 - (G - 1 - p) = p by omega, tw_at hm]
          omega
        · rw [upN_ne _ _ cg]
          unfold dgP dgC
          by_cases cl : g + p < G
          · rw [if_pos cl, tw_hi hm c (by omega)]
          · rw [if_neg cl, tw_lo hm (by omega)]
    · have c2 : i / 3 ^ p % 3 = 2 := by have := Nat.mod_lt (i / 3 ^ p) (show 0 < 3 by decide); omega
      simp (disch := first | omega | assumption | decide) only [e73, s73_0, s73_1, s73_4, s73_7, s73_8, s73_9, s73_11, s73_14, s73_15, s73_18, s73_19, s73_20, s73_21, s73_24, s73_25, s73_26, s73_27, s73_30, s73_31a, s73_31b, s73_31, s73_32, s73_33, s73_34, s73_36, s73_39, s73_42, s73_45, s73_46a, s73_46b, s73_46, Option.toList_some, Option.toList_none, List.cons_append, List.nil_append, if_true, if_false, eq_self, n1n0, ne10, hn0, e1, nI_ltI, c]
      have hd2 : ∀ j, j ≠ G - 1 - p → dgP G i (p + 1) j = dgP G i p j := fun j hj => by
        unfold dgP
        by_cases cl : j + p < G
        · rw [if_pos cl, if_pos (by omega)]
        · rw [if_neg cl, if_neg (by omega)]
      have hd0 : dgP G i (p + 1) (G - 1 - p) = 0 := if_neg (by omega)
      have hup := fun k => sg_up (D := D) (W := W) (R := R) (G := G) (dg := dgP G i p) (dg2 := dgP G i (p + 1)) (g := G - 1 - p) (k := k) hgl hd2
      have hut := smN_up (f := dgP G i p) (f2 := dgP G i (p + 1)) hgl hd2
      rw [hd0, e2, c2] at hut
      have hst : smN (dgP G i p) G ≤ G * 2 := smN_le hle
      refine c_addW hG hgl hY (dg2 := dgP G i (p + 1)) ?_ hd2 ?_ (fun k hk => ?_) (fun Z hZ z24 => ?_)
      · rw [e2, c2, hd0]; decide
      · rw [m2_t _ (by omega) (by omega)]; exact congrArg nI (by omega)
      · have h2 := hup k
        rw [hd0, e2, c2, Nat.zero_mul] at h2
        have h3 := sg_le (D := D) (W := W) (R := R) (k := k) hG hle
        have h4 := rN_le (D := D) (W := W) R (G - 1 - p) k
        rw [m2_s _ (by omega) _ (by omega) (by omega)]
        exact congrArg nI (by omega)
      · have hgs := gI_s G (by omega) p (by omega) hpG
        simp (disch := first | omega | assumption | decide) only [e73, s73_0, s73_1, s73_4, s73_7, s73_8, s73_9, s73_11, s73_14, s73_15, s73_18, s73_19, s73_20, s73_21, s73_24, s73_25, s73_26, s73_27, s73_30, s73_31a, s73_31b, s73_31, s73_32, s73_33, s73_34, s73_36, s73_39, s73_42, s73_45, s73_46a, s73_46b, s73_46, Option.toList_some, Option.toList_none, List.cons_append, List.nil_append, if_true, if_false, eq_self, n1n0, ne10, hgs]
        exact ih (p + 1) Z (by omega) (tw_s hm c2) hZ (z24.trans h24)
theorem c_next {i : Nat} {Y : zM} (hG : G ≤ 7) (hc1 : X 9 1 = nI G) (hi : i < 3 ^ G) (hY : wgC D G W R (dgC G i) X Y) (hQ1 : i + 1 < 3 ^ G → ∀ Z, wgC D G W R (dgC G (i + 1)) X Z → Z 24 = Y 24 → Q (some (.int (nI 1))) Z) (hQ0 : i + 1 = 3 ^ G → ∀ Z dg, wgC D G W R dg X Z → Z 24 = Y 24 → Q (some (.int (nI 0))) Z) : zcl 73 [.ref 19] Y Q := by
  have e9 : Y 9 1 = nI G := by rw [hY.1 9 (by omega)]; exact hc1
  have h0 := gI_0 G (by omega)
  simp (disch := first | omega | assumption | decide) only [e73, s73_0, s73_1, s73_4, s73_7, s73_8, s73_9, s73_11, s73_14, s73_15, s73_18, s73_19, s73_20, s73_21, s73_24, s73_25, s73_26, s73_27, s73_30, s73_31a, s73_31b, s73_31, s73_32, s73_33, s73_34, s73_36, s73_39, s73_42, s73_45, s73_46a, s73_46b, s73_46, Option.toList_some, Option.toList_none, List.cons_append, List.nil_append, if_true, if_false, eq_self, n1n0, ne10, e9, h0]
  exact next_loop hG hc1 hi hQ1 hQ0 G 0 Y (by omega) (by rw [Nat.pow_zero, Nat.mod_one]) (wgC_cg hY (fun g hg => if_pos (by omega))) rfl
end WG
