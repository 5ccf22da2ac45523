/-! the class: a day passes -/
section CE
variable {D G B C : Nat} {W lim bear : Nat → Nat} {X : zM} {R : Nat → Nat} {nx x : Nat} {Q : Option Value → zM → Prop}
theorem cP_of {Y : zM} (h : cP D G B C W lim bear X) (h9 : Y 9 = X 9) (h10 : Y 10 = X 10) (h13 : Y 13 = X 13) (h14 : Y 14 = X 14) : cP D G B C W lim bear Y := by
  unfold cP at h ⊢
  rw [h9, h10, h13, h14]
  exact h
theorem pass_loop {t v : Nat} {l0 : Nat → Int32} (ho : okP D G B C W lim bear) (hc : cP D G B C W lim bear X) (hv : v ≤ 9) (ht : t ≤ 9) (h1 : R 21 < 2 ^ B) (h2 : R 22 < 2 ^ B) (h3 : ∀ b, b < 5 → R (23 + b) ≤ 900000)
    (hQ : ∀ f k, f 2 = nI (boatN lim bear t v R B 21) → (∀ j, j ≠ 2 → f j = X 57 j) → (∀ j, j < B → k j = nI (boatN lim bear t v R B (23 + j))) → zev 172 60 [.ref 16, .int (nI t), .int (nI v), .int (nI (outN lim R t B)), .int (nI B)] [] (zst (zst X 57 f) 61 k) Q) : ∀ (n b : Nat) (f k : Nat → Int32), b + n = B → f 2 = nI (boatN lim bear t v R b 21) → (∀ j, j ≠ 2 → f j = X 57 j) → (∀ j, j < B → k j = nI (boatN lim bear t v R b (23 + j))) → zev 172 26 [.ref 16, .int (nI t), .int (nI v), .int (nI (outN lim R t B)), .int (nI b)] [] (zst (zst X 57 f) 61 k) Q := by
  have hB := ho.2.2.1
  have hBe := hc.2.2.1
  have h32 := two_pow_le hB
  intro n
  induction n with
  | zero =>
    intro b f k hb hf hf2 hk
    have e : b = B := by omega
    subst e
    rw [s172_26]
    simp (disch := first | omega | assumption) only [s172_28, s172_29, s172_32, s172_35, zst_ne, hBe, nI_add, pk_mul, pk_sub, zrem_nI, pk_div, nI_ltI, nI_eq, Nat.lt_irrefl, if_false]
    exact hQ f k hf hf2 hk
  | succ n ih =>
    intro b f k hb hf hf2 hk
    have hlt : b < B := by omega
    obtain ⟨a1, a2, a3, a4, a5, a6⟩ := boatN_ok (lim := lim) (bear := bear) (t := t) (B := B) hv hB h1 h2 h3 b (by omega)
    have hbit := boatN_bit (lim := lim) (bear := bear) (R := R) t v b b (Nat.le_refl b) (by omega)
    have hob := outN_bt (lim := lim) (R := R) t B b hlt
    have hol := outN_lt (lim := lim) (R := R) t B
    have hc2 : cP D G B C W lim bear (zst (zst X 57 f) 61 k) := cP_of hc rfl rfl rfl rfl
    have hkb := hk b hlt
    have h3b := h3 b (by omega)
    have hbtl := bt_lt (outN lim R t B) b
    have ih2 := ih (b + 1)
    simp only [boatN] at ih2
    rw [hbit.1, hbit.2] at ih2
    rw [s172_26]
    by_cases c1 : bt (R 21) b = 0 ∧ bt (R 22) b = 0 ∧ lim b ≤ t
    · have hb1 : bt (outN lim R t B) b = 1 := hob.mpr c1
      simp only [if_pos c1] at ih2
      have hsl := fun Q => c_sail (Q := Q) (X := zst (zst X 57 f) 61 k) (b := b) (v := v) (a := boatN lim bear t v R b 21) (k := boatN lim bear t v R b (23 + b)) ho hc2 hlt hv hf hkb (by rw [a4 b (Nat.le_refl b)]; exact h3b)
      by_cases c2 : v < bear b
      · simp only [if_pos c2] at ih2
        simp (disch := first | omega | assumption | decide) only [e172, s172_0, s172_1, s172_4, s172_5, s172_8, s172_9, s172_10, s172_13, s172_14, s172_17, s172_18, s172_19, s172_22, s172_23, s172_24, s172_28, s172_29, s172_32, s172_35, s172_38, s172_39, s172_41, s172_44, s172_47, s172_48, s172_50, s172_51, s172_54, s172_57, s172_60, s172_61, s172_64, s172_65, s172_66, s172_67, s172_70, s172_73, s172_74, s172_78, s172_79, s172_82, s172_85, s172_88, s172_89, s172_92, s172_95, s172_97, s172_98, s172_101, s172_104, s172_106, s172_107, s172_108, s172_109, s172_110, s172_113, s172_114, s172_117, s172_120, s172_121, s172_124, s172_125, s172_128, s172_131, s172_134, s172_135, s172_138, s172_139, s172_142, s172_143, s172_144, s172_147, Option.toList_some, Option.toList_none, List.cons_append, List.nil_append, nI_add, pk_mul, Nat.reduceAdd, Nat.reduceMul, Nat.add_zero, Nat.zero_add, if_true, if_false, ite_self, zst_ne, hBe, nI_add, pk_mul, pk_sub, zrem_nI, pk_div, nI_ltI, nI_eq, hlt, c_hasBitN, hb1, hsl, if_pos c2, zst_at, zst_sw, show ¬ (1 : Nat) = 0 by decide]
        refine ih2 _ k (by omega) ?_ (fun j hj => ?_) (fun j hj => ?_)
        · rw [upd_at, upN_at]
        · rw [upd_ne _ _ hj]; exact hf2 j hj
        · rw [upN_ne _ _ (by omega)]; exact hk j hj
      · simp only [if_neg c2] at ih2
        simp (disch := first | omega | assumption | decide) only [e172, s172_0, s172_1, s172_4, s172_5, s172_8, s172_9, s172_10, s172_13, s172_14, s172_17, s172_18, s172_19, s172_22, s172_23, s172_24, s172_28, s172_29, s172_32, s172_35, s172_38, s172_39, s172_41, s172_44, s172_47, s172_48, s172_50, s172_51, s172_54, s172_57, s172_60, s172_61, s172_64, s172_65, s172_66, s172_67, s172_70, s172_73, s172_74, s172_78, s172_79, s172_82, s172_85, s172_88, s172_89, s172_92, s172_95, s172_97, s172_98, s172_101, s172_104, s172_106, s172_107, s172_108, s172_109, s172_110, s172_113, s172_114, s172_117, s172_120, s172_121, s172_124, s172_125, s172_128, s172_131, s172_134, s172_135, s172_138, s172_139, s172_142, s172_143, s172_144, s172_147, Option.toList_some, Option.toList_none, List.cons_append, List.nil_append, nI_add, pk_mul, Nat.reduceAdd, Nat.reduceMul, Nat.add_zero, Nat.zero_add, if_true, if_false, ite_self, zst_ne, hBe, nI_add, pk_mul, pk_sub, zrem_nI, pk_div, nI_ltI, nI_eq, hlt, c_hasBitN, hb1, hsl, if_neg c2, zst_at, zst_zst, show ¬ (1 : Nat) = 0 by decide]
        refine ih2 f _ (by omega) ?_ hf2 (fun j hj => ?_)
        · rw [upN_ne _ _ (by omega)]; exact hf
        · by_cases hjb : j = b
          · subst hjb
            rw [upd_at, upN_at]
          · rw [upd_ne _ _ hjb, upN_ne _ _ (by omega)]; exact hk j hj
    · have hb0 : bt (outN lim R t B) b = 0 := by
        have : ¬ bt (outN lim R t B) b = 1 := fun q => c1 (hob.mp q)
        omega
      simp only [if_neg c1] at ih2
      simp (disch := first | omega | assumption | decide) only [e172, s172_0, s172_1, s172_4, s172_5, s172_8, s172_9, s172_10, s172_13, s172_14, s172_17, s172_18, s172_19, s172_22, s172_23, s172_24, s172_28, s172_29, s172_32, s172_35, s172_38, s172_39, s172_41, s172_44, s172_47, s172_48, s172_50, s172_51, s172_54, s172_57, s172_60, s172_61, s172_64, s172_65, s172_66, s172_67, s172_70, s172_73, s172_74, s172_78, s172_79, s172_82, s172_85, s172_88, s172_89, s172_92, s172_95, s172_97, s172_98, s172_101, s172_104, s172_106, s172_107, s172_108, s172_109, s172_110, s172_113, s172_114, s172_117, s172_120, s172_121, s172_124, s172_125, s172_128, s172_131, s172_134, s172_135, s172_138, s172_139, s172_142, s172_143, s172_144, s172_147, Option.toList_some, Option.toList_none, List.cons_append, List.nil_append, nI_add, pk_mul, Nat.reduceAdd, Nat.reduceMul, Nat.add_zero, Nat.zero_add, if_true, if_false, ite_self, zst_ne, hBe, nI_add, pk_mul, pk_sub, zrem_nI, pk_div, nI_ltI, nI_eq, hlt, c_hasBitN, hb0]
      exact ih2 f k (by omega) hf hf2 hk
theorem max_dec {l : Nat} (h : l < 1000) : (if nI l - nI 1 < nI 0 then nI 0 else nI l - nI 1) = nI (l - 1) := dec_nI h
theorem gladp_loop {a1 a2 a3 : Value} {Y : zM} (ho : okP D G B C W lim bear) (hc : cP D G B C W lim bear Y) (hl : ∀ g, g < 7 → R (14 + g) ≤ 60)
    (hQ : ∀ h, (∀ j, j < G → h j = nI (R (14 + j) - 1)) → zev 172 120 [.ref 16, a1, a2, a3, .int (nI G)] [] (zst Y 60 h) Q) : ∀ (n g : Nat) (h : Nat → Int32), g + n = G → (∀ j, j < g → h j = nI (R (14 + j) - 1)) → (∀ j, g ≤ j → j < G → h j = nI (R (14 + j))) → zev 172 76 [.ref 16, a1, a2, a3, .int (nI g)] [] (zst Y 60 h) Q := by
  have hG := ho.2.1
  have hGe := hc.2.1
  intro n
  induction n with
  | zero =>
    intro g h hg h1 h2
    have e : g = G := by omega
    subst e
    rw [s172_76]
    simp (disch := first | omega | assumption) only [s172_78, s172_79, s172_82, s172_85, zst_ne, hGe, nI_add, pk_mul, pk_sub, zrem_nI, pk_div, nI_ltI, nI_eq, Nat.lt_irrefl, if_false]
    exact hQ h h1
  | succ n ih =>
    intro g h hg h1 h2
    have hlt : g < G := by omega
    have hl2 := hl g (by omega)
    have e1 := h2 g (Nat.le_refl g) hlt
    have e2 := dec_nI (l := R (14 + g)) (by omega)
    rw [s172_76]
    simp (disch := first | omega | assumption) only [e172, s172_0, s172_1, s172_4, s172_5, s172_8, s172_9, s172_10, s172_13, s172_14, s172_17, s172_18, s172_19, s172_22, s172_23, s172_24, s172_28, s172_29, s172_32, s172_35, s172_38, s172_39, s172_41, s172_44, s172_47, s172_48, s172_50, s172_51, s172_54, s172_57, s172_60, s172_61, s172_64, s172_65, s172_66, s172_67, s172_70, s172_73, s172_74, s172_78, s172_79, s172_82, s172_85, s172_88, s172_89, s172_92, s172_95, s172_97, s172_98, s172_101, s172_104, s172_106, s172_107, s172_108, s172_109, s172_110, s172_113, s172_114, s172_117, s172_120, s172_121, s172_124, s172_125, s172_128, s172_131, s172_134, s172_135, s172_138, s172_139, s172_142, s172_143, s172_144, s172_147, Option.toList_some, Option.toList_none, List.cons_append, List.nil_append, nI_add, pk_mul, Nat.reduceAdd, Nat.reduceMul, Nat.add_zero, Nat.zero_add, if_true, if_false, ite_self, zst_ne, hGe, nI_add, nI_ltI, hlt, zst_at, zst_zst, e1, e2]
    refine ih (g + 1) _ (by omega) (fun j hj => ?_) (fun j hj hj2 => ?_)
    · by_cases hjg : j = g
      · subst hjg
        rw [upd_at]
      · rw [upd_ne _ _ hjg]; exact h1 j (by omega)
    · rw [upd_ne _ _ (by omega)]; exact h2 j (by omega) hj2
/-- nothing but the state's own eight cells has changed -/
def frC (X Y : zM) : Prop := ∀ i, (i < 57 ∨ 64 < i) → Y i = X i
theorem dayN_29 : dayN D G B C W lim bear R 29 = R 29 + 1 := upN_at _ _ _
theorem dayN_28 : dayN D G B C W lim bear R 28 = C := by
  unfold dayN
  rw [upN_ne _ _ (by omega), upN_at]
theorem dayN_lo {j : Nat} (hB : B ≤ 5) (h : okR B R) (hG : G ≤ 7) (hW : ∀ k, W k ≤ 9) (hj : j < 14 ∨ (14 + G ≤ j ∧ j < 28)) : dayN D G B C W lim bear R j = boatN lim bear (tN D G W R 0) (wN D W (R 29 + 1)) R B j := by
  have hc : ∀ b, b < 5 → R (23 + b) ≤ 900000 := fun b hb => by
    have := h.2.2.2.1 b hb
    have := h.2.2.2.2.2.1
    omega
  obtain ⟨a1, a2, a3, a4, a5, a6⟩ := boatN_ok (lim := lim) (bear := bear) (t := tN D G W R 0) (v := wN D W (R 29 + 1)) (B := B) (wN_le hW _) hB h.2.1 h.2.2.1 hc B (Nat.le_refl B)
  unfold dayN
  rw [upN_ne _ _ (by omega), upN_ne _ _ (by omega), gladN_out (by omega), logN_out (by rw [a5 30 (by omega)]; exact h.2.2.2.2.2.2.1) (by omega)]
theorem dayN_gl {g : Nat} (hB : B ≤ 5) (h : okR B R) (hG : G ≤ 7) (hW : ∀ k, W k ≤ 9) (hg : g < G) : dayN D G B C W lim bear R (14 + g) = R (14 + g) - 1 := by
  have hc : ∀ b, b < 5 → R (23 + b) ≤ 900000 := fun b hb => by
    have := h.2.2.2.1 b hb
    have := h.2.2.2.2.2.1
    omega
  obtain ⟨a1, a2, a3, a4, a5, a6⟩ := boatN_ok (lim := lim) (bear := bear) (t := tN D G W R 0) (v := wN D W (R 29 + 1)) (B := B) (wN_le hW _) hB h.2.1 h.2.2.1 hc B (Nat.le_refl B)
  unfold dayN
  rw [upN_ne _ _ (by omega), upN_ne _ _ (by omega), gladN_in hg, logN_out (by rw [a5 30 (by omega)]; exact h.2.2.2.2.2.2.1) (by omega), a5 (14 + g) (by omega)]
theorem dayN_log {j : Nat} (hG : G ≤ 7) (hj : 30 ≤ j) : dayN D G B C W lim bear R j = logN (boatN lim bear (tN D G W R 0) (wN D W (R 29 + 1)) R B) (tN D G W R 0) (wN D W (R 29 + 1)) (cntN lim bear (tN D G W R 0) (wN D W (R 29 + 1)) R B) j := by
  unfold dayN
  rw [upN_ne _ _ (by omega), upN_ne _ _ (by omega), gladN_out (by omega)]
theorem logN_30 {t v s : Nat} (h : R 30 ≤ 20) : logN R t v s 30 = min 20 (R 30 + 1) := by
  unfold logN
  split
  · simp only []
    rw [if_neg (by omega), if_neg (by omega), if_neg (by omega), if_neg (by omega)]
    omega
  · rw [upN_at]
    omega
/-- the log's i-th entry behind an entry more -/
theorem logN_at {t v s i c : Nat} (h : R 30 ≤ 20) (hc : c < 3) (hi : i < min 20 (R 30 + 1)) : logN R t v s (31 + 3 * i + c) = if i + 1 = min 20 (R 30 + 1) then (if c = 0 then t else if c = 1 then v else s) else if R 30 = 20 then R (31 + 3 * (i + 1) + c) else R (31 + 3 * i + c) := by
  unfold logN
  by_cases h20 : R 30 = 20
  · rw [if_pos h20, if_pos h20]
    by_cases hl : i + 1 = min 20 (R 30 + 1)
    · have : i = 19 := by omega
      subst this
      rw [if_pos hl, if_neg (by omega)]
      match c, hc with
      | 0, _ => rfl
      | 1, _ => rfl
      | 2, _ => rfl
    · rw [if_neg hl, if_pos (by omega)]
      congr 1
      omega
  · rw [if_neg h20, if_neg h20]
    rw [upN_ne _ _ (by omega)]
    by_cases hl : i + 1 = min 20 (R 30 + 1)
    · have : i = R 30 := by omega
      subst this
      rw [if_pos hl]
      match c, hc with
      | 0, _ => rw [upN_ne _ _ (by omega), upN_ne _ _ (by omega)]; exact upN_at _ _ _
      | 1, _ => rw [upN_ne _ _ (by omega), upN_at]; rfl
      | 2, _ => rw [upN_at]; rfl
    · rw [if_neg hl, upN_ne _ _ (by omega), upN_ne _ _ (by omega), upN_ne _ _ (by omega)]
end CE
