/-! the reference: a day -/
section ME
variable {D G B C : Nat} {W lim bear : Nat → Nat} {X : zM} {R : Nat → Nat} {nx x : Nat} {Q : Option Value → zM → Prop}
theorem mP_st (h : mP D G B C W lim bear X) (w : Nat → Int32) : mP D G B C W lim bear (zst X 40 w) := by
  obtain ⟨h1, h2, h3, h4, h5, h6⟩ := h
  exact ⟨h1, h2, h3, h4, h5, h6⟩
/-- the boats up to b have sailed, or not -/
def boatN (lim bear : Nat → Nat) (t v : Nat) (R : Nat → Nat) : Nat → (Nat → Nat)
  | 0 => R
  | b + 1 => if bt (boatN lim bear t v R b 21) b = 0 ∧ bt (boatN lim bear t v R b 22) b = 0 ∧ lim b ≤ t then
      (if v < bear b then upN (boatN lim bear t v R b) 21 (boatN lim bear t v R b 21 ||| 2 ^ b) else upN (boatN lim bear t v R b) (23 + b) (min 999999 (boatN lim bear t v R b (23 + b) + v)))
    else boatN lim bear t v R b
def cntN (lim bear : Nat → Nat) (t v : Nat) (R : Nat → Nat) : Nat → Nat
  | 0 => 0
  | b + 1 => if bt (boatN lim bear t v R b 21) b = 0 ∧ bt (boatN lim bear t v R b 22) b = 0 ∧ lim b ≤ t then cntN lim bear t v R b + 1 else cntN lim bear t v R b
theorem boatN_ok {t v : Nat} (hv : v ≤ 9) (hB : B ≤ 5) (h1 : R 21 < 2 ^ B) (h2 : R 22 < 2 ^ B) (h3 : ∀ b, b < 5 → R (23 + b) ≤ 900000) : ∀ b, b ≤ B → boatN lim bear t v R b 21 < 2 ^ B ∧ boatN lim bear t v R b 22 = R 22 ∧ (∀ j, j < 5 → boatN lim bear t v R b (23 + j) ≤ R (23 + j) + 9) ∧ (∀ j, b ≤ j → boatN lim bear t v R b (23 + j) = R (23 + j)) ∧ (∀ j, (j < 21 ∨ j = 22 ∨ 28 ≤ j) → boatN lim bear t v R b j = R j) ∧ cntN lim bear t v R b ≤ b := by
  intro b
  induction b with
  | zero => exact fun _ => ⟨h1, rfl, fun j _ => by show R (23 + j) ≤ _; omega, fun _ _ => rfl, fun _ _ => rfl, Nat.le_refl 0⟩
  | succ b ih =>
    intro hb
    obtain ⟨a1, a2, a3, a4, a5, a6⟩ := ih (by omega)
    simp only [boatN, cntN]
    split
    · split
      · refine ⟨?_, ?_, fun j hj => ?_, fun j hj => ?_, fun j hj => ?_, by omega⟩
        · rw [upN_at]
          exact Nat.or_lt_two_pow a1 (Nat.pow_lt_pow_right (by decide) (by omega))
        · rw [upN_ne _ _ (by omega)]; exact a2
        · rw [upN_ne _ _ (by omega)]; exact a3 j hj
        · rw [upN_ne _ _ (by omega)]; exact a4 j (by omega)
        · rw [upN_ne _ _ (by omega)]; exact a5 j hj
      · refine ⟨?_, ?_, fun j hj => ?_, fun j hj => ?_, fun j hj => ?_, by omega⟩
        · rw [upN_ne _ _ (by omega)]; exact a1
        · rw [upN_ne _ _ (by omega)]; exact a2
        · by_cases hjb : j = b
          · subst hjb
            rw [upN_at, a4 j (Nat.le_refl j)]
            omega
          · rw [upN_ne _ _ (by omega)]; exact a3 j hj
        · rw [upN_ne _ _ (by omega)]; exact a4 j (by omega)
        · rw [upN_ne _ _ (by omega)]; exact a5 j hj
    · exact ⟨a1, a2, a3, fun j hj => a4 j (by omega), a5, by omega⟩
theorem shl0 (x : Int32) : nI 0 <<< x = nI 0 := by
  apply Int32.toBitVec_inj.mp
  show (0#32) <<< _ = _
  simp
  rfl
theorem two_pow_le {B : Nat} (h : B ≤ 5) : 2 ^ B ≤ 32 := Nat.pow_le_pow_right (by decide) h
theorem boats_loop {t v : Nat} (ho : okP D G B C W lim bear) (hm : mP D G B C W lim bear X) (hv : v ≤ 9) (ht : t ≤ 9) (h1 : R 21 < 2 ^ B) (h2 : R 22 < 2 ^ B) (h3 : ∀ b, b < 5 → R (23 + b) ≤ 900000) (hx : x < 1000)
    (hQ : ∀ w l, mW w x (boatN lim bear t v R B) → frW (X 40) w x → zev 199 136 [.ref 39, .int (nI x), .int (nI t), .int (nI v), .int (nI (cntN lim bear t v R B)), .int (nI B), l] [] (zst X 40 w) Q) : ∀ (n b : Nat) (w : Nat → Int32) (l : Value), b + n = B → mW w x (boatN lim bear t v R b) → frW (X 40) w x → zev 199 18 [.ref 39, .int (nI x), .int (nI t), .int (nI v), .int (nI (cntN lim bear t v R b)), .int (nI b), l] [] (zst X 40 w) Q := by
  have hB := ho.2.2.1
  have hBe := hm.2.2.1
  have h32 := two_pow_le hB
  intro n
  induction n with
  | zero =>
    intro b w l hb hw hf
    have e : b = B := by omega
    subst e
    rw [s199_18]
    simp (disch := first | omega | assumption) only [s199_20, s199_21, s199_24, zst_ne, hBe, nI_add, pk_mul, pk_sub, zrem_nI, pk_div, nI_ltI, nI_eq, Nat.lt_irrefl, if_false]
    exact hQ w l hw hf
  | succ n ih =>
    intro b w l hb hw hf
    have hlt : b < B := by omega
    obtain ⟨a1, a2, a3, a4, a5, a6⟩ := boatN_ok (lim := lim) (bear := bear) (t := t) (B := B) hv hB h1 h2 h3 b (by omega)
    have hk := h3 b (by omega)
    have hbe := (hm.2.2.2.2.2 b hlt).2
    have hbe2 := ho.2.2.2.2.2.2.1 b
    have m1 : mP D G B C W lim bear (zst X 40 w) := mP_st hm w
    have w1 : mW ((zst X 40 w) 40) x (boatN lim bear t v R b) := by rw [zst_at]; exact hw
    have e21 := hw 21 (by omega)
    have e23 := hw (23 + b) (by omega)
    have e23' : w (x + 23 + b) = nI (boatN lim bear t v R b (23 + b)) := by rw [show x + 23 + b = x + (23 + b) by omega]; exact e23
    rw [a4 b (Nat.le_refl b)] at e23'
    have hsl := fun Q => c_sails (Q := Q) (b := b) (t := t) ho m1 w1 (by omega) (by omega) hx hlt (by omega)
    have c3 : ¬ 999999 < R (23 + b) + v := by omega
    have ih2 := ih (b + 1)
    rw [s199_18]
    simp only [boatN, cntN] at ih2
    by_cases c1 : bt (boatN lim bear t v R b 21) b = 0 ∧ bt (boatN lim bear t v R b 22) b = 0 ∧ lim b ≤ t
    · simp only [if_pos c1] at ih2
      by_cases c2 : v < bear b
      · simp only [if_pos c2] at ih2
        simp (disch := first | omega | assumption | decide) only [e199, s199_0, s199_1, s199_2, s199_5, s199_6, s199_7, s199_8, s199_11, s199_12, s199_13, s199_15, s199_16, s199_20, s199_21, s199_24, s199_27, s199_28, s199_29, s199_31, s199_32, s199_35, s199_38, s199_41, s199_42, s199_43, s199_46, s199_48, s199_49, s199_52, s199_53, s199_56, s199_57, s199_59, s199_60, s199_63, s199_64, s199_66, s199_67, s199_68, s199_69, s199_71, s199_74, s199_76, s199_77, s199_78, s199_79, s199_80, s199_83, s199_84, s199_86, s199_87, s199_89, s199_90, s199_92, s199_95, s199_96, s199_99, s199_100, s199_102, s199_103, s199_105, s199_106, s199_107, s199_110, s199_112, s199_113, s199_116, s199_117, s199_119, s199_120, s199_122, s199_123, s199_124, s199_125, s199_126, s199_129, s199_130, s199_133, s199_136, s199_137, s199_138, s199_139, s199_140, s199_142, s199_145, s199_146, s199_150, s199_151, s199_154, s199_157, s199_158, s199_161, s199_162, s199_164, s199_165, s199_167, s199_168, s199_169, s199_170, s199_173, s199_174, s199_176, s199_177, s199_179, s199_180, s199_181, s199_182, s199_183, s199_186, s199_187, s199_190, s199_193, s199_194, s199_197, s199_198, s199_200, s199_201, s199_202, s199_205, s199_206, s199_207, s199_210, s199_211, s199_213, s199_214, s199_215, s199_216, s199_217, s199_218, s199_219, Option.toList_some, Option.toList_none, List.cons_append, List.nil_append, nI_add, pk_mul, Nat.reduceAdd, Nat.reduceMul, Nat.add_zero, Nat.zero_add, if_true, if_false, ite_self, zst_ne, hBe, hbe, nI_add, pk_mul, pk_sub, zrem_nI, pk_div, nI_ltI, nI_eq, hlt, hsl, if_pos c1, c2, zst_at, zst_zst, c_one, e21, shl_nI, or_nI, upd_ne, e23', show ¬ (1 : Nat) = 0 by decide]
        refine ih2 _ _ (by omega) ?_ ?_
        · have hu := (hw.up (k := 21) (v := boatN lim bear t v R b 21 ||| 2 ^ b)).up (k := 23 + b) (v := R (23 + b))
          rw [show x + (23 + b) = x + 23 + b by omega] at hu
          refine hu.cg (fun i hi => ?_)
          by_cases hi2 : i = 23 + b
          · subst hi2
            rw [upN_at, upN_ne _ _ (by omega), a4 b (Nat.le_refl b)]
          · rw [upN_ne (upN _ _ _) _ hi2]
        · exact (hf.up (by omega) (by omega)).up (by omega) (by omega)
      · simp only [if_neg c2] at ih2
        simp (disch := first | omega | assumption | decide) only [e199, s199_0, s199_1, s199_2, s199_5, s199_6, s199_7, s199_8, s199_11, s199_12, s199_13, s199_15, s199_16, s199_20, s199_21, s199_24, s199_27, s199_28, s199_29, s199_31, s199_32, s199_35, s199_38, s199_41, s199_42, s199_43, s199_46, s199_48, s199_49, s199_52, s199_53, s199_56, s199_57, s199_59, s199_60, s199_63, s199_64, s199_66, s199_67, s199_68, s199_69, s199_71, s199_74, s199_76, s199_77, s199_78, s199_79, s199_80, s199_83, s199_84, s199_86, s199_87, s199_89, s199_90, s199_92, s199_95, s199_96, s199_99, s199_100, s199_102, s199_103, s199_105, s199_106, s199_107, s199_110, s199_112, s199_113, s199_116, s199_117, s199_119, s199_120, s199_122, s199_123, s199_124, s199_125, s199_126, s199_129, s199_130, s199_133, s199_136, s199_137, s199_138, s199_139, s199_140, s199_142, s199_145, s199_146, s199_150, s199_151, s199_154, s199_157, s199_158, s199_161, s199_162, s199_164, s199_165, s199_167, s199_168, s199_169, s199_170, s199_173, s199_174, s199_176, s199_177, s199_179, s199_180, s199_181, s199_182, s199_183, s199_186, s199_187, s199_190, s199_193, s199_194, s199_197, s199_198, s199_200, s199_201, s199_202, s199_205, s199_206, s199_207, s199_210, s199_211, s199_213, s199_214, s199_215, s199_216, s199_217, s199_218, s199_219, Option.toList_some, Option.toList_none, List.cons_append, List.nil_append, nI_add, pk_mul, Nat.reduceAdd, Nat.reduceMul, Nat.add_zero, Nat.zero_add, if_true, if_false, ite_self, zst_ne, hBe, hbe, nI_add, pk_mul, pk_sub, zrem_nI, pk_div, nI_ltI, nI_eq, hlt, hsl, if_pos c1, c2, zst_at, zst_zst, c_one, e21, shl_nI, or_nI, upd_ne, e23', show ¬ (1 : Nat) = 0 by decide, c_least, shl0, Nat.or_zero, c3]
        refine ih2 _ _ (by omega) ?_ ?_
        · have hu := (hw.up (k := 21) (v := boatN lim bear t v R b 21)).up (k := 23 + b) (v := R (23 + b) + v)
          rw [show x + (23 + b) = x + 23 + b by omega] at hu
          refine hu.cg (fun i hi => ?_)
          by_cases hi2 : i = 23 + b
          · subst hi2
            rw [upN_at, upN_at, a4 b (Nat.le_refl b), Nat.min_eq_right (by omega)]
          · rw [upN_ne _ _ hi2, upN_ne (upN _ _ _) _ hi2]
            by_cases hi3 : i = 21
            · subst hi3
              rw [upN_at]
            · rw [upN_ne _ _ hi3]
        · exact (hf.up (by omega) (by omega)).up (by omega) (by omega)
    · simp only [if_neg c1] at ih2
      simp (disch := first | omega | assumption | decide) only [e199, s199_0, s199_1, s199_2, s199_5, s199_6, s199_7, s199_8, s199_11, s199_12, s199_13, s199_15, s199_16, s199_20, s199_21, s199_24, s199_27, s199_28, s199_29, s199_31, s199_32, s199_35, s199_38, s199_41, s199_42, s199_43, s199_46, s199_48, s199_49, s199_52, s199_53, s199_56, s199_57, s199_59, s199_60, s199_63, s199_64, s199_66, s199_67, s199_68, s199_69, s199_71, s199_74, s199_76, s199_77, s199_78, s199_79, s199_80, s199_83, s199_84, s199_86, s199_87, s199_89, s199_90, s199_92, s199_95, s199_96, s199_99, s199_100, s199_102, s199_103, s199_105, s199_106, s199_107, s199_110, s199_112, s199_113, s199_116, s199_117, s199_119, s199_120, s199_122, s199_123, s199_124, s199_125, s199_126, s199_129, s199_130, s199_133, s199_136, s199_137, s199_138, s199_139, s199_140, s199_142, s199_145, s199_146, s199_150, s199_151, s199_154, s199_157, s199_158, s199_161, s199_162, s199_164, s199_165, s199_167, s199_168, s199_169, s199_170, s199_173, s199_174, s199_176, s199_177, s199_179, s199_180, s199_181, s199_182, s199_183, s199_186, s199_187, s199_190, s199_193, s199_194, s199_197, s199_198, s199_200, s199_201, s199_202, s199_205, s199_206, s199_207, s199_210, s199_211, s199_213, s199_214, s199_215, s199_216, s199_217, s199_218, s199_219, Option.toList_some, Option.toList_none, List.cons_append, List.nil_append, nI_add, pk_mul, Nat.reduceAdd, Nat.reduceMul, Nat.add_zero, Nat.zero_add, if_true, if_false, ite_self, zst_ne, hBe, hbe, nI_add, pk_mul, pk_sub, zrem_nI, pk_div, nI_ltI, nI_eq, hlt, hsl, if_neg c1, zst_at, zst_zst]
      exact ih2 w l (by omega) hw hf
/-- gladness runs out by a day -/
def gladN (R : Nat → Nat) : Nat → (Nat → Nat)
  | 0 => R
  | g + 1 => upN (gladN R g) (14 + g) (R (14 + g) - 1)
theorem gladN_out {R : Nat → Nat} : ∀ {g j : Nat}, (j < 14 ∨ 14 + g ≤ j) → gladN R g j = R j
  | 0, _, _ => rfl
  | g + 1, j, h => by
    rw [gladN, upN_ne _ _ (by omega)]
    exact gladN_out (by omega)
theorem gladN_in {R : Nat → Nat} : ∀ {n g : Nat}, g < n → gladN R n (14 + g) = R (14 + g) - 1
  | n + 1, g, h => by
    rw [gladN]
    by_cases hg : g = n
    · subst hg
      rw [upN_at]
    · rw [upN_ne _ _ (by omega)]
      exact gladN_in (by omega)
theorem dec_nI {l : Nat} (h : l < 1000) : (if nI l - nI 1 < nI 0 then nI 0 else nI l - nI 1) = nI (l - 1) := by
  by_cases h0 : l = 0
  · subst h0
    decide
  · rw [pk_sub (by omega)]
    exact if_neg (nI_pos (n := l - 1) (by omega))
theorem glad_loop {a2 a3 a4 a6 : Value} (ho : okP D G B C W lim bear) (hm : mP D G B C W lim bear X) (hl : ∀ g, g < 7 → R (14 + g) ≤ 60) (hx : x < 1000)
    (hQ : ∀ w, mW w x (gladN R G) → frW (X 40) w x → zev 199 193 [.ref 39, .int (nI x), a2, a3, a4, .int (nI G), a6] [] (zst X 40 w) Q) : ∀ (n g : Nat) (w : Nat → Int32), g + n = G → mW w x (gladN R g) → frW (X 40) w x → zev 199 148 [.ref 39, .int (nI x), a2, a3, a4, .int (nI g), a6] [] (zst X 40 w) Q := by
  have hG := ho.2.1
  have hGe := hm.2.1
  intro n
  induction n with
  | zero =>
    intro g w hg hw hf
    have e : g = G := by omega
    subst e
    rw [s199_148]
    simp (disch := first | omega | assumption) only [s199_150, s199_151, s199_154, zst_ne, hGe, nI_add, pk_mul, pk_sub, zrem_nI, pk_div, nI_ltI, nI_eq, Nat.lt_irrefl, if_false]
    exact hQ w hw hf
  | succ n ih =>
    intro g w hg hw hf
    have hlt : g < G := by omega
    have hl2 := hl g (by omega)
    have e1 : w (x + 14 + g) = nI (R (14 + g)) := by
      rw [show x + 14 + g = x + (14 + g) by omega, hw (14 + g) (by omega), gladN_out (by omega)]
    have e2 := dec_nI (l := R (14 + g)) (by omega)
    rw [s199_148]
    simp (disch := first | omega | assumption) only [e199, s199_0, s199_1, s199_2, s199_5, s199_6, s199_7, s199_8, s199_11, s199_12, s199_13, s199_15, s199_16, s199_20, s199_21, s199_24, s199_27, s199_28, s199_29, s199_31, s199_32, s199_35, s199_38, s199_41, s199_42, s199_43, s199_46, s199_48, s199_49, s199_52, s199_53, s199_56, s199_57, s199_59, s199_60, s199_63, s199_64, s199_66, s199_67, s199_68, s199_69, s199_71, s199_74, s199_76, s199_77, s199_78, s199_79, s199_80, s199_83, s199_84, s199_86, s199_87, s199_89, s199_90, s199_92, s199_95, s199_96, s199_99, s199_100, s199_102, s199_103, s199_105, s199_106, s199_107, s199_110, s199_112, s199_113, s199_116, s199_117, s199_119, s199_120, s199_122, s199_123, s199_124, s199_125, s199_126, s199_129, s199_130, s199_133, s199_136, s199_137, s199_138, s199_139, s199_140, s199_142, s199_145, s199_146, s199_150, s199_151, s199_154, s199_157, s199_158, s199_161, s199_162, s199_164, s199_165, s199_167, s199_168, s199_169, s199_170, s199_173, s199_174, s199_176, s199_177, s199_179, s199_180, s199_181, s199_182, s199_183, s199_186, s199_187, s199_190, s199_193, s199_194, s199_197, s199_198, s199_200, s199_201, s199_202, s199_205, s199_206, s199_207, s199_210, s199_211, s199_213, s199_214, s199_215, s199_216, s199_217, s199_218, s199_219, Option.toList_some, Option.toList_none, List.cons_append, List.nil_append, nI_add, pk_mul, Nat.reduceAdd, Nat.reduceMul, Nat.add_zero, Nat.zero_add, if_true, if_false, ite_self, zst_ne, hGe, nI_add, nI_ltI, hlt, zst_at, zst_zst, e1, c_most, e2]
    refine ih (g + 1) _ (by omega) ?_ (hf.up (by omega) (by omega))
    have hu := hw.up (k := 14 + g) (v := R (14 + g) - 1)
    rw [show x + (14 + g) = x + 14 + g by omega] at hu
    exact hu
def dayN (D G B C : Nat) (W lim bear R : Nat → Nat) : Nat → Nat :=
  upN (upN (gladN (logN (boatN lim bear (tN D G W R 0) (wN D W (R 29 + 1)) R B) (tN D G W R 0) (wN D W (R 29 + 1)) (cntN lim bear (tN D G W R 0) (wN D W (R 29 + 1)) R B)) G) 28 C) 29 (R 29 + 1)
theorem logN_out {R : Nat → Nat} {t v s j : Nat} (h : R 30 ≤ 20) (hj : j < 30) : logN R t v s j = R j := by
  unfold logN
  split
  · simp only []
    rw [if_neg (by omega), if_neg (by omega), if_neg (by omega), if_neg (by omega)]
  · rw [upN_ne _ _ (by omega), upN_ne _ _ (by omega), upN_ne _ _ (by omega), upN_ne _ _ (by omega)]
theorem c_dayIn (ho : okP D G B C W lim bear) (hm : mP D G B C W lim bear X) (hs : mW (X 40) x R) (hr : okR B R) (hD : 0 < D) (hx : x < 1000) (hQ : ∀ w, mW w x (dayN D G B C W lim bear R) → frW (X 40) w x → Q none (zst X 40 w)) : zcl 199 [.ref 39, .int (nI x)] X Q := by
  have h29 := hr.2.2.2.2.2.1
  have hv : wN D W (R 29 + 1) ≤ 9 := wN_le ho.2.2.2.2.1 _
  have ht : tN D G W R 0 ≤ 9 := tN_le R 0
  have hc : ∀ b, b < 5 → R (23 + b) ≤ 900000 := fun b hb => by
    have := hr.2.2.2.1 b hb
    omega
  have hB := ho.2.2.1
  have hG := ho.2.1
  have hCe := hm.2.2.2.1
  simp (disch := first | omega | assumption) only [e199, s199_0, s199_1, s199_2, s199_5, s199_6, s199_7, s199_8, s199_11, s199_12, s199_13, s199_15, s199_16, s199_20, s199_21, s199_24, s199_27, s199_28, s199_29, s199_31, s199_32, s199_35, s199_38, s199_41, s199_42, s199_43, s199_46, s199_48, s199_49, s199_52, s199_53, s199_56, s199_57, s199_59, s199_60, s199_63, s199_64, s199_66, s199_67, s199_68, s199_69, s199_71, s199_74, s199_76, s199_77, s199_78, s199_79, s199_80, s199_83, s199_84, s199_86, s199_87, s199_89, s199_90, s199_92, s199_95, s199_96, s199_99, s199_100, s199_102, s199_103, s199_105, s199_106, s199_107, s199_110, s199_112, s199_113, s199_116, s199_117, s199_119, s199_120, s199_122, s199_123, s199_124, s199_125, s199_126, s199_129, s199_130, s199_133, s199_136, s199_137, s199_138, s199_139, s199_140, s199_142, s199_145, s199_146, s199_150, s199_151, s199_154, s199_157, s199_158, s199_161, s199_162, s199_164, s199_165, s199_167, s199_168, s199_169, s199_170, s199_173, s199_174, s199_176, s199_177, s199_179, s199_180, s199_181, s199_182, s199_183, s199_186, s199_187, s199_190, s199_193, s199_194, s199_197, s199_198, s199_200, s199_201, s199_202, s199_205, s199_206, s199_207, s199_210, s199_211, s199_213, s199_214, s199_215, s199_216, s199_217, s199_218, s199_219, Option.toList_some, Option.toList_none, List.cons_append, List.nil_append, nI_add, pk_mul, Nat.reduceAdd, Nat.reduceMul, Nat.add_zero, Nat.zero_add, if_true, if_false, ite_self, mm_rowTells ho hm hs hr hD hx, mm_tomorrow ho hm hs hr hD hx]
  obtain ⟨a1, a2, a3, a4, a5, a6⟩ := boatN_ok (lim := lim) (bear := bear) (t := tN D G W R 0) (v := wN D W (R 29 + 1)) (B := B) hv hB hr.2.1 hr.2.2.1 hc B (Nat.le_refl B)
  have key := boats_loop (X := X) (Q := Q) (R := R) (x := x) (t := tN D G W R 0) (v := wN D W (R 29 + 1)) ho hm hv ht hr.2.1 hr.2.2.1 hc hx (fun w l hw hf => by
    have h30 : boatN lim bear (tN D G W R 0) (wN D W (R 29 + 1)) R B 30 ≤ 20 := by rw [a5 30 (by omega)]; exact hr.2.2.2.2.2.2.1
    simp (disch := first | omega | assumption) only [e199, s199_0, s199_1, s199_2, s199_5, s199_6, s199_7, s199_8, s199_11, s199_12, s199_13, s199_15, s199_16, s199_20, s199_21, s199_24, s199_27, s199_28, s199_29, s199_31, s199_32, s199_35, s199_38, s199_41, s199_42, s199_43, s199_46, s199_48, s199_49, s199_52, s199_53, s199_56, s199_57, s199_59, s199_60, s199_63, s199_64, s199_66, s199_67, s199_68, s199_69, s199_71, s199_74, s199_76, s199_77, s199_78, s199_79, s199_80, s199_83, s199_84, s199_86, s199_87, s199_89, s199_90, s199_92, s199_95, s199_96, s199_99, s199_100, s199_102, s199_103, s199_105, s199_106, s199_107, s199_110, s199_112, s199_113, s199_116, s199_117, s199_119, s199_120, s199_122, s199_123, s199_124, s199_125, s199_126, s199_129, s199_130, s199_133, s199_136, s199_137, s199_138, s199_139, s199_140, s199_142, s199_145, s199_146, s199_150, s199_151, s199_154, s199_157, s199_158, s199_161, s199_162, s199_164, s199_165, s199_167, s199_168, s199_169, s199_170, s199_173, s199_174, s199_176, s199_177, s199_179, s199_180, s199_181, s199_182, s199_183, s199_186, s199_187, s199_190, s199_193, s199_194, s199_197, s199_198, s199_200, s199_201, s199_202, s199_205, s199_206, s199_207, s199_210, s199_211, s199_213, s199_214, s199_215, s199_216, s199_217, s199_218, s199_219, Option.toList_some, Option.toList_none, List.cons_append, List.nil_append, nI_add, pk_mul, Nat.reduceAdd, Nat.reduceMul, Nat.add_zero, Nat.zero_add, if_true, if_false, ite_self]
    refine c_log (X := zst X 40 w) (R := boatN lim bear (tN D G W R 0) (wN D W (R 29 + 1)) R B) (by rw [zst_at]; exact hw) h30 hx (fun w2 hw2 hf2 => ?_)
    rw [zst_at] at hf2
    simp (disch := first | omega | assumption) only [e199, s199_0, s199_1, s199_2, s199_5, s199_6, s199_7, s199_8, s199_11, s199_12, s199_13, s199_15, s199_16, s199_20, s199_21, s199_24, s199_27, s199_28, s199_29, s199_31, s199_32, s199_35, s199_38, s199_41, s199_42, s199_43, s199_46, s199_48, s199_49, s199_52, s199_53, s199_56, s199_57, s199_59, s199_60, s199_63, s199_64, s199_66, s199_67, s199_68, s199_69, s199_71, s199_74, s199_76, s199_77, s199_78, s199_79, s199_80, s199_83, s199_84, s199_86, s199_87, s199_89, s199_90, s199_92, s199_95, s199_96, s199_99, s199_100, s199_102, s199_103, s199_105, s199_106, s199_107, s199_110, s199_112, s199_113, s199_116, s199_117, s199_119, s199_120, s199_122, s199_123, s199_124, s199_125, s199_126, s199_129, s199_130, s199_133, s199_136, s199_137, s199_138, s199_139, s199_140, s199_142, s199_145, s199_146, s199_150, s199_151, s199_154, s199_157, s199_158, s199_161, s199_162, s199_164, s199_165, s199_167, s199_168, s199_169, s199_170, s199_173, s199_174, s199_176, s199_177, s199_179, s199_180, s199_181, s199_182, s199_183, s199_186, s199_187, s199_190, s199_193, s199_194, s199_197, s199_198, s199_200, s199_201, s199_202, s199_205, s199_206, s199_207, s199_210, s199_211, s199_213, s199_214, s199_215, s199_216, s199_217, s199_218, s199_219, Option.toList_some, Option.toList_none, List.cons_append, List.nil_append, nI_add, pk_mul, Nat.reduceAdd, Nat.reduceMul, Nat.add_zero, Nat.zero_add, if_true, if_false, ite_self, zst_zst]
    refine glad_loop (X := X) (R := logN (boatN lim bear (tN D G W R 0) (wN D W (R 29 + 1)) R B) (tN D G W R 0) (wN D W (R 29 + 1)) (cntN lim bear (tN D G W R 0) (wN D W (R 29 + 1)) R B)) ho hm (fun g hg => ?_) hx (fun w3 hw3 hf3 => ?_) G 0 w2 (by omega) hw2 (hf.tr hf2)
    · rw [logN_out h30 (by omega), a5 (14 + g) (by omega)]
      exact (hr.1 g hg).2.2
    · have e29 : w3 (x + 29) = nI (R 29) := by
        rw [hw3 29 (by omega), gladN_out (by omega), logN_out h30 (by omega), a5 29 (by omega)]
      simp (disch := first | omega | assumption) only [e199, s199_0, s199_1, s199_2, s199_5, s199_6, s199_7, s199_8, s199_11, s199_12, s199_13, s199_15, s199_16, s199_20, s199_21, s199_24, s199_27, s199_28, s199_29, s199_31, s199_32, s199_35, s199_38, s199_41, s199_42, s199_43, s199_46, s199_48, s199_49, s199_52, s199_53, s199_56, s199_57, s199_59, s199_60, s199_63, s199_64, s199_66, s199_67, s199_68, s199_69, s199_71, s199_74, s199_76, s199_77, s199_78, s199_79, s199_80, s199_83, s199_84, s199_86, s199_87, s199_89, s199_90, s199_92, s199_95, s199_96, s199_99, s199_100, s199_102, s199_103, s199_105, s199_106, s199_107, s199_110, s199_112, s199_113, s199_116, s199_117, s199_119, s199_120, s199_122, s199_123, s199_124, s199_125, s199_126, s199_129, s199_130, s199_133, s199_136, s199_137, s199_138, s199_139, s199_140, s199_142, s199_145, s199_146, s199_150, s199_151, s199_154, s199_157, s199_158, s199_161, s199_162, s199_164, s199_165, s199_167, s199_168, s199_169, s199_170, s199_173, s199_174, s199_176, s199_177, s199_179, s199_180, s199_181, s199_182, s199_183, s199_186, s199_187, s199_190, s199_193, s199_194, s199_197, s199_198, s199_200, s199_201, s199_202, s199_205, s199_206, s199_207, s199_210, s199_211, s199_213, s199_214, s199_215, s199_216, s199_217, s199_218, s199_219, Option.toList_some, Option.toList_none, List.cons_append, List.nil_append, nI_add, pk_mul, Nat.reduceAdd, Nat.reduceMul, Nat.add_zero, Nat.zero_add, if_true, if_false, ite_self, zst_zst, zst_ne, hCe, zst_at, upd_ne, e29]
      refine hQ _ ?_ ((hf3.up (by omega) (by omega)).up (by omega) (by omega))
      exact (hw3.up (k := 28) (v := C)).up (k := 29) (v := R 29 + 1)) B 0 (X 40) zU (by omega) hs frW.rf
  rw [zst_self] at key
  exact key
end ME
