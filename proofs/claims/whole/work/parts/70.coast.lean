/-! coast: the reference's call -/
section TK
variable {X : zM} {Q : Option Value → zM → Prop}
theorem tk_1 {l1 : Value} (hQ : ∀ Y, (∀ c, c ≠ 40 → Y c = X c) → (∀ j, j < 92 → Y 40 j = nI 0) → zev 45 72 [.ref 39, l1, .int (nI 92)] [] Y Q) : ∀ (n i : Nat) (Y : zM), i + n = 92 → (∀ c, c ≠ 40 → Y c = X c) → (∀ j, j < i → Y 40 j = nI 0) → zev 45 53 [.ref 39, l1, .int (nI i)] [] Y Q := by
  intro n
  induction n with
  | zero =>
    intro i Y hi h1 h2
    have e : i = 92 := by omega
    subst e
    have k := hQ Y h1 h2
    have c : ¬ (92 : Nat) < 92 := by omega
    rw [s45_53]
    simp (disch := first | omega | assumption | decide) only [s45_54, s45_56, nI_ltI, c, if_false]
    exact k
  | succ n ih =>
    intro i Y hi h1 h2
    have c : i < 92 := by omega
    have k := ih (i + 1) (zst Y 40 (upd (Y 40) i (nI 0))) (by omega) (fun c hc => by rw [zst_ne _ _ hc]; exact h1 c hc) (fun j hj => by
      rw [zst_at]
      by_cases e : j = i
      · rw [e, upd_at]
      · rw [upd_ne _ _ e]; exact h2 j (by omega))
    rw [s45_53]
    simp (disch := first | omega | assumption | decide) only [e45, s45_0, s45_1, s45_2, s45_5, s45_8, s45_9, s45_10, s45_13, s45_16, s45_17, s45_18, s45_21, s45_24, s45_25, s45_26, s45_29, s45_32, s45_33, s45_36, s45_39, s45_40, s45_43, s45_44, s45_47, s45_49, s45_50, s45_51, s45_52, s45_54, s45_56, s45_59, s45_60, s45_63, s45_64, s45_65, s45_66, s45_69, s45_72, s45_73, s45_76, s45_78, s45_79, s45_80, s45_81, s45_84, s45_86, s45_87, s45_90, s45_91, s45_92, s45_94, s45_96, s45_99, s45_100, s45_103, s45_104, s45_105, s45_108, s45_110, s45_111, s45_112, s45_113, s45_114, s45_117, s45_120, s45_121, s45_123, s45_125, s45_128, s45_129, s45_132, s45_133, s45_134, s45_135, s45_138, s45_141, s45_142, s45_145, s45_147, s45_148, s45_149, s45_150, s45_153, s45_154, s45_155, s45_156, s45_159, s45_161, s45_162, s45_163, s45_164, s45_165, s45_168, s45_171, s45_172, s45_175, s45_177, s45_178, s45_179, s45_180, s45_183, s45_184, s45_185, s45_188, s45_191, s45_192, s45_194, s45_195, s45_198, s45_199, s45_202, s45_203, s45_204, s45_207, s45_208, s45_209, s45_210, s45_211, s45_212, s45_213, s45_216, s45_217, s45_218, s45_221, s45_222, s45_223, s45_224, s45_225, s45_226, s45_229, s45_232, s45_233, s45_234, s45_237, s45_238, s45_239, s45_242, s45_243, s45_244, s45_247, s45_248, s45_251, s45_252, s45_253, s45_254, s45_255, s45_258, s45_259, s45_260, s45_261, Option.toList_some, Option.toList_none, List.cons_append, List.nil_append, if_true, if_false, eq_self, n1n0, ne10, nI_ltI, nI_add, c]
    exact k
theorem tk_2 {l1 : Value} (hQ : ∀ Y, (∀ c, c ≠ 42 → Y c = X c) → (∀ j, j < 12 → Y 42 j = X 42 (12 + j)) → zev 45 120 [.ref 39, l1, .int (nI 12)] [] Y Q) : ∀ (n i : Nat) (Y : zM), i + n = 12 → (∀ c, c ≠ 42 → Y c = X c) → (∀ j, j < i → Y 42 j = X 42 (12 + j)) → (∀ j, 12 ≤ j → Y 42 j = X 42 j) → zev 45 93 [.ref 39, l1, .int (nI i)] [] Y Q := by
  intro n
  induction n with
  | zero =>
    intro i Y hi h1 h2 h3
    have e : i = 12 := by omega
    subst e
    have k := hQ Y h1 h2
    have c : ¬ (12 : Nat) < 12 := by omega
    rw [s45_93]
    simp (disch := first | omega | assumption | decide) only [s45_94, s45_96, nI_ltI, c, if_false]
    exact k
  | succ n ih =>
    intro i Y hi h1 h2 h3
    have c : i < 12 := by omega
    have e12 := h3 (12 + i) (by omega)
    have k := ih (i + 1) (zst Y 42 (upd (Y 42) i (X 42 (12 + i)))) (by omega) (fun c hc => by rw [zst_ne _ _ hc]; exact h1 c hc) (fun j hj => by
      rw [zst_at]
      by_cases e : j = i
      · rw [e, upd_at]
      · rw [upd_ne _ _ e]; exact h2 j (by omega)) (fun j hj => by rw [zst_at, upd_ne _ _ (by omega)]; exact h3 j hj)
    rw [s45_93]
    simp (disch := first | omega | assumption | decide) only [e45, s45_0, s45_1, s45_2, s45_5, s45_8, s45_9, s45_10, s45_13, s45_16, s45_17, s45_18, s45_21, s45_24, s45_25, s45_26, s45_29, s45_32, s45_33, s45_36, s45_39, s45_40, s45_43, s45_44, s45_47, s45_49, s45_50, s45_51, s45_52, s45_54, s45_56, s45_59, s45_60, s45_63, s45_64, s45_65, s45_66, s45_69, s45_72, s45_73, s45_76, s45_78, s45_79, s45_80, s45_81, s45_84, s45_86, s45_87, s45_90, s45_91, s45_92, s45_94, s45_96, s45_99, s45_100, s45_103, s45_104, s45_105, s45_108, s45_110, s45_111, s45_112, s45_113, s45_114, s45_117, s45_120, s45_121, s45_123, s45_125, s45_128, s45_129, s45_132, s45_133, s45_134, s45_135, s45_138, s45_141, s45_142, s45_145, s45_147, s45_148, s45_149, s45_150, s45_153, s45_154, s45_155, s45_156, s45_159, s45_161, s45_162, s45_163, s45_164, s45_165, s45_168, s45_171, s45_172, s45_175, s45_177, s45_178, s45_179, s45_180, s45_183, s45_184, s45_185, s45_188, s45_191, s45_192, s45_194, s45_195, s45_198, s45_199, s45_202, s45_203, s45_204, s45_207, s45_208, s45_209, s45_210, s45_211, s45_212, s45_213, s45_216, s45_217, s45_218, s45_221, s45_222, s45_223, s45_224, s45_225, s45_226, s45_229, s45_232, s45_233, s45_234, s45_237, s45_238, s45_239, s45_242, s45_243, s45_244, s45_247, s45_248, s45_251, s45_252, s45_253, s45_254, s45_255, s45_258, s45_259, s45_260, s45_261, Option.toList_some, Option.toList_none, List.cons_append, List.nil_append, if_true, if_false, eq_self, n1n0, ne10, nI_ltI, nI_add, c, e12]
    exact k
theorem tk_3 {l1 : Value} {G : Nat} (hG : G ≤ 7) (h9 : X 39 9 = nI G) (hQ : ∀ Y, (∀ c, c ≠ 40 → Y c = X c) → (∀ j, j < 7 → Y 40 j = (if j < G then X 43 (7 + j) else nI 0) ∧ Y 40 (7 + j) = (if j < G then X 44 (7 + j) else nI 0)) → (∀ j, 14 ≤ j → Y 40 j = X 40 j) → zev 45 191 [.ref 39, l1, .int (nI 7)] [] Y Q) : ∀ (n i : Nat) (Y : zM), i + n = 7 → (∀ c, c ≠ 40 → Y c = X c) → (∀ j, j < i → Y 40 j = (if j < G then X 43 (7 + j) else nI 0) ∧ Y 40 (7 + j) = (if j < G then X 44 (7 + j) else nI 0)) → (∀ j, 14 ≤ j → Y 40 j = X 40 j) → zev 45 122 [.ref 39, l1, .int (nI i)] [] Y Q := by
  intro n
  induction n with
  | zero =>
    intro i Y hi h1 h2 h3
    have e : i = 7 := by omega
    subst e
    have k := hQ Y h1 h2 h3
    have c : ¬ (7 : Nat) < 7 := by omega
    rw [s45_122]
    simp (disch := first | omega | assumption | decide) only [s45_123, s45_125, nI_ltI, c, if_false]
    exact k
  | succ n ih =>
    intro i Y hi h1 h2 h3
    have c : i < 7 := by omega
    have y9 : Y 39 9 = nI G := by rw [h1 39 (by decide)]; exact h9
    have e43 : Y 43 (7 + i) = X 43 (7 + i) := by rw [h1 43 (by decide)]
    have e44 : Y 44 (7 + i) = X 44 (7 + i) := by rw [h1 44 (by decide)]
    have k := ih (i + 1) (zst Y 40 (upd (upd (Y 40) i (if i < G then X 43 (7 + i) else nI 0)) (7 + i) (if i < G then X 44 (7 + i) else nI 0))) (by omega) (fun c hc => by rw [zst_ne _ _ hc]; exact h1 c hc) (fun j hj => by
      rw [zst_at]
      by_cases e : j = i
      · rw [e, upd_at, upd_ne _ _ (by omega), upd_at]
        exact ⟨rfl, rfl⟩
      · rw [upd_ne _ _ (by omega), upd_ne _ _ e, upd_ne _ _ (by omega), upd_ne _ _ (by omega)]; exact h2 j (by omega)) (fun j hj => by rw [zst_at, upd_ne _ _ (by omega), upd_ne _ _ (by omega)]; exact h3 j hj)
    rw [s45_122]
    by_cases c2 : i < G
    · rw [if_pos c2, if_pos c2] at k
      simp (disch := first | omega | assumption | decide) only [e45, s45_0, s45_1, s45_2, s45_5, s45_8, s45_9, s45_10, s45_13, s45_16, s45_17, s45_18, s45_21, s45_24, s45_25, s45_26, s45_29, s45_32, s45_33, s45_36, s45_39, s45_40, s45_43, s45_44, s45_47, s45_49, s45_50, s45_51, s45_52, s45_54, s45_56, s45_59, s45_60, s45_63, s45_64, s45_65, s45_66, s45_69, s45_72, s45_73, s45_76, s45_78, s45_79, s45_80, s45_81, s45_84, s45_86, s45_87, s45_90, s45_91, s45_92, s45_94, s45_96, s45_99, s45_100, s45_103, s45_104, s45_105, s45_108, s45_110, s45_111, s45_112, s45_113, s45_114, s45_117, s45_120, s45_121, s45_123, s45_125, s45_128, s45_129, s45_132, s45_133, s45_134, s45_135, s45_138, s45_141, s45_142, s45_145, s45_147, s45_148, s45_149, s45_150, s45_153, s45_154, s45_155, s45_156, s45_159, s45_161, s45_162, s45_163, s45_164, s45_165, s45_168, s45_171, s45_172, s45_175, s45_177, s45_178, s45_179, s45_180, s45_183, s45_184, s45_185, s45_188, s45_191, s45_192, s45_194, s45_195, s45_198, s45_199, s45_202, s45_203, s45_204, s45_207, s45_208, s45_209, s45_210, s45_211, s45_212, s45_213, s45_216, s45_217, s45_218, s45_221, s45_222, s45_223, s45_224, s45_225, s45_226, s45_229, s45_232, s45_233, s45_234, s45_237, s45_238, s45_239, s45_242, s45_243, s45_244, s45_247, s45_248, s45_251, s45_252, s45_253, s45_254, s45_255, s45_258, s45_259, s45_260, s45_261, Option.toList_some, Option.toList_none, List.cons_append, List.nil_append, if_true, if_false, eq_self, n1n0, ne10, nI_ltI, nI_add, c, c2, y9, e43, e44, zst_at, zst_zst, zst_ne]
      exact k
    · rw [if_neg c2, if_neg c2] at k
      simp (disch := first | omega | assumption | decide) only [e45, s45_0, s45_1, s45_2, s45_5, s45_8, s45_9, s45_10, s45_13, s45_16, s45_17, s45_18, s45_21, s45_24, s45_25, s45_26, s45_29, s45_32, s45_33, s45_36, s45_39, s45_40, s45_43, s45_44, s45_47, s45_49, s45_50, s45_51, s45_52, s45_54, s45_56, s45_59, s45_60, s45_63, s45_64, s45_65, s45_66, s45_69, s45_72, s45_73, s45_76, s45_78, s45_79, s45_80, s45_81, s45_84, s45_86, s45_87, s45_90, s45_91, s45_92, s45_94, s45_96, s45_99, s45_100, s45_103, s45_104, s45_105, s45_108, s45_110, s45_111, s45_112, s45_113, s45_114, s45_117, s45_120, s45_121, s45_123, s45_125, s45_128, s45_129, s45_132, s45_133, s45_134, s45_135, s45_138, s45_141, s45_142, s45_145, s45_147, s45_148, s45_149, s45_150, s45_153, s45_154, s45_155, s45_156, s45_159, s45_161, s45_162, s45_163, s45_164, s45_165, s45_168, s45_171, s45_172, s45_175, s45_177, s45_178, s45_179, s45_180, s45_183, s45_184, s45_185, s45_188, s45_191, s45_192, s45_194, s45_195, s45_198, s45_199, s45_202, s45_203, s45_204, s45_207, s45_208, s45_209, s45_210, s45_211, s45_212, s45_213, s45_216, s45_217, s45_218, s45_221, s45_222, s45_223, s45_224, s45_225, s45_226, s45_229, s45_232, s45_233, s45_234, s45_237, s45_238, s45_239, s45_242, s45_243, s45_244, s45_247, s45_248, s45_251, s45_252, s45_253, s45_254, s45_255, s45_258, s45_259, s45_260, s45_261, Option.toList_some, Option.toList_none, List.cons_append, List.nil_append, if_true, if_false, eq_self, n1n0, ne10, nI_ltI, nI_add, c, c2, y9, zst_at, zst_zst, zst_ne]
      exact k
theorem tk_4 {l1 : Value} (hQ : ∀ Y, (∀ c, c ≠ 45 → c ≠ 46 → Y c = X c) → (∀ j, j < 5 → Y 45 j = X 45 (5 + j) ∧ Y 46 j = X 46 (5 + j)) → zev 45 232 [.ref 39, l1, .int (nI 5)] [] Y Q) : ∀ (n i : Nat) (Y : zM), i + n = 5 → (∀ c, c ≠ 45 → c ≠ 46 → Y c = X c) → (∀ j, j < i → Y 45 j = X 45 (5 + j) ∧ Y 46 j = X 46 (5 + j)) → (∀ j, 5 ≤ j → Y 45 j = X 45 j ∧ Y 46 j = X 46 j) → zev 45 193 [.ref 39, l1, .int (nI i)] [] Y Q := by
  intro n
  induction n with
  | zero =>
    intro i Y hi h1 h2 h3
    have e : i = 5 := by omega
    subst e
    have k := hQ Y h1 h2
    have c : ¬ (5 : Nat) < 5 := by omega
    rw [s45_193]
    simp (disch := first | omega | assumption | decide) only [s45_194, s45_195, nI_ltI, c, if_false]
    exact k
  | succ n ih =>
    intro i Y hi h1 h2 h3
    have c : i < 5 := by omega
    have e5 := (h3 (5 + i) (by omega)).1
    have e6 := (h3 (5 + i) (by omega)).2
    have k := ih (i + 1) (zst (zst Y 45 (upd (Y 45) i (X 45 (5 + i)))) 46 (upd (Y 46) i (X 46 (5 + i)))) (by omega) (fun c c1 c2 => by rw [zst_ne _ _ c2, zst_ne _ _ c1]; exact h1 c c1 c2) (fun j hj => by
      rw [zst_at, zst_ne _ _ (by decide), zst_at]
      by_cases e : j = i
      · rw [e, upd_at, upd_at]; exact ⟨rfl, rfl⟩
      · rw [upd_ne _ _ e, upd_ne _ _ e]; exact h2 j (by omega)) (fun j hj => by rw [zst_at, zst_ne _ _ (by decide), zst_at, upd_ne _ _ (by omega), upd_ne _ _ (by omega)]; exact h3 j hj)
    rw [s45_193]
    simp (disch := first | omega | assumption | decide) only [e45, s45_0, s45_1, s45_2, s45_5, s45_8, s45_9, s45_10, s45_13, s45_16, s45_17, s45_18, s45_21, s45_24, s45_25, s45_26, s45_29, s45_32, s45_33, s45_36, s45_39, s45_40, s45_43, s45_44, s45_47, s45_49, s45_50, s45_51, s45_52, s45_54, s45_56, s45_59, s45_60, s45_63, s45_64, s45_65, s45_66, s45_69, s45_72, s45_73, s45_76, s45_78, s45_79, s45_80, s45_81, s45_84, s45_86, s45_87, s45_90, s45_91, s45_92, s45_94, s45_96, s45_99, s45_100, s45_103, s45_104, s45_105, s45_108, s45_110, s45_111, s45_112, s45_113, s45_114, s45_117, s45_120, s45_121, s45_123, s45_125, s45_128, s45_129, s45_132, s45_133, s45_134, s45_135, s45_138, s45_141, s45_142, s45_145, s45_147, s45_148, s45_149, s45_150, s45_153, s45_154, s45_155, s45_156, s45_159, s45_161, s45_162, s45_163, s45_164, s45_165, s45_168, s45_171, s45_172, s45_175, s45_177, s45_178, s45_179, s45_180, s45_183, s45_184, s45_185, s45_188, s45_191, s45_192, s45_194, s45_195, s45_198, s45_199, s45_202, s45_203, s45_204, s45_207, s45_208, s45_209, s45_210, s45_211, s45_212, s45_213, s45_216, s45_217, s45_218, s45_221, s45_222, s45_223, s45_224, s45_225, s45_226, s45_229, s45_232, s45_233, s45_234, s45_237, s45_238, s45_239, s45_242, s45_243, s45_244, s45_247, s45_248, s45_251, s45_252, s45_253, s45_254, s45_255, s45_258, s45_259, s45_260, s45_261, Option.toList_some, Option.toList_none, List.cons_append, List.nil_append, if_true, if_false, eq_self, n1n0, ne10, nI_ltI, nI_add, c, e5, e6, zst_at, zst_zst, zst_ne]
    exact k
theorem c_takeM {D G B : Nat} (hG : G ≤ 7) (hD : D ≤ 12) (h8 : X 39 8 = nI D) (h10 : X 39 10 = nI G) (h12 : X 39 12 = nI B) (hQ : ∀ Z, (∀ c, (c < 39 ∨ 46 < c) → Z c = X c) → (∀ j, 14 ≤ j → j < 22 → Z 39 j = X 39 j) → (Z 39 7 = nI D ∧ Z 39 9 = nI G ∧ Z 39 11 = nI B ∧ Z 39 13 = (if 0 < D then X 39 14 else nI 0)) → (Z 39 22 = nI 0 ∧ Z 39 30 = nI 0 ∧ Z 39 33 = nI 0) → (∀ k, k < 12 → Z 42 k = X 42 (12 + k)) → (∀ b, b < 5 → Z 45 b = X 45 (5 + b) ∧ Z 46 b = X 46 (5 + b)) → (∀ i, i < 2 → Z 41 i = nI 0) → (∀ j, j < 7 → Z 40 j = (if j < G then X 43 (7 + j) else nI 0) ∧ Z 40 (7 + j) = (if j < G then X 44 (7 + j) else nI 0)) → (∀ j, 14 ≤ j → j < 91 → j ≠ 28 → Z 40 j = nI 0) → Z 40 28 = (if 0 < D then X 39 14 else nI 0) → Z 40 91 = X 40 91 → Q none Z) : zcl 45 [.ref 39] X Q := by
  have z0 : nI 0 = nI 0 ∨ nI 0 = nI 1 := Or.inl rfl
  have hdr : ∃ V : zM, V = zst X 39 (upd (upd (upd (upd (X 39) 7 (nI D)) 9 (nI G)) 11 (nI B)) 13 (if 0 < D then X 39 14 else nI 0)) ∧ (zev 45 53 [.ref 39, .int (X 40 91), .int (nI 0)] [] V Q → zcl 45 [.ref 39] X Q) := by
    refine ⟨_, rfl, fun q => ?_⟩
    by_cases c : 0 < D
    · rw [if_pos c] at q
      simp (disch := first | omega | assumption | decide) only [e45, s45_0, s45_1, s45_2, s45_5, s45_8, s45_9, s45_10, s45_13, s45_16, s45_17, s45_18, s45_21, s45_24, s45_25, s45_26, s45_29, s45_32, s45_33, s45_36, s45_39, s45_40, s45_43, s45_44, s45_47, s45_49, s45_50, s45_51, s45_52, s45_54, s45_56, s45_59, s45_60, s45_63, s45_64, s45_65, s45_66, s45_69, s45_72, s45_73, s45_76, s45_78, s45_79, s45_80, s45_81, s45_84, s45_86, s45_87, s45_90, s45_91, s45_92, s45_94, s45_96, s45_99, s45_100, s45_103, s45_104, s45_105, s45_108, s45_110, s45_111, s45_112, s45_113, s45_114, s45_117, s45_120, s45_121, s45_123, s45_125, s45_128, s45_129, s45_132, s45_133, s45_134, s45_135, s45_138, s45_141, s45_142, s45_145, s45_147, s45_148, s45_149, s45_150, s45_153, s45_154, s45_155, s45_156, s45_159, s45_161, s45_162, s45_163, s45_164, s45_165, s45_168, s45_171, s45_172, s45_175, s45_177, s45_178, s45_179, s45_180, s45_183, s45_184, s45_185, s45_188, s45_191, s45_192, s45_194, s45_195, s45_198, s45_199, s45_202, s45_203, s45_204, s45_207, s45_208, s45_209, s45_210, s45_211, s45_212, s45_213, s45_216, s45_217, s45_218, s45_221, s45_222, s45_223, s45_224, s45_225, s45_226, s45_229, s45_232, s45_233, s45_234, s45_237, s45_238, s45_239, s45_242, s45_243, s45_244, s45_247, s45_248, s45_251, s45_252, s45_253, s45_254, s45_255, s45_258, s45_259, s45_260, s45_261, Option.toList_some, Option.toList_none, List.cons_append, List.nil_append, if_true, if_false, eq_self, n1n0, ne10, nI_ltI, h8, h10, h12, c, zst_at, zst_zst, zst_ne, upd_at, upd_ne]
      exact q
    · rw [if_neg c] at q
      simp (disch := first | omega | assumption | decide) only [e45, s45_0, s45_1, s45_2, s45_5, s45_8, s45_9, s45_10, s45_13, s45_16, s45_17, s45_18, s45_21, s45_24, s45_25, s45_26, s45_29, s45_32, s45_33, s45_36, s45_39, s45_40, s45_43, s45_44, s45_47, s45_49, s45_50, s45_51, s45_52, s45_54, s45_56, s45_59, s45_60, s45_63, s45_64, s45_65, s45_66, s45_69, s45_72, s45_73, s45_76, s45_78, s45_79, s45_80, s45_81, s45_84, s45_86, s45_87, s45_90, s45_91, s45_92, s45_94, s45_96, s45_99, s45_100, s45_103, s45_104, s45_105, s45_108, s45_110, s45_111, s45_112, s45_113, s45_114, s45_117, s45_120, s45_121, s45_123, s45_125, s45_128, s45_129, s45_132, s45_133, s45_134, s45_135, s45_138, s45_141, s45_142, s45_145, s45_147, s45_148, s45_149, s45_150, s45_153, s45_154, s45_155, s45_156, s45_159, s45_161, s45_162, s45_163, s45_164, s45_165, s45_168, s45_171, s45_172, s45_175, s45_177, s45_178, s45_179, s45_180, s45_183, s45_184, s45_185, s45_188, s45_191, s45_192, s45_194, s45_195, s45_198, s45_199, s45_202, s45_203, s45_204, s45_207, s45_208, s45_209, s45_210, s45_211, s45_212, s45_213, s45_216, s45_217, s45_218, s45_221, s45_222, s45_223, s45_224, s45_225, s45_226, s45_229, s45_232, s45_233, s45_234, s45_237, s45_238, s45_239, s45_242, s45_243, s45_244, s45_247, s45_248, s45_251, s45_252, s45_253, s45_254, s45_255, s45_258, s45_259, s45_260, s45_261, Option.toList_some, Option.toList_none, List.cons_append, List.nil_append, if_true, if_false, eq_self, n1n0, ne10, nI_ltI, h8, h10, h12, c, zst_at, zst_zst, zst_ne, upd_at, upd_ne]
      exact q
  obtain ⟨V, hV, hgo⟩ := hdr
  have v0 : ∀ c, c ≠ 39 → V c = X c := fun c hc => by rw [hV, zst_ne _ _ hc]
  have v7 : V 39 7 = nI D := by rw [hV, zst_at]; simp (disch := decide) only [upd_at, upd_ne]
  have v9 : V 39 9 = nI G := by rw [hV, zst_at]; simp (disch := decide) only [upd_at, upd_ne]
  have v11 : V 39 11 = nI B := by rw [hV, zst_at]; simp (disch := decide) only [upd_at, upd_ne]
  have v13 : V 39 13 = (if 0 < D then X 39 14 else nI 0) := by rw [hV, zst_at, upd_at]
  have v14 : ∀ j, 14 ≤ j → V 39 j = X 39 j := fun j hj => by rw [hV, zst_at, upd_ne _ _ (by omega), upd_ne _ _ (by omega), upd_ne _ _ (by omega), upd_ne _ _ (by omega)]
  clear hV
  apply hgo
  refine tk_1 (X := V) (fun Y1 y1 y2 => ?_) 92 0 V (by omega) (fun _ _ => rfl) (fun j hj => absurd hj (by omega))
  have y13 : Y1 39 13 = (if 0 < D then X 39 14 else nI 0) := by rw [y1 39 (by decide)]; exact v13
  simp (disch := first | omega | assumption | decide) only [e45, s45_0, s45_1, s45_2, s45_5, s45_8, s45_9, s45_10, s45_13, s45_16, s45_17, s45_18, s45_21, s45_24, s45_25, s45_26, s45_29, s45_32, s45_33, s45_36, s45_39, s45_40, s45_43, s45_44, s45_47, s45_49, s45_50, s45_51, s45_52, s45_54, s45_56, s45_59, s45_60, s45_63, s45_64, s45_65, s45_66, s45_69, s45_72, s45_73, s45_76, s45_78, s45_79, s45_80, s45_81, s45_84, s45_86, s45_87, s45_90, s45_91, s45_92, s45_94, s45_96, s45_99, s45_100, s45_103, s45_104, s45_105, s45_108, s45_110, s45_111, s45_112, s45_113, s45_114, s45_117, s45_120, s45_121, s45_123, s45_125, s45_128, s45_129, s45_132, s45_133, s45_134, s45_135, s45_138, s45_141, s45_142, s45_145, s45_147, s45_148, s45_149, s45_150, s45_153, s45_154, s45_155, s45_156, s45_159, s45_161, s45_162, s45_163, s45_164, s45_165, s45_168, s45_171, s45_172, s45_175, s45_177, s45_178, s45_179, s45_180, s45_183, s45_184, s45_185, s45_188, s45_191, s45_192, s45_194, s45_195, s45_198, s45_199, s45_202, s45_203, s45_204, s45_207, s45_208, s45_209, s45_210, s45_211, s45_212, s45_213, s45_216, s45_217, s45_218, s45_221, s45_222, s45_223, s45_224, s45_225, s45_226, s45_229, s45_232, s45_233, s45_234, s45_237, s45_238, s45_239, s45_242, s45_243, s45_244, s45_247, s45_248, s45_251, s45_252, s45_253, s45_254, s45_255, s45_258, s45_259, s45_260, s45_261, Option.toList_some, Option.toList_none, List.cons_append, List.nil_append, if_true, if_false, eq_self, n1n0, ne10, y13, zst_at, zst_zst, zst_ne]
  generalize hA : zst Y1 40 (upd (upd (Y1 40) 91 (X 40 91)) 28 (if 0 < D then X 39 14 else nI 0)) = A
  have a0 : ∀ c, c ≠ 40 → A c = Y1 c := fun c hc => by rw [← hA, zst_ne _ _ hc]
  have a40 : ∀ j, j < 91 → j ≠ 28 → A 40 j = nI 0 := fun j hj hj2 => by rw [← hA, zst_at, upd_ne _ _ hj2, upd_ne _ _ (by omega)]; exact y2 j (by omega)
  have a28 : A 40 28 = (if 0 < D then X 39 14 else nI 0) := by rw [← hA, zst_at, upd_at]
  have a91 : A 40 91 = X 40 91 := by rw [← hA, zst_at, upd_ne _ _ (by decide), upd_at]
  refine tk_2 (X := A) (fun Y2 y3 y4 => ?_) 12 0 A (by omega) (fun _ _ => rfl) (fun j hj => absurd hj (by omega)) (fun _ _ => rfl)
  simp (disch := first | omega | assumption | decide) only [e45, s45_0, s45_1, s45_2, s45_5, s45_8, s45_9, s45_10, s45_13, s45_16, s45_17, s45_18, s45_21, s45_24, s45_25, s45_26, s45_29, s45_32, s45_33, s45_36, s45_39, s45_40, s45_43, s45_44, s45_47, s45_49, s45_50, s45_51, s45_52, s45_54, s45_56, s45_59, s45_60, s45_63, s45_64, s45_65, s45_66, s45_69, s45_72, s45_73, s45_76, s45_78, s45_79, s45_80, s45_81, s45_84, s45_86, s45_87, s45_90, s45_91, s45_92, s45_94, s45_96, s45_99, s45_100, s45_103, s45_104, s45_105, s45_108, s45_110, s45_111, s45_112, s45_113, s45_114, s45_117, s45_120, s45_121, s45_123, s45_125, s45_128, s45_129, s45_132, s45_133, s45_134, s45_135, s45_138, s45_141, s45_142, s45_145, s45_147, s45_148, s45_149, s45_150, s45_153, s45_154, s45_155, s45_156, s45_159, s45_161, s45_162, s45_163, s45_164, s45_165, s45_168, s45_171, s45_172, s45_175, s45_177, s45_178, s45_179, s45_180, s45_183, s45_184, s45_185, s45_188, s45_191, s45_192, s45_194, s45_195, s45_198, s45_199, s45_202, s45_203, s45_204, s45_207, s45_208, s45_209, s45_210, s45_211, s45_212, s45_213, s45_216, s45_217, s45_218, s45_221, s45_222, s45_223, s45_224, s45_225, s45_226, s45_229, s45_232, s45_233, s45_234, s45_237, s45_238, s45_239, s45_242, s45_243, s45_244, s45_247, s45_248, s45_251, s45_252, s45_253, s45_254, s45_255, s45_258, s45_259, s45_260, s45_261, Option.toList_some, Option.toList_none, List.cons_append, List.nil_append, if_true, if_false, eq_self, n1n0, ne10]
  refine tk_3 (X := Y2) (G := G) hG (by rw [y3 39 (by decide), a0 39 (by decide), y1 39 (by decide)]; exact v9) (fun Y3 y5 y6 y7 => ?_) 7 0 Y2 (by omega) (fun _ _ => rfl) (fun j hj => absurd hj (by omega)) (fun _ _ => rfl)
  simp (disch := first | omega | assumption | decide) only [e45, s45_0, s45_1, s45_2, s45_5, s45_8, s45_9, s45_10, s45_13, s45_16, s45_17, s45_18, s45_21, s45_24, s45_25, s45_26, s45_29, s45_32, s45_33, s45_36, s45_39, s45_40, s45_43, s45_44, s45_47, s45_49, s45_50, s45_51, s45_52, s45_54, s45_56, s45_59, s45_60, s45_63, s45_64, s45_65, s45_66, s45_69, s45_72, s45_73, s45_76, s45_78, s45_79, s45_80, s45_81, s45_84, s45_86, s45_87, s45_90, s45_91, s45_92, s45_94, s45_96, s45_99, s45_100, s45_103, s45_104, s45_105, s45_108, s45_110, s45_111, s45_112, s45_113, s45_114, s45_117, s45_120, s45_121, s45_123, s45_125, s45_128, s45_129, s45_132, s45_133, s45_134, s45_135, s45_138, s45_141, s45_142, s45_145, s45_147, s45_148, s45_149, s45_150, s45_153, s45_154, s45_155, s45_156, s45_159, s45_161, s45_162, s45_163, s45_164, s45_165, s45_168, s45_171, s45_172, s45_175, s45_177, s45_178, s45_179, s45_180, s45_183, s45_184, s45_185, s45_188, s45_191, s45_192, s45_194, s45_195, s45_198, s45_199, s45_202, s45_203, s45_204, s45_207, s45_208, s45_209, s45_210, s45_211, s45_212, s45_213, s45_216, s45_217, s45_218, s45_221, s45_222, s45_223, s45_224, s45_225, s45_226, s45_229, s45_232, s45_233, s45_234, s45_237, s45_238, s45_239, s45_242, s45_243, s45_244, s45_247, s45_248, s45_251, s45_252, s45_253, s45_254, s45_255, s45_258, s45_259, s45_260, s45_261, Option.toList_some, Option.toList_none, List.cons_append, List.nil_append, if_true, if_false, eq_self, n1n0, ne10]
  refine tk_4 (X := Y3) (fun Y4 y8 y9 => ?_) 5 0 Y3 (by omega) (fun _ _ _ => rfl) (fun j hj => absurd hj (by omega)) (fun _ _ => ⟨rfl, rfl⟩)
  simp (disch := first | omega | assumption | decide) only [e45, s45_0, s45_1, s45_2, s45_5, s45_8, s45_9, s45_10, s45_13, s45_16, s45_17, s45_18, s45_21, s45_24, s45_25, s45_26, s45_29, s45_32, s45_33, s45_36, s45_39, s45_40, s45_43, s45_44, s45_47, s45_49, s45_50, s45_51, s45_52, s45_54, s45_56, s45_59, s45_60, s45_63, s45_64, s45_65, s45_66, s45_69, s45_72, s45_73, s45_76, s45_78, s45_79, s45_80, s45_81, s45_84, s45_86, s45_87, s45_90, s45_91, s45_92, s45_94, s45_96, s45_99, s45_100, s45_103, s45_104, s45_105, s45_108, s45_110, s45_111, s45_112, s45_113, s45_114, s45_117, s45_120, s45_121, s45_123, s45_125, s45_128, s45_129, s45_132, s45_133, s45_134, s45_135, s45_138, s45_141, s45_142, s45_145, s45_147, s45_148, s45_149, s45_150, s45_153, s45_154, s45_155, s45_156, s45_159, s45_161, s45_162, s45_163, s45_164, s45_165, s45_168, s45_171, s45_172, s45_175, s45_177, s45_178, s45_179, s45_180, s45_183, s45_184, s45_185, s45_188, s45_191, s45_192, s45_194, s45_195, s45_198, s45_199, s45_202, s45_203, s45_204, s45_207, s45_208, s45_209, s45_210, s45_211, s45_212, s45_213, s45_216, s45_217, s45_218, s45_221, s45_222, s45_223, s45_224, s45_225, s45_226, s45_229, s45_232, s45_233, s45_234, s45_237, s45_238, s45_239, s45_242, s45_243, s45_244, s45_247, s45_248, s45_251, s45_252, s45_253, s45_254, s45_255, s45_258, s45_259, s45_260, s45_261, Option.toList_some, Option.toList_none, List.cons_append, List.nil_append, if_true, if_false, eq_self, n1n0, ne10, zst_at, zst_zst, zst_ne]
  have ch : ∀ c, c ≠ 40 → c ≠ 42 → c ≠ 45 → c ≠ 46 → Y4 c = V c := fun c c0 c2 c5 c6 => by rw [y8 c c5 c6, y5 c c0, y3 c c2, a0 c c0, y1 c c0]
  have ch43 : Y2 43 = X 43 := by rw [y3 43 (by decide), a0 43 (by decide), y1 43 (by decide), v0 43 (by decide)]
  have ch44 : Y2 44 = X 44 := by rw [y3 44 (by decide), a0 44 (by decide), y1 44 (by decide), v0 44 (by decide)]
  have ch45 : Y3 45 = X 45 := by rw [y5 45 (by decide), y3 45 (by decide), a0 45 (by decide), y1 45 (by decide), v0 45 (by decide)]
  have ch46 : Y3 46 = X 46 := by rw [y5 46 (by decide), y3 46 (by decide), a0 46 (by decide), y1 46 (by decide), v0 46 (by decide)]
  have ch40 : Y4 40 = Y3 40 := y8 40 (by decide) (by decide)
  have ch39 : Y4 39 = V 39 := ch 39 (by decide) (by decide) (by decide) (by decide)
  refine hQ _ (fun c hc => ?_) (fun j j1 j2 => ?_) ⟨?_, ?_, ?_, ?_⟩ ⟨?_, ?_, ?_⟩ (fun k hk => ?_) (fun b hb => ⟨?_, ?_⟩) (fun i hi => ?_) (fun j hj => ⟨?_, ?_⟩) (fun j j1 j2 j3 => ?_) ?_ ?_
  · rw [zst_ne _ _ (by omega), zst_ne _ _ (by omega), ch c (by omega) (by omega) (by omega) (by omega), v0 c (by omega)]
  · rw [zst_ne _ _ (by decide), zst_at, upd_ne _ _ (by omega), upd_ne _ _ (by omega), upd_ne _ _ (by omega), ch39]; exact v14 j j1
  · rw [zst_ne _ _ (by decide), zst_at, upd_ne _ _ (by omega), upd_ne _ _ (by omega), upd_ne _ _ (by omega), ch39]; exact v7
  · rw [zst_ne _ _ (by decide), zst_at, upd_ne _ _ (by omega), upd_ne _ _ (by omega), upd_ne _ _ (by omega), ch39]; exact v9
  · rw [zst_ne _ _ (by decide), zst_at, upd_ne _ _ (by omega), upd_ne _ _ (by omega), upd_ne _ _ (by omega), ch39]; exact v11
  · rw [zst_ne _ _ (by decide), zst_at, upd_ne _ _ (by omega), upd_ne _ _ (by omega), upd_ne _ _ (by omega), ch39]; exact v13
  · simp (disch := decide) only [zst_at, zst_ne, upd_at, upd_ne]
  · simp (disch := decide) only [zst_at, zst_ne, upd_at, upd_ne]
  · simp (disch := decide) only [zst_at, zst_ne, upd_at, upd_ne]
  · rw [zst_ne _ _ (by decide), zst_ne _ _ (by decide), y8 42 (by decide) (by decide), y5 42 (by decide), y4 k hk, a0 42 (by decide), y1 42 (by decide), v0 42 (by decide)]
  · rw [zst_ne _ _ (by decide), zst_ne _ _ (by decide), (y9 b hb).1, ch45]
  · rw [zst_ne _ _ (by decide), zst_ne _ _ (by decide), (y9 b hb).2, ch46]
  · rw [zst_at]
    rcases (show i = 0 ∨ i = 1 by omega) with q | q
    · rw [q, upd_ne _ _ (by decide), upd_at]
    · rw [q, upd_at]
  · rw [zst_ne _ _ (by decide), zst_ne _ _ (by decide), ch40, (y6 j hj).1, ch43]
  · rw [zst_ne _ _ (by decide), zst_ne _ _ (by decide), ch40, (y6 j hj).2, ch44]
  · rw [zst_ne _ _ (by decide), zst_ne _ _ (by decide), ch40, y7 j j1, y3 40 (by decide)]; exact a40 j j2 j3
  · rw [zst_ne _ _ (by decide), zst_ne _ _ (by decide), ch40, y7 28 (by decide), y3 40 (by decide)]; exact a28
  · rw [zst_ne _ _ (by decide), zst_ne _ _ (by decide), ch40, y7 91 (by decide), y3 40 (by decide)]; exact a91
end TK
theorem okM_coast {a : aT} (ha : OKA a) : okM 197 [.ref 39] a (newA a.2.2.2.2.2.1.1 a.2.2.2.2.2.1.2.1 (prs a.2.2.2.2.2.1.1 a.2.2.2.2.2.1.2.1 241 s0) a) (ansN (prs a.2.2.2.2.2.1.1 a.2.2.2.2.2.1.2.1 241 s0)) := by
  obtain ⟨⟨D, G, B, C, W, lim, bear⟩, R, ⟨u, Rs⟩, ⟨kb, Ri, si⟩, sd, ⟨t, tx, fa⟩, ⟨tn, tg, tr, en, eg, et⟩⟩ := a
  dsimp only
  intro X Q hX hQ
  obtain ⟨h1, h2, h3, h4, h5, h6, h7⟩ := id hX
  have htx := ha.2.2.2.2.2.1
  have hD : D ≤ 12 := ha.1.1
  have hB : B ≤ 5 := ha.1.2.2.1
  have z0 : nI 0 = nI 0 ∨ nI 0 = nI 1 := Or.inl rfl
  have ht : tM t tx X := ⟨htx.1, htx.2, h6.1, h6.2.2⟩
  have hok := prs_ok (t := t) (tx := tx) 241 s0 okT_0
  have hk3 := clP_3 (t := t) (tx := tx) 241 s0
  generalize hr : prs t tx 241 s0 = r at hQ hok hk3
  obtain ⟨k0, w0, p, ⟨D1, W1⟩, ⟨G1, tm, wt⟩, ⟨B1, lm, br⟩, C1, T⟩ := r
  dsimp only at hk3
  simp (disch := first | omega | assumption | decide) only [e197, s197_0, s197_1, s197_2, s197_5, s197_6, s197_7, s197_10, s197_11, s197_12, s197_15, s197_16, s197_17, s197_20, s197_21, s197_22, s197_25, s197_26, s197_27, s197_30, s197_31, s197_32, s197_35, s197_36, s197_37, s197_41, s197_44, s197_47, s197_48, s197_51, s197_54, s197_55, s197_58, s197_59, s197_62, s197_65, s197_66, s197_67, s197_70, s197_72, s197_75, s197_76, s197_79, s197_80, s197_81, s197_82, s197_85, s197_88, s197_91, s197_92, s197_93, s197_96, s197_97, s197_98, s197_101, s197_104, s197_105, s197_106, s197_109, s197_110, s197_113, s197_116, s197_118, s197_119, s197_122, s197_123, s197_124, s197_125, s197_128, s197_129, s197_132, Option.toList_some, Option.toList_none, List.cons_append, List.nil_append, if_true, if_false, eq_self, n1n0, ne10, zst_at, zst_zst]
  refine cst_loop (X := X) (t := t) (tx := tx) (r := (k0, w0, p, (D1, W1), (G1, tm, wt), (B1, lm, br), C1, T)) (fun k0n Z hZ => ?_) (fun k00 Z q hZ => ?_) 240 s0 _ (by omega) hr okT_0 ⟨⟨fun c c1 c2 => ?_, fun j hj => ?_, fun k hk => ?_, fun b hb => ⟨?_, ?_⟩⟩, ⟨ht.1, ht.2.1, ?_, fun k hk => ?_⟩, ⟨?_, ?_, ?_⟩, ⟨?_, ?_, ?_, ?_, ?_⟩, fun k hk => absurd hk (by omega), fun k hk => absurd hk (by omega), fun k hk => absurd hk (by omega)⟩
  · dsimp only at k0n hZ
    obtain ⟨⟨f1, f2, f3, f4⟩, z20, z21⟩ := hZ
    have pos : nI 0 < nI k0 := (nI_ltI (by omega) (by omega)).mpr (by omega)
    have u20 : upd (Z 39) 17 (nI 0) 20 = nI k0 := by rw [upd_ne _ _ (by decide)]; exact z20
    unfold newA ansN at hQ
    dsimp only at hQ
    rw [if_neg k0n, if_neg k0n] at hQ
    simp (disch := first | omega | assumption | decide) only [e197, s197_0, s197_1, s197_2, s197_5, s197_6, s197_7, s197_10, s197_11, s197_12, s197_15, s197_16, s197_17, s197_20, s197_21, s197_22, s197_25, s197_26, s197_27, s197_30, s197_31, s197_32, s197_35, s197_36, s197_37, s197_41, s197_44, s197_47, s197_48, s197_51, s197_54, s197_55, s197_58, s197_59, s197_62, s197_65, s197_66, s197_67, s197_70, s197_72, s197_75, s197_76, s197_79, s197_80, s197_81, s197_82, s197_85, s197_88, s197_91, s197_92, s197_93, s197_96, s197_97, s197_98, s197_101, s197_104, s197_105, s197_106, s197_109, s197_110, s197_113, s197_116, s197_118, s197_119, s197_122, s197_123, s197_124, s197_125, s197_128, s197_129, s197_132, Option.toList_some, Option.toList_none, List.cons_append, List.nil_append, if_true, if_false, eq_self, n1n0, ne10, zst_at, u20, pos]
    refine hQ _ ⟨⟨?_, ?_, ?_, ?_, fun k hk => ?_, fun b hb => ⟨?_, ?_⟩⟩, ?_, ⟨?_, ?_⟩, ?_, ?_, ⟨?_, ?_, fun k hk => absurd hk (by omega)⟩, ⟨?_, ?_, ?_, ?_⟩⟩ (fun c hc => by rw [zst_ne _ _ (by omega)]; exact f1 c (by omega) (by omega))
    · rw [zst_at, upd_ne _ _ (by decide), f2 7 (by omega)]; exact h1.1
    · rw [zst_at, upd_ne _ _ (by decide), f2 9 (by omega)]; exact h1.2.1
    · rw [zst_at, upd_ne _ _ (by decide), f2 11 (by omega)]; exact h1.2.2.1
    · rw [zst_at, upd_ne _ _ (by decide), f2 13 (by omega)]; exact h1.2.2.2.1
    · rw [zst_ne _ _ (by decide), f3 k (by omega)]; exact h1.2.2.2.2.1 k hk
    · rw [zst_ne _ _ (by decide), (f4 b (by omega)).1]; exact (h1.2.2.2.2.2 b hb).1
    · rw [zst_ne _ _ (by decide), (f4 b (by omega)).2]; exact (h1.2.2.2.2.2 b hb).2
    · rw [zst_ne _ _ (by decide), f1 40 (by decide) (by decide)]; exact h2
    · rw [zst_at, upd_ne _ _ (by decide), f2 22 (by omega)]; exact h3.1
    · rw [zst_ne _ _ (by decide), f1 40 (by decide) (by decide)]; exact h3.2
    · unfold mIm
      rw [zst_ne _ _ (by decide), zst_ne _ _ (by decide), f1 40 (by decide) (by decide), f1 41 (by decide) (by decide)]; exact h4
    · rw [zst_ne _ _ (by decide), f1 40 (by decide) (by decide)]; exact h5
    · rw [zst_at, upd_at]
    · rw [zst_at, upd_ne _ _ (by decide)]; exact z21
    · rw [zst_at, upd_ne _ _ (by decide), f2 30 (by omega)]; exact h7.1
    · rw [zst_at, upd_ne _ _ (by decide), f2 33 (by omega)]; exact h7.2.1
    · rw [zst_ne _ _ (by decide), zst_ne _ _ (by decide), f1 53 (by decide) (by decide), f1 54 (by decide) (by decide)]; exact h7.2.2.1
    · rw [zst_ne _ _ (by decide), zst_ne _ _ (by decide), f1 55 (by decide) (by decide), f1 56 (by decide) (by decide)]; exact h7.2.2.2
  · dsimp only at k00 hZ hok
    have hok := hok k00
    obtain ⟨o1, o2, o3, o4, o5, o6, o7, o8, o9, o10, o11, o12, o13⟩ := hok
    obtain ⟨⟨f1, f2, f3, f4⟩, tz, ⟨z18, z20, z21⟩, ⟨z8, z10, z12, z14, z15⟩, y5, y6, y7⟩ := hZ
    have u20 : upd (Z 39) 17 (nI 0) 20 = nI 0 := by rw [upd_ne _ _ (by decide)]; exact z20
    have npos : ¬ nI 0 < nI 0 := Int32.lt_irrefl
    unfold newA ansN at hQ
    dsimp only at hQ
    rw [if_pos k00, if_pos k00] at hQ
    simp (disch := first | omega | assumption | decide) only [e197, s197_0, s197_1, s197_2, s197_5, s197_6, s197_7, s197_10, s197_11, s197_12, s197_15, s197_16, s197_17, s197_20, s197_21, s197_22, s197_25, s197_26, s197_27, s197_30, s197_31, s197_32, s197_35, s197_36, s197_37, s197_41, s197_44, s197_47, s197_48, s197_51, s197_54, s197_55, s197_58, s197_59, s197_62, s197_65, s197_66, s197_67, s197_70, s197_72, s197_75, s197_76, s197_79, s197_80, s197_81, s197_82, s197_85, s197_88, s197_91, s197_92, s197_93, s197_96, s197_97, s197_98, s197_101, s197_104, s197_105, s197_106, s197_109, s197_110, s197_113, s197_116, s197_118, s197_119, s197_122, s197_123, s197_124, s197_125, s197_128, s197_129, s197_132, Option.toList_some, Option.toList_none, List.cons_append, List.nil_append, if_true, if_false, eq_self, n1n0, ne10, zst_at, u20, npos]
    generalize hV : zst Z 39 (upd (Z 39) 17 (nI 0)) = V
    have v0 : ∀ c, c ≠ 39 → V c = Z c := fun c hc => by rw [← hV, zst_ne _ _ hc]
    have v1 : ∀ j, j ≠ 17 → V 39 j = Z 39 j := fun j hj => by rw [← hV, zst_at, upd_ne _ _ hj]
    have v17 : V 39 17 = nI 0 := by rw [← hV, zst_at, upd_at]
    have hdr : (if 0 < D1 then V 39 14 else nI 0) = nI (drN D1 C1 T) := by
      rw [v1 14 (by decide), z14]
      unfold drN
      by_cases c1 : 0 < D1
      · rw [if_pos c1]
        by_cases c2 : T = 0
        · rw [if_pos c2, if_pos ⟨c1, c2⟩]
        · rw [if_neg c2, if_neg (fun q => c2 q.2)]
      · rw [if_neg c1, if_neg (fun q => c1 q.1), o12 (o13 (by omega)).2.2]
    refine c_takeM (X := V) (D := D1) (G := G1) (B := B1) o4 o2 (by rw [v1 8 (by decide)]; exact z8) (by rw [v1 10 (by decide)]; exact z10) (by rw [v1 12 (by decide)]; exact z12) (fun Y x1 x2 x3 x4 x5 x6 x7 x8 x9 x10 x11 => ?_)
    rw [hdr] at x3 x10
    have y9 := x3.2.1
    simp (disch := first | omega | assumption | decide) only [e197, s197_0, s197_1, s197_2, s197_5, s197_6, s197_7, s197_10, s197_11, s197_12, s197_15, s197_16, s197_17, s197_20, s197_21, s197_22, s197_25, s197_26, s197_27, s197_30, s197_31, s197_32, s197_35, s197_36, s197_37, s197_41, s197_44, s197_47, s197_48, s197_51, s197_54, s197_55, s197_58, s197_59, s197_62, s197_65, s197_66, s197_67, s197_70, s197_72, s197_75, s197_76, s197_79, s197_80, s197_81, s197_82, s197_85, s197_88, s197_91, s197_92, s197_93, s197_96, s197_97, s197_98, s197_101, s197_104, s197_105, s197_106, s197_109, s197_110, s197_113, s197_116, s197_118, s197_119, s197_122, s197_123, s197_124, s197_125, s197_128, s197_129, s197_132, Option.toList_some, Option.toList_none, List.cons_append, List.nil_append, if_true, if_false, eq_self, n1n0, ne10, y9]
    refine hQ Y ⟨⟨x3.1, x3.2.1, x3.2.2.1, x3.2.2.2, fun k hk => ?_, fun b hb => ⟨?_, ?_⟩⟩, fun i hi => ?_, ⟨x4.1, fun i hi => absurd hi (by omega)⟩, ⟨fun i hi => ?_, fun i hi hb => absurd hb (newA_ok.bt_z i)⟩, ?_, ⟨?_, ?_, fun k hk => absurd hk (by omega)⟩, ⟨x4.2.1, x4.2.2, fun i hi => absurd hi (by omega), fun i hi => absurd hi (by omega)⟩⟩ (fun c hc => by rw [x1 c (by omega), v0 c (by omega)]; exact f1 c (by omega) (by omega))
    · rw [x5 k (by omega), v0 42 (by decide)]; exact y5 k hk
    · rw [(x6 b (by omega)).1, v0 45 (by decide)]; exact (y7 b hb).1
    · rw [(x6 b (by omega)).2, v0 46 (by decide)]; exact (y7 b hb).2
    · rw [Nat.zero_add]
      by_cases i1 : i < 7
      · rw [(x8 i i1).1, v0 43 (by decide)]
        by_cases i2 : i < G1
        · rw [if_pos i2, (R0_lo o4 i2).1]; exact (y6 i i2).1
        · rw [if_neg i2]
          unfold R0
          rw [if_neg i2, if_neg (by omega), if_neg (by omega)]
      · by_cases i3 : i < 14
        · have e : i = 7 + (i - 7) := by omega
          rw [e, (x8 (i - 7) (by omega)).2, v0 44 (by decide)]
          by_cases i2 : i - 7 < G1
          · rw [if_pos i2, (R0_lo o4 i2).2.1]; exact (y6 _ i2).2
          · rw [if_neg i2]
            unfold R0
            rw [if_neg (by omega), if_neg (by omega), if_neg (by omega)]
        · by_cases i4 : i = 28
          · rw [i4, x10, R0_28 o4]
          · rw [x9 i (by omega) hi i4, R0_z o4 (by omega) i4]
    · rw [x7 i hi]
      unfold bt
      simp
    · rw [x11, v0 40 (by decide), f1 40 (by decide) (by decide)]; exact h5
    · rw [x2 17 (by decide) (by decide)]; exact v17
    · rw [x2 21 (by decide) (by decide), v1 21 (by decide)]; exact z21
  · rw [zst_ne _ _ c1]
  · rw [zst_at]
    simp (disch := omega) only [upd_ne]
  · rw [zst_ne _ _ (by decide)]
  · rw [zst_ne _ _ (by decide)]
  · rw [zst_ne _ _ (by decide)]
  · simp (disch := decide) only [zst_at, zst_ne, upd_at, upd_ne]; exact ht.2.2.1
  · simp (disch := decide) only [zst_at, zst_ne]; exact ht.2.2.2 k hk
  · simp (disch := decide) only [zst_at, zst_ne, upd_at, upd_ne]
  · simp (disch := decide) only [zst_at, zst_ne, upd_at, upd_ne]
  · simp (disch := decide) only [zst_at, zst_ne, upd_at, upd_ne]
  · simp (disch := decide) only [zst_at, zst_ne, upd_at, upd_ne]
  · simp (disch := decide) only [zst_at, zst_ne, upd_at, upd_ne]
  · simp (disch := decide) only [zst_at, zst_ne, upd_at, upd_ne]
  · simp (disch := decide) only [zst_at, zst_ne, upd_at, upd_ne]; rfl
  · simp (disch := decide) only [zst_at, zst_ne, upd_at, upd_ne]
theorem ok_coast : okCall 191 197 [] := by
  intro a ha
  refine ⟨_, _, newA_ok ha ?_, okC_coast ha, okM_coast ha⟩
  exact prs_ok _ _ okT_0
