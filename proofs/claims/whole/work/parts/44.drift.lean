/-! drift: days by draws -/
def nxS (s : Nat) : Nat := (s * 1103515245 + 12345) % 2147483648
theorem nxS_lt (s : Nat) : nxS s < 2147483648 := Nat.mod_lt _ (by decide)
theorem seed_C (s : Nat) : (nI s * nI 1103515245 + nI 12345) &&& nI 2147483647 = nI (nxS s) := by
  rw [pk_mul, nI_add, pk_and _ 31 (by decide)]
  refine congrArg nI ?_
  show (BitVec.ofNat 32 (s * 1103515245 + 12345)).toNat % 2 ^ 31 = _
  rw [BitVec.toNat_ofNat]
  unfold nxS
  omega
theorem seed_M {s : Nat} (h : s < 2147483648) : (zreml ((nI s).toInt64 * lN 1103515245 + lN 12345) (lN 2147483648)).toInt32 = nI (nxS s) := by
  rw [nI_l (by omega), lN_mul, lN_add]
  unfold zreml
  rw [pk_lRem (by omega) (by decide) (by decide), lN_i]
  rfl
section DR
variable {D G B C : Nat} {W lim bear : Nat → Nat} {R : Nat → Nat} {u : Nat} {Rs : Nat → Nat → Nat} {kb : Nat} {Ri : Nat → Nat → Nat} {si : Nat → Nat} {sd : Nat} {tt : Nat × (Nat → Nat) × Int32} {nb : Nat × (Nat → Nat) × (Nat → Nat) × Nat × (Nat → Nat) × (Nat → Nat)} {X : zM} {Q : Option Value → zM → Prop}
theorem CI_seed {v : Nat} (h : CI ((D, G, B, C, W, lim, bear), R, (u, Rs), (kb, Ri, si), sd, tt, nb) X) : CI ((D, G, B, C, W, lim, bear), R, (u, Rs), (kb, Ri, si), v, tt, nb) (zst X 0 (upd (X 0) 10 (nI v))) := by
  obtain ⟨nx, k, ns, ni, h1, h2, h3, h4, h5, h6, h7, h8⟩ := id h
  exact CI_sd h (fun c c0 _ _ _ _ => zst_ne _ _ c0) (cS_fr h2 (fun c c1 c2 => zst_ne _ _ (by omega))) (cU_fr h3 (fun c hc => zst_ne _ _ (by omega))) (cIm_fr h4 (fun c hc => zst_ne _ _ (by omega))) (by rw [zst_at, upd_at])
theorem MI_seed {v : Nat} (h : MI ((D, G, B, C, W, lim, bear), R, (u, Rs), (kb, Ri, si), sd, tt, nb) X) : MI ((D, G, B, C, W, lim, bear), R, (u, Rs), (kb, Ri, si), v, tt, nb) (zst X 40 (upd (X 40) 91 (nI v))) := by
  refine MI_w0 h (fun i hi => ?_) (fun i hi c hc => ?_) (fun i hi hb => ⟨fun c hc => ?_, ?_⟩) (upd_at _ _ _)
  · rw [upd_ne _ _ (by omega)]; exact h.2.1 i hi
  · rw [upd_ne _ _ (by omega)]; exact h.2.2.1.2 i hi c hc
  · rw [upd_ne _ _ (by omega)]; exact (h.2.2.2.1.2 i hi hb).1 c hc
  · rw [upd_ne _ _ (by omega)]; exact (h.2.2.2.1.2 i hi hb).2
theorem c_drawC {n : Nat} (h : X 0 10 = nI sd) (hn : 0 < n) (hn2 : n ≤ 100) : zcl 34 [.ref 0, .int (nI n)] X Q = Q (some (.int (nI (nxS sd / 65536 % n)))) (zst X 0 (upd (X 0) 10 (nI (nxS sd)))) := by
  have hl := nxS_lt sd
  have hne : ¬ nI n = nI 0 := fun q => absurd ((nI_eq (by omega) (by omega)).mp q) (by omega)
  have h65 : ¬ nI 65536 = nI 0 := by decide
  have hpos : nI 0 < nI n := (nI_ltI (by omega) (by omega)).mpr hn
  have hd : nI (nxS sd) / nI 65536 = nI (nxS sd / 65536) := pk_div (by omega) (by decide) (by decide)
  have hr : zrem (nI (nxS sd / 65536)) (nI n) = nI (nxS sd / 65536 % n) := zrem_nI (by omega) hn (by omega)
  simp (disch := first | omega | assumption) only [e34, s34_0, s34_1, s34_2, s34_5, s34_8, s34_9, s34_12, s34_13, s34_16, s34_17, s34_20, s34_21, s34_24, s34_25, s34_28, s34_29, s34_32, s34_35, s34_36, s34_37, s34_38, Option.toList_some, Option.toList_none, List.cons_append, List.nil_append, if_true, if_false, eq_self, n1n0, ne10, h, seed_C, hpos, zst_at, upd_at, hd, hr]
theorem c_drawM {n : Nat} (h : X 40 91 = nI sd) (hs : sd < 2147483648) (hn : 0 < n) (hn2 : n ≤ 100) : zcl 51 [.ref 39, .int (nI n)] X Q = Q (some (.int (nI (nxS sd / 65536 % n)))) (zst X 40 (upd (X 40) 91 (nI (nxS sd)))) := by
  have hl := nxS_lt sd
  have hne : ¬ nI n = nI 0 := fun q => absurd ((nI_eq (by omega) (by omega)).mp q) (by omega)
  have h65 : ¬ nI 65536 = nI 0 := by decide
  have h64 : ¬ lN 2147483648 = lN 0 := by decide
  have hd : nI (nxS sd) / nI 65536 = nI (nxS sd / 65536) := pk_div (by omega) (by decide) (by decide)
  have hr : zrem (nI (nxS sd / 65536)) (nI n) = nI (nxS sd / 65536 % n) := zrem_nI (by omega) hn (by omega)
  have hm := seed_M hs
  simp (disch := first | omega | assumption) only [e51, s51_0, s51_1, s51_4, s51_6, s51_7, s51_10, s51_12, s51_13, s51_14, s51_17, s51_18, s51_21, s51_22, s51_25, s51_26, s51_27, s51_28, s51_29, s51_32, s51_34, s51_35, s51_38, s51_39, s51_40, s51_41, Option.toList_some, Option.toList_none, List.cons_append, List.nil_append, if_true, if_false, eq_self, n1n0, ne10, h, hm, zst_at, upd_at, hd, hr]
/-- a draw moves a glass -/
def mvR (G : Nat) (R : Nat → Nat) (sd : Nat) : (Nat → Nat) × Nat := if G = 0 then (R, sd) else
  if nxS (nxS sd) / 65536 % 4 = 0 then (upN R (nxS sd / 65536 % G) (min 10 (R (nxS sd / 65536 % G) + 1)), nxS (nxS sd))
  else if nxS (nxS sd) / 65536 % 4 = 1 then (upN R (nxS sd / 65536 % G) (R (nxS sd / 65536 % G) - 1), nxS (nxS sd))
  else if nxS (nxS sd) / 65536 % 4 = 2 then (upN R (14 + nxS sd / 65536 % G) (nxS (nxS (nxS sd)) / 65536 % 4), nxS (nxS (nxS sd)))
  else (R, nxS (nxS sd))
theorem mvR_ok (hG : G ≤ 7) (hr : okR B R) (hs : sd < 2147483648) : okR B (mvR G R sd).1 ∧ (mvR G R sd).1 29 = R 29 ∧ (mvR G R sd).2 < 2147483648 := by
  unfold mvR
  split
  · exact ⟨hr, rfl, hs⟩
  · rename_i h0
    have hg : nxS sd / 65536 % G < G := Nat.mod_lt _ (by omega)
    have hb := (hr.1 (nxS sd / 65536 % G) (by omega)).1
    split
    · exact ⟨okR_t hr (by omega) (by omega), upN_ne _ _ (by omega), nxS_lt _⟩
    · split
      · exact ⟨okR_t hr (by omega) (by omega), upN_ne _ _ (by omega), nxS_lt _⟩
      · split
        · refine ⟨okR_g hr (by omega) ?_, upN_ne _ _ (by omega), nxS_lt _⟩
          have : nxS (nxS (nxS sd)) / 65536 % 4 < 4 := Nat.mod_lt _ (by decide)
          omega
        · exact ⟨hr, rfl, nxS_lt _⟩
theorem c_move (hG : G ≤ 7) (hr : okR B R) (h : CI ((D, G, B, C, W, lim, bear), R, (u, Rs), (kb, Ri, si), sd, tt, nb) X) (hQ : ∀ Y, CI ((D, G, B, C, W, lim, bear), (mvR G R sd).1, (u, Rs), (kb, Ri, si), (mvR G R sd).2, tt, nb) Y → frM X Y → Q none Y) : zcl 88 [.ref 0] X Q := by
  obtain ⟨nx, k, ns, ni, h1, h2, h3, h4, h5, h6, h7, h8⟩ := id h
  have hGe := h1.2.1
  unfold mvR at hQ
  by_cases h0 : G = 0
  · simp only [if_pos h0] at hQ
    rw [h0] at hGe
    simp (disch := first | omega | assumption | decide) only [e88, s88_0, s88_1, s88_4, s88_7, s88_10, s88_11, s88_12, s88_13, s88_16, s88_19, s88_22, s88_23, s88_24, s88_25, s88_28, s88_56, s88_57, s88_60, s88_63, s88_64, s88_65, s88_68, s88_71, s88_72, s88_73, s88_74, s88_75, s88_77, s88_80, s88_81, s88_84, s88_85, s88_88, s88_91, s88_92, s88_93, s88_96, s88_99, s88_100, s88_101, s88_102, s88_103, s88_104, s88_107, s88_108, s88_111, s88_112, s88_115, s88_118, s88_119, s88_120, s88_121, s88_124, s88_125, s88_128, Option.toList_some, Option.toList_none, List.cons_append, List.nil_append, if_true, if_false, eq_self, n1n0, ne10, hGe]
    exact hQ X h frM.rf
  · simp only [if_neg h0] at hQ
    have c0 : ¬ nI G = nI 0 := fun q => h0 ((nI_eq (by omega) (by omega)).mp q)
    have hg : nxS sd / 65536 % G < G := Nat.mod_lt _ (by omega)
    have hb := (hr.1 (nxS sd / 65536 % G) (by omega)).1
    generalize hgn : nxS sd / 65536 % G = g at hQ hg hb
    have hd1 := fun Q => c_drawC (X := X) (Q := Q) (n := G) h5 (by omega) (by omega)
    rw [hgn] at hd1
    have C1 := CI_seed (v := nxS sd) h
    generalize hX1 : zst X 0 (upd (X 0) 10 (nI (nxS sd))) = X1 at C1 hd1
    have f1 : ∀ c, c ≠ 0 → X1 c = X c := fun c hc => by rw [← hX1]; exact zst_ne _ _ hc
    obtain ⟨nx1, k1, ns1, ni1, g1, g2, g3, g4, g5, g6, g7, g8⟩ := id C1
    have hd2 := fun Q => c_drawC (X := X1) (Q := Q) (n := 4) g5 (by omega) (by omega)
    have C2 := CI_seed (v := nxS (nxS sd)) C1
    generalize hX2 : zst X1 0 (upd (X1 0) 10 (nI (nxS (nxS sd)))) = X2 at C2 hd2
    have f2 : ∀ c, c ≠ 0 → X2 c = X c := fun c hc => by rw [← hX2, zst_ne _ _ hc]; exact f1 c hc
    obtain ⟨nx2, k2, ns2, ni2, i1, i2, i3, i4, i5, i6, i7, i8⟩ := id C2
    have q58 : X2 58 g = nI (R g) := (i2.2.2.1 g hg).1
    have hk4 : nxS (nxS sd) / 65536 % 4 < 4 := Nat.mod_lt _ (by decide)
    generalize hkn : nxS (nxS sd) / 65536 % 4 = kk at hQ hd2 hk4
    simp (disch := first | omega | assumption | decide) only [e88, s88_0, s88_1, s88_4, s88_7, s88_10, s88_11, s88_12, s88_13, s88_16, s88_19, s88_22, s88_23, s88_24, s88_25, s88_28, s88_56, s88_57, s88_60, s88_63, s88_64, s88_65, s88_68, s88_71, s88_72, s88_73, s88_74, s88_75, s88_77, s88_80, s88_81, s88_84, s88_85, s88_88, s88_91, s88_92, s88_93, s88_96, s88_99, s88_100, s88_101, s88_102, s88_103, s88_104, s88_107, s88_108, s88_111, s88_112, s88_115, s88_118, s88_119, s88_120, s88_121, s88_124, s88_125, s88_128, Option.toList_some, Option.toList_none, List.cons_append, List.nil_append, if_true, if_false, eq_self, n1n0, ne10, hGe, c0, hd1, hd2]
    by_cases k0 : kk = 0
    · simp only [if_pos k0] at hQ
      rw [if_pos (by rw [k0])]
      by_cases c : 10 < R g + 1
      · simp (disch := first | omega | assumption | decide) only [e88, s88_0, s88_1, s88_4, s88_7, s88_10, s88_11, s88_12, s88_13, s88_16, s88_19, s88_22, s88_23, s88_24, s88_25, s88_28, s88_56, s88_57, s88_60, s88_63, s88_64, s88_65, s88_68, s88_71, s88_72, s88_73, s88_74, s88_75, s88_77, s88_80, s88_81, s88_84, s88_85, s88_88, s88_91, s88_92, s88_93, s88_96, s88_99, s88_100, s88_101, s88_102, s88_103, s88_104, s88_107, s88_108, s88_111, s88_112, s88_115, s88_118, s88_119, s88_120, s88_121, s88_124, s88_125, s88_128, Option.toList_some, Option.toList_none, List.cons_append, List.nil_append, if_true, if_false, eq_self, n1n0, ne10, q58, nI_add, nI_ltI, c]
        have : min 10 (R g + 1) = 10 := by omega
        rw [this] at hQ
        exact hQ _ (CI_R C2 (frC_57 _ _ _ (by omega) (by omega)) (cS_t i2 hG hg)) (fun c c1 c2 => by rw [zst_ne _ _ (by omega)]; exact f2 c (by omega))
      · simp (disch := first | omega | assumption | decide) only [e88, s88_0, s88_1, s88_4, s88_7, s88_10, s88_11, s88_12, s88_13, s88_16, s88_19, s88_22, s88_23, s88_24, s88_25, s88_28, s88_56, s88_57, s88_60, s88_63, s88_64, s88_65, s88_68, s88_71, s88_72, s88_73, s88_74, s88_75, s88_77, s88_80, s88_81, s88_84, s88_85, s88_88, s88_91, s88_92, s88_93, s88_96, s88_99, s88_100, s88_101, s88_102, s88_103, s88_104, s88_107, s88_108, s88_111, s88_112, s88_115, s88_118, s88_119, s88_120, s88_121, s88_124, s88_125, s88_128, Option.toList_some, Option.toList_none, List.cons_append, List.nil_append, if_true, if_false, eq_self, n1n0, ne10, q58, nI_add, nI_ltI, c]
        have : min 10 (R g + 1) = R g + 1 := by omega
        rw [this] at hQ
        exact hQ _ (CI_R C2 (frC_57 _ _ _ (by omega) (by omega)) (cS_t i2 hG hg)) (fun c c1 c2 => by rw [zst_ne _ _ (by omega)]; exact f2 c (by omega))
    · simp only [if_neg k0] at hQ
      rw [if_neg (fun q => k0 ((nI_eq (by omega) (by omega)).mp q))]
      by_cases k1 : kk = 1
      · simp only [if_pos k1] at hQ
        rw [if_pos (by rw [k1])]
        have hde := dec_nI (l := R g) (by omega)
        simp (disch := first | omega | assumption | decide) only [e88, s88_0, s88_1, s88_4, s88_7, s88_10, s88_11, s88_12, s88_13, s88_16, s88_19, s88_22, s88_23, s88_24, s88_25, s88_28, s88_56, s88_57, s88_60, s88_63, s88_64, s88_65, s88_68, s88_71, s88_72, s88_73, s88_74, s88_75, s88_77, s88_80, s88_81, s88_84, s88_85, s88_88, s88_91, s88_92, s88_93, s88_96, s88_99, s88_100, s88_101, s88_102, s88_103, s88_104, s88_107, s88_108, s88_111, s88_112, s88_115, s88_118, s88_119, s88_120, s88_121, s88_124, s88_125, s88_128, Option.toList_some, Option.toList_none, List.cons_append, List.nil_append, if_true, if_false, eq_self, n1n0, ne10, q58, hde]
        exact hQ _ (CI_R C2 (frC_57 _ _ _ (by omega) (by omega)) (cS_t i2 hG hg)) (fun c c1 c2 => by rw [zst_ne _ _ (by omega)]; exact f2 c (by omega))
      · simp only [if_neg k1] at hQ
        rw [if_neg (fun q => k1 ((nI_eq (by omega) (by omega)).mp q))]
        by_cases k2 : kk = 2
        · simp only [if_pos k2] at hQ
          rw [if_pos (by rw [k2])]
          have hd3 := fun Q => c_drawC (X := X2) (Q := Q) (n := 4) i5 (by omega) (by omega)
          have C3 := CI_seed (v := nxS (nxS (nxS sd))) C2
          generalize hX3 : zst X2 0 (upd (X2 0) 10 (nI (nxS (nxS (nxS sd))))) = X3 at C3 hd3
          have f3 : ∀ c, c ≠ 0 → X3 c = X c := fun c hc => by rw [← hX3, zst_ne _ _ hc]; exact f2 c hc
          obtain ⟨nx3, k3, ns3, ni3, j1, j2, j3, j4, j5, j6, j7, j8⟩ := id C3
          simp (disch := first | omega | assumption | decide) only [e88, s88_0, s88_1, s88_4, s88_7, s88_10, s88_11, s88_12, s88_13, s88_16, s88_19, s88_22, s88_23, s88_24, s88_25, s88_28, s88_56, s88_57, s88_60, s88_63, s88_64, s88_65, s88_68, s88_71, s88_72, s88_73, s88_74, s88_75, s88_77, s88_80, s88_81, s88_84, s88_85, s88_88, s88_91, s88_92, s88_93, s88_96, s88_99, s88_100, s88_101, s88_102, s88_103, s88_104, s88_107, s88_108, s88_111, s88_112, s88_115, s88_118, s88_119, s88_120, s88_121, s88_124, s88_125, s88_128, Option.toList_some, Option.toList_none, List.cons_append, List.nil_append, if_true, if_false, eq_self, n1n0, ne10, hd3]
          exact hQ _ (CI_R C3 (frC_57 _ _ _ (by omega) (by omega)) (cS_g j2 hG hg)) (fun c c1 c2 => by rw [zst_ne _ _ (by omega)]; exact f3 c (by omega))
        · simp only [if_neg k2] at hQ
          rw [if_neg (fun q => k2 ((nI_eq (by omega) (by omega)).mp q))]
          simp (disch := first | omega | assumption | decide) only [e88, s88_0, s88_1, s88_4, s88_7, s88_10, s88_11, s88_12, s88_13, s88_16, s88_19, s88_22, s88_23, s88_24, s88_25, s88_28, s88_56, s88_57, s88_60, s88_63, s88_64, s88_65, s88_68, s88_71, s88_72, s88_73, s88_74, s88_75, s88_77, s88_80, s88_81, s88_84, s88_85, s88_88, s88_91, s88_92, s88_93, s88_96, s88_99, s88_100, s88_101, s88_102, s88_103, s88_104, s88_107, s88_108, s88_111, s88_112, s88_115, s88_118, s88_119, s88_120, s88_121, s88_124, s88_125, s88_128, Option.toList_some, Option.toList_none, List.cons_append, List.nil_append, if_true, if_false, eq_self, n1n0, ne10]
          exact hQ _ C2 (fun c c1 c2 => f2 c (by omega))
end DR
