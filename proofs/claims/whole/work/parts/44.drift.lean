/-! drift: days by draws -/
def nxS (s : Nat) : Nat := (s * 1103515245 + 12345) % 2147483648
theorem nxS_lt (s : Nat) : nxS s < 2147483648 := Nat.mod_lt _ (by decide)
theorem seed_C (s : Nat) : (nI s * nI 1103515245 + nI 12345) &&& nI 2147483647 = nI (nxS s) := by
  rw [pk_mul, nI_add, pk_and _ 31 (by decide)]
  refine congrArg nI ?_
  show (BitVec.ofNat 32 (s * 1103515245 + 12345)).toNat % 2 ^ 31 = _
  rw [BitVec.toNat_ofNat]
  unfold nxS
  omega
theorem seed_M {s : Nat} (h : s < 2147483648) : (zreml ((nI s).toInt64 * lN 1103515245 + lN 12345) (lN 2147483648)).toInt32 = nI (nxS s) := by
  rw [nI_l (by omega), lN_mul, lN_add]
  unfold zreml
  rw [pk_lRem (by omega) (by decide) (by decide), lN_i]
  rfl
section DR
variable {D G B C : Nat} {W lim bear : Nat → Nat} {R : Nat → Nat} {u : Nat} {Rs : Nat → Nat → Nat} {kb : Nat} {Ri : Nat → Nat → Nat} {si : Nat → Nat} {sd : Nat} {tt : Nat × (Nat → Nat) × Int32} {nb : Nat × (Nat → Nat) × (Nat → Nat) × Nat × (Nat → Nat) × (Nat → Nat)} {X : zM} {Q : Option Value → zM → Prop}
theorem CI_seed {v : Nat} (h : CI ((D, G, B, C, W, lim, bear), R, (u, Rs), (kb, Ri, si), sd, tt, nb) X) : CI ((D, G, B, C, W, lim, bear), R, (u, Rs), (kb, Ri, si), v, tt, nb) (zst X 0 (upd (X 0) 10 (nI v))) := by
  obtain ⟨nx, k, ns, ni, h1, h2, h3, h4, h5, h6, h7, h8⟩ := id h
  exact CI_sd h (fun c c0 _ _ _ _ => zst_ne _ _ c0) (cS_fr h2 (fun c c1 c2 => zst_ne _ _ (by omega))) (cU_fr h3 (fun c hc => zst_ne _ _ (by omega))) (cIm_fr h4 (fun c hc => zst_ne _ _ (by omega))) (by rw [zst_at, upd_at])
theorem MI_seed {v : Nat} (h : MI ((D, G, B, C, W, lim, bear), R, (u, Rs), (kb, Ri, si), sd, tt, nb) X) : MI ((D, G, B, C, W, lim, bear), R, (u, Rs), (kb, Ri, si), v, tt, nb) (zst X 40 (upd (X 40) 91 (nI v))) := by
  refine MI_w0 h (fun i hi => ?_) (fun i hi c hc => ?_) (fun i hi hb => ⟨fun c hc => ?_, ?_⟩) (upd_at _ _ _)
  · rw [upd_ne _ _ (by omega)]; exact h.2.1 i hi
  · rw [upd_ne _ _ (by omega)]; exact h.2.2.1.2 i hi c hc
  · rw [upd_ne _ _ (by omega)]; exact (h.2.2.2.1.2 i hi hb).1 c hc
  · rw [upd_ne _ _ (by omega)]; exact (h.2.2.2.1.2 i hi hb).2
theorem c_drawC {n : Nat} (h : X 0 10 = nI sd) (hn : 0 < n) (hn2 : n ≤ 100) : zcl 34 [.ref 0, .int (nI n)] X Q = Q (some (.int (nI (nxS sd / 65536 % n)))) (zst X 0 (upd (X 0) 10 (nI (nxS sd)))) := by
  have hl := nxS_lt sd
  have hne : ¬ nI n = nI 0 := fun q => absurd ((nI_eq (by omega) (by omega)).mp q) (by omega)
  have h65 : ¬ nI 65536 = nI 0 := by decide
  have hpos : nI 0 < nI n := (nI_ltI (by omega) (by omega)).mpr hn
  have hd : nI (nxS sd) / nI 65536 = nI (nxS sd / 65536) := pk_div (by omega) (by decide) (by decide)
  have hr : zrem (nI (nxS sd / 65536)) (nI n) = nI (nxS sd / 65536 % n) := zrem_nI (by omega) hn (by omega)
  simp (disch := first | omega | assumption) only [e34, s34_0, s34_1, s34_2, s34_5, s34_8, s34_9, s34_12, s34_13, s34_16, s34_17, s34_20, s34_21, s34_24, s34_25, s34_28, s34_29, s34_32, s34_35, s34_36, s34_37, s34_38, Option.toList_some, Option.toList_none, List.cons_append, List.nil_append, if_true, if_false, eq_self, n1n0, ne10, h, seed_C, hpos, zst_at, upd_at, hd, hr]
theorem c_drawM {n : Nat} (h : X 40 91 = nI sd) (hs : sd < 2147483648) (hn : 0 < n) (hn2 : n ≤ 100) : zcl 51 [.ref 39, .int (nI n)] X Q = Q (some (.int (nI (nxS sd / 65536 % n)))) (zst X 40 (upd (X 40) 91 (nI (nxS sd)))) := by
  have hl := nxS_lt sd
  have hne : ¬ nI n = nI 0 := fun q => absurd ((nI_eq (by omega) (by omega)).mp q) (by omega)
  have h65 : ¬ nI 65536 = nI 0 := by decide
  have h64 : ¬ lN 2147483648 = lN 0 := by decide
  have hd : nI (nxS sd) / nI 65536 = nI (nxS sd / 65536) := pk_div (by omega) (by decide) (by decide)
  have hr : zrem (nI (nxS sd / 65536)) (nI n) = nI (nxS sd / 65536 % n) := zrem_nI (by omega) hn (by omega)
  have hm := seed_M hs
  simp (disch := first | omega | assumption) only [e51, s51_0, s51_1, s51_4, s51_6, s51_7, s51_10, s51_12, s51_13, s51_14, s51_17, s51_18, s51_21, s51_22, s51_25, s51_26, s51_27, s51_28, s51_29, s51_32, s51_34, s51_35, s51_38, s51_39, s51_40, s51_41, Option.toList_some, Option.toList_none, List.cons_append, List.nil_append, if_true, if_false, eq_self, n1n0, ne10, h, hm, zst_at, upd_at, hd, hr]
/-- a draw moves a glass -/
def mvR (G : Nat) (R : Nat → Nat) (sd : Nat) : (Nat → Nat) × Nat := if G = 0 then (R, sd) else
  if nxS (nxS sd) / 65536 % 4 = 0 then (upN R (nxS sd / 65536 % G) (min 10 (R (nxS sd / 65536 % G) + 1)), nxS (nxS sd))
  else if nxS (nxS sd) / 65536 % 4 = 1 then (upN R (nxS sd / 65536 % G) (R (nxS sd / 65536 % G) - 1), nxS (nxS sd))
  else if nxS (nxS sd) / 65536 % 4 = 2 then (upN R (14 + nxS sd / 65536 % G) (nxS (nxS (nxS sd)) / 65536 % 4), nxS (nxS (nxS sd)))
  else (R, nxS (nxS sd))
theorem mvR_ok (hG : G ≤ 7) (hr : okR B R) (hs : sd < 2147483648) : okR B (mvR G R sd).1 ∧ (mvR G R sd).1 29 = R 29 ∧ (mvR G R sd).2 < 2147483648 := by
  unfold mvR
  split
  · exact ⟨hr, rfl, hs⟩
  · rename_i h0
    have hg : nxS sd / 65536 % G < G := Nat.mod_lt _ (by omega)
    have hb := (hr.1 (nxS sd / 65536 % G) (by omega)).1
    split
    · exact ⟨okR_t hr (by omega) (by omega), upN_ne _ _ (by omega), nxS_lt _⟩
    · split
      · exact ⟨okR_t hr (by omega) (by omega), upN_ne _ _ (by omega), nxS_lt _⟩
      · split
        · refine ⟨okR_g hr (by omega) ?_, upN_ne _ _ (by omega), nxS_lt _⟩
          have : nxS (nxS (nxS sd)) / 65536 % 4 < 4 := Nat.mod_lt _ (by decide)
          omega
        · exact ⟨hr, rfl, nxS_lt _⟩
theorem c_move (hG : G ≤ 7) (hr : okR B R) (h : CI ((D, G, B, C, W, lim, bear), R, (u, Rs), (kb, Ri, si), sd, tt, nb) X) (hQ : ∀ Y, CI ((D, G, B, C, W, lim, bear), (mvR G R sd).1, (u, Rs), (kb, Ri, si), (mvR G R sd).2, tt, nb) Y → frM X Y → Q none Y) : zcl 88 [.ref 0] X Q := by
  obtain ⟨nx, k, ns, ni, h1, h2, h3, h4, h5, h6, h7, h8⟩ := id h
  have hGe := h1.2.1
  unfold mvR at hQ
  by_cases h0 : G = 0
  · simp only [if_pos h0] at hQ
    rw [h0] at hGe
    simp (disch := first | omega | assumption | decide) only [e88, s88_0, s88_1, s88_4, s88_7, s88_10, s88_11, s88_12, s88_13, s88_16, s88_19, s88_22, s88_23, s88_24, s88_25, s88_28, s88_56, s88_57, s88_60, s88_63, s88_64, s88_65, s88_68, s88_71, s88_72, s88_73, s88_74, s88_75, s88_77, s88_80, s88_81, s88_84, s88_85, s88_88, s88_91, s88_92, s88_93, s88_96, s88_99, s88_100, s88_101, s88_102, s88_103, s88_104, s88_107, s88_108, s88_111, s88_112, s88_115, s88_118, s88_119, s88_120, s88_121, s88_124, s88_125, s88_128, Option.toList_some, Option.toList_none, List.cons_append, List.nil_append, if_true, if_false, eq_self, n1n0, ne10, hGe]
    exact hQ X h frM.rf
  · simp only [if_neg h0] at hQ
    have c0 : ¬ nI G = nI 0 := fun q => h0 ((nI_eq (by omega) (by omega)).mp q)
    have hg : nxS sd / 65536 % G < G := Nat.mod_lt _ (by omega)
    have hb := (hr.1 (nxS sd / 65536 % G) (by omega)).1
    generalize hgn : nxS sd / 65536 % G = g at hQ hg hb
    have hd1 := fun Q => c_drawC (X := X) (Q := Q) (n := G) h5 (by omega) (by omega)
    rw [hgn] at hd1
    have C1 := CI_seed (v := nxS sd) h
    generalize hX1 : zst X 0 (upd (X 0) 10 (nI (nxS sd))) = X1 at C1 hd1
    have f1 : ∀ c, c ≠ 0 → X1 c = X c := fun c hc => by rw [← hX1]; exact zst_ne _ _ hc
    obtain ⟨nx1, k1, ns1, ni1, g1, g2, g3, g4, g5, g6, g7, g8⟩ := id C1
    have hd2 := fun Q => c_drawC (X := X1) (Q := Q) (n := 4) g5 (by omega) (by omega)
    have C2 := CI_seed (v := nxS (nxS sd)) C1
    generalize hX2 : zst X1 0 (upd (X1 0) 10 (nI (nxS (nxS sd)))) = X2 at C2 hd2
    have f2 : ∀ c, c ≠ 0 → X2 c = X c := fun c hc => by rw [← hX2, zst_ne _ _ hc]; exact f1 c hc
    obtain ⟨nx2, k2, ns2, ni2, i1, i2, i3, i4, i5, i6, i7, i8⟩ := id C2
    have q58 : X2 58 g = nI (R g) := (i2.2.2.1 g hg).1
    have hk4 : nxS (nxS sd) / 65536 % 4 < 4 := Nat.mod_lt _ (by decide)
    generalize hkn : nxS (nxS sd) / 65536 % 4 = kk at hQ hd2 hk4
    simp (disch := first | omega | assumption | decide) only [e88, s88_0, s88_1, s88_4, s88_7, s88_10, s88_11, s88_12, s88_13, s88_16, s88_19, s88_22, s88_23, s88_24, s88_25, s88_28, s88_56, s88_57, s88_60, s88_63, s88_64, s88_65, s88_68, s88_71, s88_72, s88_73, s88_74, s88_75, s88_77, s88_80, s88_81, s88_84, s88_85, s88_88, s88_91, s88_92, s88_93, s88_96, s88_99, s88_100, s88_101, s88_102, s88_103, s88_104, s88_107, s88_108, s88_111, s88_112, s88_115, s88_118, s88_119, s88_120, s88_121, s88_124, s88_125, s88_128, Option.toList_some, Option.toList_none, List.cons_append, List.nil_append, if_true, if_false, eq_self, n1n0, ne10, hGe, c0, hd1, hd2]
    by_cases k0 : kk = 0
    · simp only [if_pos k0] at hQ
      rw [if_pos (by rw [k0])]
      by_cases c : 10 < R g + 1
      · simp (disch := first | omega | assumption | decide) only [e88, s88_0, s88_1, s88_4, s88_7, s88_10, s88_11, s88_12, s88_13, s88_16, s88_19, s88_22, s88_23, s88_24, s88_25, s88_28, s88_56, s88_57, s88_60, s88_63, s88_64, s88_65, s88_68, s88_71, s88_72, s88_73, s88_74, s88_75, s88_77, s88_80, s88_81, s88_84, s88_85, s88_88, s88_91, s88_92, s88_93, s88_96, s88_99, s88_100, s88_101, s88_102, s88_103, s88_104, s88_107, s88_108, s88_111, s88_112, s88_115, s88_118, s88_119, s88_120, s88_121, s88_124, s88_125, s88_128, Option.toList_some, Option.toList_none, List.cons_append, List.nil_append, if_true, if_false, eq_self, n1n0, ne10, q58, nI_add, nI_ltI, c]
        have : min 10 (R g + 1) = 10 := by omega
        rw [this] at hQ
        exact hQ _ (CI_R C2 (frC_57 _ _ _ (by omega) (by omega)) (cS_t i2 hG hg)) (fun c c1 c2 => by rw [zst_ne _ _ (by omega)]; exact f2 c (by omega))
      · simp (disch := first | omega | assumption | decide) only [e88, s88_0, s88_1, s88_4, s88_7, s88_10, s88_11, s88_12, s88_13, s88_16, s88_19, s88_22, s88_23, s88_24, s88_25, s88_28, s88_56, s88_57, s88_60, s88_63, s88_64, s88_65, s88_68, s88_71, s88_72, s88_73, s88_74, s88_75, s88_77, s88_80, s88_81, s88_84, s88_85, s88_88, s88_91, s88_92, s88_93, s88_96, s88_99, s88_100, s88_101, s88_102, s88_103, s88_104, s88_107, s88_108, s88_111, s88_112, s88_115, s88_118, s88_119, s88_120, s88_121, s88_124, s88_125, s88_128, Option.toList_some, Option.toList_none, List.cons_append, List.nil_append, if_true, if_false, eq_self, n1n0, ne10, q58, nI_add, nI_ltI, c]
        have : min 10 (R g + 1) = R g + 1 := by omega
        rw [this] at hQ
        exact hQ _ (CI_R C2 (frC_57 _ _ _ (by omega) (by omega)) (cS_t i2 hG hg)) (fun c c1 c2 => by rw [zst_ne _ _ (by omega)]; exact f2 c (by omega))
    · simp only [if_neg k0] at hQ
      rw [if_neg (fun q => k0 ((nI_eq (by omega) (by omega)).mp q))]
      by_cases k1 : kk = 1
      · simp only [if_pos k1] at hQ
        rw [if_pos (by rw [k1])]
        have hde := dec_nI (l := R g) (by omega)
        simp (disch := first | omega | assumption | decide) only [e88, s88_0, s88_1, s88_4, s88_7, s88_10, s88_11, s88_12, s88_13, s88_16, s88_19, s88_22, s88_23, s88_24, s88_25, s88_28, s88_56, s88_57, s88_60, s88_63, s88_64, s88_65, s88_68, s88_71, s88_72, s88_73, s88_74, s88_75, s88_77, s88_80, s88_81, s88_84, s88_85, s88_88, s88_91, s88_92, s88_93, s88_96, s88_99, s88_100, s88_101, s88_102, s88_103, s88_104, s88_107, s88_108, s88_111, s88_112, s88_115, s88_118, s88_119, s88_120, s88_121, s88_124, s88_125, s88_128, Option.toList_some, Option.toList_none, List.cons_append, List.nil_append, if_true, if_false, eq_self, n1n0, ne10, q58, hde]
        exact hQ _ (CI_R C2 (frC_57 _ _ _ (by omega) (by omega)) (cS_t i2 hG hg)) (fun c c1 c2 => by rw [zst_ne _ _ (by omega)]; exact f2 c (by omega))
      · simp only [if_neg k1] at hQ
        rw [if_neg (fun q => k1 ((nI_eq (by omega) (by omega)).mp q))]
        by_cases k2 : kk = 2
        · simp only [if_pos k2] at hQ
          rw [if_pos (by rw [k2])]
          have hd3 := fun Q => c_drawC (X := X2) (Q := Q) (n := 4) i5 (by omega) (by omega)
          have C3 := CI_seed (v := nxS (nxS (nxS sd))) C2
          generalize hX3 : zst X2 0 (upd (X2 0) 10 (nI (nxS (nxS (nxS sd))))) = X3 at C3 hd3
          have f3 : ∀ c, c ≠ 0 → X3 c = X c := fun c hc => by rw [← hX3, zst_ne _ _ hc]; exact f2 c hc
          obtain ⟨nx3, k3, ns3, ni3, j1, j2, j3, j4, j5, j6, j7, j8⟩ := id C3
          simp (disch := first | omega | assumption | decide) only [e88, s88_0, s88_1, s88_4, s88_7, s88_10, s88_11, s88_12, s88_13, s88_16, s88_19, s88_22, s88_23, s88_24, s88_25, s88_28, s88_56, s88_57, s88_60, s88_63, s88_64, s88_65, s88_68, s88_71, s88_72, s88_73, s88_74, s88_75, s88_77, s88_80, s88_81, s88_84, s88_85, s88_88, s88_91, s88_92, s88_93, s88_96, s88_99, s88_100, s88_101, s88_102, s88_103, s88_104, s88_107, s88_108, s88_111, s88_112, s88_115, s88_118, s88_119, s88_120, s88_121, s88_124, s88_125, s88_128, Option.toList_some, Option.toList_none, List.cons_append, List.nil_append, if_true, if_false, eq_self, n1n0, ne10, hd3]
          exact hQ _ (CI_R C3 (frC_57 _ _ _ (by omega) (by omega)) (cS_g j2 hG hg)) (fun c c1 c2 => by rw [zst_ne _ _ (by omega)]; exact f3 c (by omega))
        · simp only [if_neg k2] at hQ
          rw [if_neg (fun q => k2 ((nI_eq (by omega) (by omega)).mp q))]
          exact hQ _ C2 (fun c c1 c2 => f2 c (by omega))
theorem c_dayByDraws (ho : okP D G B C W lim bear) (hD : 0 < D) (hr : okR B R) (hs : sd < 2147483648) (h : MI ((D, G, B, C, W, lim, bear), R, (u, Rs), (kb, Ri, si), sd, tt, nb) X) (hQ : ∀ Y, MI ((D, G, B, C, W, lim, bear), dayN D G B C W lim bear (mvR G R sd).1, (u, Rs), (kb, Ri, si), (mvR G R sd).2, tt, nb) Y → frK X Y → Q none Y) : zcl 203 [.ref 39] X Q := by
  have hG := ho.2.1
  have hGe := h.1.2.1
  have hmo := (mvR_ok hG hr hs).1
  unfold mvR at hQ hmo
  by_cases h0 : G = 0
  · simp only [if_pos h0] at hQ hmo
    rw [h0] at hGe
    simp (disch := first | omega | assumption | decide) only [e203, s203_0, s203_1, s203_4, s203_7, s203_8, s203_9, s203_12, s203_15, s203_16, s203_17, s203_18, s203_21, s203_22, s203_23, s203_26, s203_27, s203_30, s203_31, s203_33, s203_34, s203_37, s203_38, s203_39, s203_40, s203_41, s203_44, s203_45, s203_48, s203_49, s203_50, s203_53, s203_54, s203_57, s203_58, s203_59, s203_60, s203_63, s203_64, s203_65, s203_66, s203_67, s203_70, s203_71, s203_74, s203_75, s203_76, s203_79, s203_80, s203_83, s203_85, s203_86, s203_87, s203_88, s203_89, s203_92, s203_93, s203_94, s203_95, s203_98, Option.toList_some, Option.toList_none, List.cons_append, List.nil_append, if_true, if_false, eq_self, n1n0, ne10, hGe, Int32.lt_irrefl]
    refine c_dayIn ho h.1 h.2.1 hr hD (by omega) (fun w hw fw => ?_)
    simp (disch := first | omega | assumption | decide) only [e203, s203_0, s203_1, s203_4, s203_7, s203_8, s203_9, s203_12, s203_15, s203_16, s203_17, s203_18, s203_21, s203_22, s203_23, s203_26, s203_27, s203_30, s203_31, s203_33, s203_34, s203_37, s203_38, s203_39, s203_40, s203_41, s203_44, s203_45, s203_48, s203_49, s203_50, s203_53, s203_54, s203_57, s203_58, s203_59, s203_60, s203_63, s203_64, s203_65, s203_66, s203_67, s203_70, s203_71, s203_74, s203_75, s203_76, s203_79, s203_80, s203_83, s203_85, s203_86, s203_87, s203_88, s203_89, s203_92, s203_93, s203_94, s203_95, s203_98, Option.toList_some, Option.toList_none, List.cons_append, List.nil_append, if_true, if_false, eq_self, n1n0, ne10]
    exact hQ _ (MI_R h hw fw) (fun c hc => zst_ne _ _ (by omega))
  · simp only [if_neg h0] at hQ hmo
    have c0 : nI 0 < nI G := (nI_ltI (by omega) (by omega)).mpr (by omega)
    have hg : nxS sd / 65536 % G < G := Nat.mod_lt _ (by omega)
    have hb := (hr.1 (nxS sd / 65536 % G) (by omega)).1
    generalize hgn : nxS sd / 65536 % G = g at hQ hg hb hmo
    have hd1 := fun Q => c_drawM (X := X) (Q := Q) (n := G) h.2.2.2.2.1 hs (by omega) (by omega)
    rw [hgn] at hd1
    have C1 := MI_seed (v := nxS sd) h
    generalize hX1 : zst X 40 (upd (X 40) 91 (nI (nxS sd))) = X1 at C1 hd1
    have f1 : frK X X1 := fun c hc => by rw [← hX1]; exact zst_ne _ _ (by omega)
    have hd2 := fun Q => c_drawM (X := X1) (Q := Q) (n := 4) C1.2.2.2.2.1 (nxS_lt _) (by omega) (by omega)
    have C2 := MI_seed (v := nxS (nxS sd)) C1
    generalize hX2 : zst X1 40 (upd (X1 40) 91 (nI (nxS (nxS sd)))) = X2 at C2 hd2
    have f2 : frK X X2 := f1.tr (fun c hc => by rw [← hX2]; exact zst_ne _ _ (by omega))
    have q58 : X2 40 g = nI (R g) := at0 C2.2.1 (by omega)
    have hk4 : nxS (nxS sd) / 65536 % 4 < 4 := Nat.mod_lt _ (by decide)
    generalize hkn : nxS (nxS sd) / 65536 % 4 = kk at hQ hd2 hk4 hmo
    by_cases k0 : kk = 0
    · simp only [if_pos k0] at hQ hmo
      have e0 := fun Q => (hd2 Q)
      rw [k0] at e0
      have hl : (if nI 10 < nI (R g + 1) then nI 10 else nI (R g + 1)) = nI (min 10 (R g + 1)) := by
        by_cases c : 10 < R g + 1
        · rw [if_pos ((nI_ltI (by omega) (by omega)).mpr c)]
          exact congrArg nI (by omega)
        · rw [if_neg (fun q => c ((nI_ltI (by omega) (by omega)).mp q))]
          exact congrArg nI (by omega)
      simp (disch := first | omega | assumption | decide) only [e203, s203_0, s203_1, s203_4, s203_7, s203_8, s203_9, s203_12, s203_15, s203_16, s203_17, s203_18, s203_21, s203_22, s203_23, s203_26, s203_27, s203_30, s203_31, s203_33, s203_34, s203_37, s203_38, s203_39, s203_40, s203_41, s203_44, s203_45, s203_48, s203_49, s203_50, s203_53, s203_54, s203_57, s203_58, s203_59, s203_60, s203_63, s203_64, s203_65, s203_66, s203_67, s203_70, s203_71, s203_74, s203_75, s203_76, s203_79, s203_80, s203_83, s203_85, s203_86, s203_87, s203_88, s203_89, s203_92, s203_93, s203_94, s203_95, s203_98, Option.toList_some, Option.toList_none, List.cons_append, List.nil_append, if_true, if_false, eq_self, n1n0, ne10, hGe, c0, hd1, e0, c_least, q58, nI_add, hl]
      have C3 := MI_R C2 (up0 (v := min 10 (R g + 1)) (k := g) C2.2.1) (fr0 frW.rf (by omega))
      refine c_dayIn ho C3.1 C3.2.1 hmo hD (by omega) (fun w hw fw => ?_)
      simp (disch := first | omega | assumption | decide) only [e203, s203_0, s203_1, s203_4, s203_7, s203_8, s203_9, s203_12, s203_15, s203_16, s203_17, s203_18, s203_21, s203_22, s203_23, s203_26, s203_27, s203_30, s203_31, s203_33, s203_34, s203_37, s203_38, s203_39, s203_40, s203_41, s203_44, s203_45, s203_48, s203_49, s203_50, s203_53, s203_54, s203_57, s203_58, s203_59, s203_60, s203_63, s203_64, s203_65, s203_66, s203_67, s203_70, s203_71, s203_74, s203_75, s203_76, s203_79, s203_80, s203_83, s203_85, s203_86, s203_87, s203_88, s203_89, s203_92, s203_93, s203_94, s203_95, s203_98, Option.toList_some, Option.toList_none, List.cons_append, List.nil_append, if_true, if_false, eq_self, n1n0, ne10]
      exact hQ _ (MI_R C3 hw fw) (f2.tr (fun c hc => by rw [zst_ne _ _ (by omega), zst_ne _ _ (by omega)]))
    · simp only [if_neg k0] at hQ hmo
      have k0' : ¬ nI kk = nI 0 := fun q => k0 ((nI_eq (by omega) (by omega)).mp q)
      by_cases k1 : kk = 1
      · simp only [if_pos k1] at hQ hmo
        have e0 := fun Q => (hd2 Q)
        rw [k1] at e0
        have hde := dec_nI (l := R g) (by omega)
        simp (disch := first | omega | assumption | decide) only [e203, s203_0, s203_1, s203_4, s203_7, s203_8, s203_9, s203_12, s203_15, s203_16, s203_17, s203_18, s203_21, s203_22, s203_23, s203_26, s203_27, s203_30, s203_31, s203_33, s203_34, s203_37, s203_38, s203_39, s203_40, s203_41, s203_44, s203_45, s203_48, s203_49, s203_50, s203_53, s203_54, s203_57, s203_58, s203_59, s203_60, s203_63, s203_64, s203_65, s203_66, s203_67, s203_70, s203_71, s203_74, s203_75, s203_76, s203_79, s203_80, s203_83, s203_85, s203_86, s203_87, s203_88, s203_89, s203_92, s203_93, s203_94, s203_95, s203_98, Option.toList_some, Option.toList_none, List.cons_append, List.nil_append, if_true, if_false, eq_self, n1n0, ne10, hGe, c0, hd1, e0, c_most, q58, hde]
        have C3 := MI_R C2 (up0 (v := R g - 1) (k := g) C2.2.1) (fr0 frW.rf (by omega))
        refine c_dayIn ho C3.1 C3.2.1 hmo hD (by omega) (fun w hw fw => ?_)
        simp (disch := first | omega | assumption | decide) only [e203, s203_0, s203_1, s203_4, s203_7, s203_8, s203_9, s203_12, s203_15, s203_16, s203_17, s203_18, s203_21, s203_22, s203_23, s203_26, s203_27, s203_30, s203_31, s203_33, s203_34, s203_37, s203_38, s203_39, s203_40, s203_41, s203_44, s203_45, s203_48, s203_49, s203_50, s203_53, s203_54, s203_57, s203_58, s203_59, s203_60, s203_63, s203_64, s203_65, s203_66, s203_67, s203_70, s203_71, s203_74, s203_75, s203_76, s203_79, s203_80, s203_83, s203_85, s203_86, s203_87, s203_88, s203_89, s203_92, s203_93, s203_94, s203_95, s203_98, Option.toList_some, Option.toList_none, List.cons_append, List.nil_append, if_true, if_false, eq_self, n1n0, ne10]
        exact hQ _ (MI_R C3 hw fw) (f2.tr (fun c hc => by rw [zst_ne _ _ (by omega), zst_ne _ _ (by omega)]))
      · simp only [if_neg k1] at hQ hmo
        have k1' : ¬ nI kk = nI 1 := fun q => k1 ((nI_eq (by omega) (by omega)).mp q)
        by_cases k2 : kk = 2
        · simp only [if_pos k2] at hQ hmo
          have n2 : ¬ nI 2 = nI 0 := by decide
          have n21 : ¬ nI 2 = nI 1 := by decide
          have e0 := fun Q => (hd2 Q)
          rw [k2] at e0
          have hd3 := fun Q => c_drawM (X := X2) (Q := Q) (n := 4) C2.2.2.2.2.1 (nxS_lt _) (by omega) (by omega)
          have C3 := MI_seed (v := nxS (nxS (nxS sd))) C2
          generalize hX3 : zst X2 40 (upd (X2 40) 91 (nI (nxS (nxS (nxS sd))))) = X3 at C3 hd3
          have f3 : frK X X3 := f2.tr (fun c hc => by rw [← hX3]; exact zst_ne _ _ (by omega))
          simp (disch := first | omega | assumption | decide) only [e203, s203_0, s203_1, s203_4, s203_7, s203_8, s203_9, s203_12, s203_15, s203_16, s203_17, s203_18, s203_21, s203_22, s203_23, s203_26, s203_27, s203_30, s203_31, s203_33, s203_34, s203_37, s203_38, s203_39, s203_40, s203_41, s203_44, s203_45, s203_48, s203_49, s203_50, s203_53, s203_54, s203_57, s203_58, s203_59, s203_60, s203_63, s203_64, s203_65, s203_66, s203_67, s203_70, s203_71, s203_74, s203_75, s203_76, s203_79, s203_80, s203_83, s203_85, s203_86, s203_87, s203_88, s203_89, s203_92, s203_93, s203_94, s203_95, s203_98, Option.toList_some, Option.toList_none, List.cons_append, List.nil_append, if_true, if_false, eq_self, n1n0, ne10, hGe, c0, hd1, e0, hd3, n2, n21, nI_add]
          have C4 := MI_R C3 (up0 (v := nxS (nxS (nxS sd)) / 65536 % 4) (k := 14 + g) C3.2.1) (fr0 frW.rf (by omega))
          refine c_dayIn ho C4.1 C4.2.1 hmo hD (by omega) (fun w hw fw => ?_)
          simp (disch := first | omega | assumption | decide) only [e203, s203_0, s203_1, s203_4, s203_7, s203_8, s203_9, s203_12, s203_15, s203_16, s203_17, s203_18, s203_21, s203_22, s203_23, s203_26, s203_27, s203_30, s203_31, s203_33, s203_34, s203_37, s203_38, s203_39, s203_40, s203_41, s203_44, s203_45, s203_48, s203_49, s203_50, s203_53, s203_54, s203_57, s203_58, s203_59, s203_60, s203_63, s203_64, s203_65, s203_66, s203_67, s203_70, s203_71, s203_74, s203_75, s203_76, s203_79, s203_80, s203_83, s203_85, s203_86, s203_87, s203_88, s203_89, s203_92, s203_93, s203_94, s203_95, s203_98, Option.toList_some, Option.toList_none, List.cons_append, List.nil_append, if_true, if_false, eq_self, n1n0, ne10]
          exact hQ _ (MI_R C4 hw fw) (f3.tr (fun c hc => by rw [zst_ne _ _ (by omega), zst_ne _ _ (by omega)]))
        · simp only [if_neg k2] at hQ hmo
          have k2' : ¬ nI kk = nI 2 := fun q => k2 ((nI_eq (by omega) (by omega)).mp q)
          simp (disch := first | omega | assumption | decide) only [e203, s203_0, s203_1, s203_4, s203_7, s203_8, s203_9, s203_12, s203_15, s203_16, s203_17, s203_18, s203_21, s203_22, s203_23, s203_26, s203_27, s203_30, s203_31, s203_33, s203_34, s203_37, s203_38, s203_39, s203_40, s203_41, s203_44, s203_45, s203_48, s203_49, s203_50, s203_53, s203_54, s203_57, s203_58, s203_59, s203_60, s203_63, s203_64, s203_65, s203_66, s203_67, s203_70, s203_71, s203_74, s203_75, s203_76, s203_79, s203_80, s203_83, s203_85, s203_86, s203_87, s203_88, s203_89, s203_92, s203_93, s203_94, s203_95, s203_98, Option.toList_some, Option.toList_none, List.cons_append, List.nil_append, if_true, if_false, eq_self, n1n0, ne10, hGe, c0, hd1, hd2, k0', k1', k2']
          refine c_dayIn ho C2.1 C2.2.1 hmo hD (by omega) (fun w hw fw => ?_)
          simp (disch := first | omega | assumption | decide) only [e203, s203_0, s203_1, s203_4, s203_7, s203_8, s203_9, s203_12, s203_15, s203_16, s203_17, s203_18, s203_21, s203_22, s203_23, s203_26, s203_27, s203_30, s203_31, s203_33, s203_34, s203_37, s203_38, s203_39, s203_40, s203_41, s203_44, s203_45, s203_48, s203_49, s203_50, s203_53, s203_54, s203_57, s203_58, s203_59, s203_60, s203_63, s203_64, s203_65, s203_66, s203_67, s203_70, s203_71, s203_74, s203_75, s203_76, s203_79, s203_80, s203_83, s203_85, s203_86, s203_87, s203_88, s203_89, s203_92, s203_93, s203_94, s203_95, s203_98, Option.toList_some, Option.toList_none, List.cons_append, List.nil_append, if_true, if_false, eq_self, n1n0, ne10]
          exact hQ _ (MI_R C2 hw fw) (f2.tr (fun c hc => by rw [zst_ne _ _ (by omega)]))
/-- days by draws, each remembered -/
def drS (D G B C : Nat) (W lim bear : Nat → Nat) : Nat → (Nat → Nat) → Nat → (Nat → Nat → Nat) → Nat → (Nat → Nat) × (Nat × (Nat → Nat → Nat)) × Nat
  | 0, R, u, Rs, sd => (R, (u, Rs), sd)
  | n + 1, R, u, Rs, sd => drS D G B C W lim bear n (dayN D G B C W lim bear (mvR G R sd).1) (min 30 (u + 1)) (psh u Rs R) (mvR G R sd).2
theorem drS_ok (ho : okP D G B C W lim bear) : ∀ (n : Nat) (R : Nat → Nat) (u : Nat) (Rs : Nat → Nat → Nat) (sd : Nat), okR B R → R 29 + n ≤ 9030 → u ≤ 30 → (∀ i, i < u → okS B (Rs i)) → sd < 2147483648 → okS B (drS D G B C W lim bear n R u Rs sd).1 ∧ ((drS D G B C W lim bear n R u Rs sd).2.1.1 ≤ 30 ∧ ∀ i, i < (drS D G B C W lim bear n R u Rs sd).2.1.1 → okS B ((drS D G B C W lim bear n R u Rs sd).2.1.2 i)) ∧ (drS D G B C W lim bear n R u Rs sd).2.2 < 2147483648
  | 0, R, u, Rs, sd, hr, hn, hu, hR, hs => ⟨⟨hr, show R 29 ≤ 9030 by omega⟩, ⟨hu, hR⟩, hs⟩
  | n + 1, R, u, Rs, sd, hr, hn, hu, hR, hs => by
    obtain ⟨p1, p2⟩ := okS_psh hu (R := R) ⟨hr, by omega⟩ hR
    obtain ⟨q1, q2, q3⟩ := mvR_ok ho.2.1 hr hs
    exact drS_ok ho n _ _ _ _ (okR_day ho q1 (by omega)) (by rw [dayN_29]; omega) p1 p2 q3
theorem driftC_loop {m : Nat} (ho : okP D G B C W lim bear) (hm : m ≤ 30) : ∀ (n i : Nat) (R : Nat → Nat) (u : Nat) (Rs : Nat → Nat → Nat) (sd : Nat) (X : zM), i + n = m → okR B R → sd < 2147483648 → R 29 + n ≤ 9030 → CI ((D, G, B, C, W, lim, bear), R, (u, Rs), (kb, Ri, si), sd, tt, nb) X → (∀ Y, CI ((D, G, B, C, W, lim, bear), (drS D G B C W lim bear n R u Rs sd).1, (drS D G B C W lim bear n R u Rs sd).2.1, (kb, Ri, si), (drS D G B C W lim bear n R u Rs sd).2.2, tt, nb) Y → frM X Y → Q (some (.int (nI (hmN ((drS D G B C W lim bear n R u Rs sd).1 21) B)))) Y) → zev 193 14 [.ref 0, .int (nI m), .int (nI 0), .int (nI i)] [] X Q := by
  have hG := ho.2.1
  have hB := ho.2.2.1
  intro n
  induction n with
  | zero =>
    intro i R u Rs sd X hi hr hs hn hX hQ
    have e : i = m := by omega
    subst e
    obtain ⟨nx, k, ns, ni, h1, h2, h3, h4, h5, h6, h7, h8⟩ := id hX
    have hh := fun Q => c_homeCount (X := X) (Q := Q) (a := R 21) hB h1.2.2.1 h2.1.2.2.1 hr.2.1
    rw [s193_14]
    simp (disch := first | omega | assumption | decide) only [e193, s193_0, s193_1, s193_2, s193_5, s193_6, s193_7, s193_10, s193_11, s193_12, s193_13, s193_15, s193_16, s193_19, s193_20, s193_23, s193_24, s193_27, s193_30, s193_31, s193_34, s193_35, s193_38, s193_41, s193_44, s193_47, s193_48, s193_51, s193_54, Option.toList_some, Option.toList_none, List.cons_append, List.nil_append, if_true, if_false, eq_self, n1n0, ne10, nI_ltI, Nat.lt_irrefl, hh]
    exact hQ X hX frM.rf
  | succ n ih =>
    intro i R u Rs sd X hi hr hs hn hX hQ
    have hlt : i < m := by omega
    obtain ⟨q1, q2, q3⟩ := mvR_ok ho.2.1 hr hs
    rw [s193_14]
    simp (disch := first | omega | assumption | decide) only [e193, s193_0, s193_1, s193_2, s193_5, s193_6, s193_7, s193_10, s193_11, s193_12, s193_13, s193_15, s193_16, s193_19, s193_20, s193_23, s193_24, s193_27, s193_30, s193_31, s193_34, s193_35, s193_38, s193_41, s193_44, s193_47, s193_48, s193_51, s193_54, Option.toList_some, Option.toList_none, List.cons_append, List.nil_append, if_true, if_false, eq_self, n1n0, ne10, nI_ltI, hlt]
    refine CI_rem hG hB hX (fun Y hY fY => ?_)
    simp (disch := first | omega | assumption | decide) only [e193, s193_0, s193_1, s193_2, s193_5, s193_6, s193_7, s193_10, s193_11, s193_12, s193_13, s193_15, s193_16, s193_19, s193_20, s193_23, s193_24, s193_27, s193_30, s193_31, s193_34, s193_35, s193_38, s193_41, s193_44, s193_47, s193_48, s193_51, s193_54, Option.toList_some, Option.toList_none, List.cons_append, List.nil_append, if_true, if_false, eq_self, n1n0, ne10]
    refine c_move hG hr hY (fun V hV fV => ?_)
    obtain ⟨nx1, k1, ns1, ni1, g1, g2, g3, g4, g5, g6, g7, g8⟩ := id hV
    simp (disch := first | omega | assumption | decide) only [e193, s193_0, s193_1, s193_2, s193_5, s193_6, s193_7, s193_10, s193_11, s193_12, s193_13, s193_15, s193_16, s193_19, s193_20, s193_23, s193_24, s193_27, s193_30, s193_31, s193_34, s193_35, s193_38, s193_41, s193_44, s193_47, s193_48, s193_51, s193_54, Option.toList_some, Option.toList_none, List.cons_append, List.nil_append, if_true, if_false, eq_self, n1n0, ne10]
    refine c_passDay ho g1 g2 q1 (fun Z hZ fZ => ?_)
    simp (disch := first | omega | assumption | decide) only [e193, s193_0, s193_1, s193_2, s193_5, s193_6, s193_7, s193_10, s193_11, s193_12, s193_13, s193_15, s193_16, s193_19, s193_20, s193_23, s193_24, s193_27, s193_30, s193_31, s193_34, s193_35, s193_38, s193_41, s193_44, s193_47, s193_48, s193_51, s193_54, Option.toList_some, Option.toList_none, List.cons_append, List.nil_append, if_true, if_false, eq_self, n1n0, ne10, nI_add]
    refine ih (i + 1) _ _ _ _ Z (by omega) (okR_day ho q1 (by omega)) q3 (by rw [dayN_29]; omega) (CI_R hV fZ hZ) (fun P hP fP => hQ P hP (fY.tr (fV.tr (frM.tr (fun c c1 c2 => fZ c (by omega)) fP))))
theorem driftM_loop {m : Nat} (ho : okP D G B C W lim bear) (hD : 0 < D) (hm : m ≤ 30) : ∀ (n i : Nat) (R : Nat → Nat) (u : Nat) (Rs : Nat → Nat → Nat) (sd : Nat) (X : zM), i + n = m → u ≤ 30 → okR B R → sd < 2147483648 → R 29 + n ≤ 9030 → MI ((D, G, B, C, W, lim, bear), R, (u, Rs), (kb, Ri, si), sd, tt, nb) X → (∀ Y, MI ((D, G, B, C, W, lim, bear), (drS D G B C W lim bear n R u Rs sd).1, (drS D G B C W lim bear n R u Rs sd).2.1, (kb, Ri, si), (drS D G B C W lim bear n R u Rs sd).2.2, tt, nb) Y → frK X Y → Q (some (.int (nI (hmN ((drS D G B C W lim bear n R u Rs sd).1 21) B)))) Y) → zev 208 14 [.ref 39, .int (nI m), .int (nI 0), .int (nI i)] [] X Q := by
  have hB := ho.2.2.1
  have h32 := two_pow_le hB
  intro n
  induction n with
  | zero =>
    intro i R u Rs sd X hi hu hr hs hn hX hQ
    have e : i = m := by omega
    subst e
    have r21 := hr.2.1
    have hh := fun Q => c_homes (X := X) (Q := Q) (a := R 21) hB hX.1.2.2.1 (at0 hX.2.1 (by omega)) (by omega)
    rw [s208_14]
    simp (disch := first | omega | assumption | decide) only [e208, s208_0, s208_1, s208_2, s208_5, s208_6, s208_7, s208_10, s208_11, s208_12, s208_13, s208_15, s208_16, s208_19, s208_20, s208_23, s208_24, s208_27, s208_30, s208_33, s208_34, s208_37, Option.toList_some, Option.toList_none, List.cons_append, List.nil_append, if_true, if_false, eq_self, n1n0, ne10, nI_ltI, Nat.lt_irrefl, hh]
    exact hQ X hX frK.rf
  | succ n ih =>
    intro i R u Rs sd X hi hu hr hs hn hX hQ
    have hlt : i < m := by omega
    obtain ⟨q1, q2, q3⟩ := mvR_ok ho.2.1 hr hs
    rw [s208_14]
    simp (disch := first | omega | assumption | decide) only [e208, s208_0, s208_1, s208_2, s208_5, s208_6, s208_7, s208_10, s208_11, s208_12, s208_13, s208_15, s208_16, s208_19, s208_20, s208_23, s208_24, s208_27, s208_30, s208_33, s208_34, s208_37, Option.toList_some, Option.toList_none, List.cons_append, List.nil_append, if_true, if_false, eq_self, n1n0, ne10, nI_ltI, hlt]
    refine MI_rem hu hX (fun Y hY fY => ?_)
    simp (disch := first | omega | assumption | decide) only [e208, s208_0, s208_1, s208_2, s208_5, s208_6, s208_7, s208_10, s208_11, s208_12, s208_13, s208_15, s208_16, s208_19, s208_20, s208_23, s208_24, s208_27, s208_30, s208_33, s208_34, s208_37, Option.toList_some, Option.toList_none, List.cons_append, List.nil_append, if_true, if_false, eq_self, n1n0, ne10]
    refine c_dayByDraws ho hD hr hs hY (fun V hV fV => ?_)
    simp (disch := first | omega | assumption | decide) only [e208, s208_0, s208_1, s208_2, s208_5, s208_6, s208_7, s208_10, s208_11, s208_12, s208_13, s208_15, s208_16, s208_19, s208_20, s208_23, s208_24, s208_27, s208_30, s208_33, s208_34, s208_37, Option.toList_some, Option.toList_none, List.cons_append, List.nil_append, if_true, if_false, eq_self, n1n0, ne10, nI_add]
    refine ih (i + 1) _ _ _ _ _ (by omega) (by omega) (okR_day ho q1 (by omega)) q3 (by rw [dayN_29]; omega) hV (fun P hP fP => hQ P hP (fY.tr (fV.tr fP)))
end DR
theorem ok_drift (x : Int32) : okCall 193 208 [.int x] := by
  rintro ⟨⟨D, G, B, C, W, lim, bear⟩, R, ⟨u, Rs⟩, ⟨kb, Ri, si⟩, sd, ⟨t, tx, fa⟩, ⟨tn, tg, tr, en, eg, et⟩⟩ ha
  have hr := ha.2.1.1
  have hu := ha.2.2.1.1
  have hsd := ha.2.2.2.2.1
  rcases days_refused (R := R) (nx := 0) x ha.1 hr with ⟨j, hj1, hj, rfl, hD, h29⟩ | ⟨v, hv, hc, hm⟩
  · obtain ⟨p1, p2, p3⟩ := drS_ok ha.1 j R u Rs sd hr (by omega) hu ha.2.2.1.2 hsd
    refine ⟨((D, G, B, C, W, lim, bear), (drS D G B C W lim bear j R u Rs sd).1, (drS D G B C W lim bear j R u Rs sd).2.1, (kb, Ri, si), (drS D G B C W lim bear j R u Rs sd).2.2, (t, tx, fa), (tn, tg, tr, en, eg, et)), nI (hmN ((drS D G B C W lim bear j R u Rs sd).1 21) B), ⟨ha.1, p1, p2, ha.2.2.2.1, p3, ha.2.2.2.2.2⟩, ?_, ?_⟩
    · intro X Q hX hQ
      obtain ⟨nx, k, ns, ni, h1, h2, h3, h4, h5, h6, h7, h8⟩ := id hX
      have hrf := fun Q => c_refuseDays_ok (X := X) (Q := Q) (j := j) h1.1 ha.1.1 hD h2.1.1 h29 hj1 hj
      simp (disch := first | omega | assumption | decide) only [e193, s193_0, s193_1, s193_2, s193_5, s193_6, s193_7, s193_10, s193_11, s193_12, s193_13, s193_15, s193_16, s193_19, s193_20, s193_23, s193_24, s193_27, s193_30, s193_31, s193_34, s193_35, s193_38, s193_41, s193_44, s193_47, s193_48, s193_51, s193_54, Option.toList_some, Option.toList_none, List.cons_append, List.nil_append, if_true, if_false, eq_self, n1n0, ne10, hrf]
      exact driftC_loop ha.1 hj j 0 R u Rs sd X (by omega) hr hsd (by omega) hX hQ
    · intro X Q hX hQ
      have hrf := fun Q => c_refusedDays_ok (X := X) (Q := Q) (j := j) hX.1.1 ha.1.1 hD (at0 hX.2.1 (by omega)) h29 hj1 hj
      simp (disch := first | omega | assumption | decide) only [e208, s208_0, s208_1, s208_2, s208_5, s208_6, s208_7, s208_10, s208_11, s208_12, s208_13, s208_15, s208_16, s208_19, s208_20, s208_23, s208_24, s208_27, s208_30, s208_33, s208_34, s208_37, Option.toList_some, Option.toList_none, List.cons_append, List.nil_append, if_true, if_false, eq_self, n1n0, ne10, hrf, Int32.lt_irrefl]
      exact driftM_loop ha.1 hD hj j 0 R u Rs sd X (by omega) hu hr hsd (by omega) hX hQ
  · have hv0 : ¬ v = nI 0 := fun q => absurd (q ▸ hv) Int32.lt_irrefl
    refine ⟨_, v, ha, okC_ro ?_, okM_ro ?_⟩
    · rintro X Q ⟨nx, k, ns, ni, h1, h2, h3, h4, h5, h6, h7, h8⟩
      simp (disch := first | omega | assumption | decide) only [e193, s193_0, s193_1, s193_2, s193_5, s193_6, s193_7, s193_10, s193_11, s193_12, s193_13, s193_15, s193_16, s193_19, s193_20, s193_23, s193_24, s193_27, s193_30, s193_31, s193_34, s193_35, s193_38, s193_41, s193_44, s193_47, s193_48, s193_51, s193_54, Option.toList_some, Option.toList_none, List.cons_append, List.nil_append, if_true, if_false, eq_self, n1n0, ne10, hc X _ h1 h2.1.1, hv0]
    · rintro X Q ⟨h1, h2, h3, h4, h5, h6, h7⟩
      simp (disch := first | omega | assumption | decide) only [e208, s208_0, s208_1, s208_2, s208_5, s208_6, s208_7, s208_10, s208_11, s208_12, s208_13, s208_15, s208_16, s208_19, s208_20, s208_23, s208_24, s208_27, s208_30, s208_33, s208_34, s208_37, Option.toList_some, Option.toList_none, List.cons_append, List.nil_append, if_true, if_false, eq_self, n1n0, ne10, hm X _ h1 (at0 h2 (by omega)), hv]
