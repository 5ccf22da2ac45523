/-! coast: the class's call -/
section CC
variable {X : zM} {Q : Option Value → zM → Prop} {t : Nat} {tx : Nat → Nat} {p : Nat}
/-- the drinks a day that hold in the end -/
def drN (D C T : Nat) : Nat := if 0 < D ∧ T = 0 then 3 else C
def dC (X : zM) (s : sT) (Y : zM) : Prop := match s with
  | (_, (D, W), (G, tm, wt), (B, lm, br), C, T) => (∀ c, c ≠ 1 → (c < 3 ∨ 8 < c) → Y c = X c) ∧ (Y 1 1 = nI 0 ∧ Y 1 4 = -1) ∧ (Y 3 0 = nI D ∧ Y 3 1 = nI G ∧ Y 3 2 = nI B ∧ Y 3 3 = nI (drN D C T) ∧ Y 3 4 = nI T) ∧ (∀ k, k < D → Y 4 k = nI (W k)) ∧ (∀ g, g < G → Y 5 g = nI (tm g) ∧ Y 6 g = nI (wt g)) ∧ ∀ b, b < B → Y 7 b = nI (lm b) ∧ Y 8 b = nI (br b)
def s0 : sT := (0, (0, fun _ => 0), (0, fun _ => 0, fun _ => 0), (0, fun _ => 0, fun _ => 0), 0, 0)
theorem okT_0 : okT t s0 := ⟨Nat.zero_le t, by decide, fun _ => Nat.zero_le _, by decide, fun _ => Nat.zero_le _, fun _ => Nat.zero_le _, by decide, fun _ => Nat.zero_le _, fun _ => Nat.zero_le _, by decide, by decide, fun _ => rfl, fun _ => ⟨rfl, rfl, rfl⟩⟩
theorem c_read {r : Nat × Nat × sT} (ht : tC t tx X) (hr : prs t tx 241 s0 = r) (hf : ¬ r.1 = 0 → ∀ Z, (∀ c, c ≠ 1 → (c < 3 ∨ 8 < c) → Z c = X c) → Z 1 1 = nI 0 → Z 1 4 = nI r.2.1 → Q (some (.int (nI r.1))) Z) (ho : r.1 = 0 → ∀ Z, dC X r.2.2 Z → Q (some (.int (nI 0))) Z) : zcl 176 [.ref 1, .ref 3] X Q := by
  have z0 : nI 0 = nI 0 ∨ nI 0 = nI 1 := Or.inl rfl
  obtain ⟨t1, t2, t3, t4⟩ := id ht
  simp (disch := first | omega | assumption | decide) only [e176, s176_0, s176_1, s176_4, s176_5, s176_6, s176_9, s176_10, s176_11, s176_14, s176_15, s176_16, s176_19, s176_20, s176_22, s176_25, s176_28, s176_29, s176_32, s176_35, s176_36, s176_39, s176_40, s176_43, s176_44, s176_45, s176_48, s176_51, s176_54, s176_55, s176_58, s176_61, s176_62, s176_65, s176_68, s176_69, s176_70, s176_73, s176_74, s176_75, s176_78, s176_79, s176_82, e0, s0_0, s0_1, s0_2, s0_5, s0_6, s0_7, s0_10, s0_11, s0_12, s0_15, s0_16, s0_17, s0_20, s0_21, s0_22, s0_25, Option.toList_some, Option.toList_none, List.cons_append, List.nil_append, if_true, if_false, eq_self, n1n0, ne10, zst_at, zst_zst, zst_ne]
  refine rdC_loop (X := X) (t := t) (tx := tx) (r := r) (fun k Z l2 hZ => ?_) (fun k Z l2 q hZ => ?_) 240 0 s0 _ (by omega) (Nat.le_refl 0) hr okT_0 ⟨fun c c1 c2 => ?_, ⟨t1, t2, ?_, fun k hk => ?_⟩, ⟨?_, ?_, ?_⟩, ⟨?_, ?_, ?_, ?_, ?_⟩, fun k hk => absurd hk (by omega), fun k hk => absurd hk (by omega), fun k hk => absurd hk (by omega)⟩
  · obtain ⟨z1, z2, z3, z4⟩ := hZ
    by_cases c1 : nI 0 < Z 3 0
    · by_cases c2 : Z 3 4 = nI 0
      · have e3 : zst (zst Z 3 (upd (Z 3) 3 (nI 3))) 1 (upd (Z 1) 1 (nI 0)) 1 3 = nI r.1 := by rw [zst_at, upd_ne _ _ (by decide)]; exact z3
        have e1 : zst Z 3 (upd (Z 3) 3 (nI 3)) 1 = Z 1 := zst_ne _ _ (by decide)
        simp (disch := first | omega | assumption | decide) only [e176, s176_0, s176_1, s176_4, s176_5, s176_6, s176_9, s176_10, s176_11, s176_14, s176_15, s176_16, s176_19, s176_20, s176_22, s176_25, s176_28, s176_29, s176_32, s176_35, s176_36, s176_39, s176_40, s176_43, s176_44, s176_45, s176_48, s176_51, s176_54, s176_55, s176_58, s176_61, s176_62, s176_65, s176_68, s176_69, s176_70, s176_73, s176_74, s176_75, s176_78, s176_79, s176_82, Option.toList_some, Option.toList_none, List.cons_append, List.nil_append, if_true, if_false, eq_self, n1n0, ne10, c1, c2, e1, e3]
        refine hf k _ (fun c d1 d2 => ?_) ?_ ?_
        · rw [zst_ne _ _ d1, zst_ne _ _ (by omega)]; exact z1 c d1 d2
        · rw [zst_at, upd_at]
        · rw [zst_at, upd_ne _ _ (by decide)]; exact z4
      · have e3 : zst Z 1 (upd (Z 1) 1 (nI 0)) 1 3 = nI r.1 := by rw [zst_at, upd_ne _ _ (by decide)]; exact z3
        simp (disch := first | omega | assumption | decide) only [e176, s176_0, s176_1, s176_4, s176_5, s176_6, s176_9, s176_10, s176_11, s176_14, s176_15, s176_16, s176_19, s176_20, s176_22, s176_25, s176_28, s176_29, s176_32, s176_35, s176_36, s176_39, s176_40, s176_43, s176_44, s176_45, s176_48, s176_51, s176_54, s176_55, s176_58, s176_61, s176_62, s176_65, s176_68, s176_69, s176_70, s176_73, s176_74, s176_75, s176_78, s176_79, s176_82, Option.toList_some, Option.toList_none, List.cons_append, List.nil_append, if_true, if_false, eq_self, n1n0, ne10, c1, c2, e3]
        refine hf k _ (fun c d1 d2 => ?_) ?_ ?_
        · rw [zst_ne _ _ d1]; exact z1 c d1 d2
        · rw [zst_at, upd_at]
        · rw [zst_at, upd_ne _ _ (by decide)]; exact z4
    · have e3 : zst Z 1 (upd (Z 1) 1 (nI 0)) 1 3 = nI r.1 := by rw [zst_at, upd_ne _ _ (by decide)]; exact z3
      simp (disch := first | omega | assumption | decide) only [e176, s176_0, s176_1, s176_4, s176_5, s176_6, s176_9, s176_10, s176_11, s176_14, s176_15, s176_16, s176_19, s176_20, s176_22, s176_25, s176_28, s176_29, s176_32, s176_35, s176_36, s176_39, s176_40, s176_43, s176_44, s176_45, s176_48, s176_51, s176_54, s176_55, s176_58, s176_61, s176_62, s176_65, s176_68, s176_69, s176_70, s176_73, s176_74, s176_75, s176_78, s176_79, s176_82, Option.toList_some, Option.toList_none, List.cons_append, List.nil_append, if_true, if_false, eq_self, n1n0, ne10, c1, e3]
      refine hf k _ (fun c d1 d2 => ?_) ?_ ?_
      · rw [zst_ne _ _ d1]; exact z1 c d1 d2
      · rw [zst_at, upd_at]
      · rw [zst_at, upd_ne _ _ (by decide)]; exact z4
  · have ho := ho k
    have hok := prs_ok (t := t) (tx := tx) 241 s0 okT_0
    rw [hr] at hok
    have hok := hok k
    obtain ⟨k0, w0, p, ⟨D, W⟩, ⟨G, tm, wt⟩, ⟨B, lm, br⟩, C, T⟩ := r
    have hD : D ≤ 12 := hok.2.1
    have hT : T ≤ 1 := hok.2.2.2.2.2.2.2.2.2.2.1
    obtain ⟨z1, z2, ⟨z3a, z3b, z3c⟩, ⟨z4a, z4b, z4c, z4d, z4e⟩, z5, z6, z7⟩ := hZ
    by_cases c1 : 0 < D
    · by_cases c2 : T = 0
      · have e3 : zst (zst Z 3 (upd (Z 3) 3 (nI 3))) 1 (upd (Z 1) 1 (nI 0)) 1 3 = nI 0 := by rw [zst_at, upd_ne _ _ (by decide)]; exact z3b
        have e1 : zst Z 3 (upd (Z 3) 3 (nI 3)) 1 = Z 1 := zst_ne _ _ (by decide)
        have ed : drN D C T = 3 := if_pos ⟨c1, c2⟩
        simp (disch := first | omega | assumption | decide) only [e176, s176_0, s176_1, s176_4, s176_5, s176_6, s176_9, s176_10, s176_11, s176_14, s176_15, s176_16, s176_19, s176_20, s176_22, s176_25, s176_28, s176_29, s176_32, s176_35, s176_36, s176_39, s176_40, s176_43, s176_44, s176_45, s176_48, s176_51, s176_54, s176_55, s176_58, s176_61, s176_62, s176_65, s176_68, s176_69, s176_70, s176_73, s176_74, s176_75, s176_78, s176_79, s176_82, Option.toList_some, Option.toList_none, List.cons_append, List.nil_append, if_true, if_false, eq_self, n1n0, ne10, z4a, z4e, nI_ltI, nI_eq, c1, c2, e1, e3]
        refine ho _ ⟨fun c d1 d2 => ?_, ⟨?_, ?_⟩, ⟨?_, ?_, ?_, ?_, ?_⟩, fun k hk => z5 k hk, fun g hg => z6 g hg, fun b hb => z7 b hb⟩
        · rw [zst_ne _ _ d1, zst_ne _ _ (by omega)]; exact z1 c d1 d2
        · rw [zst_at, upd_at]
        · rw [zst_at, upd_ne _ _ (by decide)]; exact z3c
        · rw [zst_ne _ _ (by decide), zst_at, upd_ne _ _ (by decide)]; exact z4a
        · rw [zst_ne _ _ (by decide), zst_at, upd_ne _ _ (by decide)]; exact z4b
        · rw [zst_ne _ _ (by decide), zst_at, upd_ne _ _ (by decide)]; exact z4c
        · rw [zst_ne _ _ (by decide), zst_at, upd_at, ed]
        · rw [zst_ne _ _ (by decide), zst_at, upd_ne _ _ (by decide)]; exact z4e
      · have e3 : zst Z 1 (upd (Z 1) 1 (nI 0)) 1 3 = nI 0 := by rw [zst_at, upd_ne _ _ (by decide)]; exact z3b
        have ed : drN D C T = C := if_neg (fun q => c2 q.2)
        simp (disch := first | omega | assumption | decide) only [e176, s176_0, s176_1, s176_4, s176_5, s176_6, s176_9, s176_10, s176_11, s176_14, s176_15, s176_16, s176_19, s176_20, s176_22, s176_25, s176_28, s176_29, s176_32, s176_35, s176_36, s176_39, s176_40, s176_43, s176_44, s176_45, s176_48, s176_51, s176_54, s176_55, s176_58, s176_61, s176_62, s176_65, s176_68, s176_69, s176_70, s176_73, s176_74, s176_75, s176_78, s176_79, s176_82, Option.toList_some, Option.toList_none, List.cons_append, List.nil_append, if_true, if_false, eq_self, n1n0, ne10, z4a, z4e, nI_ltI, nI_eq, c1, c2, e3]
        refine ho _ ⟨fun c d1 d2 => ?_, ⟨?_, ?_⟩, ⟨?_, ?_, ?_, ?_, ?_⟩, fun k hk => z5 k hk, fun g hg => z6 g hg, fun b hb => z7 b hb⟩
        · rw [zst_ne _ _ d1]; exact z1 c d1 d2
        · rw [zst_at, upd_at]
        · rw [zst_at, upd_ne _ _ (by decide)]; exact z3c
        · exact z4a
        · exact z4b
        · exact z4c
        · rw [ed]; exact z4d
        · exact z4e
    · have e3 : zst Z 1 (upd (Z 1) 1 (nI 0)) 1 3 = nI 0 := by rw [zst_at, upd_ne _ _ (by decide)]; exact z3b
      have ed : drN D C T = C := if_neg (fun q => c1 q.1)
      simp (disch := first | omega | assumption | decide) only [e176, s176_0, s176_1, s176_4, s176_5, s176_6, s176_9, s176_10, s176_11, s176_14, s176_15, s176_16, s176_19, s176_20, s176_22, s176_25, s176_28, s176_29, s176_32, s176_35, s176_36, s176_39, s176_40, s176_43, s176_44, s176_45, s176_48, s176_51, s176_54, s176_55, s176_58, s176_61, s176_62, s176_65, s176_68, s176_69, s176_70, s176_73, s176_74, s176_75, s176_78, s176_79, s176_82, Option.toList_some, Option.toList_none, List.cons_append, List.nil_append, if_true, if_false, eq_self, n1n0, ne10, z4a, z4e, nI_ltI, nI_eq, c1, e3]
      refine ho _ ⟨fun c d1 d2 => ?_, ⟨?_, ?_⟩, ⟨?_, ?_, ?_, ?_, ?_⟩, fun k hk => z5 k hk, fun g hg => z6 g hg, fun b hb => z7 b hb⟩
      · rw [zst_ne _ _ d1]; exact z1 c d1 d2
      · rw [zst_at, upd_at]
      · rw [zst_at, upd_ne _ _ (by decide)]; exact z3c
      · exact z4a
      · exact z4b
      · exact z4c
      · rw [ed]; exact z4d
      · exact z4e
  · rw [zst_ne _ _ c1, zst_ne _ _ (by omega)]
  · simp (disch := decide) only [zst_at, zst_ne, upd_at, upd_ne]; exact t3
  · simp (disch := decide) only [zst_at, zst_ne]; exact t4 k hk
  · simp (disch := decide) only [zst_at, zst_ne, upd_at, upd_ne]
  · simp (disch := decide) only [zst_at, zst_ne, upd_at, upd_ne]
  · simp (disch := decide) only [zst_at, zst_ne, upd_at, upd_ne]
  · simp (disch := decide) only [zst_at, zst_ne, upd_at, upd_ne]
  · simp (disch := decide) only [zst_at, zst_ne, upd_at, upd_ne]
  · simp (disch := decide) only [zst_at, zst_ne, upd_at, upd_ne]
  · simp (disch := decide) only [zst_at, zst_ne, upd_at, upd_ne]
  · simp (disch := decide) only [zst_at, zst_ne, upd_at, upd_ne]
theorem c_shore (h4 : X 3 4 = nI 0 ∨ X 3 4 = nI 1) (hQ : ∀ Z, (∀ c, (c < 9 ∨ 14 < c) → Z c = X c) → (Z 9 0 = X 3 0 ∧ Z 9 1 = X 3 1 ∧ Z 9 2 = X 3 2 ∧ Z 9 3 = X 3 3) → (∀ k, k < 12 → Z 10 k = X 4 k) → (∀ g, g < 7 → Z 11 g = X 5 g ∧ Z 12 g = X 6 g) → (∀ b, b < 5 → Z 13 b = X 7 b ∧ Z 14 b = X 8 b) → Q none Z) : zcl 1 [.ref 9, .ref 3] X Q := by
  simp (disch := first | omega | assumption | decide) only [e1, s1_0, s1_1, s1_2, s1_5, s1_8, s1_9, s1_10, s1_13, s1_16, s1_17, s1_18, s1_21, s1_24, s1_25, s1_26, s1_29, s1_32, s1_33, s1_34, s1_37, s1_40, s1_41, s1_44, s1_45, s1_46, s1_49, s1_50, s1_52, s1_55, s1_56, s1_59, s1_60, s1_61, s1_64, s1_65, s1_67, s1_70, s1_71, s1_74, s1_75, s1_76, s1_79, s1_80, s1_82, s1_85, s1_86, s1_89, s1_90, s1_91, s1_94, s1_95, s1_96, s1_99, s1_100, s1_103, s1_104, s1_105, s1_108, s1_109, s1_110, s1_113, Option.toList_some, Option.toList_none, List.cons_append, List.nil_append, if_true, if_false, eq_self, n1n0, ne10, zst_at, zst_zst, zst_ne, h4]
  refine hQ _ (fun c hc => ?_) ⟨?_, ?_, ?_, ?_⟩ (fun k hk => ?_) (fun g hg => ⟨?_, ?_⟩) (fun b hb => ⟨?_, ?_⟩)
  · simp (disch := omega) only [zst_ne]
  · simp (disch := decide) only [zst_at, zst_ne, upd_at, upd_ne]
  · simp (disch := decide) only [zst_at, zst_ne, upd_at, upd_ne]
  · simp (disch := decide) only [zst_at, zst_ne, upd_at, upd_ne]
  · simp (disch := decide) only [zst_at, zst_ne, upd_at, upd_ne]
  · simp (disch := decide) only [zst_at, zst_ne]; exact cpy0 hk
  · simp (disch := decide) only [zst_at, zst_ne]; exact cpy0 hg
  · simp (disch := decide) only [zst_at, zst_ne]; exact cpy0 hg
  · simp (disch := decide) only [zst_at, zst_ne]; exact cpy0 hb
  · simp (disch := decide) only [zst_at, zst_ne]; exact cpy0 hb
theorem c_begin (hQ : ∀ Z, (∀ c, (c < 57 ∨ 61 < c) → Z c = X c) → (Z 57 0 = nI 0 ∧ Z 57 1 = X 9 3 ∧ Z 57 2 = nI 0 ∧ Z 57 3 = nI 0 ∧ Z 57 8 = nI 0 ∧ Z 57 9 = nI 0) → (∀ g, g < 7 → Z 58 g = X 11 g ∧ Z 59 g = X 12 g ∧ Z 60 g = nI 0) → (∀ b, b < 5 → Z 61 b = nI 0) → Q none Z) : zcl 71 [.ref 57, .ref 9] X Q := by
  simp (disch := first | omega | assumption | decide) only [e71, s71_0, s71_1, s71_2, s71_5, s71_6, s71_7, s71_10, s71_13, s71_14, s71_15, s71_18, s71_19, s71_20, s71_23, s71_24, s71_27, s71_28, s71_29, s71_32, s71_33, s71_35, s71_38, s71_39, s71_42, s71_43, s71_44, s71_47, s71_48, s71_50, s71_53, s71_54, s71_57, s71_58, s71_61, s71_62, s71_65, s71_66, s71_69, s71_70, s71_71, s71_74, s71_75, s71_76, s71_79, Option.toList_some, Option.toList_none, List.cons_append, List.nil_append, if_true, if_false, eq_self, n1n0, ne10, zst_at, zst_zst, zst_ne]
  refine c_fill (i := 60) (m := 7) rfl (by decide) (fun p hp => ?_)
  simp (disch := first | omega | assumption | decide) only [e71, s71_0, s71_1, s71_2, s71_5, s71_6, s71_7, s71_10, s71_13, s71_14, s71_15, s71_18, s71_19, s71_20, s71_23, s71_24, s71_27, s71_28, s71_29, s71_32, s71_33, s71_35, s71_38, s71_39, s71_42, s71_43, s71_44, s71_47, s71_48, s71_50, s71_53, s71_54, s71_57, s71_58, s71_61, s71_62, s71_65, s71_66, s71_69, s71_70, s71_71, s71_74, s71_75, s71_76, s71_79, Option.toList_some, Option.toList_none, List.cons_append, List.nil_append, if_true, if_false, eq_self, n1n0, ne10, zst_at, zst_zst, zst_ne]
  refine c_fill (i := 61) (m := 5) rfl (by decide) (fun p2 hp2 => ?_)
  simp (disch := first | omega | assumption | decide) only [e71, s71_0, s71_1, s71_2, s71_5, s71_6, s71_7, s71_10, s71_13, s71_14, s71_15, s71_18, s71_19, s71_20, s71_23, s71_24, s71_27, s71_28, s71_29, s71_32, s71_33, s71_35, s71_38, s71_39, s71_42, s71_43, s71_44, s71_47, s71_48, s71_50, s71_53, s71_54, s71_57, s71_58, s71_61, s71_62, s71_65, s71_66, s71_69, s71_70, s71_71, s71_74, s71_75, s71_76, s71_79, Option.toList_some, Option.toList_none, List.cons_append, List.nil_append, if_true, if_false, eq_self, n1n0, ne10, zst_at, zst_zst, zst_ne]
  refine hQ _ (fun c hc => ?_) ⟨?_, ?_, ?_, ?_, ?_, ?_⟩ (fun g hg => ⟨?_, ?_, ?_⟩) (fun b hb => ?_)
  · simp (disch := omega) only [zst_ne]
  · simp (disch := decide) only [zst_at, zst_ne, upd_at, upd_ne]
  · simp (disch := decide) only [zst_at, zst_ne, upd_at, upd_ne]
  · simp (disch := decide) only [zst_at, zst_ne, upd_at, upd_ne]
  · simp (disch := decide) only [zst_at, zst_ne, upd_at, upd_ne]
  · simp (disch := decide) only [zst_at, zst_ne, upd_at, upd_ne]
  · simp (disch := decide) only [zst_at, zst_ne, upd_at, upd_ne]
  · simp (disch := decide) only [zst_at, zst_ne]; exact cpy0 hg
  · simp (disch := decide) only [zst_at, zst_ne]; exact cpy0 hg
  · simp (disch := decide) only [zst_at, zst_ne]; exact hp g hg
  · simp (disch := decide) only [zst_at, zst_ne]; exact hp2 b hb
end CC
/-- the row of a new coast -/
def R0 (G C : Nat) (tm wt : Nat → Nat) : Nat → Nat := fun i => if i < G then tm i else if 7 ≤ i ∧ i < 7 + G then wt (i - 7) else if i = 28 then C else 0
section CD
variable {D G B C : Nat} {W lim bear : Nat → Nat} {R : Nat → Nat} {u : Nat} {Rs : Nat → Nat → Nat} {kb : Nat} {Ri : Nat → Nat → Nat} {si : Nat → Nat} {sd t : Nat} {tx : Nat → Nat} {fa : Int32} {nb : Nat × (Nat → Nat) × (Nat → Nat) × Nat × (Nat → Nat) × (Nat → Nat)} {X : zM} {Q : Option Value → zM → Prop}
/-- what the coast's text makes of the whole -/
def newA (t : Nat) (tx : Nat → Nat) (r : Nat × Nat × sT) (a : aT) : aT := match a, r with
  | ((D, G, B, C, W, lim, bear), R, (u, Rs), (kb, Ri, si), sd, (_, tx, _), (tn, tg, tr, en, eg, et)), (k, w, (_, (D1, W1), (G1, tm, wt), (B1, lm, br), C1, T)) => if k = 0 then ((D1, G1, B1, drN D1 C1 T, W1, lm, br), R0 G1 (drN D1 C1 T) tm wt, (0, Rs), (0, Ri, si), sd, (0, tx, -1), (0, tg, tr, 0, eg, et)) else ((D, G, B, C, W, lim, bear), R, (u, Rs), (kb, Ri, si), sd, (0, tx, nI w), (tn, tg, tr, en, eg, et))
def ansN (r : Nat × Nat × sT) : Int32 := if r.1 = 0 then nI r.2.2.2.2.1.1 else -10 - nI r.1
end CD
theorem R0_lo {G C : Nat} {tm wt : Nat → Nat} {g : Nat} (hG : G ≤ 7) (hg : g < G) : R0 G C tm wt g = tm g ∧ R0 G C tm wt (7 + g) = wt g ∧ R0 G C tm wt (14 + g) = 0 := by
  unfold R0
  refine ⟨if_pos hg, ?_, ?_⟩
  · rw [if_neg (by omega), if_pos (by omega), show 7 + g - 7 = g by omega]
  · rw [if_neg (by omega), if_neg (by omega), if_neg (by omega)]
theorem R0_z {G C : Nat} {tm wt : Nat → Nat} {i : Nat} (hG : G ≤ 7) (hi : 14 ≤ i) (h28 : i ≠ 28) : R0 G C tm wt i = 0 := by
  unfold R0
  rw [if_neg (by omega), if_neg (by omega), if_neg h28]
theorem R0_28 {G C : Nat} {tm wt : Nat → Nat} (hG : G ≤ 7) : R0 G C tm wt 28 = C := by
  unfold R0
  rw [if_neg (by omega), if_neg (by omega), if_pos rfl]
theorem R0_ok {B G C : Nat} {tm wt : Nat → Nat} (hG : G ≤ 7) (hC : C ≤ 20) (h1 : ∀ g, tm g ≤ 10) (h2 : ∀ g, wt g ≤ 9) : okS B (R0 G C tm wt) := by
  have hp : 0 < 2 ^ B := Nat.pow_pos (by decide)
  refine ⟨⟨fun g hg => ⟨?_, ?_, ?_⟩, ?_, ?_, fun b hb => ?_, ?_, ?_, ?_, fun i hi => ⟨?_, ?_, ?_⟩⟩, ?_⟩
  · unfold R0
    by_cases c : g < G
    · rw [if_pos c]; exact h1 g
    · rw [if_neg c, if_neg (by omega), if_neg (by omega)]; omega
  · unfold R0
    rw [if_neg (by omega)]
    by_cases c : 7 ≤ 7 + g ∧ 7 + g < 7 + G
    · rw [if_pos c]; exact h2 _
    · rw [if_neg c, if_neg (by omega)]; omega
  · rw [R0_z hG (by omega) (by omega)]; omega
  · rw [R0_z hG (by omega) (by omega)]; exact hp
  · rw [R0_z hG (by omega) (by omega)]; exact hp
  · rw [R0_z hG (by omega) (by omega)]; omega
  · rw [R0_28 hG]; exact hC
  · rw [R0_z hG (by omega) (by omega)]; omega
  · rw [R0_z hG (by omega) (by omega)]; omega
  · rw [R0_z hG (by omega) (by omega)]; omega
  · rw [R0_z hG (by omega) (by omega)]; omega
  · rw [R0_z hG (by omega) (by omega)]; omega
  · rw [R0_z hG (by omega) (by omega)]; omega
theorem newA_ok {a : aT} {t : Nat} {tx : Nat → Nat} {r : Nat × Nat × sT} (ha : OKA a) (hr : r.1 = 0 → okT t r.2.2) : OKA (newA t tx r a) := by
  obtain ⟨⟨D, G, B, C, W, lim, bear⟩, R, ⟨u, Rs⟩, ⟨kb, Ri, si⟩, sd, ⟨t, tx, fa⟩, ⟨tn, tg, tr, en, eg, et⟩⟩ := a
  obtain ⟨k, w, p, ⟨D1, W1⟩, ⟨G1, tm, wt⟩, ⟨B1, lm, br⟩, C1, T⟩ := r
  unfold newA
  dsimp only
  by_cases c : k = 0
  · rw [if_pos c]
    obtain ⟨h1, h2, h3, h4, h5, h6, h7, h8, h9, h10, h11, h12, h13⟩ := hr c
    have hd : drN D1 C1 T ≤ 20 := by unfold drN; split <;> omega
    refine ⟨⟨h2, h4, h7, hd, h3, h8, h9, fun q => ⟨(h13 q).1, (h13 q).2.1, ?_⟩⟩, R0_ok h4 hd h5 h6, ⟨by decide, fun i hi => absurd hi (by omega)⟩, ⟨by decide, fun i hi hb => absurd hb (bt_z i)⟩, ha.2.2.2.2.1, ⟨by decide, fun i hi => absurd hi (by omega)⟩, ⟨by decide, fun i hi => absurd hi (by omega)⟩, ⟨by decide, fun i hi => absurd hi (by omega)⟩⟩
    show drN D1 C1 T = 0
    unfold drN
    rw [if_neg (by omega)]
    exact h12 (h13 q).2.2
  · rw [if_neg c]
    exact ⟨ha.1, ha.2.1, ha.2.2.1, ha.2.2.2.1, ha.2.2.2.2.1, ⟨by decide, fun i hi => absurd hi (by omega)⟩, ha.2.2.2.2.2.2.1, ha.2.2.2.2.2.2.2⟩
  where bt_z (i : Nat) : ¬ bt 0 i = 1 := by unfold bt; simp
theorem okC_coast {a : aT} (ha : OKA a) : okC 191 [.ref 0] a (newA a.2.2.2.2.2.1.1 a.2.2.2.2.2.1.2.1 (prs a.2.2.2.2.2.1.1 a.2.2.2.2.2.1.2.1 241 s0) a) (ansN (prs a.2.2.2.2.2.1.1 a.2.2.2.2.2.1.2.1 241 s0)) := by
  obtain ⟨⟨D, G, B, C, W, lim, bear⟩, R, ⟨u, Rs⟩, ⟨kb, Ri, si⟩, sd, ⟨t, tx, fa⟩, ⟨tn, tg, tr, en, eg, et⟩⟩ := a
  dsimp only
  intro X Q hX hQ
  obtain ⟨nx, k, ns, ni, h1, h2, h3, h4, h5, h6, h7, h8⟩ := id hX
  have htx := ha.2.2.2.2.2.1
  have ht : tC t tx X := ⟨htx.1, htx.2, h6.1, h6.2.2⟩
  have hok := prs_ok (t := t) (tx := tx) 241 s0 okT_0
  generalize hr : prs t tx 241 s0 = r at hQ hok
  have hk3 := clP_3 (t := t) (tx := tx) 241 s0
  rw [hr] at hk3
  obtain ⟨k0, w0, p, ⟨D1, W1⟩, ⟨G1, tm, wt⟩, ⟨B1, lm, br⟩, C1, T⟩ := r
  dsimp only at hk3
  simp (disch := first | omega | assumption | decide) only [e191, s191_0, s191_1, s191_4, s191_5, s191_8, s191_11, s191_12, s191_13, s191_16, s191_18, s191_19, s191_20, s191_21, s191_22, s191_25, s191_26, s191_29, s191_32, s191_33, s191_36, s191_37, s191_40, s191_43, s191_44, s191_47, s191_50, s191_51, s191_54, s191_57, s191_58, s191_61, s191_64, s191_65, s191_68, s191_71, Option.toList_some, Option.toList_none, List.cons_append, List.nil_append, if_true, if_false, eq_self, n1n0, ne10]
  refine c_read ht hr (fun k0n Z z1 z2 z3 => ?_) (fun k00 Z hZ => ?_)
  · dsimp only at k0n z3
    have n0 : ¬ nI k0 = nI 0 := fun q => k0n ((nI_eq (by omega) (by decide)).mp q)
    unfold newA ansN at hQ
    dsimp only at hQ
    rw [if_neg k0n, if_neg k0n] at hQ
    simp (disch := first | omega | assumption | decide) only [e191, s191_0, s191_1, s191_4, s191_5, s191_8, s191_11, s191_12, s191_13, s191_16, s191_18, s191_19, s191_20, s191_21, s191_22, s191_25, s191_26, s191_29, s191_32, s191_33, s191_36, s191_37, s191_40, s191_43, s191_44, s191_47, s191_50, s191_51, s191_54, s191_57, s191_58, s191_61, s191_64, s191_65, s191_68, s191_71, Option.toList_some, Option.toList_none, List.cons_append, List.nil_append, if_true, if_false, eq_self, n1n0, ne10, n0]
    refine hQ Z ?_ (fun c c1 c2 => z1 c (by omega) (by omega))
    refine ⟨nx, k, ns, ni, cP_of h1 (z1 9 (by omega) (by omega)) (z1 10 (by omega) (by omega)) (z1 13 (by omega) (by omega)) (z1 14 (by omega) (by omega)), cS_fr h2 (fun c _ _ => z1 c (by omega) (by omega)), cU_fr h3 (fun c _ => z1 c (by omega) (by omega)), cIm_fr h4 (fun c _ => z1 c (by omega) (by omega)), ?_, ⟨z2, z3, fun k hk => absurd hk (by omega)⟩, cNb_fr h7 (fun c _ _ => z1 c (by omega) (by omega)), cTu_fr h8 (z1 19 (by omega) (by omega))⟩
    rw [z1 0 (by omega) (by omega)]; exact h5
  · dsimp only at k00 hok
    have hok := hok k00
    obtain ⟨o1, o2, o3, o4, o5, o6, o7, o8, o9, o10, o11, o12, o13⟩ := hok
    obtain ⟨z1, ⟨z2, z3⟩, ⟨z4a, z4b, z4c, z4d, z4e⟩, z5, z6, z7⟩ := hZ
    unfold newA ansN at hQ
    dsimp only at hQ
    rw [if_pos k00, if_pos k00] at hQ
    simp (disch := first | omega | assumption | decide) only [e191, s191_0, s191_1, s191_4, s191_5, s191_8, s191_11, s191_12, s191_13, s191_16, s191_18, s191_19, s191_20, s191_21, s191_22, s191_25, s191_26, s191_29, s191_32, s191_33, s191_36, s191_37, s191_40, s191_43, s191_44, s191_47, s191_50, s191_51, s191_54, s191_57, s191_58, s191_61, s191_64, s191_65, s191_68, s191_71, Option.toList_some, Option.toList_none, List.cons_append, List.nil_append, if_true, if_false, eq_self, n1n0, ne10]
    refine c_shore (by
      rw [z4e]
      rcases (show T = 0 ∨ T = 1 by omega) with q | q
      · exact Or.inl (by rw [q])
      · exact Or.inr (by rw [q])) (fun Z1 y1 y2 y3 y4 y5 => ?_)
    simp (disch := first | omega | assumption | decide) only [e191, s191_0, s191_1, s191_4, s191_5, s191_8, s191_11, s191_12, s191_13, s191_16, s191_18, s191_19, s191_20, s191_21, s191_22, s191_25, s191_26, s191_29, s191_32, s191_33, s191_36, s191_37, s191_40, s191_43, s191_44, s191_47, s191_50, s191_51, s191_54, s191_57, s191_58, s191_61, s191_64, s191_65, s191_68, s191_71, Option.toList_some, Option.toList_none, List.cons_append, List.nil_append, if_true, if_false, eq_self, n1n0, ne10]
    refine c_begin (fun Z2 x1 x2 x3 x4 => ?_)
    obtain ⟨y2a, y2b, y2c, y2d⟩ := y2
    have e91 : Z2 9 1 = nI G1 := by rw [x1 9 (by omega), y2b]; exact z4b
    simp (disch := first | omega | assumption | decide) only [e191, s191_0, s191_1, s191_4, s191_5, s191_8, s191_11, s191_12, s191_13, s191_16, s191_18, s191_19, s191_20, s191_21, s191_22, s191_25, s191_26, s191_29, s191_32, s191_33, s191_36, s191_37, s191_40, s191_43, s191_44, s191_47, s191_50, s191_51, s191_54, s191_57, s191_58, s191_61, s191_64, s191_65, s191_68, s191_71, e12, s12_0, s12_1, s12_2, s12_5, s12_6, s12_7, s12_10, e6, s6_0, s6_1, s6_2, s6_5, e11, s11_0, s11_1, s11_2, s11_5, Option.toList_some, Option.toList_none, List.cons_append, List.nil_append, if_true, if_false, eq_self, n1n0, ne10, zst_at, zst_zst, zst_ne, e91]
    generalize hV : zst (zst (zst Z2 28 (upd (upd (Z2 28) 5 (nI 0)) 8 (nI 0))) 34 (upd (Z2 34) 1 (nI 0))) 36 (upd (Z2 36) 2 (nI 0)) = V
    have v0 : ∀ c, c ≠ 28 → c ≠ 34 → c ≠ 36 → V c = Z2 c := fun c c1 c2 c3 => by rw [← hV, zst_ne _ _ c3, zst_ne _ _ c2, zst_ne _ _ c1]
    have v1 : ∀ c, c ≠ 28 → c ≠ 34 → c ≠ 36 → (c < 57 ∨ 61 < c) → (c < 9 ∨ 14 < c) → c ≠ 1 → (c < 3 ∨ 8 < c) → V c = X c := fun c c1 c2 c3 c4 c5 c6 c7 => by rw [v0 c c1 c2 c3, x1 c c4, y1 c c5, z1 c c6 c7]
    have zz : ∀ c, c ≠ 1 → (c < 3 ∨ 8 < c) → (c < 57 ∨ 61 < c) → (c < 9 ∨ 14 < c) → Z2 c = X c := fun c c1 c2 c3 c4 => by rw [x1 c c3, y1 c c4, z1 c c1 c2]
    have w28 : V 28 5 = nI 0 ∧ V 28 8 = nI 0 := by
      rw [← hV]
      simp (disch := decide) only [zst_at, zst_ne, upd_at, upd_ne]
      exact ⟨trivial, trivial⟩
    have w34 : V 34 1 = nI 0 ∧ V 34 2 = nI k := by
      rw [← hV]
      simp (disch := decide) only [zst_at, zst_ne, upd_at, upd_ne]
      refine ⟨trivial, ?_⟩
      rw [zz 34 (by omega) (by omega) (by omega) (by omega)]; exact h3.2.1
    have w36 : V 36 2 = nI 0 := by
      rw [← hV]
      simp (disch := decide) only [zst_at, zst_ne, upd_at, upd_ne]
    have w1 : V 1 = Z 1 := by rw [v0 1 (by omega) (by omega) (by omega), x1 1 (by omega), y1 1 (by omega)]
    refine hQ V ⟨0, k, ns, ni, ⟨?_, ?_, ?_, ?_, fun j hj => ?_, fun b hb => ⟨?_, ?_⟩⟩, ⟨⟨?_, ?_, ?_, ?_⟩, ⟨?_, ?_, by decide, fun _ => ?_⟩, fun g hg => ⟨?_, ?_, ?_⟩, fun b hb => ?_, fun i hi => ?_⟩, ⟨w34.1, w34.2, h3.2.2.1, by decide, fun i hi => absurd hi (by omega)⟩, ⟨w36, fun i hi hb => absurd hb (newA_ok.bt_z i)⟩, ?_, ⟨?_, ?_, fun j hj => absurd hj (by omega)⟩, ⟨w28.1, w28.2, fun i hi => absurd hi (by omega), fun i hi => absurd hi (by omega)⟩, cTu_fr h8 (v1 19 (by omega) (by omega) (by omega) (by omega) (by omega) (by omega) (by omega))⟩ (fun c c1 c2 => v1 c (by omega) (by omega) (by omega) (by omega) (by omega) (by omega) (by omega))
    · rw [v0 9 (by omega) (by omega) (by omega), x1 9 (by omega), y2a]; exact z4a
    · rw [v0 9 (by omega) (by omega) (by omega)]; exact e91
    · rw [v0 9 (by omega) (by omega) (by omega), x1 9 (by omega), y2c]; exact z4c
    · rw [v0 9 (by omega) (by omega) (by omega), x1 9 (by omega), y2d]; exact z4d
    · rw [v0 10 (by omega) (by omega) (by omega), x1 10 (by omega), y3 j (by omega)]; exact z5 j hj
    · rw [v0 13 (by omega) (by omega) (by omega), x1 13 (by omega), (y5 b (by omega)).1]; exact (z7 b hb).1
    · rw [v0 14 (by omega) (by omega) (by omega), x1 14 (by omega), (y5 b (by omega)).2]; exact (z7 b hb).2
    · rw [v0 57 (by omega) (by omega) (by omega), x2.1, R0_z o4 (by omega) (by omega)]
    · rw [v0 57 (by omega) (by omega) (by omega), x2.2.1, R0_28 o4, y2d]; exact z4d
    · rw [v0 57 (by omega) (by omega) (by omega), x2.2.2.1, R0_z o4 (by omega) (by omega)]
    · rw [v0 57 (by omega) (by omega) (by omega), x2.2.2.2.1, R0_z o4 (by omega) (by omega)]
    · rw [v0 57 (by omega) (by omega) (by omega), x2.2.2.2.2.1, R0_z o4 (by omega) (by omega)]
    · rw [v0 57 (by omega) (by omega) (by omega), x2.2.2.2.2.2]
    · rw [R0_z o4 (by omega) (by omega)]
    · rw [v0 (57 + 1) (by omega) (by omega) (by omega), (x3 g (by omega)).1, (y4 g (by omega)).1, (R0_lo o4 hg).1]; exact (z6 g hg).1
    · rw [v0 (57 + 2) (by omega) (by omega) (by omega), (x3 g (by omega)).2.1, (y4 g (by omega)).2, (R0_lo o4 hg).2.1]; exact (z6 g hg).2
    · rw [v0 (57 + 3) (by omega) (by omega) (by omega), (x3 g (by omega)).2.2, (R0_lo o4 hg).2.2]
    · rw [v0 (57 + 4) (by omega) (by omega) (by omega), x4 b (by omega), R0_z o4 (by omega) (by omega)]
    · rw [R0_z o4 (by omega) (by omega)] at hi; exact absurd hi (by omega)
    · rw [v1 0 (by omega) (by omega) (by omega) (by omega) (by omega) (by omega) (by omega)]; exact h5
    · rw [w1]; exact z2
    · rw [w1]; exact z3
