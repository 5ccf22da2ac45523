/-! ranges stay; states are copied -/
section CG
variable {D G B C : Nat} {W lim bear : Nat → Nat} {X : zM} {R : Nat → Nat} {nx x : Nat} {Q : Option Value → zM → Prop}
theorem logN_bd {t v s : Nat} (h30 : R 30 ≤ 20) (h : ∀ i, i < 20 → R (31 + 3 * i) ≤ 9 ∧ R (31 + 3 * i + 1) ≤ 9 ∧ R (31 + 3 * i + 2) ≤ 5) (ht : t ≤ 9) (hv : v ≤ 9) (hs : s ≤ 5) : ∀ i, i < 20 → logN R t v s (31 + 3 * i) ≤ 9 ∧ logN R t v s (31 + 3 * i + 1) ≤ 9 ∧ logN R t v s (31 + 3 * i + 2) ≤ 5 := by
  intro i hi
  unfold logN
  by_cases h20 : R 30 = 20
  · rw [if_pos h20]
    by_cases h19 : i = 19
    · subst h19
      exact ⟨ht, hv, hs⟩
    · have := h (i + 1) (by omega)
      rw [if_pos (by omega), if_pos (by omega), if_pos (by omega)]
      rw [show 31 + 3 * i + 3 = 31 + 3 * (i + 1) by omega, show 31 + 3 * i + 1 + 3 = 31 + 3 * (i + 1) + 1 by omega, show 31 + 3 * i + 2 + 3 = 31 + 3 * (i + 1) + 2 by omega]
      exact this
  · rw [if_neg h20]
    have hb := h i hi
    have hx : ∀ c j, c < 3 → j = 31 + 3 * i + c → upN (upN (upN (upN R (31 + 3 * R 30) t) (31 + 3 * R 30 + 1) v) (31 + 3 * R 30 + 2) s) 30 (R 30 + 1) j = if i = R 30 then (if c = 0 then t else if c = 1 then v else s) else R j := by
      intro c j hc hj
      subst hj
      rw [upN_ne _ _ (by omega)]
      by_cases hir : i = R 30
      · subst hir
        rw [if_pos rfl]
        match c, hc with
        | 0, _ => rw [upN_ne _ _ (by omega), upN_ne _ _ (by omega)]; exact upN_at _ _ _
        | 1, _ => rw [upN_ne _ _ (by omega), upN_at]; rfl
        | 2, _ => rw [upN_at]; rfl
      · rw [if_neg hir, upN_ne _ _ (by omega), upN_ne _ _ (by omega), upN_ne _ _ (by omega)]
    rw [hx 0 (31 + 3 * i) (by decide) rfl, hx 1 _ (by decide) rfl, hx 2 _ (by decide) rfl]
    split
    · exact ⟨ht, hv, hs⟩
    · exact hb
theorem okR_day (ho : okP D G B C W lim bear) (hr : okR B R) (hd : R 29 < 9100) : okR B (dayN D G B C W lim bear R) := by
  have h30 := hr.2.2.2.2.2.2.1
  have hW := ho.2.2.2.2.1
  have hv : wN D W (R 29 + 1) ≤ 9 := wN_le hW _
  have ht : tN D G W R 0 ≤ 9 := tN_le R 0
  have hcc : ∀ b, b < 5 → R (23 + b) ≤ 900000 := fun b hb => by
    have := hr.2.2.2.1 b hb
    omega
  have hB := ho.2.2.1
  have hG := ho.2.1
  obtain ⟨a1, a2, a3, a4, a5, a6⟩ := boatN_ok (lim := lim) (bear := bear) (t := tN D G W R 0) (v := wN D W (R 29 + 1)) (B := B) hv hB hr.2.1 hr.2.2.1 hcc B (Nat.le_refl B)
  have hL := logN_30 (R := boatN lim bear (tN D G W R 0) (wN D W (R 29 + 1)) R B) (t := tN D G W R 0) (v := wN D W (R 29 + 1)) (s := cntN lim bear (tN D G W R 0) (wN D W (R 29 + 1)) R B) (by rw [a5 30 (by omega)]; exact h30)
  refine ⟨fun g hg => ⟨?_, ?_, ?_⟩, ?_, ?_, fun b hb => ?_, ?_, ?_, ?_, fun i hi => ?_⟩
  · rw [dayN_lo hB hr hG hW (by omega), a5 g (by omega)]; exact (hr.1 g hg).1
  · rw [dayN_lo hB hr hG hW (by omega), a5 (7 + g) (by omega)]; exact (hr.1 g hg).2.1
  · by_cases hgG : g < G
    · rw [dayN_gl hB hr hG hW hgG]
      have := (hr.1 g hg).2.2
      omega
    · rw [dayN_lo hB hr hG hW (by omega), a5 (14 + g) (by omega)]; exact (hr.1 g hg).2.2
  · rw [dayN_lo hB hr hG hW (by omega)]; exact a1
  · rw [dayN_lo hB hr hG hW (by omega), a2]; exact hr.2.2.1
  · rw [dayN_lo hB hr hG hW (by omega), dayN_29]
    have := a3 b hb
    have := hr.2.2.2.1 b hb
    omega
  · rw [dayN_28]; exact ho.2.2.2.1
  · rw [dayN_29]; omega
  · rw [dayN_log hG (by omega), hL]; omega
  · rw [dayN_log hG (by omega), dayN_log hG (by omega), dayN_log hG (by omega)]
    refine logN_bd (by rw [a5 30 (by omega)]; exact h30) (fun i hi => ?_) ht hv (by omega) i hi
    rw [a5 _ (by omega), a5 _ (by omega), a5 _ (by omega)]
    exact hr.2.2.2.2.2.2.2 i hi
/-- the state at i is now what the state at j was -/
def stEq (Y X : zM) (i j : Nat) : Prop := (Y i 0 = X j 0 ∧ Y i 1 = X j 1 ∧ Y i 2 = X j 2 ∧ Y i 3 = X j 3 ∧ Y i 8 = X j 8 ∧ Y i 9 = X j 9) ∧ (∀ g, g < 7 → Y (i + 1) g = X (j + 1) g ∧ Y (i + 2) g = X (j + 2) g ∧ Y (i + 3) g = X (j + 3) g) ∧ (∀ b, b < 5 → Y (i + 4) b = X (j + 4) b) ∧ ∀ r, r < 20 → Y (i + 5) r = X (j + 5) r ∧ Y (i + 6) r = X (j + 6) r ∧ Y (i + 7) r = X (j + 7) r
theorem cS_eq {Y : zM} {i j : Nat} (hG : G ≤ 7) (hB : B ≤ 5) (hs : cS G B X j R nx) (h : stEq Y X i j) : cS G B Y i R nx := by
  obtain ⟨⟨s0, s1, s2, s3⟩, ⟨s8, s9, snx, snl⟩, sg, sb, sl⟩ := hs
  obtain ⟨⟨e0, e1, e2, e3, e8, e9⟩, eg, eb, el⟩ := h
  refine ⟨⟨e0.trans s0, e1.trans s1, e2.trans s2, e3.trans s3⟩, ⟨e8.trans s8, e9.trans s9, snx, snl⟩, fun g hg => ?_, fun b hb => ?_, fun r hr => ?_⟩
  · obtain ⟨q1, q2, q3⟩ := eg g (by omega)
    obtain ⟨p1, p2, p3⟩ := sg g hg
    exact ⟨q1.trans p1, q2.trans p2, q3.trans p3⟩
  · exact (eb b (by omega)).trans (sb b hb)
  · obtain ⟨q1, q2, q3⟩ := el ((nx + 20 - R 30 + r) % 20) (Nat.mod_lt _ (by decide))
    obtain ⟨p1, p2, p3⟩ := sl r hr
    exact ⟨q1.trans p1, q2.trans p2, q3.trans p3⟩
theorem zkd_add {i : Nat} (h : zkd i = (0, 7)) : zkd (i + 1) = (1, 7) ∧ zkd (i + 2) = (1, 7) ∧ zkd (i + 3) = (1, 7) ∧ zkd (i + 4) = (1, 5) ∧ zkd (i + 5) = (1, 20) ∧ zkd (i + 6) = (1, 20) ∧ zkd (i + 7) = (1, 20) := by
  have hx : (List.range 321).all (fun i => decide (zkd i = (0, 7) → zkd (i + 1) = (1, 7) ∧ zkd (i + 2) = (1, 7) ∧ zkd (i + 3) = (1, 7) ∧ zkd (i + 4) = (1, 5) ∧ zkd (i + 5) = (1, 20) ∧ zkd (i + 6) = (1, 20) ∧ zkd (i + 7) = (1, 20))) = true := by decide +kernel
  have hlt : i < 321 := zkd_lt (by rw [h]; exact Nat.zero_le 3)
  exact of_decide_eq_true (List.all_eq_true.mp hx i (List.mem_range.mpr hlt)) h
theorem cpy0 {f g : Nat → Int32} {n j : Nat} (h : j < n) : va_cpy f g 0 0 n j = f j := sb_cpy0 h
set_option maxHeartbeats 2000000 in
theorem c_copyFrom {i j : Nat} (hi : zkd i = (0, 7)) (hj : zkd j = (0, 7)) (hne : i + 8 ≤ j ∨ j + 8 ≤ i) (hQ : ∀ Y, (∀ c, (c < i ∨ i + 8 ≤ c) → Y c = X c) → stEq Y X i j → Q none Y) : zcl 25 [.ref i, .ref j] X Q := by
  obtain ⟨i1, i2, i3, i4, i5, i6, i7⟩ := zkd_add hi
  obtain ⟨j1, j2, j3, j4, j5, j6, j7⟩ := zkd_add hj
  have r1 := fun (l0 l1 : Value) (X : zM) (Q : Option Value → zM → Prop) => s25_44 (l0 := l0) (l1 := l1) (X := X) (Q := Q) (m := 7) i1 j1 (by decide) (by decide) (by decide)
  have r2 := fun (l0 l1 : Value) (X : zM) (Q : Option Value → zM → Prop) => s25_59 (l0 := l0) (l1 := l1) (X := X) (Q := Q) (m := 7) i2 j2 (by decide) (by decide) (by decide)
  have r3 := fun (l0 l1 : Value) (X : zM) (Q : Option Value → zM → Prop) => s25_74 (l0 := l0) (l1 := l1) (X := X) (Q := Q) (m := 7) i3 j3 (by decide) (by decide) (by decide)
  have r4 := fun (l0 l1 : Value) (X : zM) (Q : Option Value → zM → Prop) => s25_88 (l0 := l0) (l1 := l1) (X := X) (Q := Q) (m := 5) i4 j4 (by decide) (by decide) (by decide)
  have r5 := fun (l0 l1 : Value) (X : zM) (Q : Option Value → zM → Prop) => s25_119 (l0 := l0) (l1 := l1) (X := X) (Q := Q) (m := 20) i5 j5 (by decide) (by decide) (by decide)
  have r6 := fun (l0 l1 : Value) (X : zM) (Q : Option Value → zM → Prop) => s25_134 (l0 := l0) (l1 := l1) (X := X) (Q := Q) (m := 20) i6 j6 (by decide) (by decide) (by decide)
  have r7 := fun (l0 l1 : Value) (X : zM) (Q : Option Value → zM → Prop) => s25_149 (l0 := l0) (l1 := l1) (X := X) (Q := Q) (m := 20) i7 j7 (by decide) (by decide) (by decide)
  simp (disch := first | omega | assumption) only [e25, s25_0, s25_1, s25_2, s25_5, s25_8, s25_9, s25_10, s25_13, s25_16, s25_17, s25_18, s25_21, s25_24, s25_25, s25_26, s25_29, s25_32, s25_33, s25_36, s25_37, s25_38, s25_41, s25_42, s25_44, s25_47, s25_48, s25_51, s25_52, s25_53, s25_56, s25_57, s25_59, s25_62, s25_63, s25_66, s25_67, s25_68, s25_71, s25_72, s25_74, s25_77, s25_78, s25_81, s25_82, s25_83, s25_86, s25_87, s25_88, s25_91, s25_92, s25_93, s25_96, s25_99, s25_100, s25_101, s25_104, s25_107, s25_108, s25_111, s25_112, s25_113, s25_116, s25_117, s25_119, s25_122, s25_123, s25_126, s25_127, s25_128, s25_131, s25_132, s25_134, s25_137, s25_138, s25_141, s25_142, s25_143, s25_146, s25_147, s25_149, s25_152, r1, r2, r3, r4, r5, r6, r7, zst_at, zst_ne]
  apply hQ
  · intro c hc
    simp (disch := omega) only [zst_ne]
  · refine ⟨⟨?_, ?_, ?_, ?_, ?_, ?_⟩, fun g hg => ⟨?_, ?_, ?_⟩, fun b hb => ?_, fun r hr => ⟨?_, ?_, ?_⟩⟩ <;> simp (disch := omega) only [zst_ne, zst_at, upd_ne, upd_at, cpy0]
end CG
