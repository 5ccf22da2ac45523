/-! falseOnes; days that are tried: tells -/
section TR
variable {D G B C : Nat} {W lim bear : Nat → Nat} {X : zM} {R : Nat → Nat} {nx x : Nat} {Q : Option Value → zM → Prop}
theorem rd_0 {w t : Nat} (hw : w ≤ 9) (ht : t ≤ 10) : rdv (nI w + nI t - nI 5 + nI 0) = nI (rdN w t 0 0) := (rdv_nI w (by omega) t (by omega)).2
theorem falseC_loop (ho : okP D G B C W lim bear) (hc : cP D G B C W lim bear X) (hs : cS G B X 57 R nx) (hr : okR B R) : ∀ n i : Nat, i + n = G → zev 117 10 [.ref 15, .int (nI (wN D W (R 29 + 1))), .int (nI (stN (fun g => decide (rN D W R g 0 ≠ rdN (wN D W (R 29 + 1)) (R g) 0 0)) i)), .int (nI i)] [] X Q = Q (some (.int (nI (stN (fun g => decide (rN D W R g 0 ≠ rdN (wN D W (R 29 + 1)) (R g) 0 0)) G)))) X := by
  have hG := ho.2.1
  have hGe := hc.2.1
  have hv : wN D W (R 29 + 1) ≤ 9 := wN_le ho.2.2.2.2.1 _
  intro n
  induction n with
  | zero =>
    intro i hi
    have e : i = G := by omega
    subst e
    rw [s117_10]
    simp (disch := first | omega | assumption | decide) only [e117, s117_0, s117_1, s117_2, s117_5, s117_6, s117_7, s117_8, s117_9, s117_11, s117_12, s117_15, s117_18, s117_21, s117_22, s117_23, s117_24, s117_27, s117_28, s117_29, s117_32, s117_35, s117_36, s117_37, s117_38, s117_39, s117_42, s117_45, s117_46, s117_47, s117_48, s117_49, s117_50, s117_51, s117_54, s117_57, s117_58, Option.toList_some, Option.toList_none, List.cons_append, List.nil_append, if_true, if_false, eq_self, n1n0, ne10, hGe, nI_ltI, Nat.lt_irrefl]
  | succ n ih =>
    intro i hi
    have hlt : i < G := by omega
    have q1 : X 58 i = nI (R i) := (hs.2.2.1 i hlt).1
    have hb := (hr.1 i (by omega)).1
    have hrd := fun Q => cc_reading (X := X) (Q := Q) (g := i) (n := 0) ho hc hs hr hlt (by omega)
    have b1 := rN_le (D := D) (W := W) R i 0
    have b2 := rdN_le (wN D W (R 29 + 1)) (R i) 0 0
    refine Eq.trans ?_ (ih (i + 1) (by omega))
    rw [s117_10]
    simp only [stN]
    have q0 := rd_0 hv hb
    by_cases c : rN D W R i 0 = rdN (wN D W (R 29 + 1)) (R i) 0 0
    · simp (disch := first | omega | assumption) only [e117, s117_0, s117_1, s117_2, s117_5, s117_6, s117_7, s117_8, s117_9, s117_11, s117_12, s117_15, s117_18, s117_21, s117_22, s117_23, s117_24, s117_27, s117_28, s117_29, s117_32, s117_35, s117_36, s117_37, s117_38, s117_39, s117_42, s117_45, s117_46, s117_47, s117_48, s117_49, s117_50, s117_51, s117_54, s117_57, s117_58, Option.toList_some, Option.toList_none, List.cons_append, List.nil_append, if_true, if_false, eq_self, n1n0, ne10, hGe, nI_ltI, hlt, q1, hrd, c_clearReading, q0, nI_eq, c, ne_eq, not_true_eq_false, decide_false, Bool.false_eq_true]
      rw [nI_add]
    · simp (disch := first | omega | assumption) only [e117, s117_0, s117_1, s117_2, s117_5, s117_6, s117_7, s117_8, s117_9, s117_11, s117_12, s117_15, s117_18, s117_21, s117_22, s117_23, s117_24, s117_27, s117_28, s117_29, s117_32, s117_35, s117_36, s117_37, s117_38, s117_39, s117_42, s117_45, s117_46, s117_47, s117_48, s117_49, s117_50, s117_51, s117_54, s117_57, s117_58, Option.toList_some, Option.toList_none, List.cons_append, List.nil_append, if_true, if_false, eq_self, n1n0, ne10, hGe, nI_ltI, hlt, q1, hrd, c_clearReading, q0, nI_eq, c, ne_eq, not_false_eq_true, decide_true, shl_nI, or_nI]
      rw [nI_add]
theorem falseM_loop (ho : okP D G B C W lim bear) (hm : mP D G B C W lim bear X) (hs : mW (X 40) 0 R) (hr : okR B R) : ∀ n i : Nat, i + n = G → zev 188 4 [.ref 39, .int (nI (stN (fun g => decide (rN D W R g 0 ≠ rdN (wN D W (R 29 + 1)) (R g) 0 0)) i)), .int (nI i)] [] X Q = Q (some (.int (nI (stN (fun g => decide (rN D W R g 0 ≠ rdN (wN D W (R 29 + 1)) (R g) 0 0)) G)))) X := by
  have hG := ho.2.1
  have hGe := hm.2.1
  have hv : wN D W (R 29 + 1) ≤ 9 := wN_le ho.2.2.2.2.1 _
  intro n
  induction n with
  | zero =>
    intro i hi
    have e : i = G := by omega
    subst e
    rw [s188_4]
    simp (disch := first | omega | assumption | decide) only [e188, s188_0, s188_1, s188_2, s188_3, s188_5, s188_6, s188_9, s188_12, s188_13, s188_14, s188_15, s188_16, s188_19, s188_20, s188_21, s188_24, s188_25, s188_28, s188_29, s188_30, s188_31, s188_34, s188_37, s188_38, s188_41, s188_42, s188_45, s188_46, s188_47, s188_48, s188_49, s188_52, s188_55, s188_56, Option.toList_some, Option.toList_none, List.cons_append, List.nil_append, if_true, if_false, eq_self, n1n0, ne10, hGe, nI_ltI, Nat.lt_irrefl]
  | succ n ih =>
    intro i hi
    have hlt : i < G := by omega
    have hD : 0 < D := by
      rcases Nat.eq_zero_or_pos D with q | q
      · have := (ho.2.2.2.2.2.2.2 q).1
        omega
      · exact q
    have q1 := at0 hs (i := i) (by omega)
    have hb := (hr.1 i (by omega)).1
    have hrd := fun Q => mm_reads (X := X) (Q := Q) (x := 0) (g := i) ho hm hs hr hD (by omega) (by omega)
    have hto := fun Q => mm_tomorrow (X := X) (Q := Q) (x := 0) ho hm hs hr hD (by omega)
    have b1 := rN_le (D := D) (W := W) R i 0
    have b2 := rdN_le (wN D W (R 29 + 1)) (R i) 0 0
    refine Eq.trans ?_ (ih (i + 1) (by omega))
    rw [s188_4]
    simp only [stN]
    have q0 := rd_0 hv hb
    by_cases c : rN D W R i 0 = rdN (wN D W (R 29 + 1)) (R i) 0 0
    · simp (disch := first | omega | assumption) only [e188, s188_0, s188_1, s188_2, s188_3, s188_5, s188_6, s188_9, s188_12, s188_13, s188_14, s188_15, s188_16, s188_19, s188_20, s188_21, s188_24, s188_25, s188_28, s188_29, s188_30, s188_31, s188_34, s188_37, s188_38, s188_41, s188_42, s188_45, s188_46, s188_47, s188_48, s188_49, s188_52, s188_55, s188_56, Option.toList_some, Option.toList_none, List.cons_append, List.nil_append, if_true, if_false, eq_self, n1n0, ne10, hGe, nI_ltI, hlt, q1, hrd, hto, c_reading, q0, nI_eq, c, ne_eq, not_true_eq_false, decide_false, Bool.false_eq_true, c_one, shl0, or_nI, Nat.or_zero]
      rw [nI_add]
    · simp (disch := first | omega | assumption) only [e188, s188_0, s188_1, s188_2, s188_3, s188_5, s188_6, s188_9, s188_12, s188_13, s188_14, s188_15, s188_16, s188_19, s188_20, s188_21, s188_24, s188_25, s188_28, s188_29, s188_30, s188_31, s188_34, s188_37, s188_38, s188_41, s188_42, s188_45, s188_46, s188_47, s188_48, s188_49, s188_52, s188_55, s188_56, Option.toList_some, Option.toList_none, List.cons_append, List.nil_append, if_true, if_false, eq_self, n1n0, ne10, hGe, nI_ltI, hlt, q1, hrd, hto, c_reading, q0, nI_eq, c, ne_eq, not_false_eq_true, decide_true, c_one, shl_nI, or_nI]
      rw [nI_add]
/-- n days one behind another -/
def dayI (D G B C : Nat) (W lim bear : Nat → Nat) : Nat → (Nat → Nat) → (Nat → Nat)
  | 0, R => R
  | n + 1, R => dayI D G B C W lim bear n (dayN D G B C W lim bear R)
theorem dayI_ok (ho : okP D G B C W lim bear) : ∀ (n : Nat) (R : Nat → Nat), okR B R → R 29 + n ≤ 9100 → okR B (dayI D G B C W lim bear n R) ∧ dayI D G B C W lim bear n R 29 = R 29 + n ∧ (∀ j, j < 14 → dayI D G B C W lim bear n R j = R j) ∧ ∀ g, g < G → dayI D G B C W lim bear n R (14 + g) = R (14 + g) - n
  | 0, R, hr, _ => ⟨hr, rfl, fun _ _ => rfl, fun _ _ => rfl⟩
  | n + 1, R, hr, hn => by
    have hB := ho.2.2.1
    have hG := ho.2.1
    have hW := ho.2.2.2.2.1
    have hcc : ∀ b, b < 5 → R (23 + b) ≤ 900000 := fun b hb => by
      have := hr.2.2.2.1 b hb
      omega
    obtain ⟨a1, a2, a3, a4, a5, a6⟩ := boatN_ok (lim := lim) (bear := bear) (t := tN D G W R 0) (v := wN D W (R 29 + 1)) (B := B) (wN_le hW _) hB hr.2.1 hr.2.2.1 hcc B (Nat.le_refl B)
    have h29 : dayN D G B C W lim bear R 29 = R 29 + 1 := dayN_29
    obtain ⟨q1, q2, q3, q4⟩ := dayI_ok ho n (dayN D G B C W lim bear R) (okR_day ho hr (by omega)) (by omega)
    refine ⟨q1, ?_, fun j hj => ?_, fun g hg => ?_⟩
    · rw [dayI, q2, h29]; omega
    · rw [dayI, q3 j hj, dayN_lo hB hr hG hW (by omega), a5 j (by omega)]
    · rw [dayI, q4 g hg, dayN_gl hB hr hG hW hg]; omega
theorem tN_ahead (ho : okP D G B C W lim bear) {n : Nat} (hr : okR B R) (hn : R 29 + n ≤ 9100) : tN D G W (dayI D G B C W lim bear n R) 0 = tN D G W R n := by
  obtain ⟨q1, q2, q3, q4⟩ := dayI_ok ho n R hr hn
  have hG := ho.2.1
  have e1 : ∀ g, g < G → rN D W (dayI D G B C W lim bear n R) g 0 = rN D W R g n := by
    intro g hg
    unfold rN
    rw [q2, q3 g (by omega), q4 g hg, show R 29 + n + (0 + 1) = R 29 + (n + 1) by omega]
    unfold rdN
    by_cases c : n < R (14 + g)
    · rw [if_pos (by omega), if_pos c]
    · rw [if_neg (by omega), if_neg c]
  unfold tN
  rw [smN_cong (f := fun g => dayI D G B C W lim bear n R (7 + g)) (h := fun g => R (7 + g)) (fun g hg => q3 (7 + g) (by omega))]
  rw [smN_cong (f := fun g => dayI D G B C W lim bear n R (7 + g) * rN D W (dayI D G B C W lim bear n R) g 0) (h := fun g => R (7 + g) * rN D W R g n) (fun g hg => by rw [q3 (7 + g) (by omega), e1 g hg])]
theorem wN_ahead (ho : okP D G B C W lim bear) {n : Nat} (hr : okR B R) (hn : R 29 + n ≤ 9100) : wN D W (dayI D G B C W lim bear n R 29 + 1) = wN D W (R 29 + (n + 1)) := by
  rw [(dayI_ok ho n R hr hn).2.1]
  rfl
theorem dayI_succ : ∀ (n : Nat) (R : Nat → Nat), dayI D G B C W lim bear (n + 1) R = dayN D G B C W lim bear (dayI D G B C W lim bear n R)
  | 0, _ => rfl
  | n + 1, R => by
    rw [dayI, dayI_succ n (dayN D G B C W lim bear R)]
    rfl
/-- the tried row holds R1, all else is as it was -/
def tri (X Y : zM) (R1 : Nat → Nat) : Prop := ∃ w, Y = zst X 40 w ∧ mW w 92 R1 ∧ ∀ j, (j < 92 ∨ 184 ≤ j) → w j = X 40 j
theorem c_tryStart (hs : mW (X 40) 0 R) (hQ : ∀ Y, tri X Y R → Q none Y) : zcl 49 [.ref 39, .int (nI 0), .int (nI 92)] X Q := by
  rw [c_copy (by omega) (by omega) (by omega)]
  refine hQ _ ⟨_, rfl, fun i hi => ?_, fun j hj => ?_⟩
  · unfold va_cpy
    rw [if_pos (by omega)]
    have := hs i hi
    rwa [show 0 + (92 + i - 92) = 0 + i by omega]
  · unfold va_cpy
    exact if_neg (by omega)
theorem c_tryDay {Y : zM} (ho : okP D G B C W lim bear) (hm : mP D G B C W lim bear X) (hr : okR B R) (hD : 0 < D) (hY : tri X Y R) (hQ : ∀ Z, tri X Z (dayN D G B C W lim bear R) → Q none Z) : zcl 199 [.ref 39, .int (nI 92)] Y Q := by
  obtain ⟨w, rfl, hw, hf⟩ := hY
  refine c_dayIn ho (mP_st hm w) (by rw [zst_at]; exact hw) hr hD (by omega) (fun w2 hw2 hf2 => ?_)
  rw [zst_at] at hf2
  rw [zst_zst]
  exact hQ _ ⟨w2, rfl, hw2, fun j hj => by rw [hf2 j (by omega)]; exact hf j hj⟩
theorem goOn_loop {m : Nat} (ho : okP D G B C W lim bear) (hm : mP D G B C W lim bear X) (hD : 0 < D) (hm2 : m ≤ 60) (hr : okR B R) (h29 : R 29 + m ≤ 9100) (hQ : ∀ Z, tri X Z (dayI D G B C W lim bear m R) → Q none Z) : ∀ (n i : Nat) (Y : zM), i + n = m → tri X Y (dayI D G B C W lim bear i R) → zev 204 9 [.ref 39, .int (nI m), .int (nI i)] [] Y Q := by
  intro n
  induction n with
  | zero =>
    intro i Y hi hY
    have e : i = m := by omega
    subst e
    rw [s204_9]
    simp (disch := first | omega | assumption | decide) only [e204, s204_0, s204_1, s204_2, s204_4, s204_7, s204_8, s204_10, s204_11, s204_14, s204_15, s204_17, s204_20, s204_23, s204_26, Option.toList_some, Option.toList_none, List.cons_append, List.nil_append, if_true, if_false, eq_self, n1n0, ne10, nI_ltI, Nat.lt_irrefl]
    exact hQ Y hY
  | succ n ih =>
    intro i Y hi hY
    have hlt : i < m := by omega
    rw [s204_9]
    simp (disch := first | omega | assumption | decide) only [e204, s204_0, s204_1, s204_2, s204_4, s204_7, s204_8, s204_10, s204_11, s204_14, s204_15, s204_17, s204_20, s204_23, s204_26, Option.toList_some, Option.toList_none, List.cons_append, List.nil_append, if_true, if_false, eq_self, n1n0, ne10, nI_ltI, hlt]
    refine c_tryDay ho hm (dayI_ok ho i R hr (by omega)).1 hD hY (fun Z hZ => ?_)
    simp (disch := first | omega | assumption | decide) only [e204, s204_0, s204_1, s204_2, s204_4, s204_7, s204_8, s204_10, s204_11, s204_14, s204_15, s204_17, s204_20, s204_23, s204_26, Option.toList_some, Option.toList_none, List.cons_append, List.nil_append, if_true, if_false, eq_self, n1n0, ne10, nI_add]
    rw [← dayI_succ] at hZ
    exact ih (i + 1) Z (by omega) hZ
theorem c_goOn {m : Nat} (ho : okP D G B C W lim bear) (hm : mP D G B C W lim bear X) (hs : mW (X 40) 0 R) (hD : 0 < D) (hm2 : m ≤ 60) (hr : okR B R) (h29 : R 29 + m ≤ 9100) (hQ : ∀ Z, tri X Z (dayI D G B C W lim bear m R) → Q none Z) : zcl 204 [.ref 39, .int (nI m)] X Q := by
  simp (disch := first | omega | assumption | decide) only [e204, s204_0, s204_1, s204_2, s204_4, s204_7, s204_8, s204_10, s204_11, s204_14, s204_15, s204_17, s204_20, s204_23, s204_26, Option.toList_some, Option.toList_none, List.cons_append, List.nil_append, if_true, if_false, eq_self, n1n0, ne10]
  refine c_tryStart hs (fun Y hY => ?_)
  simp (disch := first | omega | assumption | decide) only [e204, s204_0, s204_1, s204_2, s204_4, s204_7, s204_8, s204_10, s204_11, s204_14, s204_15, s204_17, s204_20, s204_23, s204_26, Option.toList_some, Option.toList_none, List.cons_append, List.nil_append, if_true, if_false, eq_self, n1n0, ne10]
  exact goOn_loop ho hm hD hm2 hr h29 hQ m 0 Y (by omega) hY
end TR
theorem ok_tells (x : Int32) : okCall 158 209 [.int x] := by
  rintro ⟨⟨D, G, B, C, W, lim, bear⟩, R, ⟨u, Rs⟩, ⟨kb, Ri, si⟩, sd, ⟨t, tx, fa⟩, ⟨tn, tg, tr, en, eg, et⟩⟩ ha
  have hD := ha.1.1
  have hr := ha.2.1.1
  have h29 := ha.2.1.2
  rcases rng x 0 60 (by decide) (by decide) with h | ⟨h, h2⟩ | ⟨j, -, hj, rfl⟩
  · refine ⟨_, -1000000002, ha, okC_ro ?_, okM_ro ?_⟩
    · intro X Q _
      simp (disch := first | omega | assumption | decide) only [e158, s158_0, s158_1, s158_2, s158_5, s158_6, s158_7, s158_10, s158_11, s158_14, s158_15, s158_18, s158_19, s158_22, e86, s86_0, s86_1, s86_2, s86_4, s86_7, s86_10, s86_12, s86_13, s86_14, s86_17, s86_20, s86_22, s86_25, s86_26, Option.toList_some, Option.toList_none, List.cons_append, List.nil_append, if_true, if_false, eq_self, n1n0, ne10, c_isOut, if_pos h, show ¬ (-1000000002 : Int32) = nI 0 by decide]
    · intro X Q _
      simp (disch := first | omega | assumption | decide) only [e209, s209_0, s209_1, s209_2, s209_3, s209_6, s209_9, s209_12, s209_14, s209_15, s209_16, s209_19, s209_22, s209_24, s209_25, s209_26, s209_27, s209_30, s209_31, s209_33, s209_36, Option.toList_some, Option.toList_none, List.cons_append, List.nil_append, if_true, if_false, eq_self, n1n0, ne10, li_0, li_1, li_255, li_48, li_57, li_60, li_30, li_9, li_10, li_12, li_2, li_100, c_in, if_pos h]
  · refine ⟨_, -1000000002, ha, okC_ro ?_, okM_ro ?_⟩
    · intro X Q _
      simp (disch := first | omega | assumption | decide) only [e158, s158_0, s158_1, s158_2, s158_5, s158_6, s158_7, s158_10, s158_11, s158_14, s158_15, s158_18, s158_19, s158_22, e86, s86_0, s86_1, s86_2, s86_4, s86_7, s86_10, s86_12, s86_13, s86_14, s86_17, s86_20, s86_22, s86_25, s86_26, Option.toList_some, Option.toList_none, List.cons_append, List.nil_append, if_true, if_false, eq_self, n1n0, ne10, c_isOut, if_neg h, if_pos h2, show ¬ (-1000000002 : Int32) = nI 0 by decide]
    · intro X Q _
      simp (disch := first | omega | assumption | decide) only [e209, s209_0, s209_1, s209_2, s209_3, s209_6, s209_9, s209_12, s209_14, s209_15, s209_16, s209_19, s209_22, s209_24, s209_25, s209_26, s209_27, s209_30, s209_31, s209_33, s209_36, Option.toList_some, Option.toList_none, List.cons_append, List.nil_append, if_true, if_false, eq_self, n1n0, ne10, li_0, li_1, li_255, li_48, li_57, li_60, li_30, li_9, li_10, li_12, li_2, li_100, c_in, if_neg h, if_pos h2]
  · have hio := fun X Q => c_isOut_in (X := X) (Q := Q) (j := j) (lo := 0) (hi := 60) (Nat.zero_le j) hj (by decide)
    have hii := fun X Q => c_in_in (X := X) (Q := Q) (j := j) (lo := 0) (hi := 60) (Nat.zero_le j) hj (by decide)
    by_cases h0 : D = 0
    · refine ⟨_, -1000000003, ha, okC_ro ?_, okM_ro ?_⟩
      · rintro X Q ⟨nx, k, ns, ni, h1, h2, h3, h4, h5, h6, h7, h8⟩
        have hnc := fun Q => c_noCoast (X := X) (Q := Q) h1.1 hD
        simp (disch := first | omega | assumption | decide) only [e158, s158_0, s158_1, s158_2, s158_5, s158_6, s158_7, s158_10, s158_11, s158_14, s158_15, s158_18, s158_19, s158_22, e86, s86_0, s86_1, s86_2, s86_4, s86_7, s86_10, s86_12, s86_13, s86_14, s86_17, s86_20, s86_22, s86_25, s86_26, Option.toList_some, Option.toList_none, List.cons_append, List.nil_append, if_true, if_false, eq_self, n1n0, ne10, hio, hnc, h0, show ¬ (-1000000003 : Int32) = nI 0 by decide]
      · rintro X Q ⟨h1, h2, h3, h4, h5, h6, h7⟩
        have q := h1.1
        rw [h0] at q
        simp (disch := first | omega | assumption | decide) only [e209, s209_0, s209_1, s209_2, s209_3, s209_6, s209_9, s209_12, s209_14, s209_15, s209_16, s209_19, s209_22, s209_24, s209_25, s209_26, s209_27, s209_30, s209_31, s209_33, s209_36, Option.toList_some, Option.toList_none, List.cons_append, List.nil_append, if_true, if_false, eq_self, n1n0, ne10, li_0, li_60, hii, q]
    · have c0 : ¬ nI D = nI 0 := fun q => h0 ((nI_eq (by omega) (by omega)).mp q)
      refine ⟨_, nI (tN D G W R j), ha, okC_ro ?_, ?_⟩
      · rintro X Q ⟨nx, k, ns, ni, h1, h2, h3, h4, h5, h6, h7, h8⟩
        have hnc := fun Q => c_noCoast (X := X) (Q := Q) h1.1 hD
        have hte := fun Q => cc_telling (X := X) (Q := Q) (n := j) ha.1 h1 h2 hr (by omega)
        simp (disch := first | omega | assumption | decide) only [e158, s158_0, s158_1, s158_2, s158_5, s158_6, s158_7, s158_10, s158_11, s158_14, s158_15, s158_18, s158_19, s158_22, e86, s86_0, s86_1, s86_2, s86_4, s86_7, s86_10, s86_12, s86_13, s86_14, s86_17, s86_20, s86_22, s86_25, s86_26, Option.toList_some, Option.toList_none, List.cons_append, List.nil_append, if_true, if_false, eq_self, n1n0, ne10, hio, hnc, h0, hte]
      · intro X Q hX hQ
        obtain ⟨h1, h2, h3, h4, h5, h6, h7⟩ := id hX
        have q := h1.1
        simp (disch := first | omega | assumption | decide) only [e209, s209_0, s209_1, s209_2, s209_3, s209_6, s209_9, s209_12, s209_14, s209_15, s209_16, s209_19, s209_22, s209_24, s209_25, s209_26, s209_27, s209_30, s209_31, s209_33, s209_36, Option.toList_some, Option.toList_none, List.cons_append, List.nil_append, if_true, if_false, eq_self, n1n0, ne10, li_0, li_60, hii, q, c0]
        refine c_goOn ha.1 h1 h2 (by omega) hj hr (by omega) (fun Z hZ => ?_)
        obtain ⟨w, rfl, hw, hf⟩ := hZ
        have hte := fun Q => mm_rowTells (X := zst X 40 w) (Q := Q) (x := 92) ha.1 (mP_st h1 w) (R := dayI D G B C W lim bear j R) (by intro i hi; rw [zst_at]; exact hw i hi) (dayI_ok ha.1 j R hr (by omega)).1 (by omega) (by omega)
        simp (disch := first | omega | assumption | decide) only [e209, s209_0, s209_1, s209_2, s209_3, s209_6, s209_9, s209_12, s209_14, s209_15, s209_16, s209_19, s209_22, s209_24, s209_25, s209_26, s209_27, s209_30, s209_31, s209_33, s209_36, Option.toList_some, Option.toList_none, List.cons_append, List.nil_append, if_true, if_false, eq_self, n1n0, ne10, hte]
        rw [tN_ahead ha.1 hr (by omega)]
        exact hQ _ (MI_tried hX hf) (fun c hc => zst_ne _ _ (by omega))

theorem ok_falseOnes : okCall 160 188 [] := by
  rintro ⟨⟨D, G, B, C, W, lim, bear⟩, R, ⟨u, Rs⟩, ⟨kb, Ri, si⟩, sd, ⟨t, tx, fa⟩, ⟨tn, tg, tr, en, eg, et⟩⟩ ha
  have hr := ha.2.1.1
  refine ⟨_, nI (stN (fun g => decide (rN D W R g 0 ≠ rdN (wN D W (R 29 + 1)) (R g) 0 0)) G), ha, okC_ro ?_, okM_ro ?_⟩
  · rintro X Q ⟨nx, k, ns, ni, h1, h2, h3, h4, h5, h6, h7, h8⟩
    have hw := fun Q => cc_weatherAhead (X := X) (Q := Q) (n := 1) ha.1 h1 h2 hr (by omega)
    have hl := fun Q => falseC_loop (X := X) (Q := Q) ha.1 h1 h2 hr G 0 (by omega)
    simp only [stN] at hl
    simp (disch := first | omega | assumption | decide) only [e160, s160_0, s160_1, s160_4, s160_7, e117, s117_0, s117_1, s117_2, s117_5, s117_6, s117_7, s117_8, s117_9, s117_11, s117_12, s117_15, s117_18, s117_21, s117_22, s117_23, s117_24, s117_27, s117_28, s117_29, s117_32, s117_35, s117_36, s117_37, s117_38, s117_39, s117_42, s117_45, s117_46, s117_47, s117_48, s117_49, s117_50, s117_51, s117_54, s117_57, s117_58, Option.toList_some, Option.toList_none, List.cons_append, List.nil_append, if_true, if_false, eq_self, n1n0, ne10, hw, hl]
  · rintro X Q ⟨h1, h2, h3, h4, h5, h6, h7⟩
    have hl := fun Q => falseM_loop (X := X) (Q := Q) ha.1 h1 h2 hr G 0 (by omega)
    simp only [stN] at hl
    simp (disch := first | omega | assumption | decide) only [e188, s188_0, s188_1, s188_2, s188_3, s188_5, s188_6, s188_9, s188_12, s188_13, s188_14, s188_15, s188_16, s188_19, s188_20, s188_21, s188_24, s188_25, s188_28, s188_29, s188_30, s188_31, s188_34, s188_37, s188_38, s188_41, s188_42, s188_45, s188_46, s188_47, s188_48, s188_49, s188_52, s188_55, s188_56, Option.toList_some, Option.toList_none, List.cons_append, List.nil_append, if_true, if_false, eq_self, n1n0, ne10, hl]
