/-! day, undo -/
section DY
variable {D G B C : Nat} {W lim bear : Nat → Nat} {kb : Nat} {Ri : Nat → Nat → Nat} {si : Nat → Nat} {sd : Nat} {tt : Nat × (Nat → Nat) × Int32} {nb : Nat × (Nat → Nat) × (Nat → Nat) × Nat × (Nat → Nat) × (Nat → Nat)} {Q : Option Value → zM → Prop}
/-- days one behind another, each remembered -/
def dayS (D G B C : Nat) (W lim bear : Nat → Nat) : Nat → (Nat → Nat) → Nat → (Nat → Nat → Nat) → (Nat → Nat) × Nat × (Nat → Nat → Nat)
  | 0, R, u, Rs => (R, u, Rs)
  | n + 1, R, u, Rs => dayS D G B C W lim bear n (dayN D G B C W lim bear R) (min 30 (u + 1)) (psh u Rs R)
theorem dayS_ok (ho : okP D G B C W lim bear) : ∀ (n : Nat) (R : Nat → Nat) (u : Nat) (Rs : Nat → Nat → Nat), okR B R → R 29 + n ≤ 9030 → u ≤ 30 → (∀ i, i < u → okS B (Rs i)) → okS B (dayS D G B C W lim bear n R u Rs).1 ∧ (dayS D G B C W lim bear n R u Rs).2.1 ≤ 30 ∧ ∀ i, i < (dayS D G B C W lim bear n R u Rs).2.1 → okS B ((dayS D G B C W lim bear n R u Rs).2.2 i)
  | 0, R, u, Rs, hr, hn, hu, hR => ⟨⟨hr, show R 29 ≤ 9030 by omega⟩, hu, hR⟩
  | n + 1, R, u, Rs, hr, hn, hu, hR => by
    obtain ⟨p1, p2⟩ := okS_psh hu (R := R) ⟨hr, by omega⟩ hR
    exact dayS_ok ho n _ _ _ (okR_day ho hr (by omega)) (by rw [dayN_29]; omega) p1 p2
theorem dayC_loop {m : Nat} (ho : okP D G B C W lim bear) (hm : m ≤ 30) : ∀ (n i : Nat) (R : Nat → Nat) (u : Nat) (Rs : Nat → Nat → Nat) (X : zM), i + n = m → okR B R → R 29 + n ≤ 9030 → CI ((D, G, B, C, W, lim, bear), R, (u, Rs), (kb, Ri, si), sd, tt, nb) X → (∀ Y, CI ((D, G, B, C, W, lim, bear), (dayS D G B C W lim bear n R u Rs).1, (dayS D G B C W lim bear n R u Rs).2, (kb, Ri, si), sd, tt, nb) Y → frM X Y → Q (some (.int (nI (hmN ((dayS D G B C W lim bear n R u Rs).1 21) B)))) Y) → zev 192 14 [.ref 0, .int (nI m), .int (nI 0), .int (nI i)] [] X Q := by
  have hG := ho.2.1
  have hB := ho.2.2.1
  intro n
  induction n with
  | zero =>
    intro i R u Rs X hi hr hn hX hQ
    have e : i = m := by omega
    subst e
    obtain ⟨nx, k, ns, ni, h1, h2, h3, h4, h5, h6, h7, h8⟩ := id hX
    have hh := fun Q => c_homeCount (X := X) (Q := Q) (a := R 21) hB h1.2.2.1 h2.1.2.2.1 hr.2.1
    rw [s192_14]
    simp (disch := first | omega | assumption | decide) only [e192, s192_0, s192_1, s192_2, s192_5, s192_6, s192_7, s192_10, s192_11, s192_12, s192_13, s192_15, s192_16, s192_19, s192_20, s192_23, s192_24, s192_27, s192_30, s192_31, s192_34, s192_37, s192_40, s192_43, s192_44, s192_47, s192_50, Option.toList_some, Option.toList_none, List.cons_append, List.nil_append, if_true, if_false, eq_self, n1n0, ne10, nI_ltI, Nat.lt_irrefl, hh]
    exact hQ X hX frM.rf
  | succ n ih =>
    intro i R u Rs X hi hr hn hX hQ
    have hlt : i < m := by omega
    rw [s192_14]
    simp (disch := first | omega | assumption | decide) only [e192, s192_0, s192_1, s192_2, s192_5, s192_6, s192_7, s192_10, s192_11, s192_12, s192_13, s192_15, s192_16, s192_19, s192_20, s192_23, s192_24, s192_27, s192_30, s192_31, s192_34, s192_37, s192_40, s192_43, s192_44, s192_47, s192_50, Option.toList_some, Option.toList_none, List.cons_append, List.nil_append, if_true, if_false, eq_self, n1n0, ne10, nI_ltI, hlt]
    refine CI_rem hG hB hX (fun Y hY fY => ?_)
    obtain ⟨nx1, k1, ns1, ni1, g1, g2, g3, g4, g5, g6, g7, g8⟩ := id hY
    simp (disch := first | omega | assumption | decide) only [e192, s192_0, s192_1, s192_2, s192_5, s192_6, s192_7, s192_10, s192_11, s192_12, s192_13, s192_15, s192_16, s192_19, s192_20, s192_23, s192_24, s192_27, s192_30, s192_31, s192_34, s192_37, s192_40, s192_43, s192_44, s192_47, s192_50, Option.toList_some, Option.toList_none, List.cons_append, List.nil_append, if_true, if_false, eq_self, n1n0, ne10]
    refine c_passDay ho g1 g2 hr (fun Z hZ fZ => ?_)
    simp (disch := first | omega | assumption | decide) only [e192, s192_0, s192_1, s192_2, s192_5, s192_6, s192_7, s192_10, s192_11, s192_12, s192_13, s192_15, s192_16, s192_19, s192_20, s192_23, s192_24, s192_27, s192_30, s192_31, s192_34, s192_37, s192_40, s192_43, s192_44, s192_47, s192_50, Option.toList_some, Option.toList_none, List.cons_append, List.nil_append, if_true, if_false, eq_self, n1n0, ne10, nI_add]
    refine ih (i + 1) _ _ _ Z (by omega) (okR_day ho hr (by omega)) (by rw [dayN_29]; omega) (CI_R hY fZ hZ) (fun V hV fV => hQ V hV (fY.tr (frM.tr (fun c c1 c2 => fZ c (by omega)) fV)))
theorem dayM_loop {m : Nat} (ho : okP D G B C W lim bear) (hD : 0 < D) (hm : m ≤ 30) : ∀ (n i : Nat) (R : Nat → Nat) (u : Nat) (Rs : Nat → Nat → Nat) (X : zM), i + n = m → u ≤ 30 → okR B R → R 29 + n ≤ 9030 → MI ((D, G, B, C, W, lim, bear), R, (u, Rs), (kb, Ri, si), sd, tt, nb) X → (∀ Y, MI ((D, G, B, C, W, lim, bear), (dayS D G B C W lim bear n R u Rs).1, (dayS D G B C W lim bear n R u Rs).2, (kb, Ri, si), sd, tt, nb) Y → frK X Y → Q (some (.int (nI (hmN ((dayS D G B C W lim bear n R u Rs).1 21) B)))) Y) → zev 202 14 [.ref 39, .int (nI m), .int (nI 0), .int (nI i)] [] X Q := by
  have hB := ho.2.2.1
  have h32 := two_pow_le hB
  intro n
  induction n with
  | zero =>
    intro i R u Rs X hi hu hr hn hX hQ
    have e : i = m := by omega
    subst e
    have r21 := hr.2.1
    have hh := fun Q => c_homes (X := X) (Q := Q) (a := R 21) hB hX.1.2.2.1 (at0 hX.2.1 (by omega)) (by omega)
    rw [s202_14]
    simp (disch := first | omega | assumption | decide) only [e202, s202_0, s202_1, s202_2, s202_5, s202_6, s202_7, s202_10, s202_11, s202_12, s202_13, s202_15, s202_16, s202_19, s202_20, s202_23, s202_24, s202_25, s202_28, s202_31, s202_34, s202_35, s202_38, Option.toList_some, Option.toList_none, List.cons_append, List.nil_append, if_true, if_false, eq_self, n1n0, ne10, nI_ltI, Nat.lt_irrefl, hh]
    exact hQ X hX frK.rf
  | succ n ih =>
    intro i R u Rs X hi hu hr hn hX hQ
    have hlt : i < m := by omega
    rw [s202_14]
    simp (disch := first | omega | assumption | decide) only [e202, s202_0, s202_1, s202_2, s202_5, s202_6, s202_7, s202_10, s202_11, s202_12, s202_13, s202_15, s202_16, s202_19, s202_20, s202_23, s202_24, s202_25, s202_28, s202_31, s202_34, s202_35, s202_38, Option.toList_some, Option.toList_none, List.cons_append, List.nil_append, if_true, if_false, eq_self, n1n0, ne10, nI_ltI, hlt]
    refine MI_rem hu hX (fun Y hY fY => ?_)
    simp (disch := first | omega | assumption | decide) only [e202, s202_0, s202_1, s202_2, s202_5, s202_6, s202_7, s202_10, s202_11, s202_12, s202_13, s202_15, s202_16, s202_19, s202_20, s202_23, s202_24, s202_25, s202_28, s202_31, s202_34, s202_35, s202_38, Option.toList_some, Option.toList_none, List.cons_append, List.nil_append, if_true, if_false, eq_self, n1n0, ne10]
    refine c_dayIn ho hY.1 hY.2.1 hr hD (by omega) (fun w hw fw => ?_)
    simp (disch := first | omega | assumption | decide) only [e202, s202_0, s202_1, s202_2, s202_5, s202_6, s202_7, s202_10, s202_11, s202_12, s202_13, s202_15, s202_16, s202_19, s202_20, s202_23, s202_24, s202_25, s202_28, s202_31, s202_34, s202_35, s202_38, Option.toList_some, Option.toList_none, List.cons_append, List.nil_append, if_true, if_false, eq_self, n1n0, ne10, nI_add]
    refine ih (i + 1) _ _ _ _ (by omega) (by omega) (okR_day ho hr (by omega)) (by rw [dayN_29]; omega) (MI_R hY hw fw) (fun V hV fV => hQ V hV (fY.tr (frK.tr (fun c hc => zst_ne _ _ (by omega)) fV)))
end DY
theorem c_refuseDays_ok {X : zM} {Q : Option Value → zM → Prop} {D d j : Nat} (h0 : X 9 0 = nI D) (hD : D ≤ 12) (hD1 : 0 < D) (hd : X 57 0 = nI d) (hd2 : d ≤ 9000) (h1 : 1 ≤ j) (h2 : j ≤ 30) : zcl 87 [.ref 0, .int (nI j)] X Q = Q (some (.int (nI 0))) X := by
  have hnc := fun Q => c_noCoast (X := X) (Q := Q) h0 hD
  have hio := fun Q => c_isOut_in (X := X) (Q := Q) (j := j) (lo := 1) (hi := 30) h1 h2 (by decide)
  have c1 : ¬ D = 0 := by omega
  have c2 : ¬ 9000 < d := by omega
  simp (disch := first | omega | assumption | decide) only [e87, s87_0, s87_1, s87_2, s87_4, s87_7, s87_10, s87_12, s87_13, s87_14, s87_17, s87_20, s87_22, s87_23, s87_24, s87_27, s87_30, s87_33, s87_36, s87_38, s87_41, s87_42, Option.toList_some, Option.toList_none, List.cons_append, List.nil_append, if_true, if_false, eq_self, n1n0, ne10, hio, hnc, c1, hd, nI_ltI, c2]
theorem c_refusedDays_ok {X : zM} {Q : Option Value → zM → Prop} {D d j : Nat} (h0 : X 39 7 = nI D) (hD : D ≤ 12) (hD1 : 0 < D) (hd : X 40 29 = nI d) (hd2 : d ≤ 9000) (h1 : 1 ≤ j) (h2 : j ≤ 30) : zcl 101 [.ref 39, .int (nI j)] X Q = Q (some (.int (nI 0))) X := by
  have hio := fun Q => c_in_in (X := X) (Q := Q) (j := j) (lo := 1) (hi := 30) h1 h2 (by decide)
  have c1 : ¬ nI D = nI 0 := fun q => absurd ((nI_eq (by omega) (by omega)).mp q) (by omega)
  have c2 : ¬ nI 9000 < nI d := fun q => absurd ((nI_ltI (by omega) (by omega)).mp q) (by omega)
  simp (disch := first | omega | assumption | decide) only [e101, s101_0, s101_1, s101_2, s101_3, s101_6, s101_9, s101_12, s101_14, s101_15, s101_16, s101_19, s101_22, s101_24, s101_27, s101_28, s101_31, s101_33, s101_34, s101_37, s101_40, s101_42, s101_45, s101_46, Option.toList_some, Option.toList_none, List.cons_append, List.nil_append, if_true, if_false, eq_self, n1n0, ne10, li_1, li_30, hio, h0, c1, hd, c2]
/-- what refuses days, on both sides -/
theorem days_refused {D G B C : Nat} {W lim bear : Nat → Nat} {R : Nat → Nat} {nx : Nat} (x : Int32) (ho : okP D G B C W lim bear) (hr : okR B R) : (∃ j, 1 ≤ j ∧ j ≤ 30 ∧ x = nI j ∧ 0 < D ∧ R 29 ≤ 9000) ∨ ∃ v : Int32, v < nI 0 ∧ (∀ (X : zM) (Q : Option Value → zM → Prop), cP D G B C W lim bear X → X 57 0 = nI (R 29) → zcl 87 [.ref 0, .int x] X Q = Q (some (.int v)) X) ∧ ∀ (X : zM) (Q : Option Value → zM → Prop), mP D G B C W lim bear X → X 40 29 = nI (R 29) → zcl 101 [.ref 39, .int x] X Q = Q (some (.int v)) X := by
  have hD := ho.1
  have h29 := hr.2.2.2.2.2.1
  rcases rng x 1 30 (by decide) (by decide) with h | ⟨h, h2⟩ | ⟨j, hj1, hj, rfl⟩
  · refine Or.inr ⟨-1000000002, by decide, fun X Q h1 hd => ?_, fun X Q h1 hd => ?_⟩
    · simp (disch := first | omega | assumption | decide) only [e87, s87_0, s87_1, s87_2, s87_4, s87_7, s87_10, s87_12, s87_13, s87_14, s87_17, s87_20, s87_22, s87_23, s87_24, s87_27, s87_30, s87_33, s87_36, s87_38, s87_41, s87_42, Option.toList_some, Option.toList_none, List.cons_append, List.nil_append, if_true, if_false, eq_self, n1n0, ne10, c_isOut, if_pos h]
    · simp (disch := first | omega | assumption | decide) only [e101, s101_0, s101_1, s101_2, s101_3, s101_6, s101_9, s101_12, s101_14, s101_15, s101_16, s101_19, s101_22, s101_24, s101_27, s101_28, s101_31, s101_33, s101_34, s101_37, s101_40, s101_42, s101_45, s101_46, Option.toList_some, Option.toList_none, List.cons_append, List.nil_append, if_true, if_false, eq_self, n1n0, ne10, li_0, li_1, li_255, li_48, li_57, li_60, li_30, li_9, li_10, li_12, li_2, li_100, c_in, if_pos h]
  · refine Or.inr ⟨-1000000002, by decide, fun X Q h1 hd => ?_, fun X Q h1 hd => ?_⟩
    · simp (disch := first | omega | assumption | decide) only [e87, s87_0, s87_1, s87_2, s87_4, s87_7, s87_10, s87_12, s87_13, s87_14, s87_17, s87_20, s87_22, s87_23, s87_24, s87_27, s87_30, s87_33, s87_36, s87_38, s87_41, s87_42, Option.toList_some, Option.toList_none, List.cons_append, List.nil_append, if_true, if_false, eq_self, n1n0, ne10, c_isOut, if_neg h, if_pos h2]
    · simp (disch := first | omega | assumption | decide) only [e101, s101_0, s101_1, s101_2, s101_3, s101_6, s101_9, s101_12, s101_14, s101_15, s101_16, s101_19, s101_22, s101_24, s101_27, s101_28, s101_31, s101_33, s101_34, s101_37, s101_40, s101_42, s101_45, s101_46, Option.toList_some, Option.toList_none, List.cons_append, List.nil_append, if_true, if_false, eq_self, n1n0, ne10, li_0, li_1, li_255, li_48, li_57, li_60, li_30, li_9, li_10, li_12, li_2, li_100, c_in, if_neg h, if_pos h2]
  · have hio := fun X Q => c_isOut_in (X := X) (Q := Q) (j := j) (lo := 1) (hi := 30) hj1 hj (by decide)
    have hii := fun X Q => c_in_in (X := X) (Q := Q) (j := j) (lo := 1) (hi := 30) hj1 hj (by decide)
    by_cases c1 : D = 0
    · refine Or.inr ⟨-1000000003, by decide, fun X Q h1 hd => ?_, fun X Q h1 hd => ?_⟩
      · have hnc := fun Q => c_noCoast (X := X) (Q := Q) h1.1 hD
        simp (disch := first | omega | assumption | decide) only [e87, s87_0, s87_1, s87_2, s87_4, s87_7, s87_10, s87_12, s87_13, s87_14, s87_17, s87_20, s87_22, s87_23, s87_24, s87_27, s87_30, s87_33, s87_36, s87_38, s87_41, s87_42, Option.toList_some, Option.toList_none, List.cons_append, List.nil_append, if_true, if_false, eq_self, n1n0, ne10, hio, hnc, c1]
      · have e := h1.1
        rw [c1] at e
        simp (disch := first | omega | assumption | decide) only [e101, s101_0, s101_1, s101_2, s101_3, s101_6, s101_9, s101_12, s101_14, s101_15, s101_16, s101_19, s101_22, s101_24, s101_27, s101_28, s101_31, s101_33, s101_34, s101_37, s101_40, s101_42, s101_45, s101_46, Option.toList_some, Option.toList_none, List.cons_append, List.nil_append, if_true, if_false, eq_self, n1n0, ne10, li_1, li_30, hii, e]
    · by_cases c2 : 9000 < R 29
      · refine Or.inr ⟨-1000000004, by decide, fun X Q h1 hd => ?_, fun X Q h1 hd => ?_⟩
        · have hnc := fun Q => c_noCoast (X := X) (Q := Q) h1.1 hD
          simp (disch := first | omega | assumption | decide) only [e87, s87_0, s87_1, s87_2, s87_4, s87_7, s87_10, s87_12, s87_13, s87_14, s87_17, s87_20, s87_22, s87_23, s87_24, s87_27, s87_30, s87_33, s87_36, s87_38, s87_41, s87_42, Option.toList_some, Option.toList_none, List.cons_append, List.nil_append, if_true, if_false, eq_self, n1n0, ne10, hio, hnc, c1, hd, nI_ltI, c2]
        · have e := h1.1
          have c1' : ¬ nI D = nI 0 := fun q => absurd ((nI_eq (by omega) (by omega)).mp q) c1
          have c2' : nI 9000 < nI (R 29) := (nI_ltI (by omega) (by omega)).mpr c2
          simp (disch := first | omega | assumption | decide) only [e101, s101_0, s101_1, s101_2, s101_3, s101_6, s101_9, s101_12, s101_14, s101_15, s101_16, s101_19, s101_22, s101_24, s101_27, s101_28, s101_31, s101_33, s101_34, s101_37, s101_40, s101_42, s101_45, s101_46, Option.toList_some, Option.toList_none, List.cons_append, List.nil_append, if_true, if_false, eq_self, n1n0, ne10, li_1, li_30, hii, e, c1', hd, c2']
      · exact Or.inl ⟨j, hj1, hj, rfl, by omega, by omega⟩
theorem ok_day (x : Int32) : okCall 192 202 [.int x] := by
  rintro ⟨⟨D, G, B, C, W, lim, bear⟩, R, ⟨u, Rs⟩, ⟨kb, Ri, si⟩, sd, ⟨t, tx, fa⟩, ⟨tn, tg, tr, en, eg, et⟩⟩ ha
  have hr := ha.2.1.1
  have hu := ha.2.2.1.1
  rcases days_refused (R := R) (nx := 0) x ha.1 hr with ⟨j, hj1, hj, rfl, hD, h29⟩ | ⟨v, hv, hc, hm⟩
  · obtain ⟨p1, p2, p3⟩ := dayS_ok ha.1 j R u Rs hr (by omega) hu ha.2.2.1.2
    refine ⟨((D, G, B, C, W, lim, bear), (dayS D G B C W lim bear j R u Rs).1, (dayS D G B C W lim bear j R u Rs).2, (kb, Ri, si), sd, (t, tx, fa), (tn, tg, tr, en, eg, et)), nI (hmN ((dayS D G B C W lim bear j R u Rs).1 21) B), ⟨ha.1, p1, ⟨p2, p3⟩, ha.2.2.2⟩, ?_, ?_⟩
    · intro X Q hX hQ
      obtain ⟨nx, k, ns, ni, h1, h2, h3, h4, h5, h6, h7, h8⟩ := id hX
      have hrf := fun Q => c_refuseDays_ok (X := X) (Q := Q) (j := j) h1.1 ha.1.1 hD h2.1.1 h29 hj1 hj
      simp (disch := first | omega | assumption | decide) only [e192, s192_0, s192_1, s192_2, s192_5, s192_6, s192_7, s192_10, s192_11, s192_12, s192_13, s192_15, s192_16, s192_19, s192_20, s192_23, s192_24, s192_27, s192_30, s192_31, s192_34, s192_37, s192_40, s192_43, s192_44, s192_47, s192_50, Option.toList_some, Option.toList_none, List.cons_append, List.nil_append, if_true, if_false, eq_self, n1n0, ne10, hrf]
      exact dayC_loop ha.1 hj j 0 R u Rs X (by omega) hr (by omega) hX hQ
    · intro X Q hX hQ
      have hrf := fun Q => c_refusedDays_ok (X := X) (Q := Q) (j := j) hX.1.1 ha.1.1 hD (at0 hX.2.1 (by omega)) h29 hj1 hj
      simp (disch := first | omega | assumption | decide) only [e202, s202_0, s202_1, s202_2, s202_5, s202_6, s202_7, s202_10, s202_11, s202_12, s202_13, s202_15, s202_16, s202_19, s202_20, s202_23, s202_24, s202_25, s202_28, s202_31, s202_34, s202_35, s202_38, Option.toList_some, Option.toList_none, List.cons_append, List.nil_append, if_true, if_false, eq_self, n1n0, ne10, hrf, Int32.lt_irrefl]
      exact dayM_loop ha.1 hD hj j 0 R u Rs X (by omega) hu hr (by omega) hX hQ
  · have hv0 : ¬ v = nI 0 := fun q => absurd (q ▸ hv) Int32.lt_irrefl
    refine ⟨_, v, ha, okC_ro ?_, okM_ro ?_⟩
    · rintro X Q ⟨nx, k, ns, ni, h1, h2, h3, h4, h5, h6, h7, h8⟩
      simp (disch := first | omega | assumption | decide) only [e192, s192_0, s192_1, s192_2, s192_5, s192_6, s192_7, s192_10, s192_11, s192_12, s192_13, s192_15, s192_16, s192_19, s192_20, s192_23, s192_24, s192_27, s192_30, s192_31, s192_34, s192_37, s192_40, s192_43, s192_44, s192_47, s192_50, Option.toList_some, Option.toList_none, List.cons_append, List.nil_append, if_true, if_false, eq_self, n1n0, ne10, hc X _ h1 h2.1.1, hv0]
    · rintro X Q ⟨h1, h2, h3, h4, h5, h6, h7⟩
      simp (disch := first | omega | assumption | decide) only [e202, s202_0, s202_1, s202_2, s202_5, s202_6, s202_7, s202_10, s202_11, s202_12, s202_13, s202_15, s202_16, s202_19, s202_20, s202_23, s202_24, s202_25, s202_28, s202_31, s202_34, s202_35, s202_38, Option.toList_some, Option.toList_none, List.cons_append, List.nil_append, if_true, if_false, eq_self, n1n0, ne10, hm X _ h1 (at0 h2 (by omega)), hv]
