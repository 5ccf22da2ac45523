/-! error, truest -/
def adN (a b : Nat) : Nat := if a < b then b - a else a - b
theorem ad_C : ∀ a, a < 11 → ∀ b, b < 11 → (if nI 0 ≤ nI a - nI b then nI a - nI b else nI 0 - (nI a - nI b)) = nI (adN a b) := by decide +kernel
theorem ad_M : ∀ a, a < 11 → ∀ b, b < 11 → (if nI b < nI a then nI a - nI b else nI b - nI a) = nI (adN a b) := by decide +kernel
theorem adN_le {a b : Nat} (ha : a ≤ 9) (hb : b ≤ 9) : adN a b ≤ 9 := by unfold adN; split <;> omega
theorem nm1 : ∀ g, g < 100 → ¬ nI g = -1 := by decide +kernel
/-- how far off, over days ahead -/
def erS (f w : Nat → Nat) (n : Nat) : Nat := smN (fun k => adN (f k) (w k)) n
section ER
variable {D G B C : Nat} {W lim bear : Nat → Nat} {X : zM} {R : Nat → Nat} {nx x : Nat} {Q : Option Value → zM → Prop}
theorem erS_le {f w : Nat → Nat} {n : Nat} (hf : ∀ k, f k ≤ 9) (hw : ∀ k, w k ≤ 9) : erS f w n ≤ n * 9 := smN_le (fun i _ => adN_le (hf i) (hw i))
theorem rN_ahead (ho : okP D G B C W lim bear) {g n : Nat} (hr : okR B R) (hn : R 29 + n ≤ 9100) (hg : g < G) : rN D W (dayI D G B C W lim bear n R) g 0 = rN D W R g n := by
  have hG := ho.2.1
  obtain ⟨q1, q2, q3, q4⟩ := dayI_ok ho n R hr hn
  unfold rN rdN
  rw [q2, q3 g (by omega), q4 g hg, show R 29 + n + (0 + 1) = R 29 + (n + 1) by omega]
  by_cases c : n < R (14 + g)
  · rw [if_pos c, if_pos (by omega)]
  · rw [if_neg c, if_neg (by omega)]
theorem rowErr_loop (ho : okP D G B C W lim bear) (hc : cP D G B C W lim bear X) (hs : cS G B X 57 R nx) (hr : okR B R) : ∀ n i : Nat, i + n = 12 → zev 155 4 [.ref 19, .int (nI (erS (tN D G W R) (fun k => wN D W (R 29 + (k + 1))) i)), .int (nI i)] [] X Q = Q (some (.int (nI (erS (tN D G W R) (fun k => wN D W (R 29 + (k + 1))) 12)))) X := by
  intro n
  induction n with
  | zero =>
    intro i hi
    have e : i = 12 := by omega
    subst e
    rw [s155_4]
    simp (disch := first | omega | assumption | decide) only [e155, s155_0, s155_1, s155_2, s155_3, s155_5, s155_7, s155_10, s155_11, s155_12, s155_15, s155_16, s155_19, s155_20, s155_23, s155_24, s155_25, s155_26, s155_29, s155_30, s155_33, s155_34, s155_35, s155_38, s155_41, s155_42, Option.toList_some, Option.toList_none, List.cons_append, List.nil_append, if_true, if_false, eq_self, n1n0, ne10, nI_ltI, Nat.lt_irrefl]
  | succ n ih =>
    intro i hi
    have hlt : i < 12 := by omega
    have hte := fun Q => cc_telling (X := X) (Q := Q) (n := i) ho hc hs hr (by omega)
    have hwe := fun Q => cc_weatherAhead (X := X) (Q := Q) (n := i + 1) ho hc hs hr (by omega)
    have had := ad_C (tN D G W R i) (by have := tN_le (D := D) (G := G) (W := W) R i; omega) (wN D W (R 29 + (i + 1))) (by have := wN_le (D := D) ho.2.2.2.2.1 (R 29 + (i + 1)); omega)
    refine Eq.trans ?_ (ih (i + 1) (by omega))
    rw [s155_4]
    simp (disch := first | omega | assumption | decide) only [e155, s155_0, s155_1, s155_2, s155_3, s155_5, s155_7, s155_10, s155_11, s155_12, s155_15, s155_16, s155_19, s155_20, s155_23, s155_24, s155_25, s155_26, s155_29, s155_30, s155_33, s155_34, s155_35, s155_38, s155_41, s155_42, Option.toList_some, Option.toList_none, List.cons_append, List.nil_append, if_true, if_false, eq_self, n1n0, ne10, nI_ltI, hlt, hte, nI_add, hwe, had]
    rfl
theorem glassErr_loop {g : Nat} (ho : okP D G B C W lim bear) (hc : cP D G B C W lim bear X) (hs : cS G B X 57 R nx) (hr : okR B R) (hg : g < G) : ∀ n i : Nat, i + n = 12 → zev 119 4 [.ref 19, .int (nI g), .int (nI (erS (rN D W R g) (fun k => wN D W (R 29 + (k + 1))) i)), .int (nI i)] [] X Q = Q (some (.int (nI (erS (rN D W R g) (fun k => wN D W (R 29 + (k + 1))) 12)))) X := by
  intro n
  induction n with
  | zero =>
    intro i hi
    have e : i = 12 := by omega
    subst e
    rw [s119_4]
    simp (disch := first | omega | assumption | decide) only [e119, s119_0, s119_1, s119_2, s119_3, s119_5, s119_7, s119_10, s119_11, s119_12, s119_15, s119_16, s119_17, s119_20, s119_21, s119_24, s119_25, s119_26, s119_27, s119_30, s119_31, s119_34, s119_35, s119_36, s119_39, s119_42, s119_43, Option.toList_some, Option.toList_none, List.cons_append, List.nil_append, if_true, if_false, eq_self, n1n0, ne10, nI_ltI, Nat.lt_irrefl]
  | succ n ih =>
    intro i hi
    have hlt : i < 12 := by omega
    have hte := fun Q => cc_reading (X := X) (Q := Q) (n := i) ho hc hs hr hg (by omega)
    have hwe := fun Q => cc_weatherAhead (X := X) (Q := Q) (n := i + 1) ho hc hs hr (by omega)
    have had := ad_C (rN D W R g i) (by have := rN_le (D := D) (W := W) R g i; omega) (wN D W (R 29 + (i + 1))) (by have := wN_le (D := D) ho.2.2.2.2.1 (R 29 + (i + 1)); omega)
    refine Eq.trans ?_ (ih (i + 1) (by omega))
    rw [s119_4]
    simp (disch := first | omega | assumption | decide) only [e119, s119_0, s119_1, s119_2, s119_3, s119_5, s119_7, s119_10, s119_11, s119_12, s119_15, s119_16, s119_17, s119_20, s119_21, s119_24, s119_25, s119_26, s119_27, s119_30, s119_31, s119_34, s119_35, s119_36, s119_39, s119_42, s119_43, Option.toList_some, Option.toList_none, List.cons_append, List.nil_append, if_true, if_false, eq_self, n1n0, ne10, nI_ltI, hlt, hte, nI_add, hwe, had]
    rfl
theorem cc_rowError (ho : okP D G B C W lim bear) (hc : cP D G B C W lim bear X) (hs : cS G B X 57 R nx) (hr : okR B R) : zcl 155 [.ref 19] X Q = Q (some (.int (nI (erS (tN D G W R) (fun k => wN D W (R 29 + (k + 1))) 12)))) X := by
  refine Eq.trans ?_ (rowErr_loop ho hc hs hr 12 0 (by omega))
  simp (disch := first | omega | assumption | decide) only [e155, s155_0, s155_1, s155_2, s155_3, s155_5, s155_7, s155_10, s155_11, s155_12, s155_15, s155_16, s155_19, s155_20, s155_23, s155_24, s155_25, s155_26, s155_29, s155_30, s155_33, s155_34, s155_35, s155_38, s155_41, s155_42, Option.toList_some, Option.toList_none, List.cons_append, List.nil_append, if_true, if_false, eq_self, n1n0, ne10]
  rfl
theorem cc_glassError {g : Nat} (ho : okP D G B C W lim bear) (hc : cP D G B C W lim bear X) (hs : cS G B X 57 R nx) (hr : okR B R) (hg : g < G) : zcl 119 [.ref 19, .int (nI g)] X Q = Q (some (.int (nI (erS (rN D W R g) (fun k => wN D W (R 29 + (k + 1))) 12)))) X := by
  refine Eq.trans ?_ (glassErr_loop ho hc hs hr hg 12 0 (by omega))
  simp (disch := first | omega | assumption | decide) only [e119, s119_0, s119_1, s119_2, s119_3, s119_5, s119_7, s119_10, s119_11, s119_12, s119_15, s119_16, s119_17, s119_20, s119_21, s119_24, s119_25, s119_26, s119_27, s119_30, s119_31, s119_34, s119_35, s119_36, s119_39, s119_42, s119_43, Option.toList_some, Option.toList_none, List.cons_append, List.nil_append, if_true, if_false, eq_self, n1n0, ne10]
  rfl
theorem tri_mP {Y : zM} {R1 : Nat → Nat} (hm : mP D G B C W lim bear X) (h : tri X Y R1) : mP D G B C W lim bear Y ∧ mR Y 92 R1 := by
  obtain ⟨w, rfl, hw, hf⟩ := h
  exact ⟨mP_st hm w, fun i hi => by rw [zst_at]; exact hw i hi⟩
theorem errorOf_loop {v : Int32} {f : Nat → Nat} (ho : okP D G B C W lim bear) (hm : mP D G B C W lim bear X) (hD : 0 < D) (hr : okR B R) (h29 : R 29 ≤ 9030) (hf : (v = -1 ∧ f = tN D G W R) ∨ ∃ g, g < G ∧ v = nI g ∧ f = rN D W R g) (hQ : ∀ Z, tri X Z (dayI D G B C W lim bear 12 R) → Q (some (.int (nI (erS f (fun k => wN D W (R 29 + (k + 1))) 12)))) Z) : ∀ (n i : Nat) (Y : zM) (l4 : Value), i + n = 12 → tri X Y (dayI D G B C W lim bear i R) → zev 206 11 [.ref 39, .int v, .int (nI (erS f (fun k => wN D W (R 29 + (k + 1))) i)), .int (nI i), l4] [] Y Q := by
  have hG := ho.2.1
  intro n
  induction n with
  | zero =>
    intro i Y l4 hi hY
    have e : i = 12 := by omega
    subst e
    rw [s206_11]
    simp (disch := first | omega | assumption | decide) only [e206, s206_0, s206_1, s206_2, s206_4, s206_7, s206_8, s206_9, s206_10, s206_12, s206_14, s206_17, s206_18, s206_19, s206_22, s206_23, s206_25, s206_28, s206_31, s206_32, s206_34, s206_35, s206_38, s206_40, s206_41, s206_43, s206_44, s206_46, s206_49, s206_52, s206_53, s206_54, s206_55, s206_57, s206_60, s206_63, s206_66, s206_67, Option.toList_some, Option.toList_none, List.cons_append, List.nil_append, if_true, if_false, eq_self, n1n0, ne10, nI_ltI, Nat.lt_irrefl]
    exact hQ Y hY
  | succ n ih =>
    intro i Y l4 hi hY
    have hlt : i < 12 := by omega
    obtain ⟨p1, p2⟩ := tri_mP hm hY
    have hrd := (dayI_ok ho i R hr (by omega)).1
    have hto := fun Q => mm_tomorrow (X := Y) (Q := Q) (x := 92) ho p1 p2 hrd hD (by omega)
    rw [wN_ahead ho hr (by omega)] at hto
    have h9 : f i ≤ 9 := by
      rcases hf with ⟨-, rfl⟩ | ⟨g, -, -, rfl⟩
      · exact tN_le R i
      · exact rN_le R g i
    have had := ad_M (f i) (by omega) (wN D W (R 29 + (i + 1))) (by have := wN_le (D := D) ho.2.2.2.2.1 (R 29 + (i + 1)); omega)
    have key : ∀ l4, zev 206 38 [.ref 39, .int v, .int (nI (erS f (fun k => wN D W (R 29 + (k + 1))) i)), .int (nI i), l4] [.int (nI (f i))] Y Q := by
      intro l4
      simp (disch := first | omega | assumption | decide) only [e206, s206_0, s206_1, s206_2, s206_4, s206_7, s206_8, s206_9, s206_10, s206_12, s206_14, s206_17, s206_18, s206_19, s206_22, s206_23, s206_25, s206_28, s206_31, s206_32, s206_34, s206_35, s206_38, s206_40, s206_41, s206_43, s206_44, s206_46, s206_49, s206_52, s206_53, s206_54, s206_55, s206_57, s206_60, s206_63, s206_66, s206_67, Option.toList_some, Option.toList_none, List.cons_append, List.nil_append, if_true, if_false, eq_self, n1n0, ne10, hto, c_apart, had, nI_add]
      refine c_tryDay ho hm hrd hD hY (fun Z hZ => ?_)
      simp (disch := first | omega | assumption | decide) only [e206, s206_0, s206_1, s206_2, s206_4, s206_7, s206_8, s206_9, s206_10, s206_12, s206_14, s206_17, s206_18, s206_19, s206_22, s206_23, s206_25, s206_28, s206_31, s206_32, s206_34, s206_35, s206_38, s206_40, s206_41, s206_43, s206_44, s206_46, s206_49, s206_52, s206_53, s206_54, s206_55, s206_57, s206_60, s206_63, s206_66, s206_67, Option.toList_some, Option.toList_none, List.cons_append, List.nil_append, if_true, if_false, eq_self, n1n0, ne10, nI_add]
      exact ih (i + 1) Z _ (by omega) (by rw [dayI_succ]; exact hZ)
    rw [s206_11]
    rcases hf with ⟨rfl, rfl⟩ | ⟨g, hg, rfl, rfl⟩
    · have hte := fun Q => mm_rowTells (X := Y) (Q := Q) (x := 92) ho p1 p2 hrd hD (by omega)
      rw [tN_ahead ho hr (by omega)] at hte
      have k2 := key l4
      simp (disch := first | omega | assumption | decide) only [e206, s206_0, s206_1, s206_2, s206_4, s206_7, s206_8, s206_9, s206_10, s206_12, s206_14, s206_17, s206_18, s206_19, s206_22, s206_23, s206_25, s206_28, s206_31, s206_32, s206_34, s206_35, s206_38, s206_40, s206_41, s206_43, s206_44, s206_46, s206_49, s206_52, s206_53, s206_54, s206_55, s206_57, s206_60, s206_63, s206_66, s206_67, Option.toList_some, Option.toList_none, List.cons_append, List.nil_append, if_true, if_false, eq_self, n1n0, ne10] at k2
      simp (disch := first | omega | assumption | decide) only [e206, s206_0, s206_1, s206_2, s206_4, s206_7, s206_8, s206_9, s206_10, s206_12, s206_14, s206_17, s206_18, s206_19, s206_22, s206_23, s206_25, s206_28, s206_31, s206_32, s206_34, s206_35, s206_38, s206_40, s206_41, s206_43, s206_44, s206_46, s206_49, s206_52, s206_53, s206_54, s206_55, s206_57, s206_60, s206_63, s206_66, s206_67, Option.toList_some, Option.toList_none, List.cons_append, List.nil_append, if_true, if_false, eq_self, n1n0, ne10, nI_ltI, hlt, hte]
      exact k2
    · have hte := fun Q => mm_reads (X := Y) (Q := Q) (x := 92) (g := g) ho p1 p2 hrd hD (by omega) (by omega)
      rw [rN_ahead ho hr (by omega) hg] at hte
      have hn1 := nm1 g (by omega)
      have k2 := key l4
      simp (disch := first | omega | assumption | decide) only [e206, s206_0, s206_1, s206_2, s206_4, s206_7, s206_8, s206_9, s206_10, s206_12, s206_14, s206_17, s206_18, s206_19, s206_22, s206_23, s206_25, s206_28, s206_31, s206_32, s206_34, s206_35, s206_38, s206_40, s206_41, s206_43, s206_44, s206_46, s206_49, s206_52, s206_53, s206_54, s206_55, s206_57, s206_60, s206_63, s206_66, s206_67, Option.toList_some, Option.toList_none, List.cons_append, List.nil_append, if_true, if_false, eq_self, n1n0, ne10] at k2
      simp (disch := first | omega | assumption | decide) only [e206, s206_0, s206_1, s206_2, s206_4, s206_7, s206_8, s206_9, s206_10, s206_12, s206_14, s206_17, s206_18, s206_19, s206_22, s206_23, s206_25, s206_28, s206_31, s206_32, s206_34, s206_35, s206_38, s206_40, s206_41, s206_43, s206_44, s206_46, s206_49, s206_52, s206_53, s206_54, s206_55, s206_57, s206_60, s206_63, s206_66, s206_67, Option.toList_some, Option.toList_none, List.cons_append, List.nil_append, if_true, if_false, eq_self, n1n0, ne10, nI_ltI, hlt, hte, hn1]
      exact k2
theorem c_errorOf {v : Int32} {f : Nat → Nat} (ho : okP D G B C W lim bear) (hm : mP D G B C W lim bear X) (hs : mW (X 40) 0 R) (hD : 0 < D) (hr : okR B R) (h29 : R 29 ≤ 9030) (hf : (v = -1 ∧ f = tN D G W R) ∨ ∃ g, g < G ∧ v = nI g ∧ f = rN D W R g) (hQ : ∀ Z, tri X Z (dayI D G B C W lim bear 12 R) → Q (some (.int (nI (erS f (fun k => wN D W (R 29 + (k + 1))) 12)))) Z) : zcl 206 [.ref 39, .int v] X Q := by
  simp (disch := first | omega | assumption | decide) only [e206, s206_0, s206_1, s206_2, s206_4, s206_7, s206_8, s206_9, s206_10, s206_12, s206_14, s206_17, s206_18, s206_19, s206_22, s206_23, s206_25, s206_28, s206_31, s206_32, s206_34, s206_35, s206_38, s206_40, s206_41, s206_43, s206_44, s206_46, s206_49, s206_52, s206_53, s206_54, s206_55, s206_57, s206_60, s206_63, s206_66, s206_67, Option.toList_some, Option.toList_none, List.cons_append, List.nil_append, if_true, if_false, eq_self, n1n0, ne10]
  refine c_tryStart hs (fun Y hY => ?_)
  simp (disch := first | omega | assumption | decide) only [e206, s206_0, s206_1, s206_2, s206_4, s206_7, s206_8, s206_9, s206_10, s206_12, s206_14, s206_17, s206_18, s206_19, s206_22, s206_23, s206_25, s206_28, s206_31, s206_32, s206_34, s206_35, s206_38, s206_40, s206_41, s206_43, s206_44, s206_46, s206_49, s206_52, s206_53, s206_54, s206_55, s206_57, s206_60, s206_63, s206_66, s206_67, Option.toList_some, Option.toList_none, List.cons_append, List.nil_append, if_true, if_false, eq_self, n1n0, ne10]
  exact errorOf_loop ho hm hD hr h29 hf hQ 12 0 Y _ (by omega) hY
end ER
theorem ok_error (x : Int32) : okCall 178 213 [.int x] := by
  rintro ⟨⟨D, G, B, C, W, lim, bear⟩, R, ⟨u, Rs⟩, ⟨kb, Ri, si⟩, sd, ⟨t, tx, fa⟩, ⟨tn, tg, tr, en, eg, et⟩⟩ ha
  have hD := ha.1.1
  have hG := ha.1.2.1
  have hr := ha.2.1.1
  have h29 := ha.2.1.2
  have u0 : ¬ (-1000000001 : Int32) = nI 0 := by decide
  have u3 : ¬ (-1000000003 : Int32) = nI 0 := by decide
  by_cases hx : x = -1
  · subst hx
    by_cases h0 : D = 0
    · refine ⟨_, -1000000003, ha, okC_ro ?_, okM_ro ?_⟩
      · rintro X Q ⟨nx, k, ns, ni, h1, h2, h3, h4, h5, h6, h7, h8⟩
        have hnc := fun Q => c_noCoast (X := X) (Q := Q) h1.1 hD
        simp (disch := first | omega | assumption | decide) only [e178, s178_0, s178_1, s178_2, s178_5, s178_6, s178_7, s178_10, s178_11, s178_12, s178_13, s178_14, s178_17, s178_18, s178_21, s178_24, s178_27, s178_28, s178_31, s178_32, s178_35, e138, s138_0, s138_1, s138_2, s138_5, s138_6, s138_7, s138_10, s138_13, s138_15, s138_16, s138_17, s138_20, s138_23, s138_25, s138_28, s138_29, Option.toList_some, Option.toList_none, List.cons_append, List.nil_append, if_true, if_false, eq_self, n1n0, ne10, hnc, h0, u3]
      · rintro X Q ⟨h1, h2, h3, h4, h5, h6, h7⟩
        have q := h1.1
        rw [h0] at q
        simp (disch := first | omega | assumption | decide) only [e213, s213_0, s213_1, s213_2, s213_5, s213_6, s213_7, s213_10, s213_13, s213_15, s213_16, s213_17, s213_20, s213_23, s213_25, s213_28, s213_29, s213_30, s213_33, Option.toList_some, Option.toList_none, List.cons_append, List.nil_append, if_true, if_false, eq_self, n1n0, ne10, q]
    · have c0 : ¬ nI D = nI 0 := fun q => h0 ((nI_eq (by omega) (by omega)).mp q)
      refine ⟨_, nI (erS (tN D G W R) (fun k => wN D W (R 29 + (k + 1))) 12), ha, okC_ro ?_, ?_⟩
      · rintro X Q ⟨nx, k, ns, ni, h1, h2, h3, h4, h5, h6, h7, h8⟩
        have hnc := fun Q => c_noCoast (X := X) (Q := Q) h1.1 hD
        have hte := fun Q => cc_rowError (X := X) (Q := Q) ha.1 h1 h2 hr
        simp (disch := first | omega | assumption | decide) only [e178, s178_0, s178_1, s178_2, s178_5, s178_6, s178_7, s178_10, s178_11, s178_12, s178_13, s178_14, s178_17, s178_18, s178_21, s178_24, s178_27, s178_28, s178_31, s178_32, s178_35, e138, s138_0, s138_1, s138_2, s138_5, s138_6, s138_7, s138_10, s138_13, s138_15, s138_16, s138_17, s138_20, s138_23, s138_25, s138_28, s138_29, Option.toList_some, Option.toList_none, List.cons_append, List.nil_append, if_true, if_false, eq_self, n1n0, ne10, hnc, h0, hte]
      · intro X Q hX hQ
        obtain ⟨h1, h2, h3, h4, h5, h6, h7⟩ := id hX
        have q := h1.1
        simp (disch := first | omega | assumption | decide) only [e213, s213_0, s213_1, s213_2, s213_5, s213_6, s213_7, s213_10, s213_13, s213_15, s213_16, s213_17, s213_20, s213_23, s213_25, s213_28, s213_29, s213_30, s213_33, Option.toList_some, Option.toList_none, List.cons_append, List.nil_append, if_true, if_false, eq_self, n1n0, ne10, q, c0]
        refine c_errorOf ha.1 h1 h2 (by omega) hr h29 (Or.inl ⟨rfl, rfl⟩) (fun Z hZ => ?_)
        obtain ⟨w, rfl, hw, hf⟩ := hZ
        simp (disch := first | omega | assumption | decide) only [e213, s213_0, s213_1, s213_2, s213_5, s213_6, s213_7, s213_10, s213_13, s213_15, s213_16, s213_17, s213_20, s213_23, s213_25, s213_28, s213_29, s213_30, s213_33, Option.toList_some, Option.toList_none, List.cons_append, List.nil_append, if_true, if_false, eq_self, n1n0, ne10]
        exact hQ _ (MI_tried hX hf) (fun c hc => zst_ne _ _ (by omega))
  · rcases rngm x G (by omega) with h | ⟨h, h2⟩ | ⟨j, hj, rfl, n1, n2⟩
    · refine ⟨_, -1000000001, ha, okC_ro ?_, okM_ro ?_⟩
      · rintro X Q ⟨nx, k, ns, ni, h1, -⟩
        simp (disch := first | omega | assumption | decide) only [e178, s178_0, s178_1, s178_2, s178_5, s178_6, s178_7, s178_10, s178_11, s178_12, s178_13, s178_14, s178_17, s178_18, s178_21, s178_24, s178_27, s178_28, s178_31, s178_32, s178_35, e138, s138_0, s138_1, s138_2, s138_5, s138_6, s138_7, s138_10, s138_13, s138_15, s138_16, s138_17, s138_20, s138_23, s138_25, s138_28, s138_29, Option.toList_some, Option.toList_none, List.cons_append, List.nil_append, if_true, if_false, eq_self, n1n0, ne10, hx, c_noGlass x h1.2.1, if_pos h, n1n0, u0]
      · rintro X Q ⟨h1, -⟩
        simp (disch := first | omega | assumption | decide) only [e213, s213_0, s213_1, s213_2, s213_5, s213_6, s213_7, s213_10, s213_13, s213_15, s213_16, s213_17, s213_20, s213_23, s213_25, s213_28, s213_29, s213_30, s213_33, Option.toList_some, Option.toList_none, List.cons_append, List.nil_append, if_true, if_false, eq_self, n1n0, ne10, hx, c_isGlass x h1.2.1, if_pos h]
    · refine ⟨_, -1000000001, ha, okC_ro ?_, okM_ro ?_⟩
      · rintro X Q ⟨nx, k, ns, ni, h1, -⟩
        simp (disch := first | omega | assumption | decide) only [e178, s178_0, s178_1, s178_2, s178_5, s178_6, s178_7, s178_10, s178_11, s178_12, s178_13, s178_14, s178_17, s178_18, s178_21, s178_24, s178_27, s178_28, s178_31, s178_32, s178_35, e138, s138_0, s138_1, s138_2, s138_5, s138_6, s138_7, s138_10, s138_13, s138_15, s138_16, s138_17, s138_20, s138_23, s138_25, s138_28, s138_29, Option.toList_some, Option.toList_none, List.cons_append, List.nil_append, if_true, if_false, eq_self, n1n0, ne10, hx, c_noGlass x h1.2.1, if_neg h, if_pos h2, n1n0, u0]
      · rintro X Q ⟨h1, -⟩
        simp (disch := first | omega | assumption | decide) only [e213, s213_0, s213_1, s213_2, s213_5, s213_6, s213_7, s213_10, s213_13, s213_15, s213_16, s213_17, s213_20, s213_23, s213_25, s213_28, s213_29, s213_30, s213_33, Option.toList_some, Option.toList_none, List.cons_append, List.nil_append, if_true, if_false, eq_self, n1n0, ne10, hx, c_isGlass x h1.2.1, if_neg h, if_pos h2]
    · have h0 : ¬ D = 0 := fun q => by have := (ha.1.2.2.2.2.2.2.2 q).1; omega
      have c0 : ¬ nI D = nI 0 := fun q => h0 ((nI_eq (by omega) (by omega)).mp q)
      refine ⟨_, nI (erS (rN D W R j) (fun k => wN D W (R 29 + (k + 1))) 12), ha, okC_ro ?_, ?_⟩
      · rintro X Q ⟨nx, k, ns, ni, h1, h2, h3, h4, h5, h6, h7, h8⟩
        have hnc := fun Q => c_noCoast (X := X) (Q := Q) h1.1 hD
        have hng := fun Q => c_noGlass_in (X := X) (Q := Q) h1.2.1 hj (by omega)
        have hte := fun Q => cc_glassError (X := X) (Q := Q) ha.1 h1 h2 hr hj
        simp (disch := first | omega | assumption | decide) only [e178, s178_0, s178_1, s178_2, s178_5, s178_6, s178_7, s178_10, s178_11, s178_12, s178_13, s178_14, s178_17, s178_18, s178_21, s178_24, s178_27, s178_28, s178_31, s178_32, s178_35, e138, s138_0, s138_1, s138_2, s138_5, s138_6, s138_7, s138_10, s138_13, s138_15, s138_16, s138_17, s138_20, s138_23, s138_25, s138_28, s138_29, Option.toList_some, Option.toList_none, List.cons_append, List.nil_append, if_true, if_false, eq_self, n1n0, ne10, hx, hng, hnc, h0, hte]
      · intro X Q hX hQ
        obtain ⟨h1, h2, h3, h4, h5, h6, h7⟩ := id hX
        have q := h1.1
        have hig := fun Q => c_isGlass_in (X := X) (Q := Q) h1.2.1 hj (by omega)
        simp (disch := first | omega | assumption | decide) only [e213, s213_0, s213_1, s213_2, s213_5, s213_6, s213_7, s213_10, s213_13, s213_15, s213_16, s213_17, s213_20, s213_23, s213_25, s213_28, s213_29, s213_30, s213_33, Option.toList_some, Option.toList_none, List.cons_append, List.nil_append, if_true, if_false, eq_self, n1n0, ne10, hx, hig, q, c0]
        refine c_errorOf ha.1 h1 h2 (by omega) hr h29 (Or.inr ⟨j, hj, rfl, rfl⟩) (fun Z hZ => ?_)
        obtain ⟨w, rfl, hw, hf⟩ := hZ
        simp (disch := first | omega | assumption | decide) only [e213, s213_0, s213_1, s213_2, s213_5, s213_6, s213_7, s213_10, s213_13, s213_15, s213_16, s213_17, s213_20, s213_23, s213_25, s213_28, s213_29, s213_30, s213_33, Option.toList_some, Option.toList_none, List.cons_append, List.nil_append, if_true, if_false, eq_self, n1n0, ne10]
        exact hQ _ (MI_tried hX hf) (fun c hc => zst_ne _ _ (by omega))
