/-! truest, differ, fair -/
/-- the first of the least, of n -/
def tb (e : Nat → Nat) : Nat → Nat
  | 0 => 0
  | n + 1 => if n = 0 ∨ e n < e (tb e n) then n else tb e n
theorem tb_lt {e : Nat → Nat} : ∀ {n : Nat}, 0 < n → tb e n < n
  | 0, h => absurd h (by decide)
  | n + 1, _ => by
    unfold tb
    split
    · omega
    · rename_i h
      have := tb_lt (e := e) (n := n) (by omega)
      omega
def bsI (e : Nat → Nat) (n : Nat) : Int32 := if n = 0 then -1 else nI (tb e n)
def lsN (F : Nat) (e : Nat → Nat) (n : Nat) : Nat := if n = 0 then F else e (tb e n)
theorem tb_step {F n : Nat} {e : Nat → Nat} (h : e n < F) : e n < lsN F e n ↔ n = 0 ∨ e n < e (tb e n) := by
  unfold lsN
  by_cases c : n = 0
  · rw [if_pos c]; exact ⟨fun _ => Or.inl c, fun _ => h⟩
  · rw [if_neg c]; exact ⟨Or.inr, fun q => q.resolve_left c⟩
theorem bsI_y {F n : Nat} {e : Nat → Nat} (h : e n < F) (c : e n < lsN F e n) : bsI e (n + 1) = nI n ∧ lsN F e (n + 1) = e n := by
  have : tb e (n + 1) = n := if_pos ((tb_step h).mp c)
  unfold bsI lsN
  rw [if_neg (by omega), if_neg (by omega), this]
  exact ⟨rfl, rfl⟩
theorem bsI_n {F n : Nat} {e : Nat → Nat} (h : e n < F) (c : ¬ e n < lsN F e n) : bsI e (n + 1) = bsI e n ∧ lsN F e (n + 1) = lsN F e n := by
  have c2 := fun q => c ((tb_step h).mpr q)
  have : tb e (n + 1) = tb e n := if_neg c2
  have n0 : ¬ n = 0 := fun q => c2 (Or.inl q)
  unfold bsI lsN
  simp only [if_neg (Nat.succ_ne_zero n), if_neg n0, this, and_self]
theorem lsN_le {F n : Nat} {e : Nat → Nat} (h : ∀ i, e i ≤ F) : lsN F e n ≤ F := by
  unfold lsN; split
  · exact Nat.le_refl _
  · exact h _
section TT
variable {D G B C : Nat} {W lim bear : Nat → Nat} {X : zM} {R : Nat → Nat} {nx x : Nat} {Q : Option Value → zM → Prop}
theorem least_loop (ho : okP D G B C W lim bear) (hc : cP D G B C W lim bear X) (hs : cS G B X 57 R nx) (hr : okR B R) {e : Nat → Nat} (he : e = fun g => erS (rN D W R g) (fun k => wN D W (R 29 + (k + 1))) 12) (hle : ∀ i, e i ≤ 108) : ∀ (n i : Nat) (l4 : Value), i + n = G → zev 156 7 [.ref 19, .int (bsI e i), .int (nI (lsN 1000000 e i)), .int (nI i), l4] [] X Q = Q (some (.int (bsI e G))) X := by
  have hG := ho.2.1
  intro n
  induction n with
  | zero =>
    intro i l4 hi
    have q : i = G := by omega
    subst q
    rw [s156_7]
    simp (disch := first | omega | assumption | decide) only [e156, s156_0, s156_1, s156_2, s156_4, s156_5, s156_6, s156_8, s156_9, s156_12, s156_15, s156_18, s156_19, s156_20, s156_23, s156_25, s156_27, s156_28, s156_31, s156_33, s156_34, s156_35, s156_36, s156_39, s156_42, s156_43, Option.toList_some, Option.toList_none, List.cons_append, List.nil_append, if_true, if_false, eq_self, n1n0, ne10, hc.2.1, nI_ltI, Nat.lt_irrefl]
  | succ n ih =>
    intro i l4 hi
    have hlt : i < G := by omega
    have hge := fun Q => cc_glassError (X := X) (Q := Q) ho hc hs hr hlt
    have hei : erS (rN D W R i) (fun k => wN D W (R 29 + (k + 1))) 12 = e i := by rw [he]
    rw [hei] at hge
    have h8 := hle i
    have hl := lsN_le (F := 1000000) (n := i) (e := e) (fun i => by have := hle i; omega)
    by_cases c : e i < lsN 1000000 e i
    · obtain ⟨b1, b2⟩ := bsI_y (F := 1000000) (by omega) c
      have := ih (i + 1) (.int (nI (e i))) (by omega)
      rw [b1, b2] at this
      refine Eq.trans ?_ this
      rw [s156_7]
      simp (disch := first | omega | assumption | decide) only [e156, s156_0, s156_1, s156_2, s156_4, s156_5, s156_6, s156_8, s156_9, s156_12, s156_15, s156_18, s156_19, s156_20, s156_23, s156_25, s156_27, s156_28, s156_31, s156_33, s156_34, s156_35, s156_36, s156_39, s156_42, s156_43, Option.toList_some, Option.toList_none, List.cons_append, List.nil_append, if_true, if_false, eq_self, n1n0, ne10, hc.2.1, nI_ltI, hlt, hge, c, nI_add]
    · obtain ⟨b1, b2⟩ := bsI_n (F := 1000000) (by omega) c
      have := ih (i + 1) (.int (nI (e i))) (by omega)
      rw [b1, b2] at this
      refine Eq.trans ?_ this
      rw [s156_7]
      simp (disch := first | omega | assumption | decide) only [e156, s156_0, s156_1, s156_2, s156_4, s156_5, s156_6, s156_8, s156_9, s156_12, s156_15, s156_18, s156_19, s156_20, s156_23, s156_25, s156_27, s156_28, s156_31, s156_33, s156_34, s156_35, s156_36, s156_39, s156_42, s156_43, Option.toList_some, Option.toList_none, List.cons_append, List.nil_append, if_true, if_false, eq_self, n1n0, ne10, hc.2.1, nI_ltI, hlt, hge, c, nI_add]
/-- only the tried row has changed -/
def trj (X Y : zM) : Prop := ∃ w, Y = zst X 40 w ∧ ∀ j, (j < 92 ∨ 184 ≤ j) → w j = X 40 j
theorem trj.rf {X : zM} : trj X X := ⟨X 40, (zst_self X 40).symm, fun _ _ => rfl⟩
theorem trj.tri {X Y Z : zM} {R1 : Nat → Nat} (h : trj X Y) (h2 : tri Y Z R1) : trj X Z := by
  obtain ⟨w, rfl, hw⟩ := h
  obtain ⟨w2, rfl, -, h3⟩ := h2
  exact ⟨w2, by rw [zst_zst], fun j hj => by rw [h3 j hj, zst_at]; exact hw j hj⟩
theorem trj_mP {X Y : zM} (h : trj X Y) (hm : mP D G B C W lim bear X) (hs : mW (X 40) 0 R) : mP D G B C W lim bear Y ∧ mW (Y 40) 0 R := by
  obtain ⟨w, rfl, hw⟩ := h
  exact ⟨mP_st hm w, fun i hi => by rw [zst_at, hw _ (by omega)]; exact hs i hi⟩
theorem truestM_loop {v : Int32} (ho : okP D G B C W lim bear) (hm : mP D G B C W lim bear X) (hs : mW (X 40) 0 R) (hr : okR B R) (h29 : R 29 ≤ 9030) {e : Nat → Nat} (he : e = fun g => erS (rN D W R g) (fun k => wN D W (R 29 + (k + 1))) 12) (hle : ∀ i, e i ≤ 108) (hQ : ∀ Z l5, trj X Z → zev 214 65 [.ref 39, .int v, .int (bsI e G), .int (nI (lsN 99999999 e G)), .int (nI G), l5] [] Z Q) : ∀ (n i : Nat) (Y : zM) (l5 : Value), i + n = G → trj X Y → zev 214 22 [.ref 39, .int v, .int (bsI e i), .int (nI (lsN 99999999 e i)), .int (nI i), l5] [] Y Q := by
  have hG := ho.2.1
  intro n
  induction n with
  | zero =>
    intro i Y l5 hi hY
    have q : i = G := by omega
    subst q
    obtain ⟨p1, p2⟩ := trj_mP hY hm hs
    have k := hQ Y l5 hY
    rw [s214_22]
    simp (disch := first | omega | assumption | decide) only [e214, s214_0, s214_1, s214_2, s214_3, s214_4, s214_7, s214_10, s214_12, s214_13, s214_14, s214_15, s214_18, s214_19, s214_20, s214_24, s214_25, s214_28, s214_31, s214_32, s214_34, s214_37, s214_39, s214_41, s214_42, s214_45, s214_47, s214_50, s214_51, s214_52, s214_54, s214_55, s214_58, s214_59, s214_62, s214_65, s214_66, s214_69, s214_70, s214_71, s214_74, s214_75, s214_78, s214_79, Option.toList_some, Option.toList_none, List.cons_append, List.nil_append, if_true, if_false, eq_self, n1n0, ne10, p1.2.1, nI_ltI, Nat.lt_irrefl] at k ⊢
    exact k
  | succ n ih =>
    intro i Y l5 hi hY
    have hlt : i < G := by omega
    obtain ⟨p1, p2⟩ := trj_mP hY hm hs
    have h8 := hle i
    have hD : 0 < D := by
      rcases Nat.eq_zero_or_pos D with q | q
      · have := (ho.2.2.2.2.2.2.2 q).1; omega
      · exact q
    have hl := lsN_le (F := 99999999) (n := i) (e := e) (fun i => by have := hle i; omega)
    rw [s214_22]
    simp (disch := first | omega | assumption | decide) only [e214, s214_0, s214_1, s214_2, s214_3, s214_4, s214_7, s214_10, s214_12, s214_13, s214_14, s214_15, s214_18, s214_19, s214_20, s214_24, s214_25, s214_28, s214_31, s214_32, s214_34, s214_37, s214_39, s214_41, s214_42, s214_45, s214_47, s214_50, s214_51, s214_52, s214_54, s214_55, s214_58, s214_59, s214_62, s214_65, s214_66, s214_69, s214_70, s214_71, s214_74, s214_75, s214_78, s214_79, Option.toList_some, Option.toList_none, List.cons_append, List.nil_append, if_true, if_false, eq_self, n1n0, ne10, p1.2.1, nI_ltI, hlt]
    refine c_errorOf ho p1 p2 hD hr h29 (Or.inr ⟨i, hlt, rfl, rfl⟩) (fun Z hZ => ?_)
    have hei : erS (rN D W R i) (fun k => wN D W (R 29 + (k + 1))) 12 = e i := by rw [he]
    rw [hei]
    by_cases c : e i < lsN 99999999 e i
    · obtain ⟨b1, b2⟩ := bsI_y (F := 99999999) (by omega) c
      have := ih (i + 1) Z (.int (nI (e i))) (by omega) (hY.tri hZ)
      rw [b1, b2] at this
      simp (disch := first | omega | assumption | decide) only [e214, s214_0, s214_1, s214_2, s214_3, s214_4, s214_7, s214_10, s214_12, s214_13, s214_14, s214_15, s214_18, s214_19, s214_20, s214_24, s214_25, s214_28, s214_31, s214_32, s214_34, s214_37, s214_39, s214_41, s214_42, s214_45, s214_47, s214_50, s214_51, s214_52, s214_54, s214_55, s214_58, s214_59, s214_62, s214_65, s214_66, s214_69, s214_70, s214_71, s214_74, s214_75, s214_78, s214_79, Option.toList_some, Option.toList_none, List.cons_append, List.nil_append, if_true, if_false, eq_self, n1n0, ne10, nI_ltI, c, c_least, nI_add]
      exact this
    · obtain ⟨b1, b2⟩ := bsI_n (F := 99999999) (by omega) c
      have := ih (i + 1) Z (.int (nI (e i))) (by omega) (hY.tri hZ)
      rw [b1, b2] at this
      simp (disch := first | omega | assumption | decide) only [e214, s214_0, s214_1, s214_2, s214_3, s214_4, s214_7, s214_10, s214_12, s214_13, s214_14, s214_15, s214_18, s214_19, s214_20, s214_24, s214_25, s214_28, s214_31, s214_32, s214_34, s214_37, s214_39, s214_41, s214_42, s214_45, s214_47, s214_50, s214_51, s214_52, s214_54, s214_55, s214_58, s214_59, s214_62, s214_65, s214_66, s214_69, s214_70, s214_71, s214_74, s214_75, s214_78, s214_79, Option.toList_some, Option.toList_none, List.cons_append, List.nil_append, if_true, if_false, eq_self, n1n0, ne10, nI_ltI, c, c_least, nI_add]
      exact this
end TT
theorem ok_truest (x : Int32) : okCall 179 214 [.int x] := by
  rintro ⟨⟨D, G, B, C, W, lim, bear⟩, R, ⟨u, Rs⟩, ⟨kb, Ri, si⟩, sd, ⟨t, tx, fa⟩, ⟨tn, tg, tr, en, eg, et⟩⟩ ha
  have hD := ha.1.1
  have hG := ha.1.2.1
  have hr := ha.2.1.1
  have h29 := ha.2.1.2
  rcases rng x 0 1 (by decide) (by decide) with h | ⟨h, h2⟩ | ⟨j, -, hj, rfl⟩
  · refine ⟨_, -1000000002, ha, okC_ro ?_, okM_ro ?_⟩
    · intro X Q _
      simp (disch := first | omega | assumption | decide) only [e179, s179_0, s179_1, s179_2, s179_3, s179_6, s179_9, s179_11, s179_12, s179_13, s179_16, s179_19, s179_20, s179_21, s179_22, s179_25, s179_26, s179_29, s179_30, s179_33, s179_34, s179_37, s179_38, s179_41, Option.toList_some, Option.toList_none, List.cons_append, List.nil_append, if_true, if_false, eq_self, n1n0, ne10, c_isOut, if_pos h]
    · intro X Q _
      simp (disch := first | omega | assumption | decide) only [e214, s214_0, s214_1, s214_2, s214_3, s214_4, s214_7, s214_10, s214_12, s214_13, s214_14, s214_15, s214_18, s214_19, s214_20, s214_24, s214_25, s214_28, s214_31, s214_32, s214_34, s214_37, s214_39, s214_41, s214_42, s214_45, s214_47, s214_50, s214_51, s214_52, s214_54, s214_55, s214_58, s214_59, s214_62, s214_65, s214_66, s214_69, s214_70, s214_71, s214_74, s214_75, s214_78, s214_79, Option.toList_some, Option.toList_none, List.cons_append, List.nil_append, if_true, if_false, eq_self, n1n0, ne10, li_0, li_1, li_255, li_48, li_57, li_60, li_30, li_9, li_10, li_12, li_2, li_100, c_in, if_pos h]
  · refine ⟨_, -1000000002, ha, okC_ro ?_, okM_ro ?_⟩
    · intro X Q _
      simp (disch := first | omega | assumption | decide) only [e179, s179_0, s179_1, s179_2, s179_3, s179_6, s179_9, s179_11, s179_12, s179_13, s179_16, s179_19, s179_20, s179_21, s179_22, s179_25, s179_26, s179_29, s179_30, s179_33, s179_34, s179_37, s179_38, s179_41, Option.toList_some, Option.toList_none, List.cons_append, List.nil_append, if_true, if_false, eq_self, n1n0, ne10, c_isOut, if_neg h, if_pos h2]
    · intro X Q _
      simp (disch := first | omega | assumption | decide) only [e214, s214_0, s214_1, s214_2, s214_3, s214_4, s214_7, s214_10, s214_12, s214_13, s214_14, s214_15, s214_18, s214_19, s214_20, s214_24, s214_25, s214_28, s214_31, s214_32, s214_34, s214_37, s214_39, s214_41, s214_42, s214_45, s214_47, s214_50, s214_51, s214_52, s214_54, s214_55, s214_58, s214_59, s214_62, s214_65, s214_66, s214_69, s214_70, s214_71, s214_74, s214_75, s214_78, s214_79, Option.toList_some, Option.toList_none, List.cons_append, List.nil_append, if_true, if_false, eq_self, n1n0, ne10, li_0, li_1, li_255, li_48, li_57, li_60, li_30, li_9, li_10, li_12, li_2, li_100, c_in, if_neg h, if_pos h2]
  · have hio := fun X Q => c_isOut_in (X := X) (Q := Q) (j := j) (lo := 0) (hi := 1) (Nat.zero_le j) hj (by decide)
    have hii := fun X Q => c_in_in (X := X) (Q := Q) (j := j) (lo := 0) (hi := 1) (Nat.zero_le j) hj (by decide)
    generalize he : (fun g => erS (rN D W R g) (fun k => wN D W (R 29 + (k + 1))) 12) = e
    have hle : ∀ i, e i ≤ 108 := fun i => by rw [← he]; exact erS_le (fun k => rN_le R i k) (fun k => wN_le ha.1.2.2.2.2.1 _)
    refine ⟨_, if G = 0 ∨ j = 0 then bsI e G else nI (e (tb e G)), ha, okC_ro ?_, ?_⟩
    · rintro X Q ⟨nx, k, ns, ni, h1, h2, h3, h4, h5, h6, h7, h8⟩
      have hgl := fun Q => least_loop (X := X) (Q := Q) ha.1 h1 h2 hr he.symm hle G 0 zU (by omega)
      have hg2 : ∀ Q, zcl 156 [.ref 19] X Q = Q (some (.int (bsI e G))) X := fun Q => by
        refine Eq.trans ?_ (hgl Q)
        simp (disch := first | omega | assumption | decide) only [e156, s156_0, s156_1, s156_2, s156_4, s156_5, s156_6, s156_8, s156_9, s156_12, s156_15, s156_18, s156_19, s156_20, s156_23, s156_25, s156_27, s156_28, s156_31, s156_33, s156_34, s156_35, s156_36, s156_39, s156_42, s156_43, Option.toList_some, Option.toList_none, List.cons_append, List.nil_append, if_true, if_false, eq_self, n1n0, ne10]
        rfl
      by_cases c : G = 0
      · have hb : bsI e G = -1 := if_pos c
        rw [if_pos (Or.inl c), hb]
        rw [hb] at hg2
        simp (disch := first | omega | assumption | decide) only [e179, s179_0, s179_1, s179_2, s179_3, s179_6, s179_9, s179_11, s179_12, s179_13, s179_16, s179_19, s179_20, s179_21, s179_22, s179_25, s179_26, s179_29, s179_30, s179_33, s179_34, s179_37, s179_38, s179_41, Option.toList_some, Option.toList_none, List.cons_append, List.nil_append, if_true, if_false, eq_self, n1n0, ne10, hio, hg2]
      · have hb : bsI e G = nI (tb e G) := if_neg c
        have htb := tb_lt (e := e) (n := G) (by omega)
        have hn1 := nm1 (tb e G) (by omega)
        rw [hb]
        rw [hb] at hg2
        by_cases c2 : j = 0
        · subst c2
          rw [if_pos (Or.inr rfl)]
          simp (disch := first | omega | assumption | decide) only [e179, s179_0, s179_1, s179_2, s179_3, s179_6, s179_9, s179_11, s179_12, s179_13, s179_16, s179_19, s179_20, s179_21, s179_22, s179_25, s179_26, s179_29, s179_30, s179_33, s179_34, s179_37, s179_38, s179_41, Option.toList_some, Option.toList_none, List.cons_append, List.nil_append, if_true, if_false, eq_self, n1n0, ne10, hio, hg2, hn1]
        · have c3 : ¬ nI j = nI 0 := fun q => c2 ((nI_eq (by omega) (by omega)).mp q)
          rw [if_neg (by omega)]
          have hge := fun Q => cc_glassError (X := X) (Q := Q) ha.1 h1 h2 hr htb
          rw [show erS (rN D W R (tb e G)) (fun k => wN D W (R 29 + (k + 1))) 12 = e (tb e G) by rw [← he]] at hge
          simp (disch := first | omega | assumption | decide) only [e179, s179_0, s179_1, s179_2, s179_3, s179_6, s179_9, s179_11, s179_12, s179_13, s179_16, s179_19, s179_20, s179_21, s179_22, s179_25, s179_26, s179_29, s179_30, s179_33, s179_34, s179_37, s179_38, s179_41, Option.toList_some, Option.toList_none, List.cons_append, List.nil_append, if_true, if_false, eq_self, n1n0, ne10, hio, hg2, hn1, c3, hge]
    · intro X Q hX hQ
      obtain ⟨h1, h2, h3, h4, h5, h6, h7⟩ := id hX
      simp (disch := first | omega | assumption | decide) only [e214, s214_0, s214_1, s214_2, s214_3, s214_4, s214_7, s214_10, s214_12, s214_13, s214_14, s214_15, s214_18, s214_19, s214_20, s214_24, s214_25, s214_28, s214_31, s214_32, s214_34, s214_37, s214_39, s214_41, s214_42, s214_45, s214_47, s214_50, s214_51, s214_52, s214_54, s214_55, s214_58, s214_59, s214_62, s214_65, s214_66, s214_69, s214_70, s214_71, s214_74, s214_75, s214_78, s214_79, Option.toList_some, Option.toList_none, List.cons_append, List.nil_append, if_true, if_false, eq_self, n1n0, ne10, li_0, li_1, hii]
      refine truestM_loop (e := e) ha.1 h1 h2 hr h29 he.symm hle (fun Z l5 hZ => ?_) G 0 X _ (by omega) trj.rf
      have hQ2 : Q (some (.int (if G = 0 ∨ j = 0 then bsI e G else nI (e (tb e G))))) Z := by
        obtain ⟨w, rfl, hf⟩ := hZ
        exact hQ _ (MI_tried hX hf) (fun c hc => zst_ne _ _ (by omega))
      by_cases c2 : j = 0
      · subst c2
        rw [if_pos (Or.inr rfl)] at hQ2
        simp (disch := first | omega | assumption | decide) only [e214, s214_0, s214_1, s214_2, s214_3, s214_4, s214_7, s214_10, s214_12, s214_13, s214_14, s214_15, s214_18, s214_19, s214_20, s214_24, s214_25, s214_28, s214_31, s214_32, s214_34, s214_37, s214_39, s214_41, s214_42, s214_45, s214_47, s214_50, s214_51, s214_52, s214_54, s214_55, s214_58, s214_59, s214_62, s214_65, s214_66, s214_69, s214_70, s214_71, s214_74, s214_75, s214_78, s214_79, Option.toList_some, Option.toList_none, List.cons_append, List.nil_append, if_true, if_false, eq_self, n1n0, ne10]
        exact hQ2
      · have c3 : ¬ nI j = nI 0 := fun q => c2 ((nI_eq (by omega) (by omega)).mp q)
        by_cases c : G = 0
        · have hb : bsI e G = -1 := if_pos c
          rw [if_pos (Or.inl c), hb] at hQ2
          rw [hb]
          simp (disch := first | omega | assumption | decide) only [e214, s214_0, s214_1, s214_2, s214_3, s214_4, s214_7, s214_10, s214_12, s214_13, s214_14, s214_15, s214_18, s214_19, s214_20, s214_24, s214_25, s214_28, s214_31, s214_32, s214_34, s214_37, s214_39, s214_41, s214_42, s214_45, s214_47, s214_50, s214_51, s214_52, s214_54, s214_55, s214_58, s214_59, s214_62, s214_65, s214_66, s214_69, s214_70, s214_71, s214_74, s214_75, s214_78, s214_79, Option.toList_some, Option.toList_none, List.cons_append, List.nil_append, if_true, if_false, eq_self, n1n0, ne10, c3]
          exact hQ2
        · have hb : bsI e G = nI (tb e G) := if_neg c
          have htb := tb_lt (e := e) (n := G) (by omega)
          have hn1 := nm1 (tb e G) (by omega)
          rw [if_neg (by omega)] at hQ2
          rw [hb, show lsN 99999999 e G = e (tb e G) from if_neg c]
          simp (disch := first | omega | assumption | decide) only [e214, s214_0, s214_1, s214_2, s214_3, s214_4, s214_7, s214_10, s214_12, s214_13, s214_14, s214_15, s214_18, s214_19, s214_20, s214_24, s214_25, s214_28, s214_31, s214_32, s214_34, s214_37, s214_39, s214_41, s214_42, s214_45, s214_47, s214_50, s214_51, s214_52, s214_54, s214_55, s214_58, s214_59, s214_62, s214_65, s214_66, s214_69, s214_70, s214_71, s214_74, s214_75, s214_78, s214_79, Option.toList_some, Option.toList_none, List.cons_append, List.nil_append, if_true, if_false, eq_self, n1n0, ne10, c3, hn1]
          exact hQ2
/-- one pair of glasses held against what was most -/
def dfT (e : Nat → Nat → Nat) (s : Int32 × Int32) (a b : Nat) : Int32 × Int32 := if s.2 < nI (e a b) then (nI (100 * a + b), nI (e a b)) else s
def dfJ (e : Nat → Nat → Nat) (a : Nat) : Nat → Nat → Int32 × Int32 → Int32 × Int32
  | 0, _, s => s
  | n + 1, b, s => dfJ e a n (b + 1) (dfT e s a b)
def dfO (e : Nat → Nat → Nat) (G : Nat) : Nat → Nat → Int32 × Int32 → Int32 × Int32
  | 0, _, s => s
  | n + 1, a, s => dfO e G n (a + 1) (dfJ e a (G - (a + 1)) (a + 1) s)
def dfK (e : Nat → Nat → Nat) (G : Nat) (s : Int32 × Int32) : Prop := s = (-1, -1) ∨ ∃ a b, a < G ∧ b < G ∧ s = (nI (100 * a + b), nI (e a b))
theorem dfJ_ok {e : Nat → Nat → Nat} {G a : Nat} (ha : a < G) : ∀ (n b : Nat) (s : Int32 × Int32), b + n ≤ G → dfK e G s → dfK e G (dfJ e a n b s)
  | 0, _, _, _, h => h
  | n + 1, b, s, hb, h => dfJ_ok ha n (b + 1) _ (by omega) (by
      unfold dfT
      split
      · exact Or.inr ⟨a, b, ha, by omega, rfl⟩
      · exact h)
theorem dfO_ok {e : Nat → Nat → Nat} {G : Nat} : ∀ (n a : Nat) (s : Int32 × Int32), a + n = G → dfK e G s → dfK e G (dfO e G n a s)
  | 0, _, _, _, h => h
  | n + 1, a, s, hb, h => dfO_ok n (a + 1) _ (by omega) (dfJ_ok (by omega) _ _ _ (by omega) h)
section DF
variable {D G B C : Nat} {W lim bear : Nat → Nat} {X : zM} {R : Nat → Nat} {nx x : Nat} {Q : Option Value → zM → Prop}
def eR (D : Nat) (W R : Nat → Nat) (a b : Nat) : Nat := adN (rN D W R a 0) (rN D W R b 0)
theorem cc_apart {a b : Nat} (ho : okP D G B C W lim bear) (hc : cP D G B C W lim bear X) (hs : cS G B X 57 R nx) (hr : okR B R) (ha : a < G) (hb : b < G) : zcl 118 [.ref 15, .int (nI a), .int (nI b)] X Q = Q (some (.int (nI (eR D W R a b)))) X := by
  have h1 := fun Q => cc_reading (X := X) (Q := Q) (n := 0) ho hc hs hr ha (by omega)
  have h2 := fun Q => cc_reading (X := X) (Q := Q) (n := 0) ho hc hs hr hb (by omega)
  have had := ad_C (rN D W R a 0) (by have := rN_le (D := D) (W := W) R a 0; omega) (rN D W R b 0) (by have := rN_le (D := D) (W := W) R b 0; omega)
  simp (disch := first | omega | assumption | decide) only [e118, s118_0, s118_1, s118_2, s118_3, s118_6, s118_7, s118_8, s118_9, s118_12, s118_13, s118_16, Option.toList_some, Option.toList_none, List.cons_append, List.nil_append, if_true, if_false, eq_self, n1n0, ne10, h1, h2, had]
  rfl
theorem unlike_in {a : Nat} (ho : okP D G B C W lim bear) (hc : cP D G B C W lim bear X) (hs : cS G B X 57 R nx) (hr : okR B R) (ha : a < G) : ∀ (n b : Nat) (s : Int32 × Int32) (l5 : Value), b + n = G → (∀ l5, zev 154 6 [.ref 15, .int (dfJ (eR D W R) a n b s).1, .int (dfJ (eR D W R) a n b s).2, .int (nI (a + 1)), .int (nI G), l5] [] X Q) → zev 154 22 [.ref 15, .int s.1, .int s.2, .int (nI a), .int (nI b), l5] [] X Q := by
  have hG := ho.2.1
  intro n
  induction n with
  | zero =>
    intro b s l5 hi hQ
    have q : b = G := by omega
    subst q
    rw [s154_22]
    simp (disch := first | omega | assumption | decide) only [e154, s154_0, s154_1, s154_2, s154_3, s154_4, s154_5, s154_7, s154_8, s154_11, s154_14, s154_17, s154_18, s154_19, s154_20, s154_24, s154_25, s154_28, s154_31, s154_34, s154_35, s154_36, s154_38, s154_41, s154_43, s154_45, s154_46, s154_49, s154_51, s154_52, s154_54, s154_55, s154_56, s154_58, s154_59, s154_60, s154_63, s154_66, s154_69, s154_72, s154_73, Option.toList_some, Option.toList_none, List.cons_append, List.nil_append, if_true, if_false, eq_self, n1n0, ne10, hc.2.1, nI_ltI, Nat.lt_irrefl, nI_add]
    exact hQ l5
  | succ n ih =>
    intro b s l5 hi hQ
    have hlt : b < G := by omega
    have hap := fun Q => cc_apart (X := X) (Q := Q) ho hc hs hr ha hlt
    have k := ih (b + 1) (dfT (eR D W R) s a b) (.int (nI (eR D W R a b))) (by omega) hQ
    rw [s154_22]
    by_cases c : s.2 < nI (eR D W R a b)
    · rw [show dfT (eR D W R) s a b = (nI (100 * a + b), nI (eR D W R a b)) from if_pos c] at k
      simp (disch := first | omega | assumption | decide) only [e154, s154_0, s154_1, s154_2, s154_3, s154_4, s154_5, s154_7, s154_8, s154_11, s154_14, s154_17, s154_18, s154_19, s154_20, s154_24, s154_25, s154_28, s154_31, s154_34, s154_35, s154_36, s154_38, s154_41, s154_43, s154_45, s154_46, s154_49, s154_51, s154_52, s154_54, s154_55, s154_56, s154_58, s154_59, s154_60, s154_63, s154_66, s154_69, s154_72, s154_73, Option.toList_some, Option.toList_none, List.cons_append, List.nil_append, if_true, if_false, eq_self, n1n0, ne10, hc.2.1, nI_ltI, hlt, hap, c, pk_mul, nI_add]
      exact k
    · rw [show dfT (eR D W R) s a b = s from if_neg c] at k
      simp (disch := first | omega | assumption | decide) only [e154, s154_0, s154_1, s154_2, s154_3, s154_4, s154_5, s154_7, s154_8, s154_11, s154_14, s154_17, s154_18, s154_19, s154_20, s154_24, s154_25, s154_28, s154_31, s154_34, s154_35, s154_36, s154_38, s154_41, s154_43, s154_45, s154_46, s154_49, s154_51, s154_52, s154_54, s154_55, s154_56, s154_58, s154_59, s154_60, s154_63, s154_66, s154_69, s154_72, s154_73, Option.toList_some, Option.toList_none, List.cons_append, List.nil_append, if_true, if_false, eq_self, n1n0, ne10, hc.2.1, nI_ltI, hlt, hap, c, nI_add]
      exact k
theorem unlike_out (ho : okP D G B C W lim bear) (hc : cP D G B C W lim bear X) (hs : cS G B X 57 R nx) (hr : okR B R) : ∀ (n a : Nat) (s : Int32 × Int32) (l4 l5 : Value), a + n = G → Q (some (.int (dfO (eR D W R) G n a s).1)) X → zev 154 6 [.ref 15, .int s.1, .int s.2, .int (nI a), l4, l5] [] X Q := by
  have hG := ho.2.1
  intro n
  induction n with
  | zero =>
    intro a s l4 l5 hi hQ
    have q : a = G := by omega
    subst q
    rw [s154_6]
    simp (disch := first | omega | assumption | decide) only [e154, s154_0, s154_1, s154_2, s154_3, s154_4, s154_5, s154_7, s154_8, s154_11, s154_14, s154_17, s154_18, s154_19, s154_20, s154_24, s154_25, s154_28, s154_31, s154_34, s154_35, s154_36, s154_38, s154_41, s154_43, s154_45, s154_46, s154_49, s154_51, s154_52, s154_54, s154_55, s154_56, s154_58, s154_59, s154_60, s154_63, s154_66, s154_69, s154_72, s154_73, Option.toList_some, Option.toList_none, List.cons_append, List.nil_append, if_true, if_false, eq_self, n1n0, ne10, hc.2.1, nI_ltI, Nat.lt_irrefl]
    exact hQ
  | succ n ih =>
    intro a s l4 l5 hi hQ
    have hlt : a < G := by omega
    rw [s154_6]
    simp (disch := first | omega | assumption | decide) only [e154, s154_0, s154_1, s154_2, s154_3, s154_4, s154_5, s154_7, s154_8, s154_11, s154_14, s154_17, s154_18, s154_19, s154_20, s154_24, s154_25, s154_28, s154_31, s154_34, s154_35, s154_36, s154_38, s154_41, s154_43, s154_45, s154_46, s154_49, s154_51, s154_52, s154_54, s154_55, s154_56, s154_58, s154_59, s154_60, s154_63, s154_66, s154_69, s154_72, s154_73, Option.toList_some, Option.toList_none, List.cons_append, List.nil_append, if_true, if_false, eq_self, n1n0, ne10, hc.2.1, nI_ltI, hlt, nI_add]
    exact unlike_in ho hc hs hr hlt (G - (a + 1)) (a + 1) s _ (by omega) (fun l5 => ih (a + 1) _ _ l5 (by omega) hQ)
theorem differM_in {v : Int32} {a : Nat} (ho : okP D G B C W lim bear) (hm : mP D G B C W lim bear X) (hs : mW (X 40) 0 R) (hr : okR B R) (ha : a < G) : ∀ (n b : Nat) (s : Int32 × Int32) (l6 : Value), b + n = G → (∀ l6, zev 187 20 [.ref 39, .int v, .int (dfJ (eR D W R) a n b s).1, .int (dfJ (eR D W R) a n b s).2, .int (nI (a + 1)), .int (nI G), l6] [] X Q) → zev 187 35 [.ref 39, .int v, .int s.1, .int s.2, .int (nI a), .int (nI b), l6] [] X Q := by
  have hG := ho.2.1
  have hD : 0 < D := by
    rcases Nat.eq_zero_or_pos D with q | q
    · have := (ho.2.2.2.2.2.2.2 q).1; omega
    · exact q
  have hmr : mR X 0 R := fun i hi => hs i hi
  intro n
  induction n with
  | zero =>
    intro b s l6 hi hQ
    have q : b = G := by omega
    subst q
    rw [s187_35]
    simp (disch := first | omega | assumption | decide) only [e187, s187_0, s187_1, s187_2, s187_3, s187_4, s187_7, s187_10, s187_12, s187_13, s187_14, s187_15, s187_16, s187_17, s187_18, s187_22, s187_23, s187_26, s187_29, s187_31, s187_32, s187_33, s187_37, s187_38, s187_41, s187_44, s187_45, s187_46, s187_48, s187_51, s187_52, s187_53, s187_55, s187_58, s187_61, s187_63, s187_65, s187_66, s187_69, s187_71, s187_73, s187_74, s187_76, s187_77, s187_80, s187_81, s187_82, s187_84, s187_85, s187_88, s187_89, s187_92, s187_95, s187_98, s187_101, s187_102, s187_105, s187_106, s187_109, s187_110, Option.toList_some, Option.toList_none, List.cons_append, List.nil_append, if_true, if_false, eq_self, n1n0, ne10, hm.2.1, nI_ltI, Nat.lt_irrefl, nI_add]
    exact hQ l6
  | succ n ih =>
    intro b s l6 hi hQ
    have hlt : b < G := by omega
    have h1 := fun Q => mm_reads (X := X) (Q := Q) (x := 0) (g := a) ho hm hmr hr hD (by omega) (by omega)
    have h2 := fun Q => mm_reads (X := X) (Q := Q) (x := 0) (g := b) ho hm hmr hr hD (by omega) (by omega)
    have had := ad_M (rN D W R a 0) (by have := rN_le (D := D) (W := W) R a 0; omega) (rN D W R b 0) (by have := rN_le (D := D) (W := W) R b 0; omega)
    rw [show adN (rN D W R a 0) (rN D W R b 0) = eR D W R a b from rfl] at had
    have k := ih (b + 1) (dfT (eR D W R) s a b) (.int (nI (eR D W R a b))) (by omega) hQ
    rw [s187_35]
    by_cases c : s.2 < nI (eR D W R a b)
    · rw [show dfT (eR D W R) s a b = (nI (100 * a + b), nI (eR D W R a b)) from if_pos c] at k
      simp (disch := first | omega | assumption | decide) only [e187, s187_0, s187_1, s187_2, s187_3, s187_4, s187_7, s187_10, s187_12, s187_13, s187_14, s187_15, s187_16, s187_17, s187_18, s187_22, s187_23, s187_26, s187_29, s187_31, s187_32, s187_33, s187_37, s187_38, s187_41, s187_44, s187_45, s187_46, s187_48, s187_51, s187_52, s187_53, s187_55, s187_58, s187_61, s187_63, s187_65, s187_66, s187_69, s187_71, s187_73, s187_74, s187_76, s187_77, s187_80, s187_81, s187_82, s187_84, s187_85, s187_88, s187_89, s187_92, s187_95, s187_98, s187_101, s187_102, s187_105, s187_106, s187_109, s187_110, Option.toList_some, Option.toList_none, List.cons_append, List.nil_append, if_true, if_false, eq_self, n1n0, ne10, hm.2.1, nI_ltI, hlt, h1, h2, c_apart, had, c_most, c, pk_mul, nI_add]
      exact k
    · rw [show dfT (eR D W R) s a b = s from if_neg c] at k
      simp (disch := first | omega | assumption | decide) only [e187, s187_0, s187_1, s187_2, s187_3, s187_4, s187_7, s187_10, s187_12, s187_13, s187_14, s187_15, s187_16, s187_17, s187_18, s187_22, s187_23, s187_26, s187_29, s187_31, s187_32, s187_33, s187_37, s187_38, s187_41, s187_44, s187_45, s187_46, s187_48, s187_51, s187_52, s187_53, s187_55, s187_58, s187_61, s187_63, s187_65, s187_66, s187_69, s187_71, s187_73, s187_74, s187_76, s187_77, s187_80, s187_81, s187_82, s187_84, s187_85, s187_88, s187_89, s187_92, s187_95, s187_98, s187_101, s187_102, s187_105, s187_106, s187_109, s187_110, Option.toList_some, Option.toList_none, List.cons_append, List.nil_append, if_true, if_false, eq_self, n1n0, ne10, hm.2.1, nI_ltI, hlt, h1, h2, c_apart, had, c_most, c, nI_add]
      exact k
theorem differM_out {v : Int32} (ho : okP D G B C W lim bear) (hm : mP D G B C W lim bear X) (hs : mW (X 40) 0 R) (hr : okR B R) : ∀ (n a : Nat) (s : Int32 × Int32) (l5 l6 : Value), a + n = G → (Q (some (.int (if v = nI 0 then (dfO (eR D W R) G n a s).1 else (dfO (eR D W R) G n a s).2))) X) → zev 187 20 [.ref 39, .int v, .int s.1, .int s.2, .int (nI a), l5, l6] [] X Q := by
  have hG := ho.2.1
  intro n
  induction n with
  | zero =>
    intro a s l5 l6 hi hQ
    have q : a = G := by omega
    subst q
    rw [s187_20]
    by_cases c : v = nI 0
    · rw [if_pos c] at hQ
      simp (disch := first | omega | assumption | decide) only [e187, s187_0, s187_1, s187_2, s187_3, s187_4, s187_7, s187_10, s187_12, s187_13, s187_14, s187_15, s187_16, s187_17, s187_18, s187_22, s187_23, s187_26, s187_29, s187_31, s187_32, s187_33, s187_37, s187_38, s187_41, s187_44, s187_45, s187_46, s187_48, s187_51, s187_52, s187_53, s187_55, s187_58, s187_61, s187_63, s187_65, s187_66, s187_69, s187_71, s187_73, s187_74, s187_76, s187_77, s187_80, s187_81, s187_82, s187_84, s187_85, s187_88, s187_89, s187_92, s187_95, s187_98, s187_101, s187_102, s187_105, s187_106, s187_109, s187_110, Option.toList_some, Option.toList_none, List.cons_append, List.nil_append, if_true, if_false, eq_self, n1n0, ne10, hm.2.1, nI_ltI, Nat.lt_irrefl, c]
      exact hQ
    · rw [if_neg c] at hQ
      simp (disch := first | omega | assumption | decide) only [e187, s187_0, s187_1, s187_2, s187_3, s187_4, s187_7, s187_10, s187_12, s187_13, s187_14, s187_15, s187_16, s187_17, s187_18, s187_22, s187_23, s187_26, s187_29, s187_31, s187_32, s187_33, s187_37, s187_38, s187_41, s187_44, s187_45, s187_46, s187_48, s187_51, s187_52, s187_53, s187_55, s187_58, s187_61, s187_63, s187_65, s187_66, s187_69, s187_71, s187_73, s187_74, s187_76, s187_77, s187_80, s187_81, s187_82, s187_84, s187_85, s187_88, s187_89, s187_92, s187_95, s187_98, s187_101, s187_102, s187_105, s187_106, s187_109, s187_110, Option.toList_some, Option.toList_none, List.cons_append, List.nil_append, if_true, if_false, eq_self, n1n0, ne10, hm.2.1, nI_ltI, Nat.lt_irrefl, c]
      exact hQ
  | succ n ih =>
    intro a s l5 l6 hi hQ
    have hlt : a < G := by omega
    rw [s187_20]
    simp (disch := first | omega | assumption | decide) only [e187, s187_0, s187_1, s187_2, s187_3, s187_4, s187_7, s187_10, s187_12, s187_13, s187_14, s187_15, s187_16, s187_17, s187_18, s187_22, s187_23, s187_26, s187_29, s187_31, s187_32, s187_33, s187_37, s187_38, s187_41, s187_44, s187_45, s187_46, s187_48, s187_51, s187_52, s187_53, s187_55, s187_58, s187_61, s187_63, s187_65, s187_66, s187_69, s187_71, s187_73, s187_74, s187_76, s187_77, s187_80, s187_81, s187_82, s187_84, s187_85, s187_88, s187_89, s187_92, s187_95, s187_98, s187_101, s187_102, s187_105, s187_106, s187_109, s187_110, Option.toList_some, Option.toList_none, List.cons_append, List.nil_append, if_true, if_false, eq_self, n1n0, ne10, hm.2.1, nI_ltI, hlt, nI_add]
    exact differM_in ho hm hs hr hlt (G - (a + 1)) (a + 1) s _ (by omega) (fun l6 => ih (a + 1) _ _ l6 (by omega) hQ)
end DF
theorem ok_differ (x : Int32) : okCall 181 187 [.int x] := by
  rintro ⟨⟨D, G, B, C, W, lim, bear⟩, R, ⟨u, Rs⟩, ⟨kb, Ri, si⟩, sd, ⟨t, tx, fa⟩, ⟨tn, tg, tr, en, eg, et⟩⟩ ha
  have hD := ha.1.1
  have hG := ha.1.2.1
  have hr := ha.2.1.1
  rcases rng x 0 1 (by decide) (by decide) with h | ⟨h, h2⟩ | ⟨j, -, hj, rfl⟩
  · refine ⟨_, -1000000002, ha, okC_ro ?_, okM_ro ?_⟩
    · intro X Q _
      simp (disch := first | omega | assumption | decide) only [e181, s181_0, s181_1, s181_2, s181_3, s181_6, s181_9, s181_11, s181_12, s181_13, s181_16, s181_19, s181_20, s181_21, s181_22, s181_25, s181_26, s181_29, s181_30, s181_33, s181_34, s181_37, s181_38, s181_40, s181_41, s181_42, s181_44, s181_45, s181_48, Option.toList_some, Option.toList_none, List.cons_append, List.nil_append, if_true, if_false, eq_self, n1n0, ne10, c_isOut, if_pos h]
    · intro X Q _
      simp (disch := first | omega | assumption | decide) only [e187, s187_0, s187_1, s187_2, s187_3, s187_4, s187_7, s187_10, s187_12, s187_13, s187_14, s187_15, s187_16, s187_17, s187_18, s187_22, s187_23, s187_26, s187_29, s187_31, s187_32, s187_33, s187_37, s187_38, s187_41, s187_44, s187_45, s187_46, s187_48, s187_51, s187_52, s187_53, s187_55, s187_58, s187_61, s187_63, s187_65, s187_66, s187_69, s187_71, s187_73, s187_74, s187_76, s187_77, s187_80, s187_81, s187_82, s187_84, s187_85, s187_88, s187_89, s187_92, s187_95, s187_98, s187_101, s187_102, s187_105, s187_106, s187_109, s187_110, Option.toList_some, Option.toList_none, List.cons_append, List.nil_append, if_true, if_false, eq_self, n1n0, ne10, li_0, li_1, li_255, li_48, li_57, li_60, li_30, li_9, li_10, li_12, li_2, li_100, c_in, if_pos h]
  · refine ⟨_, -1000000002, ha, okC_ro ?_, okM_ro ?_⟩
    · intro X Q _
      simp (disch := first | omega | assumption | decide) only [e181, s181_0, s181_1, s181_2, s181_3, s181_6, s181_9, s181_11, s181_12, s181_13, s181_16, s181_19, s181_20, s181_21, s181_22, s181_25, s181_26, s181_29, s181_30, s181_33, s181_34, s181_37, s181_38, s181_40, s181_41, s181_42, s181_44, s181_45, s181_48, Option.toList_some, Option.toList_none, List.cons_append, List.nil_append, if_true, if_false, eq_self, n1n0, ne10, c_isOut, if_neg h, if_pos h2]
    · intro X Q _
      simp (disch := first | omega | assumption | decide) only [e187, s187_0, s187_1, s187_2, s187_3, s187_4, s187_7, s187_10, s187_12, s187_13, s187_14, s187_15, s187_16, s187_17, s187_18, s187_22, s187_23, s187_26, s187_29, s187_31, s187_32, s187_33, s187_37, s187_38, s187_41, s187_44, s187_45, s187_46, s187_48, s187_51, s187_52, s187_53, s187_55, s187_58, s187_61, s187_63, s187_65, s187_66, s187_69, s187_71, s187_73, s187_74, s187_76, s187_77, s187_80, s187_81, s187_82, s187_84, s187_85, s187_88, s187_89, s187_92, s187_95, s187_98, s187_101, s187_102, s187_105, s187_106, s187_109, s187_110, Option.toList_some, Option.toList_none, List.cons_append, List.nil_append, if_true, if_false, eq_self, n1n0, ne10, li_0, li_1, li_255, li_48, li_57, li_60, li_30, li_9, li_10, li_12, li_2, li_100, c_in, if_neg h, if_pos h2]
  · have hio := fun X Q => c_isOut_in (X := X) (Q := Q) (j := j) (lo := 0) (hi := 1) (Nat.zero_le j) hj (by decide)
    have hii := fun X Q => c_in_in (X := X) (Q := Q) (j := j) (lo := 0) (hi := 1) (Nat.zero_le j) hj (by decide)
    refine ⟨_, if nI j = nI 0 then (dfO (eR D W R) G G 0 (-1, -1)).1 else (dfO (eR D W R) G G 0 (-1, -1)).2, ha, ?_, ?_⟩
    · intro X Q hX hQ
      obtain ⟨nx, k, ns, ni, h1, h2, h3, h4, h5, h6, h7, h8⟩ := id hX
      have hQ2 := hQ X hX frM.rf
      simp (disch := first | omega | assumption | decide) only [e181, s181_0, s181_1, s181_2, s181_3, s181_6, s181_9, s181_11, s181_12, s181_13, s181_16, s181_19, s181_20, s181_21, s181_22, s181_25, s181_26, s181_29, s181_30, s181_33, s181_34, s181_37, s181_38, s181_40, s181_41, s181_42, s181_44, s181_45, s181_48, Option.toList_some, Option.toList_none, List.cons_append, List.nil_append, if_true, if_false, eq_self, n1n0, ne10, hio]
      have hk := dfO_ok (e := eR D W R) (G := G) G 0 (-1, -1) (by omega) (Or.inl rfl)
      have run : ∀ Q, Q (some (.int (dfO (eR D W R) G G 0 (-1, -1)).1)) X → zcl 154 [.ref 15] X Q := fun Q q => by
        simp (disch := first | omega | assumption | decide) only [e154, s154_0, s154_1, s154_2, s154_3, s154_4, s154_5, s154_7, s154_8, s154_11, s154_14, s154_17, s154_18, s154_19, s154_20, s154_24, s154_25, s154_28, s154_31, s154_34, s154_35, s154_36, s154_38, s154_41, s154_43, s154_45, s154_46, s154_49, s154_51, s154_52, s154_54, s154_55, s154_56, s154_58, s154_59, s154_60, s154_63, s154_66, s154_69, s154_72, s154_73, Option.toList_some, Option.toList_none, List.cons_append, List.nil_append, if_true, if_false, eq_self, n1n0, ne10]
        exact unlike_out ha.1 h1 h2 hr G 0 (-1, -1) _ _ (by omega) q
      refine run _ ?_
      rcases hk with hk | ⟨a, b, a1, b1, hk⟩
      · rw [hk] at hQ2 ⊢
        simp (disch := first | omega | assumption | decide) only [e181, s181_0, s181_1, s181_2, s181_3, s181_6, s181_9, s181_11, s181_12, s181_13, s181_16, s181_19, s181_20, s181_21, s181_22, s181_25, s181_26, s181_29, s181_30, s181_33, s181_34, s181_37, s181_38, s181_40, s181_41, s181_42, s181_44, s181_45, s181_48, Option.toList_some, Option.toList_none, List.cons_append, List.nil_append, if_true, if_false, eq_self, n1n0, ne10]
        by_cases c : nI j = nI 0
        · rw [if_pos c] at hQ2
          exact hQ2
        · rw [if_neg c] at hQ2
          exact hQ2
      · rw [hk] at hQ2 ⊢
        have hn1 : ¬ nI (100 * a + b) = -1 := by
          intro q
          have h100 : ∀ g, g < 1000 → ¬ nI g = -1 := by decide +kernel
          exact h100 _ (by omega) q
        by_cases c : nI j = nI 0
        · rw [if_pos c] at hQ2
          simp (disch := first | omega | assumption | decide) only [e181, s181_0, s181_1, s181_2, s181_3, s181_6, s181_9, s181_11, s181_12, s181_13, s181_16, s181_19, s181_20, s181_21, s181_22, s181_25, s181_26, s181_29, s181_30, s181_33, s181_34, s181_37, s181_38, s181_40, s181_41, s181_42, s181_44, s181_45, s181_48, Option.toList_some, Option.toList_none, List.cons_append, List.nil_append, if_true, if_false, eq_self, n1n0, ne10, hn1, c]
          exact hQ2
        · rw [if_neg c] at hQ2
          have n100 : ¬ nI 100 = nI 0 := by decide
          have hap := fun Q => cc_apart (X := X) (Q := Q) ha.1 h1 h2 hr a1 b1
          have d1 : nI (100 * a + b) / nI 100 = nI a := by rw [pk_div (by omega) (by decide) (by decide)]; exact congrArg nI (by omega)
          have d2 : zrem (nI (100 * a + b)) (nI 100) = nI b := by rw [zrem_nI (by omega) (by decide) (by decide)]; exact congrArg nI (by omega)
          simp (disch := first | omega | assumption | decide) only [e181, s181_0, s181_1, s181_2, s181_3, s181_6, s181_9, s181_11, s181_12, s181_13, s181_16, s181_19, s181_20, s181_21, s181_22, s181_25, s181_26, s181_29, s181_30, s181_33, s181_34, s181_37, s181_38, s181_40, s181_41, s181_42, s181_44, s181_45, s181_48, Option.toList_some, Option.toList_none, List.cons_append, List.nil_append, if_true, if_false, eq_self, n1n0, ne10, hn1, c, n100, d1, d2, hap]
          exact hQ2
    · intro X Q hX hQ
      obtain ⟨h1, h2, h3, h4, h5, h6, h7⟩ := id hX
      simp (disch := first | omega | assumption | decide) only [e187, s187_0, s187_1, s187_2, s187_3, s187_4, s187_7, s187_10, s187_12, s187_13, s187_14, s187_15, s187_16, s187_17, s187_18, s187_22, s187_23, s187_26, s187_29, s187_31, s187_32, s187_33, s187_37, s187_38, s187_41, s187_44, s187_45, s187_46, s187_48, s187_51, s187_52, s187_53, s187_55, s187_58, s187_61, s187_63, s187_65, s187_66, s187_69, s187_71, s187_73, s187_74, s187_76, s187_77, s187_80, s187_81, s187_82, s187_84, s187_85, s187_88, s187_89, s187_92, s187_95, s187_98, s187_101, s187_102, s187_105, s187_106, s187_109, s187_110, Option.toList_some, Option.toList_none, List.cons_append, List.nil_append, if_true, if_false, eq_self, n1n0, ne10, li_0, li_1, hii]
      exact differM_out ha.1 h1 h2 hr G 0 (-1, -1) _ _ (by omega) (hQ X hX frK.rf)
