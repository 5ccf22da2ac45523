/-! fair -/
def allB (p : Nat → Bool) (a : Nat) : Nat → Bool
  | 0 => true
  | n + 1 => allB p a n && p (a + n)
theorem allB_iff {p : Nat → Bool} {a : Nat} : ∀ {n : Nat}, allB p a n = true ↔ ∀ i, i < n → p (a + i) = true
  | 0 => ⟨fun _ i hi => absurd hi (by omega), fun _ => rfl⟩
  | n + 1 => by
    show (allB p a n && p (a + n)) = true ↔ _
    rw [Bool.and_eq_true, allB_iff]
    constructor
    · rintro ⟨h1, h2⟩ i hi
      by_cases c : i = n
      · rw [c]; exact h2
      · exact h1 i (by omega)
    · intro h
      exact ⟨fun i hi => h i (by omega), h n (by omega)⟩
/-- the first day from n on, of s -/
def ffN (F : Nat → Bool) : Nat → Nat → Int32
  | 0, _ => -1
  | s + 1, n => if F n = true then nI n else ffN F s (n + 1)
theorem ff_jump {F : Nat → Bool} {a : Nat} : ∀ (b : Nat), a ≤ b → (∀ n, a ≤ n → n < b → F n = false) → ffN F (61 - a) a = ffN F (61 - b) b := by
  intro b
  induction b with
  | zero => intro h _; rw [Nat.le_zero.mp h]
  | succ b ih =>
    intro h hF
    by_cases c : a = b + 1
    · rw [c]
    · rw [ih (by omega) (fun n h1 h2 => hF n h1 (by omega))]
      by_cases c2 : b < 61
      · rw [show 61 - b = (61 - (b + 1)) + 1 by omega]
        show (if F b = true then nI b else ffN F (61 - (b + 1)) (b + 1)) = _
        rw [if_neg (by rw [hF b (by omega) (by omega)]; decide)]
      · rw [show 61 - b = 0 by omega, show 61 - (b + 1) = 0 by omega]
        rfl
theorem km1 : ∀ k, k < 73 → ∀ m, m < 13 → 0 < m → m ≤ k + 1 → nI k - nI m + nI 1 = nI (k + 1 - m) := by decide +kernel
section FA
variable {D G B C : Nat} {W lim bear : Nat → Nat} {X : zM} {R : Nat → Nat} {nx x : Nat} {Q : Option Value → zM → Prop}
def frB (D : Nat) (W : Nat → Nat) (g : Nat) (k : Nat) : Bool := decide (g ≤ wN D W k)
theorem fairC_loop {g m : Nat} (ho : okP D G B C W lim bear) (hc : cP D G B C W lim bear X) (hs : cS G B X 57 R nx) (hr : okR B R) (hg : g ≤ 9) (hm1 : 1 ≤ m) (hm : m ≤ 12) : ∀ n k r : Nat, k + n = 60 + m → r < m → r ≤ k → (∀ i, k - r ≤ i → i < k → frB D W g (R 29 + i) = true) → zev 70 5 [.ref 15, .int (nI g), .int (nI m), .int (nI r), .int (nI k)] [] X Q = Q (some (.int (ffN (fun n => allB (frB D W g) (R 29 + n) m) (61 - (k - r)) (k - r)))) X := by
  intro n
  induction n with
  | zero =>
    intro k r hk hr1 hr2 hp
    have q : k = 60 + m := by omega
    have q2 : 61 - (k - r) = 0 := by omega
    rw [q2, q, s70_5]
    simp (disch := first | omega | assumption | decide) only [e70, s70_0, s70_1, s70_2, s70_3, s70_7, s70_9, s70_10, s70_11, s70_14, s70_15, s70_17, s70_20, s70_21, s70_24, s70_25, s70_26, s70_27, s70_30, s70_31, s70_32, s70_33, s70_34, s70_37, s70_39, s70_40, s70_41, s70_42, s70_43, s70_44, s70_47, s70_50, s70_51, Option.toList_some, Option.toList_none, List.cons_append, List.nil_append, if_true, if_false, eq_self, n1n0, ne10, nI_add, nI_ltI, Nat.lt_irrefl]
    rfl
  | succ n ih =>
    intro k r hk hr1 hr2 hp
    have hlt : k < 60 + m := by omega
    have hwe := fun Q => cc_weatherAhead (X := X) (Q := Q) (n := k) ho hc hs hr (by omega)
    have hw9 := wN_le (D := D) ho.2.2.2.2.1 (R 29 + k)
    by_cases c : wN D W (R 29 + k) < g
    · have := ih (k + 1) 0 (by omega) (by omega) (by omega) (fun i h1 h2 => absurd h1 (by omega))
      rw [Nat.sub_zero] at this
      rw [ff_jump (F := fun n => allB (frB D W g) (R 29 + n) m) (a := k - r) (k + 1) (by omega) (fun i h1 h2 => by
        refine Bool.eq_false_iff.mpr (fun q => ?_)
        have q2 := (allB_iff.mp q) (k - i) (by omega)
        rw [show R 29 + i + (k - i) = R 29 + k by omega] at q2
        exact absurd (of_decide_eq_true q2) (by omega))]
      refine Eq.trans ?_ this
      have hm0 : ¬ 0 = m := by omega
      rw [s70_5]
      simp (disch := first | omega | assumption | decide) only [e70, s70_0, s70_1, s70_2, s70_3, s70_7, s70_9, s70_10, s70_11, s70_14, s70_15, s70_17, s70_20, s70_21, s70_24, s70_25, s70_26, s70_27, s70_30, s70_31, s70_32, s70_33, s70_34, s70_37, s70_39, s70_40, s70_41, s70_42, s70_43, s70_44, s70_47, s70_50, s70_51, Option.toList_some, Option.toList_none, List.cons_append, List.nil_append, if_true, if_false, eq_self, n1n0, ne10, nI_add, nI_ltI, hlt, hwe, c, nI_eq, hm0]
    · have hpk : frB D W g (R 29 + k) = true := decide_eq_true (by omega)
      by_cases c2 : r + 1 = m
      · have hF : allB (frB D W g) (R 29 + (k - r)) m = true := allB_iff.mpr (fun i hi => by
          by_cases c3 : i = r
          · rw [c3, show R 29 + (k - r) + r = R 29 + k by omega]; exact hpk
          · rw [show R 29 + (k - r) + i = R 29 + (k - r + i) by omega]; exact hp _ (by omega) (by omega))
        have e1 : ffN (fun n => allB (frB D W g) (R 29 + n) m) (61 - (k - r)) (k - r) = nI (k - r) := by
          rw [show 61 - (k - r) = (60 - (k - r)) + 1 by omega]
          exact if_pos hF
        have e2 := km1 k (by omega) m (by omega) (by omega) (by omega)
        rw [show k + 1 - m = k - r by omega] at e2
        rw [e1, s70_5]
        simp (disch := first | omega | assumption | decide) only [e70, s70_0, s70_1, s70_2, s70_3, s70_7, s70_9, s70_10, s70_11, s70_14, s70_15, s70_17, s70_20, s70_21, s70_24, s70_25, s70_26, s70_27, s70_30, s70_31, s70_32, s70_33, s70_34, s70_37, s70_39, s70_40, s70_41, s70_42, s70_43, s70_44, s70_47, s70_50, s70_51, Option.toList_some, Option.toList_none, List.cons_append, List.nil_append, if_true, if_false, eq_self, n1n0, ne10, nI_add, nI_ltI, hlt, hwe, c, c2, e2]
      · have := ih (k + 1) (r + 1) (by omega) (by omega) (by omega) (fun i h1 h2 => by
          by_cases c3 : i = k
          · rw [c3]; exact hpk
          · exact hp i (by omega) (by omega))
        rw [show k + 1 - (r + 1) = k - r by omega] at this
        refine Eq.trans ?_ this
        rw [s70_5]
        simp (disch := first | omega | assumption | decide) only [e70, s70_0, s70_1, s70_2, s70_3, s70_7, s70_9, s70_10, s70_11, s70_14, s70_15, s70_17, s70_20, s70_21, s70_24, s70_25, s70_26, s70_27, s70_30, s70_31, s70_32, s70_33, s70_34, s70_37, s70_39, s70_40, s70_41, s70_42, s70_43, s70_44, s70_47, s70_50, s70_51, Option.toList_some, Option.toList_none, List.cons_append, List.nil_append, if_true, if_false, eq_self, n1n0, ne10, nI_add, nI_ltI, hlt, hwe, c, nI_eq, c2]
theorem isFair_loop {a g m : Nat} (ho : okP D G B C W lim bear) (hm : mP D G B C W lim bear X) (hD : 0 < D) (ha : a < 10000) (hg : g ≤ 9) (hm2 : m ≤ 12) : ∀ n i : Nat, i + n = m → zev 105 6 [.ref 39, .int (nI a), .int (nI g), .int (nI m), .int (nI (if allB (frB D W g) a i = true then 1 else 0)), .int (nI i)] [] X Q = Q (some (.int (nI (if allB (frB D W g) a m = true then 1 else 0)))) X := by
  intro n
  induction n with
  | zero =>
    intro i hi
    have q : i = m := by omega
    subst q
    rw [s105_6]
    by_cases c : allB (frB D W g) a i = true
    · rw [if_pos c]
      simp (disch := first | omega | assumption | decide) only [e105, s105_0, s105_1, s105_3, s105_4, s105_8, s105_9, s105_12, s105_14, s105_17, s105_18, s105_19, s105_21, s105_22, s105_25, s105_26, s105_29, s105_30, s105_33, s105_34, s105_36, s105_39, s105_42, s105_44a, s105_44b, s105_44, Option.toList_some, Option.toList_none, List.cons_append, List.nil_append, if_true, if_false, eq_self, n1n0, ne10, nI_ltI, Nat.lt_irrefl]
    · rw [if_neg c]
      simp (disch := first | omega | assumption | decide) only [e105, s105_0, s105_1, s105_3, s105_4, s105_8, s105_9, s105_12, s105_14, s105_17, s105_18, s105_19, s105_21, s105_22, s105_25, s105_26, s105_29, s105_30, s105_33, s105_34, s105_36, s105_39, s105_42, s105_44a, s105_44b, s105_44, Option.toList_some, Option.toList_none, List.cons_append, List.nil_append, if_true, if_false, eq_self, n1n0, ne10, nI_ltI, Nat.lt_irrefl]
  | succ n ih =>
    intro i hi
    have hlt : i < m := by omega
    have hwe := fun Q => c_weatherOf (X := X) (Q := Q) (k := a + i) hm.1 hD ho.1 (by omega)
    rw [wx_m hm] at hwe
    have hw9 := wN_le (D := D) ho.2.2.2.2.1 (a + i)
    refine Eq.trans ?_ (ih (i + 1) (by omega))
    rw [s105_6]
    show _ = zev 105 6 [.ref 39, .int (nI a), .int (nI g), .int (nI m), .int (nI (if (allB (frB D W g) a i && frB D W g (a + i)) = true then 1 else 0)), .int (nI (i + 1))] [] X Q
    by_cases c : allB (frB D W g) a i = true
    · rw [c, Bool.true_and]
      by_cases c2 : wN D W (a + i) < g
      · have : frB D W g (a + i) = false := decide_eq_false (by omega)
        rw [this]
        simp (disch := first | omega | assumption | decide) only [e105, s105_0, s105_1, s105_3, s105_4, s105_8, s105_9, s105_12, s105_14, s105_17, s105_18, s105_19, s105_21, s105_22, s105_25, s105_26, s105_29, s105_30, s105_33, s105_34, s105_36, s105_39, s105_42, s105_44a, s105_44b, s105_44, Option.toList_some, Option.toList_none, List.cons_append, List.nil_append, if_true, if_false, eq_self, n1n0, ne10, nI_ltI, hlt, nI_add, hwe, c2, Bool.false_eq_true]
      · have : frB D W g (a + i) = true := decide_eq_true (by omega)
        rw [this]
        simp (disch := first | omega | assumption | decide) only [e105, s105_0, s105_1, s105_3, s105_4, s105_8, s105_9, s105_12, s105_14, s105_17, s105_18, s105_19, s105_21, s105_22, s105_25, s105_26, s105_29, s105_30, s105_33, s105_34, s105_36, s105_39, s105_42, s105_44a, s105_44b, s105_44, Option.toList_some, Option.toList_none, List.cons_append, List.nil_append, if_true, if_false, eq_self, n1n0, ne10, nI_ltI, hlt, nI_add, hwe, c2]
    · rw [Bool.eq_false_iff.mpr c, Bool.false_and]
      simp (disch := first | omega | assumption | decide) only [e105, s105_0, s105_1, s105_3, s105_4, s105_8, s105_9, s105_12, s105_14, s105_17, s105_18, s105_19, s105_21, s105_22, s105_25, s105_26, s105_29, s105_30, s105_33, s105_34, s105_36, s105_39, s105_42, s105_44a, s105_44b, s105_44, Option.toList_some, Option.toList_none, List.cons_append, List.nil_append, if_true, if_false, eq_self, n1n0, ne10, nI_ltI, hlt, nI_add, Bool.false_eq_true]
theorem c_isFair {a g m : Nat} (ho : okP D G B C W lim bear) (hm : mP D G B C W lim bear X) (hD : 0 < D) (ha : a < 10000) (hg : g ≤ 9) (hm2 : m ≤ 12) : zcl 105 [.ref 39, .int (nI a), .int (nI g), .int (nI m)] X Q = Q (some (.int (nI (if allB (frB D W g) a m = true then 1 else 0)))) X := by
  refine Eq.trans ?_ (isFair_loop ho hm hD ha hg hm2 m 0 (by omega))
  simp (disch := first | omega | assumption | decide) only [e105, s105_0, s105_1, s105_3, s105_4, s105_8, s105_9, s105_12, s105_14, s105_17, s105_18, s105_19, s105_21, s105_22, s105_25, s105_26, s105_29, s105_30, s105_33, s105_34, s105_36, s105_39, s105_42, s105_44a, s105_44b, s105_44, Option.toList_some, Option.toList_none, List.cons_append, List.nil_append, if_true, if_false, eq_self, n1n0, ne10]
  rfl
theorem fairM_loop {g m : Nat} (ho : okP D G B C W lim bear) (hm : mP D G B C W lim bear X) (hs : mW (X 40) 0 R) (hr : okR B R) (hD : 0 < D) (hg : g ≤ 9) (hm2 : m ≤ 12) : ∀ n i : Nat, i + n = 61 → zev 147 39 [.ref 39, .int (nI g), .int (nI m), .int (nI i)] [] X Q = Q (some (.int (ffN (fun n => allB (frB D W g) (R 29 + n) m) n i))) X := by
  have h29 := hr.2.2.2.2.2.1
  intro n
  induction n with
  | zero =>
    intro i hi
    have q : i = 61 := by omega
    subst q
    rw [s147_39]
    simp (disch := first | omega | assumption | decide) only [e147, s147_0, s147_1, s147_2, s147_3, s147_6, s147_9, s147_12, s147_13, s147_14, s147_15, s147_18, s147_21, s147_24, s147_26, s147_27, s147_28, s147_31, s147_34, s147_36, s147_37, s147_38, s147_40, s147_42, s147_45, s147_46, s147_47, s147_50, s147_52, s147_53, s147_54, s147_55, s147_56, s147_57, s147_60, s147_63, s147_64, s147_65, s147_68, s147_71, s147_72, Option.toList_some, Option.toList_none, List.cons_append, List.nil_append, if_true, if_false, eq_self, n1n0, ne10, nI_ltI, show 60 < 61 by omega]
    rfl
  | succ n ih =>
    intro i hi
    have hlt : ¬ 60 < i := by omega
    have h40 := at0 hs (i := 29) (by omega)
    have hif := fun Q => c_isFair (X := X) (Q := Q) (a := R 29 + i) (g := g) (m := m) ho hm hD (by omega) hg hm2
    show _ = Q (some (.int (if allB (frB D W g) (R 29 + i) m = true then nI i else ffN (fun n => allB (frB D W g) (R 29 + n) m) n (i + 1)))) X
    by_cases c : allB (frB D W g) (R 29 + i) m = true
    · rw [if_pos c] at hif
      rw [if_pos c, s147_39]
      simp (disch := first | omega | assumption | decide) only [e147, s147_0, s147_1, s147_2, s147_3, s147_6, s147_9, s147_12, s147_13, s147_14, s147_15, s147_18, s147_21, s147_24, s147_26, s147_27, s147_28, s147_31, s147_34, s147_36, s147_37, s147_38, s147_40, s147_42, s147_45, s147_46, s147_47, s147_50, s147_52, s147_53, s147_54, s147_55, s147_56, s147_57, s147_60, s147_63, s147_64, s147_65, s147_68, s147_71, s147_72, Option.toList_some, Option.toList_none, List.cons_append, List.nil_append, if_true, if_false, eq_self, n1n0, ne10, nI_ltI, hlt, h40, nI_add, hif]
    · rw [if_neg c] at hif
      rw [if_neg c]
      refine Eq.trans ?_ (ih (i + 1) (by omega))
      rw [s147_39]
      simp (disch := first | omega | assumption | decide) only [e147, s147_0, s147_1, s147_2, s147_3, s147_6, s147_9, s147_12, s147_13, s147_14, s147_15, s147_18, s147_21, s147_24, s147_26, s147_27, s147_28, s147_31, s147_34, s147_36, s147_37, s147_38, s147_40, s147_42, s147_45, s147_46, s147_47, s147_50, s147_52, s147_53, s147_54, s147_55, s147_56, s147_57, s147_60, s147_63, s147_64, s147_65, s147_68, s147_71, s147_72, Option.toList_some, Option.toList_none, List.cons_append, List.nil_append, if_true, if_false, eq_self, n1n0, ne10, nI_ltI, hlt, h40, nI_add, hif]
end FA
theorem ok_fair (x y : Int32) : okCall 133 147 [.int x, .int y] := by
  rintro ⟨⟨D, G, B, C, W, lim, bear⟩, R, ⟨u, Rs⟩, ⟨kb, Ri, si⟩, sd, ⟨t, tx, fa⟩, ⟨tn, tg, tr, en, eg, et⟩⟩ ha
  have hD := ha.1.1
  have hr := ha.2.1.1
  rcases rng x 0 9 (by decide) (by decide) with h | ⟨h, h2⟩ | ⟨g, -, hg, rfl⟩
  · refine ⟨_, -1000000002, ha, okC_ro ?_, okM_ro ?_⟩
    · intro X Q _
      simp (disch := first | omega | assumption | decide) only [e133, s133_0, s133_1, s133_2, s133_4, s133_7, s133_10, s133_11, s133_12, s133_14, s133_17, s133_20, s133_22, s133_23, s133_24, s133_27, s133_30, s133_32, s133_35, s133_36, s133_39, s133_40, s133_41, s133_44, Option.toList_some, Option.toList_none, List.cons_append, List.nil_append, if_true, if_false, eq_self, n1n0, ne10, c_isOut, if_pos h]
    · intro X Q _
      simp (disch := first | omega | assumption | decide) only [e147, s147_0, s147_1, s147_2, s147_3, s147_6, s147_9, s147_12, s147_13, s147_14, s147_15, s147_18, s147_21, s147_24, s147_26, s147_27, s147_28, s147_31, s147_34, s147_36, s147_37, s147_38, s147_40, s147_42, s147_45, s147_46, s147_47, s147_50, s147_52, s147_53, s147_54, s147_55, s147_56, s147_57, s147_60, s147_63, s147_64, s147_65, s147_68, s147_71, s147_72, Option.toList_some, Option.toList_none, List.cons_append, List.nil_append, if_true, if_false, eq_self, n1n0, ne10, li_0, li_1, li_255, li_48, li_57, li_60, li_30, li_9, li_10, li_12, li_2, li_100, c_in, if_pos h]
  · refine ⟨_, -1000000002, ha, okC_ro ?_, okM_ro ?_⟩
    · intro X Q _
      simp (disch := first | omega | assumption | decide) only [e133, s133_0, s133_1, s133_2, s133_4, s133_7, s133_10, s133_11, s133_12, s133_14, s133_17, s133_20, s133_22, s133_23, s133_24, s133_27, s133_30, s133_32, s133_35, s133_36, s133_39, s133_40, s133_41, s133_44, Option.toList_some, Option.toList_none, List.cons_append, List.nil_append, if_true, if_false, eq_self, n1n0, ne10, c_isOut, if_neg h, if_pos h2]
    · intro X Q _
      simp (disch := first | omega | assumption | decide) only [e147, s147_0, s147_1, s147_2, s147_3, s147_6, s147_9, s147_12, s147_13, s147_14, s147_15, s147_18, s147_21, s147_24, s147_26, s147_27, s147_28, s147_31, s147_34, s147_36, s147_37, s147_38, s147_40, s147_42, s147_45, s147_46, s147_47, s147_50, s147_52, s147_53, s147_54, s147_55, s147_56, s147_57, s147_60, s147_63, s147_64, s147_65, s147_68, s147_71, s147_72, Option.toList_some, Option.toList_none, List.cons_append, List.nil_append, if_true, if_false, eq_self, n1n0, ne10, li_0, li_1, li_255, li_48, li_57, li_60, li_30, li_9, li_10, li_12, li_2, li_100, c_in, if_neg h, if_pos h2]
  · have hio := fun X Q => c_isOut_in (X := X) (Q := Q) (j := g) (lo := 0) (hi := 9) (Nat.zero_le g) hg (by decide)
    have hii := fun X Q => c_in_in (X := X) (Q := Q) (j := g) (lo := 0) (hi := 9) (Nat.zero_le g) hg (by decide)
    rcases rng y 1 12 (by decide) (by decide) with h | ⟨h, h2⟩ | ⟨m, hm1, hm, rfl⟩
    · refine ⟨_, -1000000002, ha, okC_ro ?_, okM_ro ?_⟩
      · intro X Q _
        simp (disch := first | omega | assumption | decide) only [e133, s133_0, s133_1, s133_2, s133_4, s133_7, s133_10, s133_11, s133_12, s133_14, s133_17, s133_20, s133_22, s133_23, s133_24, s133_27, s133_30, s133_32, s133_35, s133_36, s133_39, s133_40, s133_41, s133_44, Option.toList_some, Option.toList_none, List.cons_append, List.nil_append, if_true, if_false, eq_self, n1n0, ne10, hio, c_isOut, if_pos h]
      · intro X Q _
        simp (disch := first | omega | assumption | decide) only [e147, s147_0, s147_1, s147_2, s147_3, s147_6, s147_9, s147_12, s147_13, s147_14, s147_15, s147_18, s147_21, s147_24, s147_26, s147_27, s147_28, s147_31, s147_34, s147_36, s147_37, s147_38, s147_40, s147_42, s147_45, s147_46, s147_47, s147_50, s147_52, s147_53, s147_54, s147_55, s147_56, s147_57, s147_60, s147_63, s147_64, s147_65, s147_68, s147_71, s147_72, Option.toList_some, Option.toList_none, List.cons_append, List.nil_append, if_true, if_false, eq_self, n1n0, ne10, li_0, li_9, hii, li_1, li_12, c_in, if_pos h]
    · refine ⟨_, -1000000002, ha, okC_ro ?_, okM_ro ?_⟩
      · intro X Q _
        simp (disch := first | omega | assumption | decide) only [e133, s133_0, s133_1, s133_2, s133_4, s133_7, s133_10, s133_11, s133_12, s133_14, s133_17, s133_20, s133_22, s133_23, s133_24, s133_27, s133_30, s133_32, s133_35, s133_36, s133_39, s133_40, s133_41, s133_44, Option.toList_some, Option.toList_none, List.cons_append, List.nil_append, if_true, if_false, eq_self, n1n0, ne10, hio, c_isOut, if_neg h, if_pos h2]
      · intro X Q _
        simp (disch := first | omega | assumption | decide) only [e147, s147_0, s147_1, s147_2, s147_3, s147_6, s147_9, s147_12, s147_13, s147_14, s147_15, s147_18, s147_21, s147_24, s147_26, s147_27, s147_28, s147_31, s147_34, s147_36, s147_37, s147_38, s147_40, s147_42, s147_45, s147_46, s147_47, s147_50, s147_52, s147_53, s147_54, s147_55, s147_56, s147_57, s147_60, s147_63, s147_64, s147_65, s147_68, s147_71, s147_72, Option.toList_some, Option.toList_none, List.cons_append, List.nil_append, if_true, if_false, eq_self, n1n0, ne10, li_0, li_9, hii, li_1, li_12, c_in, if_neg h, if_pos h2]
    · have hio2 := fun X Q => c_isOut_in (X := X) (Q := Q) (j := m) (lo := 1) (hi := 12) hm1 hm (by decide)
      have hii2 := fun X Q => c_in_in (X := X) (Q := Q) (j := m) (lo := 1) (hi := 12) hm1 hm (by decide)
      by_cases h0 : D = 0
      · refine ⟨_, -1000000003, ha, okC_ro ?_, okM_ro ?_⟩
        · rintro X Q ⟨nx, k, ns, ni, h1, h2, h3, h4, h5, h6, h7, h8⟩
          have hnc := fun Q => c_noCoast (X := X) (Q := Q) h1.1 hD
          simp (disch := first | omega | assumption | decide) only [e133, s133_0, s133_1, s133_2, s133_4, s133_7, s133_10, s133_11, s133_12, s133_14, s133_17, s133_20, s133_22, s133_23, s133_24, s133_27, s133_30, s133_32, s133_35, s133_36, s133_39, s133_40, s133_41, s133_44, Option.toList_some, Option.toList_none, List.cons_append, List.nil_append, if_true, if_false, eq_self, n1n0, ne10, hio, hio2, hnc, h0]
        · rintro X Q ⟨h1, h2, h3, h4, h5, h6, h7⟩
          have q := h1.1
          rw [h0] at q
          simp (disch := first | omega | assumption | decide) only [e147, s147_0, s147_1, s147_2, s147_3, s147_6, s147_9, s147_12, s147_13, s147_14, s147_15, s147_18, s147_21, s147_24, s147_26, s147_27, s147_28, s147_31, s147_34, s147_36, s147_37, s147_38, s147_40, s147_42, s147_45, s147_46, s147_47, s147_50, s147_52, s147_53, s147_54, s147_55, s147_56, s147_57, s147_60, s147_63, s147_64, s147_65, s147_68, s147_71, s147_72, Option.toList_some, Option.toList_none, List.cons_append, List.nil_append, if_true, if_false, eq_self, n1n0, ne10, li_0, li_9, hii, li_1, li_12, hii2, q]
      · have c0 : ¬ nI D = nI 0 := fun q => h0 ((nI_eq (by omega) (by omega)).mp q)
        refine ⟨_, ffN (fun n => allB (frB D W g) (R 29 + n) m) 61 0, ha, okC_ro ?_, okM_ro ?_⟩
        · rintro X Q ⟨nx, k, ns, ni, h1, h2, h3, h4, h5, h6, h7, h8⟩
          have hnc := fun Q => c_noCoast (X := X) (Q := Q) h1.1 hD
          have hl := fun Q => fairC_loop (X := X) (Q := Q) ha.1 h1 h2 hr hg hm1 hm (60 + m) 0 0 (by omega) (by omega) (by omega) (fun i _ h => absurd h (by omega))
          simp (disch := first | omega | assumption | decide) only [e133, s133_0, s133_1, s133_2, s133_4, s133_7, s133_10, s133_11, s133_12, s133_14, s133_17, s133_20, s133_22, s133_23, s133_24, s133_27, s133_30, s133_32, s133_35, s133_36, s133_39, s133_40, s133_41, s133_44, e70, s70_0, s70_1, s70_2, s70_3, s70_7, s70_9, s70_10, s70_11, s70_14, s70_15, s70_17, s70_20, s70_21, s70_24, s70_25, s70_26, s70_27, s70_30, s70_31, s70_32, s70_33, s70_34, s70_37, s70_39, s70_40, s70_41, s70_42, s70_43, s70_44, s70_47, s70_50, s70_51, Option.toList_some, Option.toList_none, List.cons_append, List.nil_append, if_true, if_false, eq_self, n1n0, ne10, hio, hio2, hnc, h0, hl]
        · rintro X Q ⟨h1, h2, h3, h4, h5, h6, h7⟩
          have hl := fun Q => fairM_loop (X := X) (Q := Q) ha.1 h1 h2 hr (by omega) hg hm 61 0 (by omega)
          simp (disch := first | omega | assumption | decide) only [e147, s147_0, s147_1, s147_2, s147_3, s147_6, s147_9, s147_12, s147_13, s147_14, s147_15, s147_18, s147_21, s147_24, s147_26, s147_27, s147_28, s147_31, s147_34, s147_36, s147_37, s147_38, s147_40, s147_42, s147_45, s147_46, s147_47, s147_50, s147_52, s147_53, s147_54, s147_55, s147_56, s147_57, s147_60, s147_63, s147_64, s147_65, s147_68, s147_71, s147_72, Option.toList_some, Option.toList_none, List.cons_append, List.nil_append, if_true, if_false, eq_self, n1n0, ne10, li_0, li_9, hii, li_1, li_12, hii2, h1.1, c0, hl]
