/-! what could be undone: both sides remember -/
section CR
variable {D G B C : Nat} {W lim bear : Nat → Nat} {X : zM} {R : Nat → Nat} {nx x : Nat} {Q : Option Value → zM → Prop}
/-- the class's ring of deeds: u of them, the next one goes to k -/
def cU (G B : Nat) (X : zM) (u k : Nat) (Rs : Nat → Nat → Nat) (ns : Nat → Nat) : Prop := X 34 1 = nI u ∧ X 34 2 = nI k ∧ k < 30 ∧ u ≤ 30 ∧ ∀ i, i < u → cS G B X (65 + 8 * ((k + 30 - u + i) % 30)) (Rs i) (ns i)
def mU (X : zM) (u : Nat) (Rs : Nat → Nat → Nat) : Prop := X 39 22 = nI u ∧ ∀ i, i < u → mW (X 40) (368 + 92 * i) (Rs i)
def psh {α : Type} (u : Nat) (f : Nat → α) (a : α) : Nat → α := fun i => if i + 1 = min 30 (u + 1) then a else if u = 30 then f (i + 1) else f i
theorem ring_u {k u i : Nat} (hk : k < 30) (hu : u ≤ 30) (hi : i < min 30 (u + 1)) : ((k + 1) % 30 + 30 - min 30 (u + 1) + i) % 30 = if i + 1 = min 30 (u + 1) then k else if u = 30 then (k + 30 - u + (i + 1)) % 30 else (k + 30 - u + i) % 30 := by
  split
  · omega
  · split <;> omega
theorem ring_un {k u i : Nat} (hk : k < 30) (hu : u ≤ 30) (hi : i < min 30 (u + 1)) (h : ¬ i + 1 = min 30 (u + 1)) : ((k + 1) % 30 + 30 - min 30 (u + 1) + i) % 30 ≠ k := by
  omega
theorem zkd_65 {k : Nat} (h : k < 30) : zkd (65 + 8 * k) = (0, 7) := by
  have hx : (List.range 30).all (fun k => decide (zkd (65 + 8 * k) = (0, 7))) = true := by decide +kernel
  exact of_decide_eq_true (List.all_eq_true.mp hx k (List.mem_range.mpr h))
theorem zkd_305 {k : Nat} (h : k < 2) : zkd (305 + 8 * k) = (0, 7) := by
  have hx : (List.range 2).all (fun k => decide (zkd (305 + 8 * k) = (0, 7))) = true := by decide +kernel
  exact of_decide_eq_true (List.all_eq_true.mp hx k (List.mem_range.mpr h))
/-- a state's cells are as they were -/
theorem cS_fr {Y : zM} {s : Nat} (h : cS G B X s R nx) (he : ∀ c, s ≤ c → c < s + 8 → Y c = X c) : cS G B Y s R nx := by
  unfold cS at h ⊢
  rw [he s (by omega) (by omega), he (s + 1) (by omega) (by omega), he (s + 2) (by omega) (by omega), he (s + 3) (by omega) (by omega), he (s + 4) (by omega) (by omega), he (s + 5) (by omega) (by omega), he (s + 6) (by omega) (by omega), he (s + 7) (by omega) (by omega)]
  exact h
theorem c_rememberC {u k : Nat} {Rs : Nat → Nat → Nat} {ns : Nat → Nat} (hG : G ≤ 7) (hB : B ≤ 5) (hs : cS G B X 57 R nx) (hU : cU G B X u k Rs ns) (hQ : ∀ Y, (∀ c, c ≠ 34 → (c < 65 ∨ 305 ≤ c) → Y c = X c) → cU G B Y (min 30 (u + 1)) ((k + 1) % 30) (psh u Rs R) (psh u ns nx) → Q none Y) : zcl 59 [.ref 34, .ref 57] X Q := by
  obtain ⟨h1, h2, hk, hu, hR⟩ := hU
  have hkd := zkd_65 hk
  have h30 : ¬ nI 30 = nI 0 := by decide
  simp (disch := first | omega | assumption) only [e59, s59_0, s59_1, s59_4, s59_5, s59_8, s59_9, s59_10, s59_13, s59_14, s59_15, s59_18, s59_19, s59_20, s59_22, s59_23, s59_26, s59_27, s59_28, s59_31, s59_32, s59_33, s59_35, s59_38, s59_41, Option.toList_some, Option.toList_none, List.cons_append, List.nil_append, nI_add, pk_mul, Nat.reduceAdd, Nat.reduceMul, Nat.add_zero, Nat.zero_add, if_true, if_false, ite_self, h2]
  refine c_copyFrom hkd rfl (by omega) (fun Y hY hE => ?_)
  have y1 : Y 34 1 = nI u := by rw [hY 34 (by omega)]; exact h1
  have y2 : Y 34 2 = nI k := by rw [hY 34 (by omega)]; exact h2
  have key : ∀ Z : zM, (∀ c, c ≠ 34 → Z c = Y c) → Z 34 1 = nI (min 30 (u + 1)) → Z 34 2 = nI ((k + 1) % 30) → Q none Z := by
    intro Z hZ z1 z2
    refine hQ Z (fun c hc hc2 => by rw [hZ c hc]; exact hY c (by omega)) ⟨z1, z2, Nat.mod_lt _ (by decide), by omega, fun i hi => ?_⟩
    rw [ring_u hk hu hi]
    unfold psh
    by_cases hl : i + 1 = min 30 (u + 1)
    · rw [if_pos hl, if_pos hl, if_pos hl]
      exact cS_fr (cS_eq hG hB hs hE) (fun c c1 c2 => hZ c (by omega))
    · rw [if_neg hl, if_neg hl, if_neg hl]
      have hne := ring_un hk hu hi hl
      rw [ring_u hk hu hi, if_neg hl] at hne
      by_cases hu30 : u = 30
      · rw [if_pos hu30] at hne
        simp only [if_pos hu30]
        exact cS_fr (hR (i + 1) (by omega)) (fun c c1 c2 => by rw [hZ c (by omega)]; exact hY c (by omega))
      · rw [if_neg hu30] at hne
        simp only [if_neg hu30]
        exact cS_fr (hR i (by omega)) (fun c c1 c2 => by rw [hZ c (by omega)]; exact hY c (by omega))
  by_cases c : 30 < u + 1
  · have c2 : min 30 (u + 1) = 30 := by omega
    simp (disch := first | omega | assumption) only [e59, s59_0, s59_1, s59_4, s59_5, s59_8, s59_9, s59_10, s59_13, s59_14, s59_15, s59_18, s59_19, s59_20, s59_22, s59_23, s59_26, s59_27, s59_28, s59_31, s59_32, s59_33, s59_35, s59_38, s59_41, Option.toList_some, Option.toList_none, List.cons_append, List.nil_append, nI_add, pk_mul, Nat.reduceAdd, Nat.reduceMul, Nat.add_zero, Nat.zero_add, if_true, if_false, ite_self, nI_add, pk_mul, pk_sub, zrem_nI, pk_div, nI_ltI, nI_eq, y1, y2, zst_at, zst_zst, upd_ne, c, h30]
    exact key _ (fun c hc => zst_ne _ _ hc) (by rw [zst_at, upd_at, c2]) (by rw [zst_at, upd_ne _ _ (by decide), upd_at])
  · have c2 : min 30 (u + 1) = u + 1 := by omega
    simp (disch := first | omega | assumption) only [e59, s59_0, s59_1, s59_4, s59_5, s59_8, s59_9, s59_10, s59_13, s59_14, s59_15, s59_18, s59_19, s59_20, s59_22, s59_23, s59_26, s59_27, s59_28, s59_31, s59_32, s59_33, s59_35, s59_38, s59_41, Option.toList_some, Option.toList_none, List.cons_append, List.nil_append, nI_add, pk_mul, Nat.reduceAdd, Nat.reduceMul, Nat.add_zero, Nat.zero_add, if_true, if_false, ite_self, nI_add, pk_mul, pk_sub, zrem_nI, pk_div, nI_ltI, nI_eq, y1, y2, zst_at, zst_zst, upd_ne, c, h30]
    exact key _ (fun c hc => zst_ne _ _ hc) (by rw [zst_at, upd_at, c2]) (by rw [zst_at, upd_ne _ _ (by decide), upd_at])
def shR (w : Nat → Int32) (k : Nat) : Nat → Int32 := fun j => if 368 ≤ j ∧ j + 92 < 368 + 92 * k then w (j + 92) else w j
theorem shR_step (w : Nat → Int32) {k : Nat} (h : 1 ≤ k) : va_cpy (shR w k) (shR w k) (368 + 92 * k) (368 + 92 * (k - 1)) 92 = shR w (k + 1) := by
  funext j
  unfold va_cpy
  by_cases h1 : 368 + 92 * (k - 1) ≤ j ∧ j < 368 + 92 * (k - 1) + 92
  · rw [if_pos h1]
    unfold shR
    rw [if_neg (by omega), if_pos (by omega)]
    congr 1
    omega
  · rw [if_neg h1]
    unfold shR
    by_cases h2 : 368 ≤ j ∧ j + 92 < 368 + 92 * k
    · rw [if_pos h2, if_pos (by omega)]
    · rw [if_neg h2, if_neg (by omega)]
theorem shR_1 (w : Nat → Int32) : shR w 1 = w := by
  funext j
  unfold shR
  exact if_neg (by omega)
theorem rem_loop (w : Nat → Int32) : ∀ n k : Nat, k + n = 30 → 1 ≤ k → zev 100 11 [.ref 39, .int (nI k)] [] (zst X 40 (shR w k)) Q = zev 100 45 [.ref 39, .int (nI 30)] [] (zst X 40 (shR w 30)) Q := by
  intro n
  induction n with
  | zero =>
    intro k hk h1
    have e : k = 30 := by omega
    subst e
    rw [s100_11]
    simp (disch := first | omega | assumption) only [s100_12, s100_14, nI_add, pk_mul, pk_sub, zrem_nI, pk_div, nI_ltI, nI_eq, Nat.lt_irrefl, if_false]
  | succ n ih =>
    intro k hk h1
    have hlt : k < 30 := by omega
    refine Eq.trans ?_ (ih (k + 1) (by omega) (by omega))
    rw [s100_11]
    have hcp := fun Q => c_copy (X := zst X 40 (shR w k)) (Q := Q) (x := 368 + 92 * k) (y := 368 + 92 * (k - 1)) (by omega) (by omega) (by omega)
    simp (disch := first | omega | assumption) only [e100, s100_0, s100_1, s100_4, s100_6, s100_9, s100_10, s100_12, s100_14, s100_17, s100_18, s100_21, s100_23, s100_24, s100_25, s100_26, s100_29, s100_31, s100_32, s100_33, s100_34, s100_35, s100_36, s100_39, s100_42, s100_45, s100_46, s100_47, s100_50, s100_51, s100_52, s100_55, s100_56, s100_57, s100_60, s100_62, s100_63, s100_66, s100_67, s100_68, s100_71, s100_72, s100_73, s100_76, s100_77, s100_78, s100_81, Option.toList_some, Option.toList_none, List.cons_append, List.nil_append, nI_add, pk_mul, Nat.reduceAdd, Nat.reduceMul, Nat.add_zero, Nat.zero_add, if_true, if_false, ite_self, nI_add, pk_mul, pk_sub, zrem_nI, pk_div, nI_ltI, nI_eq, hlt, hcp, zst_at, zst_zst, shR_step]
theorem c_rememberM {u : Nat} (h22 : X 39 22 = nI u) (hu : u ≤ 30) (hQ : ∀ w f, f 22 = nI (min 30 (u + 1)) → (∀ j, j ≠ 22 → f j = X 39 j) → (∀ j, j < 368 → w j = X 40 j) → (∀ i, i < min 30 (u + 1) → ∀ c, c < 92 → w (368 + 92 * i + c) = if i + 1 = min 30 (u + 1) then X 40 c else if u = 30 then X 40 (368 + 92 * (i + 1) + c) else X 40 (368 + 92 * i + c)) → Q none (zst (zst X 40 w) 39 f)) : zcl 100 [.ref 39] X Q := by
  by_cases h30 : u = 30
  · subst h30
    have hl := rem_loop (X := X) (Q := Q) (X 40) 29 1 (by omega) (by omega)
    rw [shR_1, zst_self] at hl
    have hcp := fun (f : Nat → Int32) Q => c_copy (X := zst (zst X 40 (shR (X 40) 30)) 39 f) (Q := Q) (x := 0) (y := 3036) (by omega) (by omega) (by omega)
    simp (disch := first | omega | assumption) only [e100, s100_0, s100_1, s100_4, s100_6, s100_9, s100_10, s100_12, s100_14, s100_17, s100_18, s100_21, s100_23, s100_24, s100_25, s100_26, s100_29, s100_31, s100_32, s100_33, s100_34, s100_35, s100_36, s100_39, s100_42, s100_45, s100_46, s100_47, s100_50, s100_51, s100_52, s100_55, s100_56, s100_57, s100_60, s100_62, s100_63, s100_66, s100_67, s100_68, s100_71, s100_72, s100_73, s100_76, s100_77, s100_78, s100_81, Option.toList_some, Option.toList_none, List.cons_append, List.nil_append, nI_add, pk_mul, Nat.reduceAdd, Nat.reduceMul, Nat.add_zero, Nat.zero_add, if_true, if_false, ite_self, nI_add, pk_mul, pk_sub, zrem_nI, pk_div, nI_ltI, nI_eq, h22, hl, zst_ne, zst_at, zst_zst, upd_at, hcp, zst_sw]
    refine hQ _ _ ?_ (fun j hj => ?_) (fun j hj => ?_) (fun i hi c hc => ?_)
    · rw [upd_at]; rfl
    · rw [upd_ne _ _ hj, upd_ne _ _ hj]
    · unfold va_cpy
      rw [if_neg (by omega)]
      unfold shR
      rw [if_neg (by omega)]
    · unfold va_cpy
      by_cases hl : i + 1 = min 30 (30 + 1)
      · rw [if_pos hl, if_pos (by omega)]
        unfold shR
        rw [if_neg (by omega)]
        exact congrArg (X 40) (by omega)
      · rw [if_neg hl, if_neg (by omega), if_pos rfl]
        unfold shR
        rw [if_pos (by omega)]
        exact congrArg (X 40) (by omega)
  · have hne : ¬ nI u = nI 30 := fun q => h30 ((nI_eq (by omega) (by omega)).mp q)
    have hcp := fun Q => c_copy (X := X) (Q := Q) (x := 0) (y := 368 + 92 * u) (by omega) (by omega) (by omega)
    simp (disch := first | omega | assumption) only [e100, s100_0, s100_1, s100_4, s100_6, s100_9, s100_10, s100_12, s100_14, s100_17, s100_18, s100_21, s100_23, s100_24, s100_25, s100_26, s100_29, s100_31, s100_32, s100_33, s100_34, s100_35, s100_36, s100_39, s100_42, s100_45, s100_46, s100_47, s100_50, s100_51, s100_52, s100_55, s100_56, s100_57, s100_60, s100_62, s100_63, s100_66, s100_67, s100_68, s100_71, s100_72, s100_73, s100_76, s100_77, s100_78, s100_81, Option.toList_some, Option.toList_none, List.cons_append, List.nil_append, nI_add, pk_mul, Nat.reduceAdd, Nat.reduceMul, Nat.add_zero, Nat.zero_add, if_true, if_false, ite_self, nI_add, pk_mul, pk_sub, zrem_nI, pk_div, nI_ltI, nI_eq, h22, hne, zst_ne, zst_at, zst_zst, hcp]
    refine hQ _ _ ?_ (fun j hj => ?_) (fun j hj => ?_) (fun i hi c hc => ?_)
    · rw [upd_at]
      congr 1
      omega
    · rw [upd_ne _ _ hj]
    · unfold va_cpy
      rw [if_neg (by omega)]
    · unfold va_cpy
      by_cases hl : i + 1 = min 30 (u + 1)
      · rw [if_pos hl, if_pos (by omega)]
        exact congrArg (X 40) (by omega)
      · rw [if_neg hl, if_neg (by omega), if_neg h30]
end CR
