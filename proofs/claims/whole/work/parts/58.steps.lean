/-! steps: the fewest steps, by the costs that there are; the class's side -/
def lst (F : Nat) (P : Nat → Prop) (v : Nat) : Prop := v ≤ F ∧ (v < F → P v) ∧ ∀ c, P c → v ≤ c
theorem lst_cg {F v : Nat} {P P2 : Nat → Prop} (h : lst F P v) (hp : ∀ c, P c ↔ P2 c) : lst F P2 v := ⟨h.1, fun q => (hp _).mp (h.2.1 q), fun c q => h.2.2 c ((hp c).mpr q)⟩
theorem lst_add {F h f a : Nat} {P P0 A : Nat → Prop} (hh : lst F P h) (hf : lst F P0 f) (ha : lst F A a) : lst F (fun c => P c ∨ ∃ c1 a1, P0 c1 ∧ A a1 ∧ c = c1 + a1) (min h (f + a)) := by
  obtain ⟨h1, h2, h3⟩ := hh
  obtain ⟨f1, f2, f3⟩ := hf
  obtain ⟨a1, a2, a3⟩ := ha
  refine ⟨by omega, fun q => ?_, ?_⟩
  · by_cases c : h ≤ f + a
    · rw [Nat.min_eq_left c] at q ⊢
      exact Or.inl (h2 q)
    · rw [Nat.min_eq_right (by omega)] at q ⊢
      exact Or.inr ⟨f, a, f2 (by omega), a2 (by omega), rfl⟩
  · rintro c (hc | ⟨c1, b1, p1, p2, rfl⟩)
    · have := h3 c hc; omega
    · have := f3 c1 p1; have := a3 b1 p2; omega
theorem lst_min {F h a : Nat} {P A : Nat → Prop} (hh : lst F P h) (ha : lst F A a) : lst F (fun c => P c ∨ A c) (min h a) := by
  obtain ⟨h1, h2, h3⟩ := hh
  obtain ⟨a1, a2, a3⟩ := ha
  refine ⟨by omega, fun q => ?_, ?_⟩
  · by_cases c : h ≤ a
    · rw [Nat.min_eq_left c] at q ⊢
      exact Or.inl (h2 q)
    · rw [Nat.min_eq_right (by omega)] at q ⊢
      exact Or.inr (a2 q)
  · rintro c (hc | hc)
    · have := h3 c hc; omega
    · have := a3 c hc; omega
theorem lst_no {F : Nat} {P : Nat → Prop} (h : ∀ c, ¬ P c) : lst F P F := ⟨Nat.le_refl F, fun q => absurd q (Nat.lt_irrefl F), fun c q => absurd q (h c)⟩
theorem lst_one {F a : Nat} (h : a ≤ F) : lst F (fun c => c = a) a := ⟨h, fun _ => rfl, fun c q => Nat.le_of_eq q.symm⟩
/-- what is found, whatever stands for 'none' -/
theorem lst_yes {F v m : Nat} {P : Nat → Prop} (h : lst F P v) (hm : P m) (hl : ∀ c, P c → m ≤ c) (hF : m < F) : v = m := by
  have h1 := h.2.2 m hm
  have h2 := hl v (h.2.1 (by omega))
  omega
theorem lst_none {F v : Nat} {P : Nat → Prop} (h : lst F P v) (hn : ∀ c, ¬ P c) : v = F := by
  rcases Nat.lt_or_ge v F with q | q
  · exact absurd (h.2.1 q) (hn v)
  · exact Nat.le_antisymm h.1 q
theorem lst_ex {P : Nat → Prop} : ∀ n c, c ≤ n → P c → ∃ m, P m ∧ ∀ c, P c → m ≤ c := by
  intro n
  induction n with
  | zero =>
    intro c hc hP
    have q : c = 0 := by omega
    subst q
    exact ⟨0, hP, fun c _ => Nat.zero_le c⟩
  | succ n ih =>
    intro c hc hP
    by_cases h : ∃ d, P d ∧ d < c
    · obtain ⟨d, h1, h2⟩ := h
      exact ih d (by omega) h1
    · exact ⟨c, hP, fun d hd => by
        rcases Nat.lt_or_ge d c with q | q
        · exact absurd ⟨d, hd, q⟩ h
        · exact q⟩
theorem mn_C {x y : Nat} (hx : x < 2 ^ 31) (hy : y < 2 ^ 31) : (if nI y < nI x then nI y else nI x) = nI (min x y) := by
  by_cases c : y < x
  · rw [if_pos ((nI_ltI hy hx).mpr c), Nat.min_eq_right (by omega)]
  · rw [if_neg (fun q => c ((nI_ltI hy hx).mp q)), Nat.min_eq_left (by omega)]
theorem mn_M {x y : Nat} (hx : x < 2 ^ 31) (hy : y < 2 ^ 31) : (if nI x < nI y then nI x else nI y) = nI (min x y) := by
  by_cases c : x < y
  · rw [if_pos ((nI_ltI hx hy).mpr c), Nat.min_eq_left (by omega)]
  · rw [if_neg (fun q => c ((nI_ltI hx hy).mp q)), Nat.min_eq_right (by omega)]
theorem mn_N (x y : Nat) : (if y < x then nI y else nI x) = nI (min x y) := by
  by_cases c : y < x
  · rw [if_pos c, Nat.min_eq_right (by omega)]
  · rw [if_neg c, Nat.min_eq_left (by omega)]
theorem mn_L (x y : Nat) : (if x < y then nI x else nI y) = nI (min x y) := by
  by_cases c : x < y
  · rw [if_pos c, Nat.min_eq_left (by omega)]
  · rw [if_neg c, Nat.min_eq_right (by omega)]
theorem adN_le10 {a b : Nat} (ha : a ≤ 10) (hb : b ≤ 10) : adN a b ≤ 10 := by unfold adN; split <;> omega
/-- what glass g reads at temper t -/
def trN (D : Nat) (W R : Nat → Nat) (g t : Nat) : Nat := rdN (wN D W (R 29 + 1)) t (R (14 + g)) 0
theorem trN_le (D : Nat) (W R : Nat → Nat) (g t : Nat) : trN D W R g t ≤ 9 := rdN_le _ _ _ _
/-- the sums that the first glasses can have, and what they cost -/
def cpS (D : Nat) (W R : Nat → Nat) : Nat → Nat → Nat → Prop
  | 0, s, c => s = 0 ∧ c = 0
  | g + 1, s, c => ∃ t s1 c1, t ≤ 10 ∧ cpS D W R g s1 c1 ∧ s = s1 + R (7 + g) * trN D W R g t ∧ c = c1 + adN t (R g)
def cpT (D : Nat) (W R : Nat → Nat) (T : Nat → Prop) (g s c : Nat) : Prop := ∃ t s1 c1, T t ∧ t ≤ 10 ∧ cpS D W R g s1 c1 ∧ s = s1 + R (7 + g) * trN D W R g t ∧ c = c1 + adN t (R g)
section SP
variable {D G B C : Nat} {W lim bear : Nat → Nat} {X : zM} {R : Nat → Nat} {nx x : Nat} {Q : Option Value → zM → Prop}
theorem cpS_le (hr : okR B R) : ∀ g s c, g ≤ 7 → cpS D W R g s c → s ≤ 9 * smN (fun g => R (7 + g)) g ∧ c ≤ 10 * g
  | 0, s, c, _, h => by
    have h1 := h.1
    have h2 := h.2
    simp only [smN]
    omega
  | g + 1, s, c, hg, ⟨t, s1, c1, ht, h1, h2, h3⟩ => by
    have h4 := cpS_le hr g s1 c1 (by omega) h1
    have h5 := adN_le10 ht (hr.1 g (by omega)).1
    have h6 : R (7 + g) * trN D W R g t ≤ R (7 + g) * 9 := Nat.mul_le_mul_left _ (trN_le D W R g t)
    rw [smN]
    omega
theorem adN_self (a : Nat) : adN a a = 0 := by unfold adN; rw [if_neg (Nat.lt_irrefl a)]; omega
/-- a glass without weight changes nothing -/
theorem cpS_w0 {F g s v : Nat} (hr : okR B R) (hg : g < 7) (h0 : R (7 + g) = 0) (h : lst F (cpS D W R g s) v) : lst F (cpS D W R (g + 1) s) v := by
  have hR := (hr.1 g hg).1
  refine ⟨h.1, fun q => ⟨R g, s, v, hR, h.2.1 q, by rw [h0]; omega, by rw [adN_self]; rfl⟩, ?_⟩
  rintro c ⟨t, s1, c1, ht, p1, p2, p3⟩
  have q : s1 = s := by rw [h0] at p2; omega
  subst q
  have := h.2.2 c1 p1
  omega
/-- class: costs of what a glass can read -/
def cnR (D : Nat) (W R : Nat → Nat) (g T : Nat) (X Y : zM) : Prop := (∀ c, c ≠ 25 → Y c = X c) ∧ ∃ a : Nat → Nat, ∀ r, r < 10 → Y 25 r = nI (a r) ∧ lst 1000000 (fun c => ∃ t, t < T ∧ trN D W R g t = r ∧ c = adN t (R g)) (a r)
theorem cntR_loop {g : Nat} (ho : okP D G B C W lim bear) (hs : cS G B X 57 R nx) (hr : okR B R) (hg : g < G) (hQ : ∀ Y, cnR D W R g 11 X Y → Q none Y) : ∀ (n t : Nat) (Y : zM) (l4 : Value), t + n = 11 → cnR D W R g t X Y → zev 74 20 [.ref 19, .int (nI g), .int (nI (wN D W (R 29 + 1))), .int (nI t), l4] [] Y Q := by
  have hG := ho.2.1
  have hw9 := wN_le (D := D) ho.2.2.2.2.1 (R 29 + 1)
  have b := hr.1 g (by omega)
  intro n
  induction n with
  | zero =>
    intro t Y l4 ht hY
    have q : t = 11 := by omega
    subst q
    have c : 10 < 11 := by omega
    rw [s74_20]
    simp (disch := first | omega | assumption | decide) only [e74, s74_0, s74_1, s74_4, s74_5, s74_8, s74_9, s74_10, s74_13, s74_15, s74_18, s74_19, s74_21, s74_23, s74_26, s74_27, s74_28, s74_29, s74_30, s74_33, s74_36, s74_37, s74_38, s74_41, s74_42, s74_45, s74_46, s74_49, s74_51, s74_52, s74_55, s74_57, s74_58, s74_61, s74_63, s74_64, s74_65, s74_66, s74_69, s74_72, s74_73, s74_74, s74_75, s74_78, s74_81, s74_82, s74_85, s74_88, Option.toList_some, Option.toList_none, List.cons_append, List.nil_append, if_true, if_false, eq_self, n1n0, ne10, nI_ltI, c]
    exact hQ Y hY
  | succ n ih =>
    intro t Y l4 ht hY
    have hlt : ¬ 10 < t := by omega
    obtain ⟨y1, a, y2⟩ := id hY
    have t9 := trN_le D W R g t
    have e1 : Y 60 g = nI (R (14 + g)) := by rw [y1 60 (by omega)]; exact (hs.2.2.1 g hg).2.2
    have e2 : Y 58 g = nI (R g) := by rw [y1 58 (by omega)]; exact (hs.2.2.1 g hg).1
    have hrd := rdv_nI (wN D W (R 29 + 1)) (by omega) t (by omega)
    obtain ⟨e3, e4⟩ := y2 (trN D W R g t) (by omega)
    have e4l := e4.1
    have had := ad_C t (by omega) (R g) (by omega)
    have hal := adN_le10 (a := t) (b := R g) (by omega) b.1
    have key : ∀ l4, zev 74 20 [.ref 19, .int (nI g), .int (nI (wN D W (R 29 + 1))), .int (nI (t + 1)), l4] [] (zst Y 25 (upd (Y 25) (trN D W R g t) (nI (min (a (trN D W R g t)) (adN t (R g)))))) Q := by
      intro l4
      refine ih (t + 1) _ l4 (by omega) ⟨fun c hc => by rw [zst_ne _ _ hc]; exact y1 c hc, fun r => if r = trN D W R g t then min (a (trN D W R g t)) (adN t (R g)) else a r, fun r hr10 => ?_⟩
      rw [zst_at]
      by_cases c : r = trN D W R g t
      · rw [c, upd_at]
        dsimp only
        rw [if_pos rfl]
        refine ⟨rfl, lst_cg (lst_min e4 (lst_one (a := adN t (R g)) (by omega))) (fun c => ⟨?_, ?_⟩)⟩
        · rintro (⟨t1, p1, p2, p3⟩ | p)
          · exact ⟨t1, by omega, p2, p3⟩
          · exact ⟨t, by omega, rfl, p⟩
        · rintro ⟨t1, p1, p2, p3⟩
          by_cases ct : t1 = t
          · subst ct; exact Or.inr p3
          · exact Or.inl ⟨t1, by omega, p2, p3⟩
      · rw [upd_ne _ _ c]
        dsimp only
        rw [if_neg c]
        refine ⟨(y2 r hr10).1, lst_cg (y2 r hr10).2 (fun c2 => ⟨?_, ?_⟩)⟩
        · rintro ⟨t1, p1, p2, p3⟩
          exact ⟨t1, by omega, p2, p3⟩
        · rintro ⟨t1, p1, p2, p3⟩
          by_cases ct : t1 = t
          · subst ct; exact absurd p2.symm c
          · exact ⟨t1, by omega, p2, p3⟩
    rw [s74_20]
    by_cases c : 0 < R (14 + g)
    · have e5 : rdv (nI (wN D W (R 29 + 1)) + nI t - nI 5 + nI 2) = nI (trN D W R g t) := by
        rw [hrd.1]; unfold trN rdN; rw [if_pos c]
      have k := key (.int (nI (trN D W R g t)))
      rw [← nI_add] at k
      simp (disch := first | omega | assumption | decide) only [e74, s74_0, s74_1, s74_4, s74_5, s74_8, s74_9, s74_10, s74_13, s74_15, s74_18, s74_19, s74_21, s74_23, s74_26, s74_27, s74_28, s74_29, s74_30, s74_33, s74_36, s74_37, s74_38, s74_41, s74_42, s74_45, s74_46, s74_49, s74_51, s74_52, s74_55, s74_57, s74_58, s74_61, s74_63, s74_64, s74_65, s74_66, s74_69, s74_72, s74_73, s74_74, s74_75, s74_78, s74_81, s74_82, s74_85, s74_88, Option.toList_some, Option.toList_none, List.cons_append, List.nil_append, if_true, if_false, eq_self, n1n0, ne10, nI_ltI, hlt, e1, c, c_clearReading, e5, e3, e2, had, mn_N]
      exact k
    · have e5 : rdv (nI (wN D W (R 29 + 1)) + nI t - nI 5 + nI 0) = nI (trN D W R g t) := by
        rw [hrd.2]; unfold trN rdN; rw [if_neg c]
      have k := key (.int (nI (trN D W R g t)))
      rw [← nI_add] at k
      simp (disch := first | omega | assumption | decide) only [e74, s74_0, s74_1, s74_4, s74_5, s74_8, s74_9, s74_10, s74_13, s74_15, s74_18, s74_19, s74_21, s74_23, s74_26, s74_27, s74_28, s74_29, s74_30, s74_33, s74_36, s74_37, s74_38, s74_41, s74_42, s74_45, s74_46, s74_49, s74_51, s74_52, s74_55, s74_57, s74_58, s74_61, s74_63, s74_64, s74_65, s74_66, s74_69, s74_72, s74_73, s74_74, s74_75, s74_78, s74_81, s74_82, s74_85, s74_88, Option.toList_some, Option.toList_none, List.cons_append, List.nil_append, if_true, if_false, eq_self, n1n0, ne10, nI_ltI, hlt, e1, c, c_clearReading, e5, e3, e2, had, mn_N]
      exact k
theorem c_count {g : Nat} (ho : okP D G B C W lim bear) (hc : cP D G B C W lim bear X) (hs : cS G B X 57 R nx) (hr : okR B R) (hg : g < G) (hQ : ∀ Y, cnR D W R g 11 X Y → Q none Y) : zcl 74 [.ref 19, .int (nI g)] X Q := by
  have hwa := fun Q => cc_weatherAhead (X := X) (Q := Q) (n := 1) ho hc hs hr (by omega)
  simp (disch := first | omega | assumption | decide) only [e74, s74_0, s74_1, s74_4, s74_5, s74_8, s74_9, s74_10, s74_13, s74_15, s74_18, s74_19, s74_21, s74_23, s74_26, s74_27, s74_28, s74_29, s74_30, s74_33, s74_36, s74_37, s74_38, s74_41, s74_42, s74_45, s74_46, s74_49, s74_51, s74_52, s74_55, s74_57, s74_58, s74_61, s74_63, s74_64, s74_65, s74_66, s74_69, s74_72, s74_73, s74_74, s74_75, s74_78, s74_81, s74_82, s74_85, s74_88, Option.toList_some, Option.toList_none, List.cons_append, List.nil_append, if_true, if_false, eq_self, n1n0, ne10, hwa]
  refine c_fill (i := 25) (m := 10) rfl (by decide) (fun p hp => ?_)
  simp (disch := first | omega | assumption | decide) only [e74, s74_0, s74_1, s74_4, s74_5, s74_8, s74_9, s74_10, s74_13, s74_15, s74_18, s74_19, s74_21, s74_23, s74_26, s74_27, s74_28, s74_29, s74_30, s74_33, s74_36, s74_37, s74_38, s74_41, s74_42, s74_45, s74_46, s74_49, s74_51, s74_52, s74_55, s74_57, s74_58, s74_61, s74_63, s74_64, s74_65, s74_66, s74_69, s74_72, s74_73, s74_74, s74_75, s74_78, s74_81, s74_82, s74_85, s74_88, Option.toList_some, Option.toList_none, List.cons_append, List.nil_append, if_true, if_false, eq_self, n1n0, ne10]
  exact cntR_loop ho hs hr hg hQ 11 0 _ _ (by omega) ⟨fun c h => zst_ne _ _ h, fun _ => 1000000, fun r h => ⟨by rw [zst_at]; exact hp r h, lst_no (fun c q => by obtain ⟨t, h1, _⟩ := q; omega)⟩⟩
end SP
