/-! steps: the class's sums -/
def pq (p q : Nat) : Prop := (p = 26 ∧ q = 27) ∨ (p = 27 ∧ q = 26)
theorem pq_k {p q : Nat} (h : pq p q) : zkd p = (1, 568) ∧ zkd q = (1, 568) ∧ (nI p).toNatClampNeg = p ∧ (nI q).toNatClampNeg = q := by
  rcases h with ⟨rfl, rfl⟩ | ⟨rfl, rfl⟩ <;> exact ⟨rfl, rfl, nI_clamp (by decide), nI_clamp (by decide)⟩
section SQ
variable {D G B C : Nat} {W lim bear : Nat → Nat} {X : zM} {R : Nat → Nat} {nx x : Nat} {Q : Option Value → zM → Prop}
/-- the sums' costs in cell q, the other cells as they were -/
def suO (F D : Nat) (W R : Nat → Nat) (T : Nat → Prop) (g q : Nat) (X Y : zM) : Prop := (∀ c, c ≠ q → Y c = X c) ∧ ∃ h : Nat → Nat, ∀ x, x < 568 → Y q x = nI (h x) ∧ lst F (cpT D W R T g x) (h x)
/-- one more reading -/
theorem cpT_s {g T x c : Nat} : cpT D W R (fun t => trN D W R g t < T + 1) g x c ↔ (cpT D W R (fun t => trN D W R g t < T) g x c ∨ (R (7 + g) * T ≤ x ∧ ∃ c1 a1, cpS D W R g (x - R (7 + g) * T) c1 ∧ (∃ t, t < 11 ∧ trN D W R g t = T ∧ a1 = adN t (R g)) ∧ c = c1 + a1)) := by
  constructor
  · rintro ⟨t, s1, c1, h1, h2, h3, h4, h5⟩
    by_cases c : trN D W R g t = T
    · refine Or.inr ⟨?_, c1, _, ?_, ⟨t, by omega, c, rfl⟩, h5⟩
      · rw [h4, c]; omega
      · rw [h4, c, Nat.add_sub_cancel]; exact h3
    · exact Or.inl ⟨t, s1, c1, by omega, h2, h3, h4, h5⟩
  · rintro (⟨t, s1, c1, h1, h2, h3, h4, h5⟩ | ⟨h0, c1, a1, h1, ⟨t, h2, h3, h4⟩, h5⟩)
    · exact ⟨t, s1, c1, by omega, h2, h3, h4, h5⟩
    · exact ⟨t, _, c1, by omega, by omega, h1, by rw [h3]; omega, by rw [h5, h4]⟩
theorem sums_in {g T p q : Nat} {f a h : Nat → Nat} (hr : okR B R) (hg : g < 7) (hT : T < 10) (hpq : pq p q) (x10 : X 19 10 = nI p) (x11 : X 19 11 = nI q) (hf : ∀ x, x < 568 → X p x = nI (f x) ∧ lst 1000000 (cpS D W R g x) (f x)) (ha : ∀ r, r < 10 → X 25 r = nI (a r) ∧ lst 1000000 (fun c => ∃ t, t < 11 ∧ trN D W R g t = r ∧ c = adN t (R g)) (a r)) (hh : ∀ x, x < 568 → lst 1000000 (cpT D W R (fun t => trN D W R g t < T) g x) (h x)) (hQ : ∀ Z l5 l6, suO 1000000 D W R (fun t => trN D W R g t < T + 1) g q X Z → zev 75 100 [.ref 19, .int (nI (smN (fun g => R (7 + g)) g * 9)), .int (nI (R (7 + g))), .int (nI T), .int (nI (R (7 + g) * T)), l5, l6] [] Z Q) : ∀ (n s : Nat) (Y : zM) (l6 : Value), s + n = 568 → (∀ c, c ≠ q → Y c = X c) → (∀ x, x < 568 → Y q x = nI (if R (7 + g) * T ≤ x ∧ x - R (7 + g) * T < s then min (h x) (f (x - R (7 + g) * T) + a T) else h x)) → zev 75 25 [.ref 19, .int (nI (smN (fun g => R (7 + g)) g * 9)), .int (nI (R (7 + g))), .int (nI T), .int (nI (R (7 + g) * T)), .int (nI s), l6] [] Y Q := by
  obtain ⟨k1, k2, k3, k4⟩ := pq_k hpq
  have hpne : p ≠ q := by rcases hpq with ⟨rfl, rfl⟩ | ⟨rfl, rfl⟩ <;> decide
  have hq19 : q ≠ 19 ∧ q ≠ 25 ∧ p ≠ 25 := by rcases hpq with ⟨rfl, rfl⟩ | ⟨rfl, rfl⟩ <;> decide
  have b := hr.1 g hg
  have hm81 : R (7 + g) * T ≤ 9 * 9 := Nat.mul_le_mul b.2.1 (by omega)
  have hw63 : smN (fun g => R (7 + g)) g ≤ g * 9 := smN_le (fun i hi => (hr.1 i (by omega)).2.1)
  generalize hw0 : smN (fun g => R (7 + g)) g = w0 at hQ hw63 ⊢
  generalize hm : R (7 + g) * T = m at hQ hm81 ⊢
  have r59 := fun (X : zM) (Q : Option Value → zM → Prop) (l0 l1 l2 l3 l4 l5 l6 : Value) (j : Nat) (hj : j < 568) => s75_59 (l0 := l0) (l1 := l1) (l2 := l2) (l3 := l3) (l4 := l4) (l5 := l5) (l6 := l6) (j := j) (X := X) (Q := Q) k1 (by decide) hj
  have r87 := fun (X : zM) (Q : Option Value → zM → Prop) (l0 l1 l2 l3 l4 l5 l6 v2 v3 : Value) (j : Nat) (hj : j < 568) => s75_87 (l0 := l0) (l1 := l1) (l2 := l2) (l3 := l3) (l4 := l4) (l5 := l5) (l6 := l6) (v2 := v2) (v3 := v3) (j := j) (X := X) (Q := Q) k2 (by decide) hj
  have r93 := fun (X : zM) (Q : Option Value → zM → Prop) (l0 l1 l2 l3 l4 l5 l6 : Value) (x : Int32) (j : Nat) (hj : j < 568) => s75_93 (l0 := l0) (l1 := l1) (l2 := l2) (l3 := l3) (l4 := l4) (l5 := l5) (l6 := l6) (x := x) (j := j) (X := X) (Q := Q) k2 (by decide) hj
  have hout : ∀ (s : Nat) (Y : zM), (∀ c, c ≠ q → Y c = X c) → (∀ x, x < 568 → Y q x = nI (if m ≤ x ∧ x - m < s then min (h x) (f (x - m) + a T) else h x)) → (w0 * 9 < s ∨ 567 < s + m ∨ ¬ a T < 1000000) → suO 1000000 D W R (fun t => trN D W R g t < T + 1) g q X Y := by
    intro s Y y1 y2 hex
    refine ⟨y1, fun x => if m ≤ x then min (h x) (f (x - m) + a T) else h x, fun x hx => ?_⟩
    have hhx := hh x hx
    dsimp only
    rw [y2 x hx]
    by_cases c1 : m ≤ x
    · have fx := (hf (x - m) (by omega)).2
      have ax := (ha T hT).2
      have e : (if m ≤ x ∧ x - m < s then min (h x) (f (x - m) + a T) else h x) = min (h x) (f (x - m) + a T) := by
        by_cases c2 : x - m < s
        · rw [if_pos ⟨c1, c2⟩]
        · rw [if_neg (fun q => c2 q.2)]
          have h1 := hhx.1
          rcases hex with c3 | c3 | c3
          · rcases Nat.lt_or_ge (f (x - m)) 1000000 with c4 | c4
            · have := (cpS_le hr g _ _ (by omega) (fx.2.1 c4)).1
              rw [hw0] at this
              omega
            · omega
          · omega
          · omega
      rw [e, if_pos c1]
      refine ⟨rfl, lst_cg (lst_add hhx fx ax) (fun c => ?_)⟩
      rw [cpT_s, hm]
      exact ⟨fun k => k.elim Or.inl (fun k => Or.inr ⟨c1, k⟩), fun k => k.elim Or.inl (fun k => Or.inr k.2)⟩
    · rw [if_neg (fun q => c1 q.1), if_neg c1]
      refine ⟨rfl, lst_cg hhx (fun c => ?_)⟩
      rw [cpT_s, hm]
      exact ⟨Or.inl, fun k => k.elim id (fun k => absurd k.1 c1)⟩
  have a1 := ha T hT
  intro n
  induction n with
  | zero =>
    intro s Y l6 hs y1 y2
    have k := hQ Y (.int (nI s)) l6 (hout s Y y1 y2 (by omega))
    rw [s75_25]
    by_cases c1 : w0 * 9 < s
    · simp (disch := first | omega | assumption | decide) only [s75_27, s75_28, nI_ltI, c1, if_true]
      exact k
    · have c2 : 567 < s + m := by omega
      simp (disch := first | omega | assumption | decide) only [s75_27, s75_28, s75_31, s75_33, s75_35, s75_36, s75_39, nI_ltI, nI_add, c1, c2, if_true, if_false]
      exact k
  | succ n ih =>
    intro s Y l6 hs y1 y2
    have e25 : Y 25 T = nI (a T) := by rw [y1 25 (fun q => hq19.2.1 q.symm)]; exact a1.1
    have aF := a1.2.1
    rw [s75_25]
    by_cases c1 : w0 * 9 < s
    · have k := hQ Y (.int (nI s)) l6 (hout s Y y1 y2 (by omega))
      simp (disch := first | omega | assumption | decide) only [s75_27, s75_28, nI_ltI, c1, if_true]
      exact k
    · by_cases c2 : 567 < s + m
      · have k := hQ Y (.int (nI s)) l6 (hout s Y y1 y2 (by omega))
        simp (disch := first | omega | assumption | decide) only [s75_27, s75_28, s75_31, s75_33, s75_35, s75_36, s75_39, nI_ltI, nI_add, c1, c2, if_true, if_false]
        exact k
      · by_cases c3 : a T < 1000000
        · have e10 : (Y 19 10).toNatClampNeg = p := by rw [y1 19 (fun q => hq19.1 q.symm), x10, k3]
          have e11 : (Y 19 11).toNatClampNeg = q := by rw [y1 19 (fun q => hq19.1 q.symm), x11, k4]
          obtain ⟨f1, f2⟩ := hf s (by omega)
          have fF := f2.1
          have ep : Y p s = nI (f s) := by rw [y1 p hpne]; exact f1
          have hhl := (hh (s + m) (by omega)).1
          have eq1 : Y q (s + m) = nI (h (s + m)) := by
            rw [y2 (s + m) (by omega), if_neg (fun q => by omega)]
          have k := ih (s + 1) (zst Y q (upd (Y q) (s + m) (nI (min (h (s + m)) (f s + a T))))) (.int (nI (f s + a T))) (by omega) (fun c hc => by rw [zst_ne _ _ hc]; exact y1 c hc) (fun x hx => by
            rw [zst_at]
            by_cases c4 : x = s + m
            · rw [c4, upd_at, if_pos (by omega), Nat.add_sub_cancel]
            · rw [upd_ne _ _ c4, y2 x hx]
              by_cases c5 : m ≤ x ∧ x - m < s
              · rw [if_pos c5, if_pos (by omega)]
              · rw [if_neg c5, if_neg (by omega)])
          simp (disch := first | omega | assumption | decide) only [e75, s75_0, s75_1, s75_4, s75_6, s75_9, s75_10, s75_12, s75_14, s75_17, s75_18, s75_19, s75_20, s75_22, s75_23, s75_27, s75_28, s75_31, s75_33, s75_35, s75_36, s75_39, s75_42, s75_43, s75_46, s75_47, s75_48, s75_50, s75_53, s75_54, s75_57, s75_59, s75_60, s75_61, s75_64, s75_65, s75_66, s75_67, s75_69, s75_70, s75_73, s75_75, s75_77, s75_78, s75_79, s75_82, s75_84, s75_86, s75_87, s75_88, s75_90, s75_93, s75_94, s75_97, s75_100, s75_103, s75_106, s75_107, s75_110, s75_111, s75_112, s75_113, s75_116, s75_119, s75_120, s75_121, s75_124, Option.toList_some, Option.toList_none, List.cons_append, List.nil_append, if_true, if_false, eq_self, n1n0, ne10, nI_ltI, nI_add, c1, c2, c3, e25, e10, e11, r59, r87, r93, ep, eq1, mn_N]
          exact k
        · have k := hQ Y (.int (nI s)) l6 (hout s Y y1 y2 (by omega))
          simp (disch := first | omega | assumption | decide) only [s75_27, s75_28, s75_31, s75_33, s75_35, s75_36, s75_39, s75_42, s75_43, s75_46, s75_47, s75_48, s75_50, nI_ltI, nI_add, c1, c2, c3, e25, if_true, if_false]
          exact k
theorem sums_out {g p q : Nat} {f a : Nat → Nat} (hr : okR B R) (hg : g < 7) (hpq : pq p q) (x10 : X 19 10 = nI p) (x11 : X 19 11 = nI q) (hf : ∀ x, x < 568 → X p x = nI (f x) ∧ lst 1000000 (cpS D W R g x) (f x)) (ha : ∀ r, r < 10 → X 25 r = nI (a r) ∧ lst 1000000 (fun c => ∃ t, t < 11 ∧ trN D W R g t = r ∧ c = adN t (R g)) (a r)) (hQ : ∀ Z l3 l4 l5 l6, suO 1000000 D W R (fun t => trN D W R g t < 10) g q X Z → zev 75 106 [.ref 19, .int (nI (smN (fun g => R (7 + g)) g * 9)), .int (nI (R (7 + g))), l3, l4, l5, l6] [] Z Q) : ∀ (n T : Nat) (Y : zM) (l4 l5 l6 : Value), T + n = 10 → suO 1000000 D W R (fun t => trN D W R g t < T) g q X Y → zev 75 11 [.ref 19, .int (nI (smN (fun g => R (7 + g)) g * 9)), .int (nI (R (7 + g))), .int (nI T), l4, l5, l6] [] Y Q := by
  have hq2 : q ≠ 19 ∧ q ≠ 25 ∧ p ≠ q := by rcases hpq with ⟨rfl, rfl⟩ | ⟨rfl, rfl⟩ <;> decide
  intro n
  induction n with
  | zero =>
    intro T Y l4 l5 l6 hT hY
    have q : T = 10 := by omega
    subst q
    have k := hQ Y (.int (nI 10)) l4 l5 l6 hY
    have c : 9 < 10 := by omega
    rw [s75_11]
    simp (disch := first | omega | assumption | decide) only [s75_12, s75_14, nI_ltI, c, if_true]
    exact k
  | succ n ih =>
    intro T Y l4 l5 l6 hT hY
    have c : ¬ 9 < T := by omega
    obtain ⟨y1, h, y2⟩ := id hY
    have w10 : Y 19 10 = nI p := by rw [y1 19 (fun q => hq2.1 q.symm)]; exact x10
    have w11 : Y 19 11 = nI q := by rw [y1 19 (fun q => hq2.1 q.symm)]; exact x11
    have k := sums_in (X := Y) (Q := Q) (D := D) (W := W) (h := h) (f := f) (a := a) hr hg (show T < 10 by omega) hpq w10 w11 (fun x hx => by rw [y1 p hq2.2.2]; exact hf x hx) (fun r h10 => by rw [y1 25 (fun q => hq2.2.1 q.symm)]; exact ha r h10) (fun x hx => (y2 x hx).2) (fun Z l5 l6 hZ => by
      have kk := ih (T + 1) Z (.int (nI (R (7 + g) * T))) l5 l6 (by omega) ⟨fun c hc => (hZ.1 c hc).trans (y1 c hc), hZ.2⟩
      simp (disch := first | omega | assumption | decide) only [s75_100, s75_103, nI_add]
      exact kk) 568 0 Y l6 (by omega) (fun _ _ => rfl) (fun x hx => by rw [if_neg (by omega)]; exact (y2 x hx).1)
    rw [s75_11]
    simp (disch := first | omega | assumption | decide) only [e75, s75_0, s75_1, s75_4, s75_6, s75_9, s75_10, s75_12, s75_14, s75_17, s75_18, s75_19, s75_20, s75_22, s75_23, s75_27, s75_28, s75_31, s75_33, s75_35, s75_36, s75_39, s75_42, s75_43, s75_46, s75_47, s75_48, s75_50, s75_53, s75_54, s75_57, s75_59, s75_60, s75_61, s75_64, s75_65, s75_66, s75_67, s75_69, s75_70, s75_73, s75_75, s75_77, s75_78, s75_79, s75_82, s75_84, s75_86, s75_87, s75_88, s75_90, s75_93, s75_94, s75_97, s75_100, s75_103, s75_106, s75_107, s75_110, s75_111, s75_112, s75_113, s75_116, s75_119, s75_120, s75_121, s75_124, Option.toList_some, Option.toList_none, List.cons_append, List.nil_append, if_true, if_false, eq_self, n1n0, ne10, nI_ltI, c, pk_mul]
    exact k
/-- the class's sums of the first g glasses -/
def stC (D : Nat) (W R : Nat → Nat) (g : Nat) (X Y : zM) : Prop := (∀ c, (c < 19 ∨ 27 < c) → Y c = X c) ∧ ∃ p q, pq p q ∧ Y 19 10 = nI p ∧ Y 19 11 = nI q ∧ ∃ f : Nat → Nat, ∀ x, x < 568 → Y p x = nI (f x) ∧ lst 1000000 (cpS D W R g x) (f x)
theorem c_addTo {g : Nat} {Y Z : zM} (hr : okR B R) (hg : g < 7) (hY : stC D W R g X Y) (hZ : cnR D W R g 11 Y Z) (hQ : ∀ V, stC D W R (g + 1) X V → Q none V) : zcl 75 [.ref 19, .int (nI (smN (fun g => R (7 + g)) g * 9)), .int (nI (R (7 + g)))] Z Q := by
  obtain ⟨y1, p, q, hpq, y2, y3, f, y4⟩ := hY
  obtain ⟨z1, a, z2⟩ := hZ
  obtain ⟨k1, k2, k3, k4⟩ := pq_k hpq
  have hq2 : q ≠ 19 ∧ q ≠ 25 ∧ p ≠ q ∧ p ≠ 25 ∧ p ≠ 19 ∧ 26 ≤ q ∧ q ≤ 27 ∧ p < 321 ∧ q < 321 := by rcases hpq with ⟨rfl, rfl⟩ | ⟨rfl, rfl⟩ <;> decide
  have e10 : Z 19 10 = nI p := by rw [z1 19 (by decide)]; exact y2
  have e11 : Z 19 11 = nI q := by rw [z1 19 (by decide)]; exact y3
  have r11 : (Z 19 11).toNatClampNeg = q := by rw [e11, k4]
  simp (disch := first | omega | assumption | decide) only [e75, s75_0, s75_1, s75_4, s75_6, s75_9, s75_10, s75_12, s75_14, s75_17, s75_18, s75_19, s75_20, s75_22, s75_23, s75_27, s75_28, s75_31, s75_33, s75_35, s75_36, s75_39, s75_42, s75_43, s75_46, s75_47, s75_48, s75_50, s75_53, s75_54, s75_57, s75_59, s75_60, s75_61, s75_64, s75_65, s75_66, s75_67, s75_69, s75_70, s75_73, s75_75, s75_77, s75_78, s75_79, s75_82, s75_84, s75_86, s75_87, s75_88, s75_90, s75_93, s75_94, s75_97, s75_100, s75_103, s75_106, s75_107, s75_110, s75_111, s75_112, s75_113, s75_116, s75_119, s75_120, s75_121, s75_124, Option.toList_some, Option.toList_none, List.cons_append, List.nil_append, if_true, if_false, eq_self, n1n0, ne10, r11]
  refine c_fill (i := q) (m := 568) k2 (by decide) (fun h hh => ?_)
  simp (disch := first | omega | assumption | decide) only [e75, s75_0, s75_1, s75_4, s75_6, s75_9, s75_10, s75_12, s75_14, s75_17, s75_18, s75_19, s75_20, s75_22, s75_23, s75_27, s75_28, s75_31, s75_33, s75_35, s75_36, s75_39, s75_42, s75_43, s75_46, s75_47, s75_48, s75_50, s75_53, s75_54, s75_57, s75_59, s75_60, s75_61, s75_64, s75_65, s75_66, s75_67, s75_69, s75_70, s75_73, s75_75, s75_77, s75_78, s75_79, s75_82, s75_84, s75_86, s75_87, s75_88, s75_90, s75_93, s75_94, s75_97, s75_100, s75_103, s75_106, s75_107, s75_110, s75_111, s75_112, s75_113, s75_116, s75_119, s75_120, s75_121, s75_124, Option.toList_some, Option.toList_none, List.cons_append, List.nil_append, if_true, if_false, eq_self, n1n0, ne10]
  refine sums_out (p := p) (q := q) (f := f) (a := a) (X := zst Z q h) hr hg hpq (by rw [zst_ne _ _ (fun q => hq2.1 q.symm)]; exact e10) (by rw [zst_ne _ _ (fun q => hq2.1 q.symm)]; exact e11) (fun x hx => by rw [zst_ne _ _ hq2.2.2.1, z1 p hq2.2.2.2.1]; exact y4 x hx) (fun r h10 => by rw [zst_ne _ _ (fun q => hq2.2.1 q.symm)]; exact z2 r h10) (fun V l3 l4 l5 l6 hV => ?_) 10 0 _ _ _ _ (by omega) ⟨fun _ _ => rfl, fun _ => 1000000, fun x hx => ⟨by rw [zst_at]; exact hh x hx, lst_no (fun c k => by obtain ⟨t, _, _, h1, _⟩ := k; omega)⟩⟩
  obtain ⟨v1, h2, v2⟩ := hV
  have V10 : (V 19 10).toNatClampNeg = p := by rw [v1 19 (fun q => hq2.1 q.symm), zst_ne _ _ (fun q => hq2.1 q.symm), e10, k3]
  have V11 : (V 19 11).toNatClampNeg = q := by rw [v1 19 (fun q => hq2.1 q.symm), zst_ne _ _ (fun q => hq2.1 q.symm), e11, k4]
  have hp3 := hq2.2.2.2.2.2.2.2.1
  have hq3 := hq2.2.2.2.2.2.2.2.2
  simp (disch := first | omega | assumption | decide) only [e75, s75_0, s75_1, s75_4, s75_6, s75_9, s75_10, s75_12, s75_14, s75_17, s75_18, s75_19, s75_20, s75_22, s75_23, s75_27, s75_28, s75_31, s75_33, s75_35, s75_36, s75_39, s75_42, s75_43, s75_46, s75_47, s75_48, s75_50, s75_53, s75_54, s75_57, s75_59, s75_60, s75_61, s75_64, s75_65, s75_66, s75_67, s75_69, s75_70, s75_73, s75_75, s75_77, s75_78, s75_79, s75_82, s75_84, s75_86, s75_87, s75_88, s75_90, s75_93, s75_94, s75_97, s75_100, s75_103, s75_106, s75_107, s75_110, s75_111, s75_112, s75_113, s75_116, s75_119, s75_120, s75_121, s75_124, Option.toList_some, Option.toList_none, List.cons_append, List.nil_append, if_true, if_false, eq_self, n1n0, ne10, V10, V11, zst_at, zst_zst]
  refine hQ _ ⟨fun c hc => ?_, q, p, ?_, ?_, ?_, h2, fun x hx => ?_⟩
  · rw [zst_ne _ _ (by omega), v1 c (by omega), zst_ne _ _ (by omega), z1 c (by omega)]; exact y1 c hc
  · rcases hpq with ⟨rfl, rfl⟩ | ⟨rfl, rfl⟩
    · exact Or.inr ⟨rfl, rfl⟩
    · exact Or.inl ⟨rfl, rfl⟩
  · rw [zst_at, upd_ne _ _ (by decide), upd_at]
  · rw [zst_at, upd_at]
  · rw [zst_ne _ _ hq2.1]
    refine ⟨(v2 x hx).1, lst_cg (v2 x hx).2 (fun c => ⟨?_, ?_⟩)⟩
    · rintro ⟨t, s1, c1, _, w2, w3, w4, w5⟩
      exact ⟨t, s1, c1, w2, w3, w4, w5⟩
    · rintro ⟨t, s1, c1, w2, w3, w4, w5⟩
      exact ⟨t, s1, c1, Nat.lt_succ_of_le (trN_le D W R g t), w2, w3, w4, w5⟩
end SQ
