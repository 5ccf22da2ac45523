/-! steps: the reference's side, the call -/
theorem ad_N (a b : Nat) : (if b < a then nI a - nI b else nI b - nI a) = nI (adN a b) := by
  unfold adN
  by_cases c : b < a
  · rw [if_pos c, if_neg (by omega), pk_sub (by omega)]
  · rw [if_neg c, pk_sub (by omega)]
    by_cases c2 : a < b
    · rw [if_pos c2]
    · rw [if_neg c2, show b - a = a - b by omega]
section SM
variable {D G B C : Nat} {W lim bear : Nat → Nat} {X : zM} {R : Nat → Nat} {nx x : Nat} {Q : Option Value → zM → Prop}
theorem laF_loop {l1 l3 l4 : Value} (hQ : ∀ p, (∀ x, x < 568 → p x = nI 99999999) → zev 170 26 [.ref 39, l1, .int (nI 0), l3, l4] [] (zst X 52 p) Q) : ∀ (n s : Nat) (p : Nat → Int32), s + n = 568 → (∀ x, x < s → p x = nI 99999999) → zev 170 2 [.ref 39, l1, .int (nI s), l3, l4] [] (zst X 52 p) Q := by
  intro n
  induction n with
  | zero =>
    intro s p hs hp
    have q : s = 568 := by omega
    subst q
    have k := hQ p hp
    rw [s170_2]
    simp (disch := first | omega | assumption | decide) only [s170_3, s170_6, s170_24, s170_25, nI_ltI, Nat.lt_irrefl, if_false]
    exact k
  | succ n ih =>
    intro s p hs hp
    have hlt : s < 568 := by omega
    have k := ih (s + 1) (upd p s (nI 99999999)) (by omega) (fun x hx => by
      by_cases c : x = s
      · rw [c, upd_at]
      · rw [upd_ne _ _ c]; exact hp x (by omega))
    rw [s170_2]
    simp (disch := first | omega | assumption | decide) only [e170, s170_0, s170_1, s170_3, s170_6, s170_9, s170_10, s170_13, s170_14, s170_17, s170_18, s170_21, s170_24, s170_25, s170_27, s170_29, s170_32, s170_33, s170_36, s170_38, s170_39, s170_40, s170_41, s170_42, s170_43, s170_46, s170_47, s170_48, s170_51, s170_53, s170_54, s170_55, s170_56, s170_59, s170_60, s170_63, s170_64, s170_67, s170_68, s170_69, s170_70, s170_74, s170_75, s170_76, s170_79, s170_82, s170_83, s170_86, s170_88, s170_89, s170_90, s170_91, s170_94, s170_96, s170_97, s170_98, s170_99, s170_100, s170_103, s170_105, s170_106, s170_107, s170_108, s170_111, s170_112, s170_113, s170_116, s170_117, s170_120, s170_121, s170_124, s170_127, s170_130, s170_133, s170_134, s170_136, s170_139, s170_142, s170_143, s170_146, s170_147, s170_148, s170_151, s170_152, s170_153, s170_154, s170_157, s170_160, Option.toList_some, Option.toList_none, List.cons_append, List.nil_append, if_true, if_false, eq_self, n1n0, ne10, nI_ltI, hlt, nI_add, zst_at, zst_zst]
    exact k
theorem cpT_t {g T x c : Nat} (hT : T ≤ 10) : cpT D W R (fun t => t < T + 1) g x c ↔ (cpT D W R (fun t => t < T) g x c ∨ (R (7 + g) * trN D W R g T ≤ x ∧ ∃ c1 a1, cpS D W R g (x - R (7 + g) * trN D W R g T) c1 ∧ a1 = adN T (R g) ∧ c = c1 + a1)) := by
  constructor
  · rintro ⟨t, s1, c1, h1, h2, h3, h4, h5⟩
    by_cases c : t = T
    · subst c
      refine Or.inr ⟨?_, c1, _, ?_, rfl, h5⟩
      · rw [h4]; omega
      · rw [h4, Nat.add_sub_cancel]; exact h3
    · exact Or.inl ⟨t, s1, c1, by omega, h2, h3, h4, h5⟩
  · rintro (⟨t, s1, c1, h1, h2, h3, h4, h5⟩ | ⟨h0, c1, a1, h1, h4, h5⟩)
    · exact ⟨t, s1, c1, by omega, h2, h3, h4, h5⟩
    · exact ⟨T, _, c1, by omega, hT, h1, by omega, by rw [h5, h4]⟩
theorem lay_in {g T : Nat} {f h : Nat → Nat} (hr : okR B R) (hg : g < 7) (hT : T ≤ 10) (hw : mW (X 40) 0 R) (hf : ∀ x, x < 568 → X 51 x = nI (f x) ∧ lst 99999999 (cpS D W R g x) (f x)) (hh : ∀ x, x < 568 → lst 99999999 (cpT D W R (fun t => t < T) g x) (h x)) (hQ : ∀ Z l4, suO 99999999 D W R (fun t => t < T + 1) g 52 X Z → zev 170 127 [.ref 39, .int (nI g), .int (nI T), .int (nI (R (7 + g) * trN D W R g T)), l4] [] Z Q) : ∀ (n s : Nat) (Y : zM), s + n = 568 - R (7 + g) * trN D W R g T → (∀ c, c ≠ 52 → Y c = X c) → (∀ x, x < 568 → Y 52 x = nI (if R (7 + g) * trN D W R g T ≤ x ∧ x - R (7 + g) * trN D W R g T < s then min (h x) (f (x - R (7 + g) * trN D W R g T) + adN T (R g)) else h x)) → zev 170 72 [.ref 39, .int (nI g), .int (nI T), .int (nI (R (7 + g) * trN D W R g T)), .int (nI s)] [] Y Q := by
  have b := hr.1 g hg
  have hm81 : R (7 + g) * trN D W R g T ≤ 9 * 9 := Nat.mul_le_mul b.2.1 (trN_le D W R g T)
  have had := ad_M T (by omega) (R g) (by omega)
  have hal := adN_le10 (a := T) (b := R g) hT b.1
  generalize hm : R (7 + g) * trN D W R g T = m at hQ hm81 ⊢
  intro n
  induction n with
  | zero =>
    intro s Y hs y1 y2
    have c1 : ¬ s + m < 568 := by omega
    have k := hQ Y (.int (nI s)) ⟨y1, fun x => if m ≤ x then min (h x) (f (x - m) + adN T (R g)) else h x, fun x hx => by
      have hhx := hh x hx
      dsimp only
      rw [y2 x hx]
      by_cases c1 : m ≤ x
      · have fx := (hf (x - m) (by omega)).2
        rw [if_pos (by omega), if_pos c1]
        refine ⟨rfl, lst_cg (lst_add hhx fx (lst_one (a := adN T (R g)) (by omega))) (fun c => ?_)⟩
        rw [cpT_t hT, hm]
        exact ⟨fun k => k.elim Or.inl (fun k => Or.inr ⟨c1, k⟩), fun k => k.elim Or.inl (fun k => Or.inr k.2)⟩
      · rw [if_neg (fun q => c1 q.1), if_neg c1]
        refine ⟨rfl, lst_cg hhx (fun c => ?_)⟩
        rw [cpT_t hT, hm]
        exact ⟨Or.inl, fun k => k.elim id (fun k => absurd k.1 c1)⟩⟩
    rw [s170_72]
    simp (disch := first | omega | assumption | decide) only [s170_74, s170_75, s170_76, s170_79, nI_ltI, nI_add, c1, if_false]
    exact k
  | succ n ih =>
    intro s Y hs y1 y2
    have c1 : s + m < 568 := by omega
    obtain ⟨f1, f2⟩ := hf s (by omega)
    have fF := f2.1
    have e51 : Y 51 s = nI (f s) := by rw [y1 51 (by decide)]; exact f1
    have e40 : Y 40 g = nI (R g) := by rw [y1 40 (by decide)]; exact at0 hw (by omega)
    have hhl := (hh (s + m) (by omega)).1
    have eq1 : Y 52 (s + m) = nI (h (s + m)) := by rw [y2 (s + m) (by omega), if_neg (fun q => by omega)]
    have k := ih (s + 1) (zst Y 52 (upd (Y 52) (s + m) (nI (min (h (s + m)) (f s + adN T (R g)))))) (by omega) (fun c hc => by rw [zst_ne _ _ hc]; exact y1 c hc) (fun x hx => by
      rw [zst_at]
      by_cases c4 : x = s + m
      · rw [c4, upd_at, if_pos (by omega), Nat.add_sub_cancel]
      · rw [upd_ne _ _ c4, y2 x hx]
        by_cases c5 : m ≤ x ∧ x - m < s
        · rw [if_pos c5, if_pos (by omega)]
        · rw [if_neg c5, if_neg (by omega)])
    rw [s170_72]
    have hle := mn_M (x := h (s + m)) (y := f s + adN T (R g)) (by omega) (by omega)
    simp (disch := first | omega | assumption | decide) only [s170_74, s170_75, s170_76, s170_79, s170_82, s170_83, s170_86, s170_88, s170_89, s170_90, s170_91, s170_94, s170_96, s170_97, s170_98, s170_99, s170_100, s170_103, s170_105, s170_106, s170_107, s170_108, s170_111, s170_112, s170_113, s170_116, s170_117, s170_120, s170_121, s170_124, Option.toList_some, Option.toList_none, List.cons_append, List.nil_append, if_true, if_false, eq_self, n1n0, ne10, nI_ltI, nI_add, c1, e51, e40, eq1, c_apart, ad_N, c_least, mn_L, if_true]
    exact k
theorem lay_out {g : Nat} {f : Nat → Nat} (ho : okP D G B C W lim bear) (hm : mP D G B C W lim bear X) (hD : 0 < D) (hr : okR B R) (hg : g < 7) (hw : mW (X 40) 0 R) (hf : ∀ x, x < 568 → X 51 x = nI (f x) ∧ lst 99999999 (cpS D W R g x) (f x)) (hQ : ∀ Z l3 l4, suO 99999999 D W R (fun t => t < 11) g 52 X Z → zev 170 135 [.ref 39, .int (nI g), .int (nI 0), l3, l4] [] Z Q) : ∀ (n T : Nat) (Y : zM) (l3 l4 : Value), T + n = 11 → suO 99999999 D W R (fun t => t < T) g 52 X Y → zev 170 26 [.ref 39, .int (nI g), .int (nI T), l3, l4] [] Y Q := by
  have b := hr.1 g hg
  have hw9 := wN_le (D := D) ho.2.2.2.2.1 (R 29 + 1)
  intro n
  induction n with
  | zero =>
    intro T Y l3 l4 hT hY
    have q : T = 11 := by omega
    subst q
    have k := hQ Y l3 l4 hY
    rw [s170_26]
    simp (disch := first | omega | assumption | decide) only [s170_27, s170_29, s170_133, s170_134, nI_ltI, Nat.lt_irrefl, if_false]
    exact k
  | succ n ih =>
    intro T Y l3 l4 hT hY
    have hlt : T < 11 := by omega
    obtain ⟨y1, h, y2⟩ := id hY
    have w40 : mW (Y 40) 0 R := by rw [y1 40 (by decide)]; exact hw
    have e7 : Y 40 (7 + g) = nI (R (7 + g)) := at0 w40 (by omega)
    have e14 : Y 40 (14 + g) = nI (R (14 + g)) := at0 w40 (by omega)
    have hto := fun Q => mm_tomorrow (X := Y) (Q := Q) (x := 0) ho (mP_of hm (fun c hc => y1 c (by omega))) (fun i hi => w40 i hi) hr hD (by omega)
    have hrd := rdv_nI (wN D W (R 29 + 1)) (by omega) T (by omega)
    have k := lay_in (X := Y) (Q := Q) (D := D) (W := W) (h := h) (f := f) hr hg (show T ≤ 10 by omega) w40 (fun x hx => by rw [y1 51 (by decide)]; exact hf x hx) (fun x hx => (y2 x hx).2) (fun Z l4 hZ => by
      have kk := ih (T + 1) Z (.int (nI (R (7 + g) * trN D W R g T))) l4 (by omega) ⟨fun c hc => (hZ.1 c hc).trans (y1 c hc), hZ.2⟩
      simp (disch := first | omega | assumption | decide) only [s170_127, s170_130, nI_add]
      exact kk) (568 - R (7 + g) * trN D W R g T) 0 Y (by omega) (fun _ _ => rfl) (fun x hx => by rw [if_neg (by omega)]; exact (y2 x hx).1)
    rw [s170_26]
    by_cases c : 0 < R (14 + g)
    · have e5 : rdv (nI (wN D W (R 29 + 1)) + nI T - nI 5 + nI 2) = nI (trN D W R g T) := by
        rw [hrd.1]; unfold trN rdN; rw [if_pos c]
      have n7 := nI_add 7 g
      have n14 := nI_add 14 g
      simp (disch := first | omega | assumption | decide) only [e170, s170_0, s170_1, s170_3, s170_6, s170_9, s170_10, s170_13, s170_14, s170_17, s170_18, s170_21, s170_24, s170_25, s170_27, s170_29, s170_32, s170_33, s170_36, s170_38, s170_39, s170_40, s170_41, s170_42, s170_43, s170_46, s170_47, s170_48, s170_51, s170_53, s170_54, s170_55, s170_56, s170_59, s170_60, s170_63, s170_64, s170_67, s170_68, s170_69, s170_70, s170_74, s170_75, s170_76, s170_79, s170_82, s170_83, s170_86, s170_88, s170_89, s170_90, s170_91, s170_94, s170_96, s170_97, s170_98, s170_99, s170_100, s170_103, s170_105, s170_106, s170_107, s170_108, s170_111, s170_112, s170_113, s170_116, s170_117, s170_120, s170_121, s170_124, s170_127, s170_130, s170_133, s170_134, s170_136, s170_139, s170_142, s170_143, s170_146, s170_147, s170_148, s170_151, s170_152, s170_153, s170_154, s170_157, s170_160, Option.toList_some, Option.toList_none, List.cons_append, List.nil_append, if_true, if_false, eq_self, n1n0, ne10, nI_ltI, hlt, n7, n14, e7, e14, hto, c, c_reading, e5, pk_mul]
      exact k
    · have e5 : rdv (nI (wN D W (R 29 + 1)) + nI T - nI 5 + nI 0) = nI (trN D W R g T) := by
        rw [hrd.2]; unfold trN rdN; rw [if_neg c]
      have n7 := nI_add 7 g
      have n14 := nI_add 14 g
      simp (disch := first | omega | assumption | decide) only [e170, s170_0, s170_1, s170_3, s170_6, s170_9, s170_10, s170_13, s170_14, s170_17, s170_18, s170_21, s170_24, s170_25, s170_27, s170_29, s170_32, s170_33, s170_36, s170_38, s170_39, s170_40, s170_41, s170_42, s170_43, s170_46, s170_47, s170_48, s170_51, s170_53, s170_54, s170_55, s170_56, s170_59, s170_60, s170_63, s170_64, s170_67, s170_68, s170_69, s170_70, s170_74, s170_75, s170_76, s170_79, s170_82, s170_83, s170_86, s170_88, s170_89, s170_90, s170_91, s170_94, s170_96, s170_97, s170_98, s170_99, s170_100, s170_103, s170_105, s170_106, s170_107, s170_108, s170_111, s170_112, s170_113, s170_116, s170_117, s170_120, s170_121, s170_124, s170_127, s170_130, s170_133, s170_134, s170_136, s170_139, s170_142, s170_143, s170_146, s170_147, s170_148, s170_151, s170_152, s170_153, s170_154, s170_157, s170_160, Option.toList_some, Option.toList_none, List.cons_append, List.nil_append, if_true, if_false, eq_self, n1n0, ne10, nI_ltI, hlt, n7, n14, e7, e14, hto, c, c_reading, e5, pk_mul]
      exact k
theorem laC_loop {l1 l3 l4 : Value} {p : Nat → Int32} (h52 : X 52 = p) (hQ : ∀ p2, (∀ x, x < 568 → p2 x = p x) → Q none (zst X 51 p2)) : ∀ (n s : Nat) (p2 : Nat → Int32), s + n = 568 → (∀ x, x < s → p2 x = p x) → zev 170 135 [.ref 39, l1, .int (nI s), l3, l4] [] (zst X 51 p2) Q := by
  intro n
  induction n with
  | zero =>
    intro s p2 hs hp
    have q : s = 568 := by omega
    subst q
    rw [s170_135]
    simp (disch := first | omega | assumption | decide) only [e170, s170_0, s170_1, s170_3, s170_6, s170_9, s170_10, s170_13, s170_14, s170_17, s170_18, s170_21, s170_24, s170_25, s170_27, s170_29, s170_32, s170_33, s170_36, s170_38, s170_39, s170_40, s170_41, s170_42, s170_43, s170_46, s170_47, s170_48, s170_51, s170_53, s170_54, s170_55, s170_56, s170_59, s170_60, s170_63, s170_64, s170_67, s170_68, s170_69, s170_70, s170_74, s170_75, s170_76, s170_79, s170_82, s170_83, s170_86, s170_88, s170_89, s170_90, s170_91, s170_94, s170_96, s170_97, s170_98, s170_99, s170_100, s170_103, s170_105, s170_106, s170_107, s170_108, s170_111, s170_112, s170_113, s170_116, s170_117, s170_120, s170_121, s170_124, s170_127, s170_130, s170_133, s170_134, s170_136, s170_139, s170_142, s170_143, s170_146, s170_147, s170_148, s170_151, s170_152, s170_153, s170_154, s170_157, s170_160, Option.toList_some, Option.toList_none, List.cons_append, List.nil_append, if_true, if_false, eq_self, n1n0, ne10, nI_ltI, Nat.lt_irrefl]
    exact hQ p2 hp
  | succ n ih =>
    intro s p2 hs hp
    have hlt : s < 568 := by omega
    have k := ih (s + 1) (upd p2 s (p s)) (by omega) (fun x hx => by
      by_cases c : x = s
      · rw [c, upd_at]
      · rw [upd_ne _ _ c]; exact hp x (by omega))
    have e1 : zst X 51 p2 52 s = p s := by rw [zst_ne _ _ (by decide), h52]
    rw [s170_135]
    simp (disch := first | omega | assumption | decide) only [e170, s170_0, s170_1, s170_3, s170_6, s170_9, s170_10, s170_13, s170_14, s170_17, s170_18, s170_21, s170_24, s170_25, s170_27, s170_29, s170_32, s170_33, s170_36, s170_38, s170_39, s170_40, s170_41, s170_42, s170_43, s170_46, s170_47, s170_48, s170_51, s170_53, s170_54, s170_55, s170_56, s170_59, s170_60, s170_63, s170_64, s170_67, s170_68, s170_69, s170_70, s170_74, s170_75, s170_76, s170_79, s170_82, s170_83, s170_86, s170_88, s170_89, s170_90, s170_91, s170_94, s170_96, s170_97, s170_98, s170_99, s170_100, s170_103, s170_105, s170_106, s170_107, s170_108, s170_111, s170_112, s170_113, s170_116, s170_117, s170_120, s170_121, s170_124, s170_127, s170_130, s170_133, s170_134, s170_136, s170_139, s170_142, s170_143, s170_146, s170_147, s170_148, s170_151, s170_152, s170_153, s170_154, s170_157, s170_160, Option.toList_some, Option.toList_none, List.cons_append, List.nil_append, if_true, if_false, eq_self, n1n0, ne10, nI_ltI, hlt, nI_add, e1, zst_at, zst_zst]
    exact k
/-- the reference's sums of the first g glasses -/
def stM (D : Nat) (W R : Nat → Nat) (g : Nat) (X Y : zM) : Prop := (∀ c, c ≠ 51 → c ≠ 52 → Y c = X c) ∧ ∃ f : Nat → Nat, ∀ x, x < 568 → Y 51 x = nI (f x) ∧ lst 99999999 (cpS D W R g x) (f x)
theorem c_layGlass {g : Nat} {Y : zM} (ho : okP D G B C W lim bear) (hm : mP D G B C W lim bear X) (hD : 0 < D) (hr : okR B R) (hg : g < 7) (hw : mW (X 40) 0 R) (hY : stM D W R g X Y) (hQ : ∀ V, stM D W R (g + 1) X V → Q none V) : zcl 170 [.ref 39, .int (nI g)] Y Q := by
  obtain ⟨y1, f, y2⟩ := hY
  simp (disch := first | omega | assumption | decide) only [e170, s170_0, s170_1, s170_3, s170_6, s170_9, s170_10, s170_13, s170_14, s170_17, s170_18, s170_21, s170_24, s170_25, s170_27, s170_29, s170_32, s170_33, s170_36, s170_38, s170_39, s170_40, s170_41, s170_42, s170_43, s170_46, s170_47, s170_48, s170_51, s170_53, s170_54, s170_55, s170_56, s170_59, s170_60, s170_63, s170_64, s170_67, s170_68, s170_69, s170_70, s170_74, s170_75, s170_76, s170_79, s170_82, s170_83, s170_86, s170_88, s170_89, s170_90, s170_91, s170_94, s170_96, s170_97, s170_98, s170_99, s170_100, s170_103, s170_105, s170_106, s170_107, s170_108, s170_111, s170_112, s170_113, s170_116, s170_117, s170_120, s170_121, s170_124, s170_127, s170_130, s170_133, s170_134, s170_136, s170_139, s170_142, s170_143, s170_146, s170_147, s170_148, s170_151, s170_152, s170_153, s170_154, s170_157, s170_160, Option.toList_some, Option.toList_none, List.cons_append, List.nil_append, if_true, if_false, eq_self, n1n0, ne10]
  have k := laF_loop (X := Y) (Q := Q) (l1 := .int (nI g)) (l3 := zU) (l4 := zU) (fun p hp => ?_) 568 0 (Y 52) (by omega) (fun x hx => absurd hx (by omega))
  · rw [zst_self] at k
    exact k
  · refine lay_out (f := f) ho (mP_of hm (fun c hc => by rw [zst_ne _ _ (by omega)]; exact y1 c (by omega) (by omega))) hD hr hg (by rw [zst_ne _ _ (by decide), y1 40 (by decide) (by decide)]; exact hw) (fun x hx => by rw [zst_ne _ _ (by decide)]; exact y2 x hx) (fun Z l3 l4 hZ => ?_) 11 0 _ _ _ (by omega) ⟨fun _ _ => rfl, fun _ => 99999999, fun x hx => ⟨by rw [zst_at]; exact hp x hx, lst_no (fun c k => by obtain ⟨t, _, _, h1, _⟩ := k; omega)⟩⟩
    obtain ⟨z1, h2, z2⟩ := hZ
    have k := laC_loop (X := Z) (Q := Q) (l1 := .int (nI g)) (l3 := l3) (l4 := l4) rfl (fun p2 hp2 => hQ _ ⟨fun c c1 c2 => ?_, h2, fun x hx => ?_⟩) 568 0 (Z 51) (by omega) (fun x hx => absurd hx (by omega))
    · rw [zst_self] at k
      exact k
    · rw [zst_ne _ _ c1, z1 c c2, zst_ne _ _ c2]; exact y1 c c1 c2
    · rw [zst_at, hp2 x hx]
      refine ⟨(z2 x hx).1, lst_cg (z2 x hx).2 (fun c => ⟨?_, ?_⟩)⟩
      · rintro ⟨t, s1, c1, _, w2, w3, w4, w5⟩
        exact ⟨t, s1, c1, w2, w3, w4, w5⟩
      · rintro ⟨t, s1, c1, w2, w3, w4, w5⟩
        exact ⟨t, s1, c1, by omega, w2, w3, w4, w5⟩
theorem stz_loop {l1 l4 : Value} (hQ : ∀ p, (∀ x, x < 568 → p x = nI (if x = 0 then 0 else 99999999)) → zev 186 61 [.ref 39, l1, .int (nI 0), .int (nI 0), l4] [] (zst X 51 p) Q) : ∀ (n s : Nat) (p : Nat → Int32), s + n = 568 → (∀ x, x < s → p x = nI (if x = 0 then 0 else 99999999)) → zev 186 29 [.ref 39, l1, .int (nI 0), .int (nI s), l4] [] (zst X 51 p) Q := by
  intro n
  induction n with
  | zero =>
    intro s p hs hp
    have q : s = 568 := by omega
    subst q
    have k := hQ p hp
    rw [s186_29]
    simp (disch := first | omega | assumption | decide) only [s186_30, s186_33, s186_59, s186_60, nI_ltI, Nat.lt_irrefl, if_false]
    exact k
  | succ n ih =>
    intro s p hs hp
    have hlt : s < 568 := by omega
    have k := ih (s + 1) (upd p s (nI (if s = 0 then 0 else 99999999))) (by omega) (fun x hx => by
      by_cases c : x = s
      · rw [c, upd_at]
      · rw [upd_ne _ _ c]; exact hp x (by omega))
    rw [s186_29]
    by_cases c0 : s = 0
    · rw [if_pos c0] at k
      have c1 : nI s = nI 0 := by rw [c0]
      have c2 : 0 < 568 := by omega
      simp (disch := first | omega | assumption | decide) only [e186, s186_0, s186_1, s186_2, s186_3, s186_6, s186_9, s186_12, s186_14, s186_15, s186_16, s186_19, s186_22, s186_24, s186_25, s186_26, s186_27, s186_28, s186_30, s186_33, s186_36, s186_37, s186_40, s186_41, s186_42, s186_45, s186_46, s186_49, s186_52, s186_53, s186_56, s186_59, s186_60, s186_62, s186_63, s186_66, s186_69, s186_70, s186_71, s186_74, s186_75, s186_76, s186_79, s186_81, s186_82, s186_83, s186_84, s186_85, s186_86, s186_89, s186_92, s186_93, s186_96, s186_97, s186_98, s186_101, s186_102, s186_105, s186_106, s186_107, s186_110, s186_111, s186_112, s186_116, s186_119, s186_122, s186_124, s186_125, s186_126, s186_127, s186_130, s186_131, s186_132, s186_135, s186_137, s186_138, s186_141, s186_144, s186_145, s186_146, s186_149, s186_152, s186_153, s186_156, s186_159, s186_160, s186_163, s186_164, Option.toList_some, Option.toList_none, List.cons_append, List.nil_append, if_true, if_false, eq_self, n1n0, ne10, nI_ltI, c2, c1, nI_add, zst_at, zst_zst, c0]
      rw [c0] at k
      exact k
    · rw [if_neg c0] at k
      have c1 : ¬ nI s = nI 0 := fun q => c0 ((nI_eq (by omega) (by omega)).mp q)
      simp (disch := first | omega | assumption | decide) only [e186, s186_0, s186_1, s186_2, s186_3, s186_6, s186_9, s186_12, s186_14, s186_15, s186_16, s186_19, s186_22, s186_24, s186_25, s186_26, s186_27, s186_28, s186_30, s186_33, s186_36, s186_37, s186_40, s186_41, s186_42, s186_45, s186_46, s186_49, s186_52, s186_53, s186_56, s186_59, s186_60, s186_62, s186_63, s186_66, s186_69, s186_70, s186_71, s186_74, s186_75, s186_76, s186_79, s186_81, s186_82, s186_83, s186_84, s186_85, s186_86, s186_89, s186_92, s186_93, s186_96, s186_97, s186_98, s186_101, s186_102, s186_105, s186_106, s186_107, s186_110, s186_111, s186_112, s186_116, s186_119, s186_122, s186_124, s186_125, s186_126, s186_127, s186_130, s186_131, s186_132, s186_135, s186_137, s186_138, s186_141, s186_144, s186_145, s186_146, s186_149, s186_152, s186_153, s186_156, s186_159, s186_160, s186_163, s186_164, Option.toList_some, Option.toList_none, List.cons_append, List.nil_append, if_true, if_false, eq_self, n1n0, ne10, nI_ltI, hlt, c1, nI_add, zst_at, zst_zst]
      exact k
theorem fwM_loop {r : Nat} {v : Int32} {f : Nat → Nat} (hr : okR B R) (hG : G ≤ 7) (hr9 : r ≤ 9) (hw : ¬ wS R G = 0) (hf : ∀ x, x < 568 → X 51 x = nI (f x) ∧ lst 99999999 (cpS D W R G x) (f x)) (hv : ansS D G W R r v) (hQ : Q (some (.int v)) X) : ∀ (n s m : Nat), s + n = 568 → lst 99999999 (fun c => ∃ x, x / wS R G = r ∧ x < s ∧ cpS D W R G x c) m → zev 186 114 [.ref 39, .int (nI r), .int (nI (wS R G)), .int (nI m), .int (nI s)] [] X Q := by
  have hw63 := wS_le hr hG
  have hw0 : ¬ nI (wS R G) = nI 0 := fun q => hw ((nI_eq (by omega) (by omega)).mp q)
  intro n
  induction n with
  | zero =>
    intro s m hs hm
    have q : s = 568 := by omega
    subst q
    have hl : lst 99999999 (finP D G W R r) m := lst_cg hm (fun c => by
      constructor
      · rintro ⟨x, h1, h2, h3⟩
        exact ⟨x, h1, h3⟩
      · rintro ⟨x, h1, h3⟩
        have h6 : x ≤ 9 * wS R G := (cpS_le hr G x c hG h3).1
        exact ⟨x, h1, by omega, h3⟩)
    have hv2 := hv.2 hw 99999999 m (by decide) hl
    have ml := hl.1
    rw [s186_114]
    by_cases c : m < 99999999
    · rw [if_pos c] at hv2
      simp (disch := first | omega | assumption | decide) only [e186, s186_0, s186_1, s186_2, s186_3, s186_6, s186_9, s186_12, s186_14, s186_15, s186_16, s186_19, s186_22, s186_24, s186_25, s186_26, s186_27, s186_28, s186_30, s186_33, s186_36, s186_37, s186_40, s186_41, s186_42, s186_45, s186_46, s186_49, s186_52, s186_53, s186_56, s186_59, s186_60, s186_62, s186_63, s186_66, s186_69, s186_70, s186_71, s186_74, s186_75, s186_76, s186_79, s186_81, s186_82, s186_83, s186_84, s186_85, s186_86, s186_89, s186_92, s186_93, s186_96, s186_97, s186_98, s186_101, s186_102, s186_105, s186_106, s186_107, s186_110, s186_111, s186_112, s186_116, s186_119, s186_122, s186_124, s186_125, s186_126, s186_127, s186_130, s186_131, s186_132, s186_135, s186_137, s186_138, s186_141, s186_144, s186_145, s186_146, s186_149, s186_152, s186_153, s186_156, s186_159, s186_160, s186_163, s186_164, Option.toList_some, Option.toList_none, List.cons_append, List.nil_append, if_true, if_false, eq_self, n1n0, ne10, nI_ltI, Nat.lt_irrefl, c]
      rw [← hv2]; exact hQ
    · rw [if_neg c] at hv2
      simp (disch := first | omega | assumption | decide) only [e186, s186_0, s186_1, s186_2, s186_3, s186_6, s186_9, s186_12, s186_14, s186_15, s186_16, s186_19, s186_22, s186_24, s186_25, s186_26, s186_27, s186_28, s186_30, s186_33, s186_36, s186_37, s186_40, s186_41, s186_42, s186_45, s186_46, s186_49, s186_52, s186_53, s186_56, s186_59, s186_60, s186_62, s186_63, s186_66, s186_69, s186_70, s186_71, s186_74, s186_75, s186_76, s186_79, s186_81, s186_82, s186_83, s186_84, s186_85, s186_86, s186_89, s186_92, s186_93, s186_96, s186_97, s186_98, s186_101, s186_102, s186_105, s186_106, s186_107, s186_110, s186_111, s186_112, s186_116, s186_119, s186_122, s186_124, s186_125, s186_126, s186_127, s186_130, s186_131, s186_132, s186_135, s186_137, s186_138, s186_141, s186_144, s186_145, s186_146, s186_149, s186_152, s186_153, s186_156, s186_159, s186_160, s186_163, s186_164, Option.toList_some, Option.toList_none, List.cons_append, List.nil_append, if_true, if_false, eq_self, n1n0, ne10, nI_ltI, Nat.lt_irrefl, c]
      rw [← hv2]; exact hQ
  | succ n ih =>
    intro s m hs hm
    have hlt : s < 568 := by omega
    obtain ⟨f1, f2⟩ := hf s (by omega)
    have fl := f2.1
    have ml := hm.1
    have ed : nI s / nI (wS R G) = nI (s / wS R G) := pk_div (by omega) (by omega) (by omega)
    have hdl : s / wS R G ≤ s := Nat.div_le_self _ _
    rw [s186_114]
    by_cases c : s / wS R G = r
    · have k := ih (s + 1) (min m (f s)) (by omega) (lst_cg (lst_min hm f2) (fun c2 => by
        constructor
        · rintro (⟨x, h1, h2, h3⟩ | h3)
          · exact ⟨x, h1, by omega, h3⟩
          · exact ⟨s, c, by omega, h3⟩
        · rintro ⟨x, h1, h2, h3⟩
          by_cases cx : x = s
          · subst cx; exact Or.inr h3
          · exact Or.inl ⟨x, h1, by omega, h3⟩))
      have c1 : nI (s / wS R G) = nI r := by rw [c]
      simp (disch := first | omega | assumption | decide) only [e186, s186_0, s186_1, s186_2, s186_3, s186_6, s186_9, s186_12, s186_14, s186_15, s186_16, s186_19, s186_22, s186_24, s186_25, s186_26, s186_27, s186_28, s186_30, s186_33, s186_36, s186_37, s186_40, s186_41, s186_42, s186_45, s186_46, s186_49, s186_52, s186_53, s186_56, s186_59, s186_60, s186_62, s186_63, s186_66, s186_69, s186_70, s186_71, s186_74, s186_75, s186_76, s186_79, s186_81, s186_82, s186_83, s186_84, s186_85, s186_86, s186_89, s186_92, s186_93, s186_96, s186_97, s186_98, s186_101, s186_102, s186_105, s186_106, s186_107, s186_110, s186_111, s186_112, s186_116, s186_119, s186_122, s186_124, s186_125, s186_126, s186_127, s186_130, s186_131, s186_132, s186_135, s186_137, s186_138, s186_141, s186_144, s186_145, s186_146, s186_149, s186_152, s186_153, s186_156, s186_159, s186_160, s186_163, s186_164, Option.toList_some, Option.toList_none, List.cons_append, List.nil_append, if_true, if_false, eq_self, n1n0, ne10, nI_ltI, hlt, hw0, ed, c1, f1, c_least, mn_L, nI_add]
      exact k
    · have k := ih (s + 1) m (by omega) (lst_cg hm (fun c2 => by
        constructor
        · rintro ⟨x, h1, h2, h3⟩
          exact ⟨x, h1, by omega, h3⟩
        · rintro ⟨x, h1, h2, h3⟩
          by_cases cx : x = s
          · subst cx; exact absurd h1 c
          · exact ⟨x, h1, by omega, h3⟩))
      have c1 : ¬ nI (s / wS R G) = nI r := fun q => c ((nI_eq (by omega) (by omega)).mp q)
      simp (disch := first | omega | assumption | decide) only [e186, s186_0, s186_1, s186_2, s186_3, s186_6, s186_9, s186_12, s186_14, s186_15, s186_16, s186_19, s186_22, s186_24, s186_25, s186_26, s186_27, s186_28, s186_30, s186_33, s186_36, s186_37, s186_40, s186_41, s186_42, s186_45, s186_46, s186_49, s186_52, s186_53, s186_56, s186_59, s186_60, s186_62, s186_63, s186_66, s186_69, s186_70, s186_71, s186_74, s186_75, s186_76, s186_79, s186_81, s186_82, s186_83, s186_84, s186_85, s186_86, s186_89, s186_92, s186_93, s186_96, s186_97, s186_98, s186_101, s186_102, s186_105, s186_106, s186_107, s186_110, s186_111, s186_112, s186_116, s186_119, s186_122, s186_124, s186_125, s186_126, s186_127, s186_130, s186_131, s186_132, s186_135, s186_137, s186_138, s186_141, s186_144, s186_145, s186_146, s186_149, s186_152, s186_153, s186_156, s186_159, s186_160, s186_163, s186_164, Option.toList_some, Option.toList_none, List.cons_append, List.nil_append, if_true, if_false, eq_self, n1n0, ne10, nI_ltI, hlt, hw0, ed, c1, nI_add]
      exact k
theorem stepsM {r : Nat} {v : Int32} (ho : okP D G B C W lim bear) (hm : mP D G B C W lim bear X) (hD : 0 < D) (hr : okR B R) (hw : mW (X 40) 0 R) (hr9 : r ≤ 9) (hv : ansS D G W R r v) (hQ : ∀ Z, (∀ c, c ≠ 51 → c ≠ 52 → Z c = X c) → Q (some (.int v)) Z) : ∀ (n g : Nat) (Y : zM) (l4 : Value), g + n = G → stM D W R g X Y → zev 186 61 [.ref 39, .int (nI r), .int (nI (wS R g)), .int (nI g), l4] [] Y Q := by
  have hG := ho.2.1
  have hw63 := wS_le hr hG
  intro n
  induction n with
  | zero =>
    intro g Y l4 hg hY
    have q : g = G := by omega
    subst q
    have hcg : Y 39 9 = nI g := by rw [hY.1 39 (by omega) (by omega)]; exact hm.2.1
    have hQ2 := hQ Y hY.1
    obtain ⟨y1, f, y4⟩ := hY
    rw [s186_61]
    by_cases c : wS R g = 0
    · have hv1 := hv.1 c
      rw [c]
      by_cases c5 : r = 5
      · rw [if_pos c5] at hv1
        simp (disch := first | omega | assumption | decide) only [e186, s186_0, s186_1, s186_2, s186_3, s186_6, s186_9, s186_12, s186_14, s186_15, s186_16, s186_19, s186_22, s186_24, s186_25, s186_26, s186_27, s186_28, s186_30, s186_33, s186_36, s186_37, s186_40, s186_41, s186_42, s186_45, s186_46, s186_49, s186_52, s186_53, s186_56, s186_59, s186_60, s186_62, s186_63, s186_66, s186_69, s186_70, s186_71, s186_74, s186_75, s186_76, s186_79, s186_81, s186_82, s186_83, s186_84, s186_85, s186_86, s186_89, s186_92, s186_93, s186_96, s186_97, s186_98, s186_101, s186_102, s186_105, s186_106, s186_107, s186_110, s186_111, s186_112, s186_116, s186_119, s186_122, s186_124, s186_125, s186_126, s186_127, s186_130, s186_131, s186_132, s186_135, s186_137, s186_138, s186_141, s186_144, s186_145, s186_146, s186_149, s186_152, s186_153, s186_156, s186_159, s186_160, s186_163, s186_164, Option.toList_some, Option.toList_none, List.cons_append, List.nil_append, if_true, if_false, eq_self, n1n0, ne10, hcg, nI_ltI, nI_eq, Nat.lt_irrefl, c5]
        rw [← hv1]; exact hQ2
      · rw [if_neg c5] at hv1
        simp (disch := first | omega | assumption | decide) only [e186, s186_0, s186_1, s186_2, s186_3, s186_6, s186_9, s186_12, s186_14, s186_15, s186_16, s186_19, s186_22, s186_24, s186_25, s186_26, s186_27, s186_28, s186_30, s186_33, s186_36, s186_37, s186_40, s186_41, s186_42, s186_45, s186_46, s186_49, s186_52, s186_53, s186_56, s186_59, s186_60, s186_62, s186_63, s186_66, s186_69, s186_70, s186_71, s186_74, s186_75, s186_76, s186_79, s186_81, s186_82, s186_83, s186_84, s186_85, s186_86, s186_89, s186_92, s186_93, s186_96, s186_97, s186_98, s186_101, s186_102, s186_105, s186_106, s186_107, s186_110, s186_111, s186_112, s186_116, s186_119, s186_122, s186_124, s186_125, s186_126, s186_127, s186_130, s186_131, s186_132, s186_135, s186_137, s186_138, s186_141, s186_144, s186_145, s186_146, s186_149, s186_152, s186_153, s186_156, s186_159, s186_160, s186_163, s186_164, Option.toList_some, Option.toList_none, List.cons_append, List.nil_append, if_true, if_false, eq_self, n1n0, ne10, hcg, nI_ltI, nI_eq, Nat.lt_irrefl, c5]
        rw [← hv1]; exact hQ2
    · have k := fwM_loop (X := Y) (Q := Q) (f := f) hr hG hr9 c y4 hv hQ2 568 0 99999999 (by omega) (lst_no (fun c q => by obtain ⟨x, h1, h2, _⟩ := q; omega))
      simp (disch := first | omega | assumption | decide) only [e186, s186_0, s186_1, s186_2, s186_3, s186_6, s186_9, s186_12, s186_14, s186_15, s186_16, s186_19, s186_22, s186_24, s186_25, s186_26, s186_27, s186_28, s186_30, s186_33, s186_36, s186_37, s186_40, s186_41, s186_42, s186_45, s186_46, s186_49, s186_52, s186_53, s186_56, s186_59, s186_60, s186_62, s186_63, s186_66, s186_69, s186_70, s186_71, s186_74, s186_75, s186_76, s186_79, s186_81, s186_82, s186_83, s186_84, s186_85, s186_86, s186_89, s186_92, s186_93, s186_96, s186_97, s186_98, s186_101, s186_102, s186_105, s186_106, s186_107, s186_110, s186_111, s186_112, s186_116, s186_119, s186_122, s186_124, s186_125, s186_126, s186_127, s186_130, s186_131, s186_132, s186_135, s186_137, s186_138, s186_141, s186_144, s186_145, s186_146, s186_149, s186_152, s186_153, s186_156, s186_159, s186_160, s186_163, s186_164, Option.toList_some, Option.toList_none, List.cons_append, List.nil_append, if_true, if_false, eq_self, n1n0, ne10, hcg, nI_ltI, nI_eq, Nat.lt_irrefl, c]
      exact k
  | succ n ih =>
    intro g Y l4 hg hY
    have hlt : g < G := by omega
    have hcg : Y 39 9 = nI G := by rw [hY.1 39 (by omega) (by omega)]; exact hm.2.1
    rw [s186_61]
    simp (disch := first | omega | assumption | decide) only [e186, s186_0, s186_1, s186_2, s186_3, s186_6, s186_9, s186_12, s186_14, s186_15, s186_16, s186_19, s186_22, s186_24, s186_25, s186_26, s186_27, s186_28, s186_30, s186_33, s186_36, s186_37, s186_40, s186_41, s186_42, s186_45, s186_46, s186_49, s186_52, s186_53, s186_56, s186_59, s186_60, s186_62, s186_63, s186_66, s186_69, s186_70, s186_71, s186_74, s186_75, s186_76, s186_79, s186_81, s186_82, s186_83, s186_84, s186_85, s186_86, s186_89, s186_92, s186_93, s186_96, s186_97, s186_98, s186_101, s186_102, s186_105, s186_106, s186_107, s186_110, s186_111, s186_112, s186_116, s186_119, s186_122, s186_124, s186_125, s186_126, s186_127, s186_130, s186_131, s186_132, s186_135, s186_137, s186_138, s186_141, s186_144, s186_145, s186_146, s186_149, s186_152, s186_153, s186_156, s186_159, s186_160, s186_163, s186_164, Option.toList_some, Option.toList_none, List.cons_append, List.nil_append, if_true, if_false, eq_self, n1n0, ne10, hcg, nI_ltI, hlt]
    refine c_layGlass (X := X) ho hm hD hr (by omega) hw hY (fun V hV => ?_)
    have e7 : V 40 (7 + g) = nI (R (7 + g)) := by rw [hV.1 40 (by omega) (by omega)]; exact at0 hw (by omega)
    simp (disch := first | omega | assumption | decide) only [e186, s186_0, s186_1, s186_2, s186_3, s186_6, s186_9, s186_12, s186_14, s186_15, s186_16, s186_19, s186_22, s186_24, s186_25, s186_26, s186_27, s186_28, s186_30, s186_33, s186_36, s186_37, s186_40, s186_41, s186_42, s186_45, s186_46, s186_49, s186_52, s186_53, s186_56, s186_59, s186_60, s186_62, s186_63, s186_66, s186_69, s186_70, s186_71, s186_74, s186_75, s186_76, s186_79, s186_81, s186_82, s186_83, s186_84, s186_85, s186_86, s186_89, s186_92, s186_93, s186_96, s186_97, s186_98, s186_101, s186_102, s186_105, s186_106, s186_107, s186_110, s186_111, s186_112, s186_116, s186_119, s186_122, s186_124, s186_125, s186_126, s186_127, s186_130, s186_131, s186_132, s186_135, s186_137, s186_138, s186_141, s186_144, s186_145, s186_146, s186_149, s186_152, s186_153, s186_156, s186_159, s186_160, s186_163, s186_164, Option.toList_some, Option.toList_none, List.cons_append, List.nil_append, if_true, if_false, eq_self, n1n0, ne10, nI_add, e7]
    exact ih (g + 1) V l4 (by omega) hV
end SM
theorem ok_steps (x : Int32) : okCall 159 186 [.int x] := by
  rintro ⟨⟨D, G, B, C, W, lim, bear⟩, R, ⟨u, Rs⟩, ⟨kb, Ri, si⟩, sd, ⟨t, tx, fa⟩, ⟨tn, tg, tr, en, eg, et⟩⟩ ha
  have hD := ha.1.1
  have hG := ha.1.2.1
  have hr := ha.2.1.1
  rcases rng x 0 9 (by decide) (by decide) with h | ⟨h, hh2⟩ | ⟨j, hj0, hj, rfl⟩
  · refine ⟨_, -1000000002, ha, okC_ro ?_, okM_ro ?_⟩
    · rintro X Q ⟨nx, k, ns, ni, h1, h2, h3, h4, h5, h6, h7, h8⟩
      simp (disch := first | omega | assumption | decide) only [e159, s159_0, s159_1, s159_2, s159_4, s159_7, s159_10, s159_12, s159_13, s159_14, s159_17, s159_20, s159_22, s159_25, s159_26, s159_29, s159_30, s159_33, Option.toList_some, Option.toList_none, List.cons_append, List.nil_append, if_true, if_false, eq_self, n1n0, ne10, c_isOut, if_pos h]
    · rintro X Q ⟨h1, h2, h3, h4, h5, h6, h7⟩
      simp (disch := first | omega | assumption | decide) only [e186, s186_0, s186_1, s186_2, s186_3, s186_6, s186_9, s186_12, s186_14, s186_15, s186_16, s186_19, s186_22, s186_24, s186_25, s186_26, s186_27, s186_28, s186_30, s186_33, s186_36, s186_37, s186_40, s186_41, s186_42, s186_45, s186_46, s186_49, s186_52, s186_53, s186_56, s186_59, s186_60, s186_62, s186_63, s186_66, s186_69, s186_70, s186_71, s186_74, s186_75, s186_76, s186_79, s186_81, s186_82, s186_83, s186_84, s186_85, s186_86, s186_89, s186_92, s186_93, s186_96, s186_97, s186_98, s186_101, s186_102, s186_105, s186_106, s186_107, s186_110, s186_111, s186_112, s186_116, s186_119, s186_122, s186_124, s186_125, s186_126, s186_127, s186_130, s186_131, s186_132, s186_135, s186_137, s186_138, s186_141, s186_144, s186_145, s186_146, s186_149, s186_152, s186_153, s186_156, s186_159, s186_160, s186_163, s186_164, Option.toList_some, Option.toList_none, List.cons_append, List.nil_append, if_true, if_false, eq_self, n1n0, ne10, li_0, li_1, li_255, li_48, li_57, li_60, li_30, li_9, li_10, li_12, li_2, li_100, c_in, if_pos h]
  · refine ⟨_, -1000000002, ha, okC_ro ?_, okM_ro ?_⟩
    · rintro X Q ⟨nx, k, ns, ni, h1, h2, h3, h4, h5, h6, h7, h8⟩
      simp (disch := first | omega | assumption | decide) only [e159, s159_0, s159_1, s159_2, s159_4, s159_7, s159_10, s159_12, s159_13, s159_14, s159_17, s159_20, s159_22, s159_25, s159_26, s159_29, s159_30, s159_33, Option.toList_some, Option.toList_none, List.cons_append, List.nil_append, if_true, if_false, eq_self, n1n0, ne10, c_isOut, if_neg h, if_pos hh2]
    · rintro X Q ⟨h1, h2, h3, h4, h5, h6, h7⟩
      simp (disch := first | omega | assumption | decide) only [e186, s186_0, s186_1, s186_2, s186_3, s186_6, s186_9, s186_12, s186_14, s186_15, s186_16, s186_19, s186_22, s186_24, s186_25, s186_26, s186_27, s186_28, s186_30, s186_33, s186_36, s186_37, s186_40, s186_41, s186_42, s186_45, s186_46, s186_49, s186_52, s186_53, s186_56, s186_59, s186_60, s186_62, s186_63, s186_66, s186_69, s186_70, s186_71, s186_74, s186_75, s186_76, s186_79, s186_81, s186_82, s186_83, s186_84, s186_85, s186_86, s186_89, s186_92, s186_93, s186_96, s186_97, s186_98, s186_101, s186_102, s186_105, s186_106, s186_107, s186_110, s186_111, s186_112, s186_116, s186_119, s186_122, s186_124, s186_125, s186_126, s186_127, s186_130, s186_131, s186_132, s186_135, s186_137, s186_138, s186_141, s186_144, s186_145, s186_146, s186_149, s186_152, s186_153, s186_156, s186_159, s186_160, s186_163, s186_164, Option.toList_some, Option.toList_none, List.cons_append, List.nil_append, if_true, if_false, eq_self, n1n0, ne10, li_0, li_1, li_255, li_48, li_57, li_60, li_30, li_9, li_10, li_12, li_2, li_100, c_in, if_neg h, if_pos hh2]
  · have i1 : ¬ nI j < nI 0 := fun q => absurd ((nI_ltI (by omega) (by omega)).mp q) (by omega)
    have i2 : ¬ nI 9 < nI j := fun q => absurd ((nI_ltI (by omega) (by omega)).mp q) (by omega)
    by_cases h0 : D = 0
    · refine ⟨_, -1000000003, ha, okC_ro ?_, okM_ro ?_⟩
      · rintro X Q ⟨nx, k, ns, ni, h1, h2, h3, h4, h5, h6, h7, h8⟩
        have hnc := fun Q => c_noCoast (X := X) (Q := Q) h1.1 hD
        simp (disch := first | omega | assumption | decide) only [e159, s159_0, s159_1, s159_2, s159_4, s159_7, s159_10, s159_12, s159_13, s159_14, s159_17, s159_20, s159_22, s159_25, s159_26, s159_29, s159_30, s159_33, Option.toList_some, Option.toList_none, List.cons_append, List.nil_append, if_true, if_false, eq_self, n1n0, ne10, c_isOut, i1, i2, hnc, h0]
      · rintro X Q ⟨h1, h2, h3, h4, h5, h6, h7⟩
        have q := h1.1
        rw [h0] at q
        simp (disch := first | omega | assumption | decide) only [e186, s186_0, s186_1, s186_2, s186_3, s186_6, s186_9, s186_12, s186_14, s186_15, s186_16, s186_19, s186_22, s186_24, s186_25, s186_26, s186_27, s186_28, s186_30, s186_33, s186_36, s186_37, s186_40, s186_41, s186_42, s186_45, s186_46, s186_49, s186_52, s186_53, s186_56, s186_59, s186_60, s186_62, s186_63, s186_66, s186_69, s186_70, s186_71, s186_74, s186_75, s186_76, s186_79, s186_81, s186_82, s186_83, s186_84, s186_85, s186_86, s186_89, s186_92, s186_93, s186_96, s186_97, s186_98, s186_101, s186_102, s186_105, s186_106, s186_107, s186_110, s186_111, s186_112, s186_116, s186_119, s186_122, s186_124, s186_125, s186_126, s186_127, s186_130, s186_131, s186_132, s186_135, s186_137, s186_138, s186_141, s186_144, s186_145, s186_146, s186_149, s186_152, s186_153, s186_156, s186_159, s186_160, s186_163, s186_164, Option.toList_some, Option.toList_none, List.cons_append, List.nil_append, if_true, if_false, eq_self, n1n0, ne10, li_0, li_1, li_255, li_48, li_57, li_60, li_30, li_9, li_10, li_12, li_2, li_100, c_in, i1, i2, q]
    · have c0 : ¬ nI D = nI 0 := fun q => h0 ((nI_eq (by omega) (by omega)).mp q)
      obtain ⟨v, hv⟩ := ansS_ex (D := D) (W := W) hr hG j
      refine ⟨_, v, ha, ?_, ?_⟩
      · intro X Q hX hQ
        obtain ⟨nx, k, ns, ni, h1, h2, h3, h4, h5, h6, h7, h8⟩ := id hX
        have hnc := fun Q => c_noCoast (X := X) (Q := Q) h1.1 hD
        simp (disch := first | omega | assumption | decide) only [e159, s159_0, s159_1, s159_2, s159_4, s159_7, s159_10, s159_12, s159_13, s159_14, s159_17, s159_20, s159_22, s159_25, s159_26, s159_29, s159_30, s159_33, Option.toList_some, Option.toList_none, List.cons_append, List.nil_append, if_true, if_false, eq_self, n1n0, ne10, c_isOut, i1, i2, hnc, h0]
        refine c_fewest ha.1 h1 h2 hr h8 hj hv (fun Z z1 z2 => ?_)
        simp (disch := first | omega | assumption | decide) only [e159, s159_0, s159_1, s159_2, s159_4, s159_7, s159_10, s159_12, s159_13, s159_14, s159_17, s159_20, s159_22, s159_25, s159_26, s159_29, s159_30, s159_33, Option.toList_some, Option.toList_none, List.cons_append, List.nil_append, if_true, if_false, eq_self, n1n0, ne10]
        exact hQ Z (CI_tun hX (fun c hc => z1 c (by omega)) z2) (fun c c1 c2 => z1 c (by omega))
      · intro X Q hX hQ
        obtain ⟨h1, h2, h3, h4, h5, h6, h7⟩ := id hX
        simp (disch := first | omega | assumption | decide) only [e186, s186_0, s186_1, s186_2, s186_3, s186_6, s186_9, s186_12, s186_14, s186_15, s186_16, s186_19, s186_22, s186_24, s186_25, s186_26, s186_27, s186_28, s186_30, s186_33, s186_36, s186_37, s186_40, s186_41, s186_42, s186_45, s186_46, s186_49, s186_52, s186_53, s186_56, s186_59, s186_60, s186_62, s186_63, s186_66, s186_69, s186_70, s186_71, s186_74, s186_75, s186_76, s186_79, s186_81, s186_82, s186_83, s186_84, s186_85, s186_86, s186_89, s186_92, s186_93, s186_96, s186_97, s186_98, s186_101, s186_102, s186_105, s186_106, s186_107, s186_110, s186_111, s186_112, s186_116, s186_119, s186_122, s186_124, s186_125, s186_126, s186_127, s186_130, s186_131, s186_132, s186_135, s186_137, s186_138, s186_141, s186_144, s186_145, s186_146, s186_149, s186_152, s186_153, s186_156, s186_159, s186_160, s186_163, s186_164, Option.toList_some, Option.toList_none, List.cons_append, List.nil_append, if_true, if_false, eq_self, n1n0, ne10, li_0, li_1, li_255, li_48, li_57, li_60, li_30, li_9, li_10, li_12, li_2, li_100, c_in, i1, i2, h1.1, c0]
        have k := stz_loop (X := X) (Q := Q) (l1 := .int (nI j)) (l4 := zU) (fun p hp => ?_) 568 0 (X 51) (by omega) (fun x hx => absurd hx (by omega))
        · rw [zst_self] at k
          exact k
        · refine stepsM ha.1 h1 (by omega) hr h2 hj hv (fun Z hZ => hQ Z (MI_scr hX (fun c c1 c2 c3 => hZ c (by omega) (by omega))) (fun c hc => hZ c (by omega) (by omega))) G 0 _ _ (by omega) ⟨fun c c1 _ => zst_ne _ _ c1, fun x => if x = 0 then 0 else 99999999, fun x hx => ⟨by rw [zst_at]; exact hp x hx, ?_⟩⟩
          dsimp only
          by_cases c : x = 0
          · rw [c, if_pos rfl]
            exact ⟨by decide, fun _ => ⟨rfl, rfl⟩, fun c _ => Nat.zero_le c⟩
          · rw [if_neg c]
            exact lst_no (fun c2 k => c k.1)
