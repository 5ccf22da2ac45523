/-! steps: the class's call -/
section SR
variable {D G B C : Nat} {W lim bear : Nat → Nat} {X : zM} {R : Nat → Nat} {nx x : Nat} {Q : Option Value → zM → Prop}
def wS (R : Nat → Nat) (G : Nat) : Nat := smN (fun g => R (7 + g)) G
def finP (D G : Nat) (W R : Nat → Nat) (r c : Nat) : Prop := ∃ x, x / wS R G = r ∧ cpS D W R G x c
def ansS (D G : Nat) (W R : Nat → Nat) (r : Nat) (v : Int32) : Prop := (wS R G = 0 → v = if r = 5 then nI 0 else -1) ∧ (¬ wS R G = 0 → ∀ F m, 100 ≤ F → lst F (finP D G W R r) m → v = if m < F then nI m else -1)
theorem ansS_ex (hr : okR B R) (hG : G ≤ 7) (r : Nat) : ∃ v, ansS D G W R r v := by
  by_cases h0 : wS R G = 0
  · exact ⟨_, fun _ => rfl, fun q => absurd h0 q⟩
  · by_cases hE : ∃ c, finP D G W R r c
    · obtain ⟨c, hc⟩ := hE
      obtain ⟨m, h1, h2⟩ := lst_ex (P := finP D G W R r) c c (Nat.le_refl c) hc
      have h3 : m ≤ 10 * G := by
        obtain ⟨x, _, k⟩ := h1
        exact (cpS_le hr G x m hG k).2
      refine ⟨nI m, fun q => absurd q h0, fun _ F v hF hv => ?_⟩
      have e := lst_yes hv h1 h2 (by omega)
      rw [e, if_pos (by omega)]
    · refine ⟨-1, fun q => absurd q h0, fun _ F v hF hv => ?_⟩
      have e := lst_none hv (fun c hc => hE ⟨c, hc⟩)
      rw [e, if_neg (Nat.lt_irrefl F)]
theorem wS_le (hr : okR B R) (hG : G ≤ 7) : wS R G ≤ 63 := by
  have : wS R G ≤ G * 9 := smN_le (fun i hi => (hr.1 i (by omega)).2.1)
  omega
theorem dv_iff {x w r : Nat} (hw : 0 < w) : x / w = r ↔ r * w ≤ x ∧ x < r * w + w := by
  constructor
  · rintro rfl
    have h1 := Nat.div_add_mod x w
    have h2 := Nat.mod_lt x hw
    rw [Nat.mul_comm] at h1
    omega
  · rintro ⟨h1, h2⟩
    exact Nat.div_eq_of_lt_le h1 (by rw [Nat.succ_mul]; exact h2)
theorem few_loop {r p : Nat} {v : Int32} {f : Nat → Nat} (hr : okR B R) (hG : G ≤ 7) (hr9 : r ≤ 9) (hp : zkd p = (1, 568)) (hp2 : (nI p).toNatClampNeg = p) (x10 : X 19 10 = nI p) (hw : ¬ wS R G = 0) (hf : ∀ x, x < 568 → X p x = nI (f x) ∧ lst 1000000 (cpS D W R G x) (f x)) (hv : ansS D G W R r v) (hQ : Q (some (.int v)) X) : ∀ (n s m : Nat), s + n = 568 → r * wS R G ≤ s → s ≤ r * wS R G + wS R G → lst 1000000 (fun c => ∃ x, r * wS R G ≤ x ∧ x < s ∧ cpS D W R G x c) m → zev 121 106 [.ref 19, .int (nI r), .int (nI (wS R G)), .int (nI m), .int (nI s)] [] X Q := by
  have hw63 := wS_le hr hG
  have hrw : r * wS R G ≤ 9 * 63 := Nat.mul_le_mul hr9 hw63
  have hrw2 : (r + 1) * wS R G = r * wS R G + wS R G := Nat.succ_mul _ _
  have e10 : (X 19 10).toNatClampNeg = p := by rw [x10, hp2]
  have r131 := fun (X : zM) (Q : Option Value → zM → Prop) (l0 l1 l2 l3 l4 v2 : Value) (j : Nat) (hj : j < 568) => s121_131 (l0 := l0) (l1 := l1) (l2 := l2) (l3 := l3) (l4 := l4) (v2 := v2) (j := j) (X := X) (Q := Q) hp (by decide) hj
  have hout : ∀ s m, r * wS R G ≤ s → s ≤ r * wS R G + wS R G → lst 1000000 (fun c => ∃ x, r * wS R G ≤ x ∧ x < s ∧ cpS D W R G x c) m → (¬ s < r * wS R G + wS R G ∨ 567 < s) → zev 121 142 [.ref 19, .int (nI r), .int (nI (wS R G)), .int (nI m), .int (nI s)] [] X Q := by
    intro s m s1 s2 hm hex
    have hl : lst 1000000 (finP D G W R r) m := lst_cg hm (fun c => by
      constructor
      · rintro ⟨x, h1, h2, h3⟩
        exact ⟨x, (dv_iff (by omega)).mpr ⟨h1, by omega⟩, h3⟩
      · rintro ⟨x, h1, h3⟩
        obtain ⟨h4, h5⟩ := (dv_iff (by omega)).mp h1
        have h6 : x ≤ 9 * wS R G := (cpS_le hr G x c hG h3).1
        exact ⟨x, h4, by omega, h3⟩)
    have hv2 := hv.2 hw 1000000 m (by decide) hl
    have ml := hl.1
    by_cases c : m < 1000000
    · rw [if_pos c] at hv2
      simp (disch := first | omega | assumption | decide) only [e121, s121_0, s121_1, s121_4, s121_6, s121_9, s121_10, s121_13, s121_14, s121_15, s121_16, s121_17, s121_18, s121_19, s121_21, s121_22, s121_25, s121_28, s121_31, s121_32, s121_35, s121_38, s121_39, s121_40, s121_43, s121_44, s121_45, s121_48, s121_49, s121_50, s121_52, s121_53, s121_54, s121_57, s121_60, s121_61, s121_62, s121_65, s121_66, s121_67, s121_70, s121_73, s121_74, s121_75, s121_76, s121_77, s121_80, s121_83, s121_84, s121_87, s121_88, s121_89, s121_92, s121_93, s121_96, s121_97, s121_98, s121_100, s121_101, s121_102, s121_103, s121_104, s121_108, s121_109, s121_110, s121_111, s121_112, s121_113, s121_116, s121_118, s121_121, s121_124, s121_125, s121_126, s121_129, s121_131, s121_132, s121_135, s121_136, s121_139, s121_142, s121_143, s121_145, s121_148, s121_149, s121_152, s121_153, Option.toList_some, Option.toList_none, List.cons_append, List.nil_append, if_true, if_false, eq_self, n1n0, ne10, nI_ltI, c]
      rw [← hv2]; exact hQ
    · rw [if_neg c] at hv2
      simp (disch := first | omega | assumption | decide) only [e121, s121_0, s121_1, s121_4, s121_6, s121_9, s121_10, s121_13, s121_14, s121_15, s121_16, s121_17, s121_18, s121_19, s121_21, s121_22, s121_25, s121_28, s121_31, s121_32, s121_35, s121_38, s121_39, s121_40, s121_43, s121_44, s121_45, s121_48, s121_49, s121_50, s121_52, s121_53, s121_54, s121_57, s121_60, s121_61, s121_62, s121_65, s121_66, s121_67, s121_70, s121_73, s121_74, s121_75, s121_76, s121_77, s121_80, s121_83, s121_84, s121_87, s121_88, s121_89, s121_92, s121_93, s121_96, s121_97, s121_98, s121_100, s121_101, s121_102, s121_103, s121_104, s121_108, s121_109, s121_110, s121_111, s121_112, s121_113, s121_116, s121_118, s121_121, s121_124, s121_125, s121_126, s121_129, s121_131, s121_132, s121_135, s121_136, s121_139, s121_142, s121_143, s121_145, s121_148, s121_149, s121_152, s121_153, Option.toList_some, Option.toList_none, List.cons_append, List.nil_append, if_true, if_false, eq_self, n1n0, ne10, nI_ltI, c]
      rw [← hv2]; exact hQ
  intro n
  induction n with
  | zero =>
    intro s m hs s1 s2 hm
    have k := hout s m s1 s2 hm (by omega)
    rw [s121_106]
    by_cases c1 : s < (r + 1) * wS R G
    · have c2 : 567 < s := by omega
      simp (disch := first | omega | assumption | decide) only [s121_108, s121_109, s121_110, s121_111, s121_112, s121_113, s121_116, s121_118, s121_121, nI_ltI, nI_add, pk_mul, c1, c2, if_true, if_false]
      exact k
    · simp (disch := first | omega | assumption | decide) only [s121_108, s121_109, s121_110, s121_111, s121_112, s121_113, nI_ltI, nI_add, pk_mul, c1, if_true, if_false]
      exact k
  | succ n ih =>
    intro s m hs s1 s2 hm
    rw [s121_106]
    by_cases c1 : s < (r + 1) * wS R G
    · have c2 : ¬ 567 < s := by omega
      obtain ⟨f1, f2⟩ := hf s (by omega)
      have fl := f2.1
      have ml := hm.1
      have k := ih (s + 1) (min m (f s)) (by omega) (by omega) (by omega) (lst_cg (lst_min hm f2) (fun c => by
        constructor
        · rintro (⟨x, h1, h2, h3⟩ | h3)
          · exact ⟨x, h1, by omega, h3⟩
          · exact ⟨s, s1, by omega, h3⟩
        · rintro ⟨x, h1, h2, h3⟩
          by_cases cx : x = s
          · subst cx; exact Or.inr h3
          · exact Or.inl ⟨x, h1, by omega, h3⟩))
      simp (disch := first | omega | assumption | decide) only [s121_108, s121_109, s121_110, s121_111, s121_112, s121_113, s121_116, s121_118, s121_121, s121_124, s121_125, s121_126, s121_129, r131, s121_132, s121_135, s121_136, s121_139, nI_ltI, nI_add, pk_mul, c1, c2, e10, f1, mn_N, if_true, if_false]
      exact k
    · have k := hout s m s1 s2 hm (by omega)
      simp (disch := first | omega | assumption | decide) only [s121_108, s121_109, s121_110, s121_111, s121_112, s121_113, nI_ltI, nI_add, pk_mul, c1, if_true, if_false]
      exact k
theorem few_gl {r : Nat} {v : Int32} (ho : okP D G B C W lim bear) (hc : cP D G B C W lim bear X) (hs : cS G B X 57 R nx) (hr : okR B R) (hr9 : r ≤ 9) (hv : ansS D G W R r v) (hQ : ∀ Z, stC D W R G X Z → Q (some (.int v)) Z) : ∀ (n g : Nat) (Y : zM) (l4 : Value), g + n = G → stC D W R g X Y → zev 121 20 [.ref 19, .int (nI r), .int (nI (wS R g)), .int (nI g), l4] [] Y Q := by
  have hG := ho.2.1
  have hw63 := wS_le hr hG
  intro n
  induction n with
  | zero =>
    intro g Y l4 hg hY
    have q : g = G := by omega
    subst q
    have hcg : Y 9 1 = nI g := by rw [hY.1 9 (by omega)]; exact hc.2.1
    have hQ2 := hQ Y hY
    obtain ⟨y1, p, q, hpq, y2, y3, f, y4⟩ := hY
    obtain ⟨k1, k2, k3, k4⟩ := pq_k hpq
    rw [s121_20]
    by_cases c : wS R g = 0
    · have hv1 := hv.1 c
      rw [c]
      by_cases c5 : r = 5
      · rw [if_pos c5] at hv1
        simp (disch := first | omega | assumption | decide) only [e121, s121_0, s121_1, s121_4, s121_6, s121_9, s121_10, s121_13, s121_14, s121_15, s121_16, s121_17, s121_18, s121_19, s121_21, s121_22, s121_25, s121_28, s121_31, s121_32, s121_35, s121_38, s121_39, s121_40, s121_43, s121_44, s121_45, s121_48, s121_49, s121_50, s121_52, s121_53, s121_54, s121_57, s121_60, s121_61, s121_62, s121_65, s121_66, s121_67, s121_70, s121_73, s121_74, s121_75, s121_76, s121_77, s121_80, s121_83, s121_84, s121_87, s121_88, s121_89, s121_92, s121_93, s121_96, s121_97, s121_98, s121_100, s121_101, s121_102, s121_103, s121_104, s121_108, s121_109, s121_110, s121_111, s121_112, s121_113, s121_116, s121_118, s121_121, s121_124, s121_125, s121_126, s121_129, s121_131, s121_132, s121_135, s121_136, s121_139, s121_142, s121_143, s121_145, s121_148, s121_149, s121_152, s121_153, Option.toList_some, Option.toList_none, List.cons_append, List.nil_append, if_true, if_false, eq_self, n1n0, ne10, hcg, nI_ltI, nI_eq, Nat.lt_irrefl, c5]
        rw [← hv1]; exact hQ2
      · rw [if_neg c5] at hv1
        simp (disch := first | omega | assumption | decide) only [e121, s121_0, s121_1, s121_4, s121_6, s121_9, s121_10, s121_13, s121_14, s121_15, s121_16, s121_17, s121_18, s121_19, s121_21, s121_22, s121_25, s121_28, s121_31, s121_32, s121_35, s121_38, s121_39, s121_40, s121_43, s121_44, s121_45, s121_48, s121_49, s121_50, s121_52, s121_53, s121_54, s121_57, s121_60, s121_61, s121_62, s121_65, s121_66, s121_67, s121_70, s121_73, s121_74, s121_75, s121_76, s121_77, s121_80, s121_83, s121_84, s121_87, s121_88, s121_89, s121_92, s121_93, s121_96, s121_97, s121_98, s121_100, s121_101, s121_102, s121_103, s121_104, s121_108, s121_109, s121_110, s121_111, s121_112, s121_113, s121_116, s121_118, s121_121, s121_124, s121_125, s121_126, s121_129, s121_131, s121_132, s121_135, s121_136, s121_139, s121_142, s121_143, s121_145, s121_148, s121_149, s121_152, s121_153, Option.toList_some, Option.toList_none, List.cons_append, List.nil_append, if_true, if_false, eq_self, n1n0, ne10, hcg, nI_ltI, nI_eq, Nat.lt_irrefl, c5]
        rw [← hv1]; exact hQ2
    · have k := few_loop (X := Y) (Q := Q) (f := f) hr hG hr9 k1 k3 y2 c y4 hv hQ2 (568 - r * wS R g) (r * wS R g) 1000000 (by
        have : r * wS R g ≤ 9 * 63 := Nat.mul_le_mul hr9 hw63
        omega) (Nat.le_refl _) (by omega) (lst_no (fun c q => by obtain ⟨x, h1, h2, _⟩ := q; omega))
      simp (disch := first | omega | assumption | decide) only [e121, s121_0, s121_1, s121_4, s121_6, s121_9, s121_10, s121_13, s121_14, s121_15, s121_16, s121_17, s121_18, s121_19, s121_21, s121_22, s121_25, s121_28, s121_31, s121_32, s121_35, s121_38, s121_39, s121_40, s121_43, s121_44, s121_45, s121_48, s121_49, s121_50, s121_52, s121_53, s121_54, s121_57, s121_60, s121_61, s121_62, s121_65, s121_66, s121_67, s121_70, s121_73, s121_74, s121_75, s121_76, s121_77, s121_80, s121_83, s121_84, s121_87, s121_88, s121_89, s121_92, s121_93, s121_96, s121_97, s121_98, s121_100, s121_101, s121_102, s121_103, s121_104, s121_108, s121_109, s121_110, s121_111, s121_112, s121_113, s121_116, s121_118, s121_121, s121_124, s121_125, s121_126, s121_129, s121_131, s121_132, s121_135, s121_136, s121_139, s121_142, s121_143, s121_145, s121_148, s121_149, s121_152, s121_153, Option.toList_some, Option.toList_none, List.cons_append, List.nil_append, if_true, if_false, eq_self, n1n0, ne10, hcg, nI_ltI, nI_eq, Nat.lt_irrefl, c, pk_mul]
      exact k
  | succ n ih =>
    intro g Y l4 hg hY
    have hlt : g < G := by omega
    have hcg : Y 9 1 = nI G := by rw [hY.1 9 (by omega)]; exact hc.2.1
    have e59 : Y 59 g = nI (R (7 + g)) := by rw [hY.1 59 (by omega)]; exact (hs.2.2.1 g hlt).2.1
    have b := hr.1 g (by omega)
    rw [s121_20]
    by_cases c : 0 < R (7 + g)
    · simp (disch := first | omega | assumption | decide) only [e121, s121_0, s121_1, s121_4, s121_6, s121_9, s121_10, s121_13, s121_14, s121_15, s121_16, s121_17, s121_18, s121_19, s121_21, s121_22, s121_25, s121_28, s121_31, s121_32, s121_35, s121_38, s121_39, s121_40, s121_43, s121_44, s121_45, s121_48, s121_49, s121_50, s121_52, s121_53, s121_54, s121_57, s121_60, s121_61, s121_62, s121_65, s121_66, s121_67, s121_70, s121_73, s121_74, s121_75, s121_76, s121_77, s121_80, s121_83, s121_84, s121_87, s121_88, s121_89, s121_92, s121_93, s121_96, s121_97, s121_98, s121_100, s121_101, s121_102, s121_103, s121_104, s121_108, s121_109, s121_110, s121_111, s121_112, s121_113, s121_116, s121_118, s121_121, s121_124, s121_125, s121_126, s121_129, s121_131, s121_132, s121_135, s121_136, s121_139, s121_142, s121_143, s121_145, s121_148, s121_149, s121_152, s121_153, Option.toList_some, Option.toList_none, List.cons_append, List.nil_append, if_true, if_false, eq_self, n1n0, ne10, hcg, nI_ltI, hlt, e59, c]
      refine c_count ho (cP_of hc (hY.1 9 (by omega)) (hY.1 10 (by omega)) (hY.1 13 (by omega)) (hY.1 14 (by omega))) (cS_fr hs (fun c _ _ => hY.1 c (by omega))) hr hlt (fun Z hZ => ?_)
      have z59 : Z 59 g = nI (R (7 + g)) := by rw [hZ.1 59 (by omega)]; exact e59
      simp (disch := first | omega | assumption | decide) only [e121, s121_0, s121_1, s121_4, s121_6, s121_9, s121_10, s121_13, s121_14, s121_15, s121_16, s121_17, s121_18, s121_19, s121_21, s121_22, s121_25, s121_28, s121_31, s121_32, s121_35, s121_38, s121_39, s121_40, s121_43, s121_44, s121_45, s121_48, s121_49, s121_50, s121_52, s121_53, s121_54, s121_57, s121_60, s121_61, s121_62, s121_65, s121_66, s121_67, s121_70, s121_73, s121_74, s121_75, s121_76, s121_77, s121_80, s121_83, s121_84, s121_87, s121_88, s121_89, s121_92, s121_93, s121_96, s121_97, s121_98, s121_100, s121_101, s121_102, s121_103, s121_104, s121_108, s121_109, s121_110, s121_111, s121_112, s121_113, s121_116, s121_118, s121_121, s121_124, s121_125, s121_126, s121_129, s121_131, s121_132, s121_135, s121_136, s121_139, s121_142, s121_143, s121_145, s121_148, s121_149, s121_152, s121_153, Option.toList_some, Option.toList_none, List.cons_append, List.nil_append, if_true, if_false, eq_self, n1n0, ne10, z59, pk_mul]
      refine c_addTo (X := X) (D := D) (W := W) hr (by omega) hY hZ (fun V hV => ?_)
      have v59 : V 59 g = nI (R (7 + g)) := by rw [hV.1 59 (by omega)]; exact (hs.2.2.1 g hlt).2.1
      simp (disch := first | omega | assumption | decide) only [e121, s121_0, s121_1, s121_4, s121_6, s121_9, s121_10, s121_13, s121_14, s121_15, s121_16, s121_17, s121_18, s121_19, s121_21, s121_22, s121_25, s121_28, s121_31, s121_32, s121_35, s121_38, s121_39, s121_40, s121_43, s121_44, s121_45, s121_48, s121_49, s121_50, s121_52, s121_53, s121_54, s121_57, s121_60, s121_61, s121_62, s121_65, s121_66, s121_67, s121_70, s121_73, s121_74, s121_75, s121_76, s121_77, s121_80, s121_83, s121_84, s121_87, s121_88, s121_89, s121_92, s121_93, s121_96, s121_97, s121_98, s121_100, s121_101, s121_102, s121_103, s121_104, s121_108, s121_109, s121_110, s121_111, s121_112, s121_113, s121_116, s121_118, s121_121, s121_124, s121_125, s121_126, s121_129, s121_131, s121_132, s121_135, s121_136, s121_139, s121_142, s121_143, s121_145, s121_148, s121_149, s121_152, s121_153, Option.toList_some, Option.toList_none, List.cons_append, List.nil_append, if_true, if_false, eq_self, n1n0, ne10, v59, nI_add]
      exact ih (g + 1) V l4 (by omega) hV
    · have k := ih (g + 1) Y l4 (by omega) (by
        obtain ⟨y1, p, q, hpq, y2, y3, f, y4⟩ := hY
        exact ⟨y1, p, q, hpq, y2, y3, f, fun x hx => ⟨(y4 x hx).1, cpS_w0 hr (by omega) (by omega) (y4 x hx).2⟩⟩)
      rw [show wS R (g + 1) = wS R g from (show wS R g + R (7 + g) = wS R g by omega)] at k
      simp (disch := first | omega | assumption | decide) only [e121, s121_0, s121_1, s121_4, s121_6, s121_9, s121_10, s121_13, s121_14, s121_15, s121_16, s121_17, s121_18, s121_19, s121_21, s121_22, s121_25, s121_28, s121_31, s121_32, s121_35, s121_38, s121_39, s121_40, s121_43, s121_44, s121_45, s121_48, s121_49, s121_50, s121_52, s121_53, s121_54, s121_57, s121_60, s121_61, s121_62, s121_65, s121_66, s121_67, s121_70, s121_73, s121_74, s121_75, s121_76, s121_77, s121_80, s121_83, s121_84, s121_87, s121_88, s121_89, s121_92, s121_93, s121_96, s121_97, s121_98, s121_100, s121_101, s121_102, s121_103, s121_104, s121_108, s121_109, s121_110, s121_111, s121_112, s121_113, s121_116, s121_118, s121_121, s121_124, s121_125, s121_126, s121_129, s121_131, s121_132, s121_135, s121_136, s121_139, s121_142, s121_143, s121_145, s121_148, s121_149, s121_152, s121_153, Option.toList_some, Option.toList_none, List.cons_append, List.nil_append, if_true, if_false, eq_self, n1n0, ne10, hcg, nI_ltI, hlt, e59, c, nI_add]
      exact k
theorem c_fewest {r : Nat} {v : Int32} (ho : okP D G B C W lim bear) (hc : cP D G B C W lim bear X) (hs : cS G B X 57 R nx) (hr : okR B R) (ht : cTu X) (hr9 : r ≤ 9) (hv : ansS D G W R r v) (hQ : ∀ Z, (∀ c, (c < 19 ∨ 27 < c) → Z c = X c) → cTu Z → Q (some (.int v)) Z) : zcl 121 [.ref 19, .int (nI r)] X Q := by
  have hpq : ∃ p q, pq p q ∧ X 19 10 = nI p ∧ X 19 11 = nI q := by
    rcases ht with ⟨h1, h2⟩ | ⟨h1, h2⟩
    · exact ⟨26, 27, Or.inl ⟨rfl, rfl⟩, h1, h2⟩
    · exact ⟨27, 26, Or.inr ⟨rfl, rfl⟩, h1, h2⟩
  obtain ⟨p, q, hpq, x10, x11⟩ := hpq
  obtain ⟨k1, k2, k3, k4⟩ := pq_k hpq
  have hp2 : p ≠ 19 ∧ 26 ≤ p ∧ p ≤ 27 := by rcases hpq with ⟨rfl, rfl⟩ | ⟨rfl, rfl⟩ <;> decide
  have e10 : (X 19 10).toNatClampNeg = p := by rw [x10, k3]
  have r15 := fun (X : zM) (Q : Option Value → zM → Prop) (l0 l1 l2 l3 l4 : Value) (x : Int32) (j : Nat) (hj : j < 568) => s121_15 (l0 := l0) (l1 := l1) (l2 := l2) (l3 := l3) (l4 := l4) (x := x) (j := j) (X := X) (Q := Q) k1 (by decide) hj
  simp (disch := first | omega | assumption | decide) only [e121, s121_0, s121_1, s121_4, s121_6, s121_9, s121_10, s121_13, s121_14, s121_15, s121_16, s121_17, s121_18, s121_19, s121_21, s121_22, s121_25, s121_28, s121_31, s121_32, s121_35, s121_38, s121_39, s121_40, s121_43, s121_44, s121_45, s121_48, s121_49, s121_50, s121_52, s121_53, s121_54, s121_57, s121_60, s121_61, s121_62, s121_65, s121_66, s121_67, s121_70, s121_73, s121_74, s121_75, s121_76, s121_77, s121_80, s121_83, s121_84, s121_87, s121_88, s121_89, s121_92, s121_93, s121_96, s121_97, s121_98, s121_100, s121_101, s121_102, s121_103, s121_104, s121_108, s121_109, s121_110, s121_111, s121_112, s121_113, s121_116, s121_118, s121_121, s121_124, s121_125, s121_126, s121_129, s121_131, s121_132, s121_135, s121_136, s121_139, s121_142, s121_143, s121_145, s121_148, s121_149, s121_152, s121_153, Option.toList_some, Option.toList_none, List.cons_append, List.nil_append, if_true, if_false, eq_self, n1n0, ne10, e10]
  refine c_fill (i := p) (m := 568) k1 (by decide) (fun h hh => ?_)
  have e102 : (zst X p h 19 10).toNatClampNeg = p := by rw [zst_ne _ _ (fun q => hp2.1 q.symm), e10]
  simp (disch := first | omega | assumption | decide) only [e121, s121_0, s121_1, s121_4, s121_6, s121_9, s121_10, s121_13, s121_14, s121_15, s121_16, s121_17, s121_18, s121_19, s121_21, s121_22, s121_25, s121_28, s121_31, s121_32, s121_35, s121_38, s121_39, s121_40, s121_43, s121_44, s121_45, s121_48, s121_49, s121_50, s121_52, s121_53, s121_54, s121_57, s121_60, s121_61, s121_62, s121_65, s121_66, s121_67, s121_70, s121_73, s121_74, s121_75, s121_76, s121_77, s121_80, s121_83, s121_84, s121_87, s121_88, s121_89, s121_92, s121_93, s121_96, s121_97, s121_98, s121_100, s121_101, s121_102, s121_103, s121_104, s121_108, s121_109, s121_110, s121_111, s121_112, s121_113, s121_116, s121_118, s121_121, s121_124, s121_125, s121_126, s121_129, s121_131, s121_132, s121_135, s121_136, s121_139, s121_142, s121_143, s121_145, s121_148, s121_149, s121_152, s121_153, Option.toList_some, Option.toList_none, List.cons_append, List.nil_append, if_true, if_false, eq_self, n1n0, ne10, e102, r15, zst_at, zst_zst]
  refine few_gl ho hc hs hr hr9 hv (fun Z hZ => ?_) G 0 _ _ (by omega) ⟨fun c hc => zst_ne _ _ (by omega), p, q, hpq, ?_, ?_, fun x => if x = 0 then 0 else 1000000, fun x hx => ?_⟩
  · obtain ⟨z1, p1, q1, hpq1, z2, z3, -⟩ := hZ
    refine hQ Z z1 ?_
    rcases hpq1 with ⟨rfl, rfl⟩ | ⟨rfl, rfl⟩
    · exact Or.inl ⟨z2, z3⟩
    · exact Or.inr ⟨z2, z3⟩
  · rw [zst_ne _ _ (fun q => hp2.1 q.symm)]; exact x10
  · rw [zst_ne _ _ (fun q => hp2.1 q.symm)]; exact x11
  · rw [zst_at]
    dsimp only
    by_cases c : x = 0
    · rw [c, upd_at, if_pos rfl]
      exact ⟨rfl, by decide, fun _ => ⟨rfl, rfl⟩, fun c _ => Nat.zero_le c⟩
    · rw [upd_ne _ _ c, if_neg c]
      exact ⟨hh x hx, lst_no (fun c2 k => c k.1)⟩
end SR
