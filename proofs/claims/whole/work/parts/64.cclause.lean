/-! coast: the class's clauses -/
section CL
variable {X : zM} {Q : Option Value → zM → Prop} {t : Nat} {tx : Nat → Nat} {p : Nat}
def rC (t : Nat) (tx : Nat → Nat) (X : zM) (s : sT) (Y : zM) : Prop := match s with
  | (p, (D, W), (G, tm, wt), (B, lm, br), C, T) => (∀ c, c ≠ 1 → (c < 3 ∨ 8 < c) → Y c = X c) ∧ tC t tx Y ∧ (Y 1 2 = nI p ∧ Y 1 3 = nI 0 ∧ Y 1 4 = -1) ∧ (Y 3 0 = nI D ∧ Y 3 1 = nI G ∧ Y 3 2 = nI B ∧ Y 3 3 = nI C ∧ Y 3 4 = nI T) ∧ (∀ k, k < D → Y 4 k = nI (W k)) ∧ (∀ g, g < G → Y 5 g = nI (tm g) ∧ Y 6 g = nI (wt g)) ∧ ∀ b, b < B → Y 7 b = nI (lm b) ∧ Y 8 b = nI (br b)
def fC (t : Nat) (tx : Nat → Nat) (X : zM) (k w : Nat) (Y : zM) : Prop := (∀ c, c ≠ 1 → (c < 3 ∨ 8 < c) → Y c = X c) ∧ tC t tx Y ∧ Y 1 3 = nI k ∧ Y 1 4 = nI w
theorem rC_rd1 {p q : Nat} {r : (Nat × (Nat → Nat)) × (Nat × (Nat → Nat) × (Nat → Nat)) × (Nat × (Nat → Nat) × (Nat → Nat)) × Nat × Nat} {Y Z : zM} (hY : rC t tx X (p, r) Y) (hZ : rd1 Y q (nI 0) (-1) Z) (tZ : tC t tx Z) : rC t tx X (q, r) Z := by
  obtain ⟨⟨D, W⟩, ⟨G, tm, wt⟩, ⟨B, lm, br⟩, C, T⟩ := r
  obtain ⟨h1, h2, h3, h4, h5, h6, h7⟩ := hY
  obtain ⟨z1, z2⟩ := hZ
  refine ⟨fun c c1 c2 => (z1 c c1).trans (h1 c c1 c2), tZ, z2.2.2, ?_, fun k hk => ?_, fun g hg => ?_, fun b hb => ?_⟩
  · rw [z1 3 (by decide)]; exact h4
  · rw [z1 4 (by decide)]; exact h5 k hk
  · rw [z1 5 (by decide), z1 6 (by decide)]; exact h6 g hg
  · rw [z1 7 (by decide), z1 8 (by decide)]; exact h7 b hb
theorem fC_rd1 {p q k w : Nat} {r : (Nat × (Nat → Nat)) × (Nat × (Nat → Nat) × (Nat → Nat)) × (Nat × (Nat → Nat) × (Nat → Nat)) × Nat × Nat} {Y Z : zM} (hY : rC t tx X (p, r) Y) (hZ : rd1 Y q (nI k) (nI w) Z) (tZ : tC t tx Z) : fC t tx X k w Z := by
  obtain ⟨⟨D, W⟩, ⟨G, tm, wt⟩, ⟨B, lm, br⟩, C, T⟩ := r
  obtain ⟨h1, h2, h3, h4, h5, h6, h7⟩ := hY
  obtain ⟨z1, z2⟩ := hZ
  exact ⟨fun c c1 c2 => (z1 c c1).trans (h1 c c1 c2), tZ, z2.2.2.2.1, z2.2.2.2.2⟩
theorem flK_z {n : Nat} : flK (nI 0) n = nI n := if_pos rfl
theorem flF_z {f : Int32} {n w : Nat} (hn : ¬ n = 0) : flF (nI 0) f n w = nI w := if_pos ⟨rfl, hn⟩
theorem flK_n {k n : Nat} (hk : k ≤ 2) (h : ¬ k = 0) : flK (nI k) n = nI k := if_neg (fun q => h ((nI_eq (by omega) (by decide)).mp q))
theorem flF_n {k n w : Nat} {f : Int32} (hk : k ≤ 2) (h : ¬ k = 0) : flF (nI k) f n w = f := if_neg (fun q => h ((nI_eq (by omega) (by decide)).mp q.1))
theorem ek_sk (h : p ≤ t) : ek t tx (sk t tx p) = ek t tx p := by
  unfold ek
  rw [sk_sk h]
theorem c_addGlass {G : Nat} {a b : Int32} (h : X 3 1 = nI G) (hG : G < 7) : zcl 3 [.ref 3, .int a, .int b] X Q = Q none (zst (zst (zst X 5 (upd (X 5) G a)) 6 (upd (X 6) G b)) 3 (upd (X 3) 1 (nI (G + 1)))) := by
  have w1 : zst X 5 (upd (X 5) G a) 3 1 = nI G := by rw [zst_ne _ _ (by decide)]; exact h
  have w2 : zst (zst X 5 (upd (X 5) G a)) 6 (upd (X 6) G b) 3 = X 3 := by rw [zst_ne _ _ (by decide), zst_ne _ _ (by decide)]
  have w3 : zst X 5 (upd (X 5) G a) 6 = X 6 := zst_ne _ _ (by decide)
  simp (disch := first | omega | assumption | decide) only [e3, s3_0, s3_1, s3_4, s3_6, s3_9, s3_10, s3_13, s3_14, s3_17, s3_18, s3_19, s3_20, s3_23, s3_24, s3_27, s3_28, s3_29, s3_30, s3_31, s3_34, s3_35, s3_36, s3_39, Option.toList_some, Option.toList_none, List.cons_append, List.nil_append, if_true, if_false, eq_self, n1n0, ne10, h, nI_ltI, hG, w1, w2, w3, nI_add]
theorem c_addBoat {B : Nat} {a b : Int32} (h : X 3 2 = nI B) (hB : B < 5) : zcl 4 [.ref 3, .int a, .int b] X Q = Q none (zst (zst (zst X 7 (upd (X 7) B a)) 8 (upd (X 8) B b)) 3 (upd (X 3) 2 (nI (B + 1)))) := by
  have w1 : zst X 7 (upd (X 7) B a) 3 2 = nI B := by rw [zst_ne _ _ (by decide)]; exact h
  have w2 : zst (zst X 7 (upd (X 7) B a)) 8 (upd (X 8) B b) 3 = X 3 := by rw [zst_ne _ _ (by decide), zst_ne _ _ (by decide)]
  have w3 : zst X 7 (upd (X 7) B a) 8 = X 8 := zst_ne _ _ (by decide)
  simp (disch := first | omega | assumption | decide) only [e4, s4_0, s4_1, s4_4, s4_5, s4_8, s4_9, s4_12, s4_13, s4_16, s4_17, s4_18, s4_19, s4_22, s4_23, s4_26, s4_27, s4_28, s4_29, s4_30, s4_33, s4_34, s4_35, s4_38, Option.toList_some, Option.toList_none, List.cons_append, List.nil_append, if_true, if_false, eq_self, n1n0, ne10, h, nI_ltI, hB, w1, w2, w3, nI_add]
theorem c_addWeather {D : Nat} {a : Int32} (h : X 3 0 = nI D) (hD : D < 12) : zcl 2 [.ref 3, .int a] X Q = Q none (zst (zst X 4 (upd (X 4) D a)) 3 (upd (X 3) 0 (nI (D + 1)))) := by
  have w2 : zst X 4 (upd (X 4) D a) 3 = X 3 := zst_ne _ _ (by decide)
  simp (disch := first | omega | assumption | decide) only [e2, s2_0, s2_1, s2_4, s2_6, s2_9, s2_10, s2_13, s2_14, s2_17, s2_18, s2_19, s2_20, s2_21, s2_24, s2_25, s2_26, s2_29, Option.toList_some, Option.toList_none, List.cons_append, List.nil_append, if_true, if_false, eq_self, n1n0, ne10, h, nI_ltI, hD, w2, nI_add]
theorem c_tellDrinks {a : Int32} : zcl 5 [.ref 3, .int a] X Q = Q none (zst X 3 (upd (upd (X 3) 3 a) 4 (nI 1))) := by
  have e : (nI 1 = nI 0 ∨ nI 1 = nI 1) := Or.inr rfl
  simp (disch := first | omega | assumption | decide) only [e5, s5_0, s5_1, s5_2, s5_5, s5_6, s5_7, s5_10, Option.toList_some, Option.toList_none, List.cons_append, List.nil_append, if_true, if_false, eq_self, n1n0, ne10, zst_at, zst_zst]
theorem rC_glass {W tm wt lm br : Nat → Nat} {D G B C T a b : Nat} {Y : zM} (hY : rC t tx X (p, (D, W), (G, tm, wt), (B, lm, br), C, T) Y) : rC t tx X (p, (D, W), (G + 1, un tm G a, un wt G b), (B, lm, br), C, T) (zst (zst (zst Y 5 (upd (Y 5) G (nI a))) 6 (upd (Y 6) G (nI b))) 3 (upd (Y 3) 1 (nI (G + 1)))) := by
  obtain ⟨h1, h2, h3, ⟨h4a, h4b, h4c, h4d, h4e⟩, h5, h6, h7⟩ := hY
  refine ⟨fun c c1 c2 => ?_, ?_, ?_, ⟨?_, ?_, ?_, ?_, ?_⟩, fun k hk => ?_, fun g hg => ?_, fun b hb => ?_⟩
  · rw [zst_ne _ _ (by omega), zst_ne _ _ (by omega), zst_ne _ _ (by omega)]; exact h1 c c1 c2
  · exact h2
  · exact h3
  · rw [zst_at, upd_ne _ _ (by decide)]; exact h4a
  · rw [zst_at, upd_at]
  · rw [zst_at, upd_ne _ _ (by decide)]; exact h4c
  · rw [zst_at, upd_ne _ _ (by decide)]; exact h4d
  · rw [zst_at, upd_ne _ _ (by decide)]; exact h4e
  · exact h5 k hk
  · rw [zst_ne _ _ (by decide), zst_ne _ _ (by decide), zst_at, zst_ne _ _ (by decide), zst_at]
    by_cases c : g = G
    · rw [c, upd_at, upd_at, un_at, un_at]; exact ⟨rfl, rfl⟩
    · rw [upd_ne _ _ c, upd_ne _ _ c, un_ne _ c, un_ne _ c]; exact h6 g (by omega)
  · exact h7 b hb
theorem rC_boat {W tm wt lm br : Nat → Nat} {D G B C T a b : Nat} {Y : zM} (hY : rC t tx X (p, (D, W), (G, tm, wt), (B, lm, br), C, T) Y) : rC t tx X (p, (D, W), (G, tm, wt), (B + 1, un lm B a, un br B b), C, T) (zst (zst (zst Y 7 (upd (Y 7) B (nI a))) 8 (upd (Y 8) B (nI b))) 3 (upd (Y 3) 2 (nI (B + 1)))) := by
  obtain ⟨h1, h2, h3, ⟨h4a, h4b, h4c, h4d, h4e⟩, h5, h6, h7⟩ := hY
  refine ⟨fun c c1 c2 => ?_, ?_, ?_, ⟨?_, ?_, ?_, ?_, ?_⟩, fun k hk => ?_, fun g hg => ?_, fun b hb => ?_⟩
  · rw [zst_ne _ _ (by omega), zst_ne _ _ (by omega), zst_ne _ _ (by omega)]; exact h1 c c1 c2
  · exact h2
  · exact h3
  · rw [zst_at, upd_ne _ _ (by decide)]; exact h4a
  · rw [zst_at, upd_ne _ _ (by decide)]; exact h4b
  · rw [zst_at, upd_at]
  · rw [zst_at, upd_ne _ _ (by decide)]; exact h4d
  · rw [zst_at, upd_ne _ _ (by decide)]; exact h4e
  · exact h5 k hk
  · exact h6 g hg
  · rw [zst_ne _ _ (by decide), zst_ne _ _ (by decide), zst_at, zst_ne _ _ (by decide), zst_at]
    by_cases c : b = B
    · rw [c, upd_at, upd_at, un_at, un_at]; exact ⟨rfl, rfl⟩
    · rw [upd_ne _ _ c, upd_ne _ _ c, un_ne _ c, un_ne _ c]; exact h7 b (by omega)
theorem rC_weather {W tm wt lm br : Nat → Nat} {D G B C T a : Nat} {Y : zM} (hY : rC t tx X (p, (D, W), (G, tm, wt), (B, lm, br), C, T) Y) : rC t tx X (p, (D + 1, un W D a), (G, tm, wt), (B, lm, br), C, T) (zst (zst Y 4 (upd (Y 4) D (nI a))) 3 (upd (Y 3) 0 (nI (D + 1)))) := by
  obtain ⟨h1, h2, h3, ⟨h4a, h4b, h4c, h4d, h4e⟩, h5, h6, h7⟩ := hY
  refine ⟨fun c c1 c2 => ?_, ?_, ?_, ⟨?_, ?_, ?_, ?_, ?_⟩, fun k hk => ?_, fun g hg => ?_, fun b hb => ?_⟩
  · rw [zst_ne _ _ (by omega), zst_ne _ _ (by omega)]; exact h1 c c1 c2
  · exact h2
  · exact h3
  · rw [zst_at, upd_at]
  · rw [zst_at, upd_ne _ _ (by decide)]; exact h4b
  · rw [zst_at, upd_ne _ _ (by decide)]; exact h4c
  · rw [zst_at, upd_ne _ _ (by decide)]; exact h4d
  · rw [zst_at, upd_ne _ _ (by decide)]; exact h4e
  · rw [zst_ne _ _ (by decide), zst_at]
    by_cases c : k = D
    · rw [c, upd_at, un_at]
    · rw [upd_ne _ _ c, un_ne _ c]; exact h5 k (by omega)
  · exact h6 g hg
  · exact h7 b hb
theorem rC_drinks {W tm wt lm br : Nat → Nat} {D G B C T a : Nat} {Y : zM} (hY : rC t tx X (p, (D, W), (G, tm, wt), (B, lm, br), C, T) Y) : rC t tx X (p, (D, W), (G, tm, wt), (B, lm, br), a, 1) (zst Y 3 (upd (upd (Y 3) 3 (nI a)) 4 (nI 1))) := by
  obtain ⟨h1, h2, h3, ⟨h4a, h4b, h4c, h4d, h4e⟩, h5, h6, h7⟩ := hY
  refine ⟨fun c c1 c2 => ?_, ?_, ?_, ⟨?_, ?_, ?_, ?_, ?_⟩, fun k hk => ?_, fun g hg => ?_, fun b hb => ?_⟩
  · rw [zst_ne _ _ (by omega)]; exact h1 c c1 c2
  · exact h2
  · exact h3
  · rw [zst_at, upd_ne _ _ (by decide), upd_ne _ _ (by decide)]; exact h4a
  · rw [zst_at, upd_ne _ _ (by decide), upd_ne _ _ (by decide)]; exact h4b
  · rw [zst_at, upd_ne _ _ (by decide), upd_ne _ _ (by decide)]; exact h4c
  · rw [zst_at, upd_ne _ _ (by decide), upd_at]
  · rw [zst_at, upd_at]
  · exact h5 k hk
  · exact h6 g hg
  · exact h7 b hb
theorem c_glassC {m : Nat} {W tm wt lm br : Nat → Nat} {D G B C T : Nat} {Y : zM} (hY : rC t tx X (p, (D, W), (G, tm, wt), (B, lm, br), C, T) Y) (hp : p ≤ t) (hG : G < 7) (hf : ¬ (n2k t tx 10 9 p).1 = 0 → ∀ Z, fC t tx X (n2k t tx 10 9 p).1 (n2k t tx 10 9 p).2 Z → Q none Z) (ho : (n2k t tx 10 9 p).1 = 0 → ∀ Z, rC t tx X (sk t tx (ne t tx (ne t tx p)) + 1, (D, W), (G + 1, un tm G (nv t tx p), un wt G (nv t tx (ne t tx p))), (B, lm, br), C, T) Z → Q none Z) : zcl 113 [.ref 1, .ref 3] Y Q := by
  have l1 := ne_le (tx := tx) hp
  have l2 := ne_le (tx := tx) l1.2.2
  have i1 := nk_01 (t := t) (tx := tx) (m := 10) (p := p)
  have i2 := nk_01 (t := t) (tx := tx) (m := 9) (p := ne t tx p)
  have tY := hY.2.1
  obtain ⟨a1, a2, a3⟩ := hY.2.2.1
  simp (disch := first | omega | assumption | decide) only [e113, s113_0, s113_1, s113_3, s113_6, s113_7, s113_8, s113_10, s113_13, s113_14, s113_15, s113_18, s113_19, s113_22, s113_25, s113_26, s113_27, s113_28, s113_31, Option.toList_some, Option.toList_none, List.cons_append, List.nil_append, if_true, if_false, eq_self, n1n0, ne10]
  refine c_numC (by decide) tY a1 hp (fun Z1 v1 hv1 hZ1 => ?_)
  have t1 := rd1_tC hZ1 tY
  rw [a2, a3] at hZ1
  have b1 := hZ1.2.2.2.2.1
  have b2 := hZ1.2.2.2.2.2
  simp (disch := first | omega | assumption | decide) only [e113, s113_0, s113_1, s113_3, s113_6, s113_7, s113_8, s113_10, s113_13, s113_14, s113_15, s113_18, s113_19, s113_22, s113_25, s113_26, s113_27, s113_28, s113_31, Option.toList_some, Option.toList_none, List.cons_append, List.nil_append, if_true, if_false, eq_self, n1n0, ne10]
  refine c_numC (by decide) t1 hZ1.2.2.2.1 l1.2.2 (fun Z2 v2 hv2 hZ2 => ?_)
  have t2 := rd1_tC hZ2 t1
  rw [b1, b2] at hZ2
  have d1 := hZ2.2.2.2.2.1
  have d2 := hZ2.2.2.2.2.2
  simp (disch := first | omega | assumption | decide) only [e113, s113_0, s113_1, s113_3, s113_6, s113_7, s113_8, s113_10, s113_13, s113_14, s113_15, s113_18, s113_19, s113_22, s113_25, s113_26, s113_27, s113_28, s113_31, Option.toList_some, Option.toList_none, List.cons_append, List.nil_append, if_true, if_false, eq_self, n1n0, ne10]
  refine c_endC t2 hZ2.2.2.2.1 l2.2.2 (fun Z3 hZ3 => ?_)
  have t3 := rd1_tC hZ3 t2
  rw [d1, d2] at hZ3
  have z13 := rd1_tr hZ1 (rd1_tr hZ2 hZ3)
  unfold n2k at hf ho
  by_cases c1 : nk t tx 10 p = 0
  · rw [if_pos c1] at hf ho
    rw [c1, flK_0, flF_0] at z13
    by_cases c2 : nk t tx 9 (ne t tx p) = 0
    · rw [if_pos c2] at hf ho
      rw [c2, flK_0, flF_0] at z13
      rw [hv1 c1, hv2 c2]
      by_cases c3 : ek t tx (ne t tx (ne t tx p)) = 0
      · have ho := ho c3
        rw [if_pos c3, c3, flK_0, flF_0] at z13
        have e3 := z13.2.2.2.2.1
        have eg : Z3 3 1 = nI G := by rw [z13.1 3 (by decide)]; exact hY.2.2.2.1.2.1
        have hadd := fun Q => c_addGlass (X := Z3) (Q := Q) (a := nI (nv t tx p)) (b := nI (nv t tx (ne t tx p))) eg hG
        simp (disch := first | omega | assumption | decide) only [e113, s113_0, s113_1, s113_3, s113_6, s113_7, s113_8, s113_10, s113_13, s113_14, s113_15, s113_18, s113_19, s113_22, s113_25, s113_26, s113_27, s113_28, s113_31, Option.toList_some, Option.toList_none, List.cons_append, List.nil_append, if_true, if_false, eq_self, n1n0, ne10, e3, hadd]
        refine ho _ ?_
        exact rC_glass (rC_rd1 hY z13 t3)
      · have e := ek_01 (t := t) (tx := tx) (p := ne t tx (ne t tx p))
        have c4 : ek t tx (ne t tx (ne t tx p)) = 1 := by omega
        have hf := hf c3
        rw [if_neg c3, flK_z, flF_z c3] at z13
        have e3 := z13.2.2.2.2.1
        rw [c4] at e3
        simp (disch := first | omega | assumption | decide) only [e113, s113_0, s113_1, s113_3, s113_6, s113_7, s113_8, s113_10, s113_13, s113_14, s113_15, s113_18, s113_19, s113_22, s113_25, s113_26, s113_27, s113_28, s113_31, Option.toList_some, Option.toList_none, List.cons_append, List.nil_append, if_true, if_false, eq_self, n1n0, ne10, e3, n1n0]
        exact hf _ (fC_rd1 hY z13 t3)
    · rw [if_neg c2] at hf ho
      have hf := hf c2
      rw [flK_z, flF_z c2, flK_n (by omega) c2, flF_n (by omega) c2] at z13
      have e3 := z13.2.2.2.2.1
      have n0 : ¬ nI (nk t tx 9 (ne t tx p)) = nI 0 := fun q => c2 ((nI_eq (by omega) (by decide)).mp q)
      simp (disch := first | omega | assumption | decide) only [e113, s113_0, s113_1, s113_3, s113_6, s113_7, s113_8, s113_10, s113_13, s113_14, s113_15, s113_18, s113_19, s113_22, s113_25, s113_26, s113_27, s113_28, s113_31, Option.toList_some, Option.toList_none, List.cons_append, List.nil_append, if_true, if_false, eq_self, n1n0, ne10, e3, n0]
      exact hf _ (fC_rd1 hY z13 t3)
  · rw [if_neg c1] at hf ho
    have hf := hf c1
    rw [flK_z, flF_z c1, flK_n (by omega) c1, flF_n (by omega) c1, flK_n (by omega) c1, flF_n (by omega) c1] at z13
    have e3 := z13.2.2.2.2.1
    have n0 : ¬ nI (nk t tx 10 p) = nI 0 := fun q => c1 ((nI_eq (by omega) (by decide)).mp q)
    simp (disch := first | omega | assumption | decide) only [e113, s113_0, s113_1, s113_3, s113_6, s113_7, s113_8, s113_10, s113_13, s113_14, s113_15, s113_18, s113_19, s113_22, s113_25, s113_26, s113_27, s113_28, s113_31, Option.toList_some, Option.toList_none, List.cons_append, List.nil_append, if_true, if_false, eq_self, n1n0, ne10, e3, n0]
    exact hf _ (fC_rd1 hY z13 t3)
theorem c_boatC {m : Nat} {W tm wt lm br : Nat → Nat} {D G B C T : Nat} {Y : zM} (hY : rC t tx X (p, (D, W), (G, tm, wt), (B, lm, br), C, T) Y) (hp : p ≤ t) (hG : B < 5) (hf : ¬ (n2k t tx 9 9 p).1 = 0 → ∀ Z, fC t tx X (n2k t tx 9 9 p).1 (n2k t tx 9 9 p).2 Z → Q none Z) (ho : (n2k t tx 9 9 p).1 = 0 → ∀ Z, rC t tx X (sk t tx (ne t tx (ne t tx p)) + 1, (D, W), (G, tm, wt), (B + 1, un lm B (nv t tx p), un br B (nv t tx (ne t tx p))), C, T) Z → Q none Z) : zcl 114 [.ref 1, .ref 3] Y Q := by
  have l1 := ne_le (tx := tx) hp
  have l2 := ne_le (tx := tx) l1.2.2
  have i1 := nk_01 (t := t) (tx := tx) (m := 9) (p := p)
  have i2 := nk_01 (t := t) (tx := tx) (m := 9) (p := ne t tx p)
  have tY := hY.2.1
  obtain ⟨a1, a2, a3⟩ := hY.2.2.1
  simp (disch := first | omega | assumption | decide) only [e114, s114_0, s114_1, s114_3, s114_6, s114_7, s114_8, s114_10, s114_13, s114_14, s114_15, s114_18, s114_19, s114_22, s114_25, s114_26, s114_27, s114_28, s114_31, Option.toList_some, Option.toList_none, List.cons_append, List.nil_append, if_true, if_false, eq_self, n1n0, ne10]
  refine c_numC (by decide) tY a1 hp (fun Z1 v1 hv1 hZ1 => ?_)
  have t1 := rd1_tC hZ1 tY
  rw [a2, a3] at hZ1
  have b1 := hZ1.2.2.2.2.1
  have b2 := hZ1.2.2.2.2.2
  simp (disch := first | omega | assumption | decide) only [e114, s114_0, s114_1, s114_3, s114_6, s114_7, s114_8, s114_10, s114_13, s114_14, s114_15, s114_18, s114_19, s114_22, s114_25, s114_26, s114_27, s114_28, s114_31, Option.toList_some, Option.toList_none, List.cons_append, List.nil_append, if_true, if_false, eq_self, n1n0, ne10]
  refine c_numC (by decide) t1 hZ1.2.2.2.1 l1.2.2 (fun Z2 v2 hv2 hZ2 => ?_)
  have t2 := rd1_tC hZ2 t1
  rw [b1, b2] at hZ2
  have d1 := hZ2.2.2.2.2.1
  have d2 := hZ2.2.2.2.2.2
  simp (disch := first | omega | assumption | decide) only [e114, s114_0, s114_1, s114_3, s114_6, s114_7, s114_8, s114_10, s114_13, s114_14, s114_15, s114_18, s114_19, s114_22, s114_25, s114_26, s114_27, s114_28, s114_31, Option.toList_some, Option.toList_none, List.cons_append, List.nil_append, if_true, if_false, eq_self, n1n0, ne10]
  refine c_endC t2 hZ2.2.2.2.1 l2.2.2 (fun Z3 hZ3 => ?_)
  have t3 := rd1_tC hZ3 t2
  rw [d1, d2] at hZ3
  have z13 := rd1_tr hZ1 (rd1_tr hZ2 hZ3)
  unfold n2k at hf ho
  by_cases c1 : nk t tx 9 p = 0
  · rw [if_pos c1] at hf ho
    rw [c1, flK_0, flF_0] at z13
    by_cases c2 : nk t tx 9 (ne t tx p) = 0
    · rw [if_pos c2] at hf ho
      rw [c2, flK_0, flF_0] at z13
      rw [hv1 c1, hv2 c2]
      by_cases c3 : ek t tx (ne t tx (ne t tx p)) = 0
      · have ho := ho c3
        rw [if_pos c3, c3, flK_0, flF_0] at z13
        have e3 := z13.2.2.2.2.1
        have eg : Z3 3 2 = nI B := by rw [z13.1 3 (by decide)]; exact hY.2.2.2.1.2.2.1
        have hadd := fun Q => c_addBoat (X := Z3) (Q := Q) (a := nI (nv t tx p)) (b := nI (nv t tx (ne t tx p))) eg hG
        simp (disch := first | omega | assumption | decide) only [e114, s114_0, s114_1, s114_3, s114_6, s114_7, s114_8, s114_10, s114_13, s114_14, s114_15, s114_18, s114_19, s114_22, s114_25, s114_26, s114_27, s114_28, s114_31, Option.toList_some, Option.toList_none, List.cons_append, List.nil_append, if_true, if_false, eq_self, n1n0, ne10, e3, hadd]
        refine ho _ ?_
        exact rC_boat (rC_rd1 hY z13 t3)
      · have e := ek_01 (t := t) (tx := tx) (p := ne t tx (ne t tx p))
        have c4 : ek t tx (ne t tx (ne t tx p)) = 1 := by omega
        have hf := hf c3
        rw [if_neg c3, flK_z, flF_z c3] at z13
        have e3 := z13.2.2.2.2.1
        rw [c4] at e3
        simp (disch := first | omega | assumption | decide) only [e114, s114_0, s114_1, s114_3, s114_6, s114_7, s114_8, s114_10, s114_13, s114_14, s114_15, s114_18, s114_19, s114_22, s114_25, s114_26, s114_27, s114_28, s114_31, Option.toList_some, Option.toList_none, List.cons_append, List.nil_append, if_true, if_false, eq_self, n1n0, ne10, e3, n1n0]
        exact hf _ (fC_rd1 hY z13 t3)
    · rw [if_neg c2] at hf ho
      have hf := hf c2
      rw [flK_z, flF_z c2, flK_n (by omega) c2, flF_n (by omega) c2] at z13
      have e3 := z13.2.2.2.2.1
      have n0 : ¬ nI (nk t tx 9 (ne t tx p)) = nI 0 := fun q => c2 ((nI_eq (by omega) (by decide)).mp q)
      simp (disch := first | omega | assumption | decide) only [e114, s114_0, s114_1, s114_3, s114_6, s114_7, s114_8, s114_10, s114_13, s114_14, s114_15, s114_18, s114_19, s114_22, s114_25, s114_26, s114_27, s114_28, s114_31, Option.toList_some, Option.toList_none, List.cons_append, List.nil_append, if_true, if_false, eq_self, n1n0, ne10, e3, n0]
      exact hf _ (fC_rd1 hY z13 t3)
  · rw [if_neg c1] at hf ho
    have hf := hf c1
    rw [flK_z, flF_z c1, flK_n (by omega) c1, flF_n (by omega) c1, flK_n (by omega) c1, flF_n (by omega) c1] at z13
    have e3 := z13.2.2.2.2.1
    have n0 : ¬ nI (nk t tx 9 p) = nI 0 := fun q => c1 ((nI_eq (by omega) (by decide)).mp q)
    simp (disch := first | omega | assumption | decide) only [e114, s114_0, s114_1, s114_3, s114_6, s114_7, s114_8, s114_10, s114_13, s114_14, s114_15, s114_18, s114_19, s114_22, s114_25, s114_26, s114_27, s114_28, s114_31, Option.toList_some, Option.toList_none, List.cons_append, List.nil_append, if_true, if_false, eq_self, n1n0, ne10, e3, n0]
    exact hf _ (fC_rd1 hY z13 t3)
theorem c_drinksC {W tm wt lm br : Nat → Nat} {D G B C T : Nat} {Y : zM} (hY : rC t tx X (p, (D, W), (G, tm, wt), (B, lm, br), C, T) Y) (hp : p ≤ t) (hf : ¬ (n1k t tx 20 p).1 = 0 → ∀ Z, fC t tx X (n1k t tx 20 p).1 (n1k t tx 20 p).2 Z → Q none Z) (ho : (n1k t tx 20 p).1 = 0 → ∀ Z, rC t tx X (sk t tx (ne t tx p) + 1, (D, W), (G, tm, wt), (B, lm, br), nv t tx p, 1) Z → Q none Z) : zcl 115 [.ref 1, .ref 3] Y Q := by
  have l1 := ne_le (tx := tx) hp
  have i1 := nk_01 (t := t) (tx := tx) (m := 20) (p := p)
  have tY := hY.2.1
  obtain ⟨a1, a2, a3⟩ := hY.2.2.1
  simp (disch := first | omega | assumption | decide) only [e115, s115_0, s115_1, s115_3, s115_6, s115_7, s115_8, s115_11, s115_12, s115_15, s115_18, s115_19, s115_20, s115_23, Option.toList_some, Option.toList_none, List.cons_append, List.nil_append, if_true, if_false, eq_self, n1n0, ne10]
  refine c_numC (by decide) tY a1 hp (fun Z1 v1 hv1 hZ1 => ?_)
  have t1 := rd1_tC hZ1 tY
  rw [a2, a3] at hZ1
  have b1 := hZ1.2.2.2.2.1
  have b2 := hZ1.2.2.2.2.2
  simp (disch := first | omega | assumption | decide) only [e115, s115_0, s115_1, s115_3, s115_6, s115_7, s115_8, s115_11, s115_12, s115_15, s115_18, s115_19, s115_20, s115_23, Option.toList_some, Option.toList_none, List.cons_append, List.nil_append, if_true, if_false, eq_self, n1n0, ne10]
  refine c_endC t1 hZ1.2.2.2.1 l1.2.2 (fun Z3 hZ3 => ?_)
  have t3 := rd1_tC hZ3 t1
  rw [b1, b2] at hZ3
  have z13 := rd1_tr hZ1 hZ3
  unfold n1k at hf ho
  by_cases c1 : nk t tx 20 p = 0
  · rw [if_pos c1] at hf ho
    rw [c1, flK_0, flF_0] at z13
    rw [hv1 c1]
    by_cases c3 : ek t tx (ne t tx p) = 0
    · have ho := ho c3
      rw [if_pos c3, c3, flK_0, flF_0] at z13
      have e3 := z13.2.2.2.2.1
      have hadd := fun Q => c_tellDrinks (X := Z3) (Q := Q) (a := nI (nv t tx p))
      simp (disch := first | omega | assumption | decide) only [e115, s115_0, s115_1, s115_3, s115_6, s115_7, s115_8, s115_11, s115_12, s115_15, s115_18, s115_19, s115_20, s115_23, Option.toList_some, Option.toList_none, List.cons_append, List.nil_append, if_true, if_false, eq_self, n1n0, ne10, e3, hadd]
      exact ho _ (rC_drinks (rC_rd1 hY z13 t3))
    · have e := ek_01 (t := t) (tx := tx) (p := ne t tx p)
      have c4 : ek t tx (ne t tx p) = 1 := by omega
      have hf := hf c3
      rw [if_neg c3, flK_z, flF_z c3] at z13
      have e3 := z13.2.2.2.2.1
      rw [c4] at e3
      simp (disch := first | omega | assumption | decide) only [e115, s115_0, s115_1, s115_3, s115_6, s115_7, s115_8, s115_11, s115_12, s115_15, s115_18, s115_19, s115_20, s115_23, Option.toList_some, Option.toList_none, List.cons_append, List.nil_append, if_true, if_false, eq_self, n1n0, ne10, e3, n1n0]
      exact hf _ (fC_rd1 hY z13 t3)
  · rw [if_neg c1] at hf ho
    have hf := hf c1
    rw [flK_z, flF_z c1, flK_n (by omega) c1, flF_n (by omega) c1] at z13
    have e3 := z13.2.2.2.2.1
    have n0 : ¬ nI (nk t tx 20 p) = nI 0 := fun q => c1 ((nI_eq (by omega) (by decide)).mp q)
    simp (disch := first | omega | assumption | decide) only [e115, s115_0, s115_1, s115_3, s115_6, s115_7, s115_8, s115_11, s115_12, s115_15, s115_18, s115_19, s115_20, s115_23, Option.toList_some, Option.toList_none, List.cons_append, List.nil_append, if_true, if_false, eq_self, n1n0, ne10, e3, n0]
    exact hf _ (fC_rd1 hY z13 t3)
theorem wea_loop {tm wt lm br : Nat → Nat} {G B C T : Nat} {r : Nat × Nat × Nat × Nat × (Nat → Nat)} (hf : ¬ r.1 = 0 → ∀ Z, fC t tx X r.1 r.2.1 Z → Q none Z) (ho : r.1 = 0 → ∀ Z, rC t tx X (r.2.2.1, r.2.2.2, (G, tm, wt), (B, lm, br), C, T) Z → Q none Z) : ∀ (n D : Nat) (W : Nat → Nat) (p : Nat) (Y : zM) (l3 : Value), D + (n + 1) = 12 → p ≤ t → wth t tx (n + 1) D W p = r → rC t tx X (p, (D, W), (G, tm, wt), (B, lm, br), C, T) Y → zev 112 2 [.ref 1, .ref 3, .int (nI D), l3] [] Y Q := by
  intro n
  induction n with
  | zero =>
    intro D W p Y l3 hD hp hr hY
    have q : D = 11 := by omega
    have hlt : D < 12 := by omega
    have l1 := ne_le (tx := tx) hp
    have l2 := sk_le (tx := tx) l1.2.2
    have i1 := nk_01 (t := t) (tx := tx) (m := 9) (p := p)
    have tY := hY.2.1
    obtain ⟨a1, a2, a3⟩ := hY.2.2.1
    unfold wth at hr
    rw [s112_2]
    simp (disch := first | omega | assumption | decide) only [e112, s112_0, s112_1, s112_3, s112_5, s112_8, s112_9, s112_11, s112_14, s112_15, s112_16, s112_19, s112_22, s112_23, s112_24, s112_25, s112_28, s112_29, s112_32, s112_34, s112_37, s112_38, s112_41, s112_43, s112_46, s112_47, s112_50, s112_51, s112_52, s112_53, s112_56, s112_57, s112_58, s112_61, s112_64, s112_67, Option.toList_some, Option.toList_none, List.cons_append, List.nil_append, if_true, if_false, eq_self, n1n0, ne10, nI_ltI, hlt]
    refine c_numC (by decide) tY a1 hp (fun Z1 v1 hv1 hZ1 => ?_)
    have t1 := rd1_tC hZ1 tY
    rw [a2, a3] at hZ1
    by_cases c1 : nk t tx 9 p = 0
    · rw [if_pos c1, if_neg (by omega)] at hr
      rw [c1, flK_0, flF_0] at hZ1
      have b1 := hZ1.2.2.2.2.1
      have hc := rC_rd1 hY hZ1 t1
      have hw := fun Q => c_addWeather (X := Z1) (Q := Q) (a := nI (nv t tx p)) hc.2.2.2.1.1 hlt
      have hwC := rC_weather (a := nv t tx p) hc
      rw [hv1 c1]
      simp (disch := first | omega | assumption | decide) only [e112, s112_0, s112_1, s112_3, s112_5, s112_8, s112_9, s112_11, s112_14, s112_15, s112_16, s112_19, s112_22, s112_23, s112_24, s112_25, s112_28, s112_29, s112_32, s112_34, s112_37, s112_38, s112_41, s112_43, s112_46, s112_47, s112_50, s112_51, s112_52, s112_53, s112_56, s112_57, s112_58, s112_61, s112_64, s112_67, Option.toList_some, Option.toList_none, List.cons_append, List.nil_append, if_true, if_false, eq_self, n1n0, ne10, b1, hw]
      generalize hV : zst (zst Z1 4 (upd (Z1 4) D (nI (nv t tx p)))) 3 (upd (Z1 3) 0 (nI (D + 1))) = V at hwC ⊢
      refine c_next2 hwC.2.1 hwC.2.2.1.1 l1.2.2 (fun V2 hV2 => ?_)
      have tV2 := rd1_tC hV2 hwC.2.1
      rw [hwC.2.2.1.2.1, hwC.2.2.1.2.2] at hV2
      have hc2 := rC_rd1 hwC hV2 tV2
      have e0 := hc2.2.2.2.1.1
      have c12 : ¬ D + 1 < 12 := by omega
      have kk : zcl 67 [.ref 1] V2 (fun r X1 => zev 112 50 [.ref 1, .ref 3, .int (nI D), .int (nI (nv t tx p))] (r.toList ++ []) X1 Q) := by
        refine c_endC tV2 hc2.2.2.1.1 l2.2 (fun Z3 hZ3 => ?_)
        have t3 := rd1_tC hZ3 tV2
        rw [hc2.2.2.1.2.1, hc2.2.2.1.2.2, ek_sk l1.2.2, sk_sk l1.2.2] at hZ3
        simp (disch := first | omega | assumption | decide) only [e112, s112_0, s112_1, s112_3, s112_5, s112_8, s112_9, s112_11, s112_14, s112_15, s112_16, s112_19, s112_22, s112_23, s112_24, s112_25, s112_28, s112_29, s112_32, s112_34, s112_37, s112_38, s112_41, s112_43, s112_46, s112_47, s112_50, s112_51, s112_52, s112_53, s112_56, s112_57, s112_58, s112_61, s112_64, s112_67, Option.toList_some, Option.toList_none, List.cons_append, List.nil_append, if_true, if_false, eq_self, n1n0, ne10]
        subst hr
        by_cases c3 : ek t tx (ne t tx p) = 0
        · rw [c3, if_pos rfl, flK_0, flF_0] at hZ3
          exact ho c3 _ (rC_rd1 hc2 hZ3 t3)
        · rw [if_neg c3, flK_z, flF_z c3] at hZ3
          exact hf c3 _ (fC_rd1 hc2 hZ3 t3)
      by_cases c4 : sg t tx (sk t tx (ne t tx p)) = nI 44
      · simp (disch := first | omega | assumption | decide) only [e112, s112_0, s112_1, s112_3, s112_5, s112_8, s112_9, s112_11, s112_14, s112_15, s112_16, s112_19, s112_22, s112_23, s112_24, s112_25, s112_28, s112_29, s112_32, s112_34, s112_37, s112_38, s112_41, s112_43, s112_46, s112_47, s112_50, s112_51, s112_52, s112_53, s112_56, s112_57, s112_58, s112_61, s112_64, s112_67, Option.toList_some, Option.toList_none, List.cons_append, List.nil_append, if_true, if_false, eq_self, n1n0, ne10, c4, e0, nI_ltI, c12]
        exact kk
      · simp (disch := first | omega | assumption | decide) only [e112, s112_0, s112_1, s112_3, s112_5, s112_8, s112_9, s112_11, s112_14, s112_15, s112_16, s112_19, s112_22, s112_23, s112_24, s112_25, s112_28, s112_29, s112_32, s112_34, s112_37, s112_38, s112_41, s112_43, s112_46, s112_47, s112_50, s112_51, s112_52, s112_53, s112_56, s112_57, s112_58, s112_61, s112_64, s112_67, Option.toList_some, Option.toList_none, List.cons_append, List.nil_append, if_true, if_false, eq_self, n1n0, ne10, c4, e0, nI_ltI, c12]
        exact kk
    · rw [if_neg c1] at hr
      subst hr
      rw [flK_z, flF_z c1] at hZ1
      have b1 := hZ1.2.2.2.2.1
      have n0 : ¬ nI (nk t tx 9 p) = nI 0 := fun q => c1 ((nI_eq (by omega) (by decide)).mp q)
      simp (disch := first | omega | assumption | decide) only [e112, s112_0, s112_1, s112_3, s112_5, s112_8, s112_9, s112_11, s112_14, s112_15, s112_16, s112_19, s112_22, s112_23, s112_24, s112_25, s112_28, s112_29, s112_32, s112_34, s112_37, s112_38, s112_41, s112_43, s112_46, s112_47, s112_50, s112_51, s112_52, s112_53, s112_56, s112_57, s112_58, s112_61, s112_64, s112_67, Option.toList_some, Option.toList_none, List.cons_append, List.nil_append, if_true, if_false, eq_self, n1n0, ne10, b1, n0]
      exact hf c1 _ (fC_rd1 hY hZ1 t1)
  | succ n ih =>
    intro D W p Y l3 hD hp hr hY
    have hlt : D < 12 := by omega
    have l1 := ne_le (tx := tx) hp
    have l2 := sk_le (tx := tx) l1.2.2
    have i1 := nk_01 (t := t) (tx := tx) (m := 9) (p := p)
    have tY := hY.2.1
    obtain ⟨a1, a2, a3⟩ := hY.2.2.1
    unfold wth at hr
    rw [s112_2]
    simp (disch := first | omega | assumption | decide) only [e112, s112_0, s112_1, s112_3, s112_5, s112_8, s112_9, s112_11, s112_14, s112_15, s112_16, s112_19, s112_22, s112_23, s112_24, s112_25, s112_28, s112_29, s112_32, s112_34, s112_37, s112_38, s112_41, s112_43, s112_46, s112_47, s112_50, s112_51, s112_52, s112_53, s112_56, s112_57, s112_58, s112_61, s112_64, s112_67, Option.toList_some, Option.toList_none, List.cons_append, List.nil_append, if_true, if_false, eq_self, n1n0, ne10, nI_ltI, hlt]
    refine c_numC (by decide) tY a1 hp (fun Z1 v1 hv1 hZ1 => ?_)
    have t1 := rd1_tC hZ1 tY
    rw [a2, a3] at hZ1
    by_cases c1 : nk t tx 9 p = 0
    · rw [if_pos c1] at hr
      rw [c1, flK_0, flF_0] at hZ1
      have b1 := hZ1.2.2.2.2.1
      have hc := rC_rd1 hY hZ1 t1
      have hw := fun Q => c_addWeather (X := Z1) (Q := Q) (a := nI (nv t tx p)) hc.2.2.2.1.1 hlt
      have hwC := rC_weather (a := nv t tx p) hc
      rw [hv1 c1]
      simp (disch := first | omega | assumption | decide) only [e112, s112_0, s112_1, s112_3, s112_5, s112_8, s112_9, s112_11, s112_14, s112_15, s112_16, s112_19, s112_22, s112_23, s112_24, s112_25, s112_28, s112_29, s112_32, s112_34, s112_37, s112_38, s112_41, s112_43, s112_46, s112_47, s112_50, s112_51, s112_52, s112_53, s112_56, s112_57, s112_58, s112_61, s112_64, s112_67, Option.toList_some, Option.toList_none, List.cons_append, List.nil_append, if_true, if_false, eq_self, n1n0, ne10, b1, hw]
      generalize hV : zst (zst Z1 4 (upd (Z1 4) D (nI (nv t tx p)))) 3 (upd (Z1 3) 0 (nI (D + 1))) = V at hwC ⊢
      refine c_next2 hwC.2.1 hwC.2.2.1.1 l1.2.2 (fun V2 hV2 => ?_)
      have tV2 := rd1_tC hV2 hwC.2.1
      rw [hwC.2.2.1.2.1, hwC.2.2.1.2.2] at hV2
      have hc2 := rC_rd1 hwC hV2 tV2
      have e0 := hc2.2.2.2.1.1
      have c12 : D + 1 < 12 := by omega
      by_cases c4 : sk t tx (ne t tx p) < t ∧ tx (sk t tx (ne t tx p)) = 44
      · have c5 : sg t tx (sk t tx (ne t tx p)) = nI 44 := (sgn_n tV2.2.1 (by decide)).mpr c4
        rw [if_pos ⟨c4.1, c4.2, c12⟩] at hr
        have e2 := hc2.2.2.1.1
        have hat := rd1_at (X := V2) (q := sk t tx (ne t tx p) + 1) ⟨fun _ _ => rfl, rfl, rfl, hc2.2.2.1.1, hc2.2.2.1.2.1, hc2.2.2.1.2.2⟩
        have kk := ih (D + 1) _ (sk t tx (ne t tx p) + 1) _ (.int (nI (nv t tx p))) (by omega) (by omega) hr (rC_rd1 hc2 hat (rd1_tC hat tV2))
        simp (disch := first | omega | assumption | decide) only [e112, s112_0, s112_1, s112_3, s112_5, s112_8, s112_9, s112_11, s112_14, s112_15, s112_16, s112_19, s112_22, s112_23, s112_24, s112_25, s112_28, s112_29, s112_32, s112_34, s112_37, s112_38, s112_41, s112_43, s112_46, s112_47, s112_50, s112_51, s112_52, s112_53, s112_56, s112_57, s112_58, s112_61, s112_64, s112_67, Option.toList_some, Option.toList_none, List.cons_append, List.nil_append, if_true, if_false, eq_self, n1n0, ne10, c5, e0, nI_ltI, c12, e2, nI_add]
        exact kk
      · have c5 : ¬ sg t tx (sk t tx (ne t tx p)) = nI 44 := fun q => c4 ((sgn_n tV2.2.1 (by decide)).mp q)
        rw [if_neg (fun q => c4 ⟨q.1, q.2.1⟩)] at hr
        simp (disch := first | omega | assumption | decide) only [e112, s112_0, s112_1, s112_3, s112_5, s112_8, s112_9, s112_11, s112_14, s112_15, s112_16, s112_19, s112_22, s112_23, s112_24, s112_25, s112_28, s112_29, s112_32, s112_34, s112_37, s112_38, s112_41, s112_43, s112_46, s112_47, s112_50, s112_51, s112_52, s112_53, s112_56, s112_57, s112_58, s112_61, s112_64, s112_67, Option.toList_some, Option.toList_none, List.cons_append, List.nil_append, if_true, if_false, eq_self, n1n0, ne10, c5]
        refine c_endC tV2 hc2.2.2.1.1 l2.2 (fun Z3 hZ3 => ?_)
        have t3 := rd1_tC hZ3 tV2
        rw [hc2.2.2.1.2.1, hc2.2.2.1.2.2, ek_sk l1.2.2, sk_sk l1.2.2] at hZ3
        simp (disch := first | omega | assumption | decide) only [e112, s112_0, s112_1, s112_3, s112_5, s112_8, s112_9, s112_11, s112_14, s112_15, s112_16, s112_19, s112_22, s112_23, s112_24, s112_25, s112_28, s112_29, s112_32, s112_34, s112_37, s112_38, s112_41, s112_43, s112_46, s112_47, s112_50, s112_51, s112_52, s112_53, s112_56, s112_57, s112_58, s112_61, s112_64, s112_67, Option.toList_some, Option.toList_none, List.cons_append, List.nil_append, if_true, if_false, eq_self, n1n0, ne10]
        subst hr
        by_cases c3 : ek t tx (ne t tx p) = 0
        · rw [c3, if_pos rfl, flK_0, flF_0] at hZ3
          exact ho c3 _ (rC_rd1 hc2 hZ3 t3)
        · rw [if_neg c3, flK_z, flF_z c3] at hZ3
          exact hf c3 _ (fC_rd1 hc2 hZ3 t3)
    · rw [if_neg c1] at hr
      subst hr
      rw [flK_z, flF_z c1] at hZ1
      have b1 := hZ1.2.2.2.2.1
      have n0 : ¬ nI (nk t tx 9 p) = nI 0 := fun q => c1 ((nI_eq (by omega) (by decide)).mp q)
      simp (disch := first | omega | assumption | decide) only [e112, s112_0, s112_1, s112_3, s112_5, s112_8, s112_9, s112_11, s112_14, s112_15, s112_16, s112_19, s112_22, s112_23, s112_24, s112_25, s112_28, s112_29, s112_32, s112_34, s112_37, s112_38, s112_41, s112_43, s112_46, s112_47, s112_50, s112_51, s112_52, s112_53, s112_56, s112_57, s112_58, s112_61, s112_64, s112_67, Option.toList_some, Option.toList_none, List.cons_append, List.nil_append, if_true, if_false, eq_self, n1n0, ne10, b1, n0]
      exact hf c1 _ (fC_rd1 hY hZ1 t1)
end CL
