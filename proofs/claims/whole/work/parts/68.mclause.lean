/-! coast: the reference's clauses -/
section CM
variable {X : zM} {Q : Option Value → zM → Prop} {t : Nat} {tx : Nat → Nat} {p : Nat}
/-- what reading leaves as it was -/
def frQ (X Y : zM) : Prop := (∀ c, c ≠ 39 → (c < 42 ∨ 46 < c) → Y c = X c) ∧ (∀ j, (j < 8 ∨ j = 9 ∨ j = 11 ∨ j = 13 ∨ j = 16 ∨ j = 17 ∨ 21 < j) → Y 39 j = X 39 j) ∧ (∀ k, k < 12 → Y 42 k = X 42 k) ∧ ∀ b, b < 5 → Y 45 b = X 45 b ∧ Y 46 b = X 46 b
def mC (t : Nat) (tx : Nat → Nat) (X : zM) (s : sT) (Y : zM) : Prop := match s with
  | (p, (D, W), (G, tm, wt), (B, lm, br), C, T) => frQ X Y ∧ tM t tx Y ∧ (Y 39 18 = nI p ∧ Y 39 20 = nI 0 ∧ Y 39 21 = -1) ∧ (Y 39 8 = nI D ∧ Y 39 10 = nI G ∧ Y 39 12 = nI B ∧ Y 39 14 = nI (if T = 0 then 3 else C) ∧ Y 39 15 = nI T) ∧ (∀ k, k < D → Y 42 (12 + k) = nI (W k)) ∧ (∀ g, g < G → Y 43 (7 + g) = nI (tm g) ∧ Y 44 (7 + g) = nI (wt g)) ∧ ∀ b, b < B → Y 45 (5 + b) = nI (lm b) ∧ Y 46 (5 + b) = nI (br b)
def gC (X : zM) (k w : Nat) (Y : zM) : Prop := frQ X Y ∧ Y 39 20 = nI k ∧ Y 39 21 = nI w
theorem frQ_rd2 {Y Z : zM} {q : Nat} {k f : Int32} (h : frQ X Y) (h2 : rd2 Y q k f Z) : frQ X Z := by
  obtain ⟨a1, a2, a3, a4⟩ := h
  refine ⟨fun c c1 c2 => (h2.1 c c1).trans (a1 c c1 c2), fun j hj => (h2.2.1 j (by omega)).trans (a2 j hj), fun k hk => ?_, fun b hb => ?_⟩
  · rw [h2.1 42 (by decide)]; exact a3 k hk
  · rw [h2.1 45 (by decide), h2.1 46 (by decide)]; exact a4 b hb
theorem frQ_39 {Y : zM} {j : Nat} {v : Int32} (h : frQ X Y) (hj : ¬ (j < 8 ∨ j = 9 ∨ j = 11 ∨ j = 13 ∨ j = 16 ∨ j = 17 ∨ 21 < j)) : frQ X (zst Y 39 (upd (Y 39) j v)) := by
  obtain ⟨a1, a2, a3, a4⟩ := h
  refine ⟨fun c c1 c2 => by rw [zst_ne _ _ c1]; exact a1 c c1 c2, fun i hi => ?_, fun k hk => a3 k hk, fun b hb => a4 b hb⟩
  have hne : i ≠ j := fun q => by subst q; exact hj hi
  rw [zst_at, upd_ne _ _ hne]; exact a2 i hi
theorem frQ_42 {Y : zM} {j : Nat} {v : Int32} (h : frQ X Y) (hj : 12 ≤ j) : frQ X (zst Y 42 (upd (Y 42) j v)) := by
  obtain ⟨a1, a2, a3, a4⟩ := h
  refine ⟨fun c c1 c2 => by rw [zst_ne _ _ (by omega)]; exact a1 c c1 c2, fun i hi => a2 i hi, fun k hk => ?_, fun b hb => a4 b hb⟩
  rw [zst_at, upd_ne _ _ (by omega)]; exact a3 k hk
theorem frQ_43 {Y : zM} {f : Nat → Int32} (h : frQ X Y) : frQ X (zst Y 43 f) := by
  obtain ⟨a1, a2, a3, a4⟩ := h
  exact ⟨fun c c1 c2 => by rw [zst_ne _ _ (by omega)]; exact a1 c c1 c2, fun i hi => a2 i hi, fun k hk => a3 k hk, fun b hb => a4 b hb⟩
theorem frQ_44 {Y : zM} {f : Nat → Int32} (h : frQ X Y) : frQ X (zst Y 44 f) := by
  obtain ⟨a1, a2, a3, a4⟩ := h
  exact ⟨fun c c1 c2 => by rw [zst_ne _ _ (by omega)]; exact a1 c c1 c2, fun i hi => a2 i hi, fun k hk => a3 k hk, fun b hb => a4 b hb⟩
theorem frQ_45 {Y : zM} {j : Nat} {v : Int32} (h : frQ X Y) (hj : 5 ≤ j) : frQ X (zst Y 45 (upd (Y 45) j v)) := by
  obtain ⟨a1, a2, a3, a4⟩ := h
  refine ⟨fun c c1 c2 => by rw [zst_ne _ _ (by omega)]; exact a1 c c1 c2, fun i hi => a2 i hi, fun k hk => a3 k hk, fun b hb => ⟨?_, (a4 b hb).2⟩⟩
  rw [zst_at, upd_ne _ _ (by omega)]; exact (a4 b hb).1
theorem frQ_46 {Y : zM} {j : Nat} {v : Int32} (h : frQ X Y) (hj : 5 ≤ j) : frQ X (zst Y 46 (upd (Y 46) j v)) := by
  obtain ⟨a1, a2, a3, a4⟩ := h
  refine ⟨fun c c1 c2 => by rw [zst_ne _ _ (by omega)]; exact a1 c c1 c2, fun i hi => a2 i hi, fun k hk => a3 k hk, fun b hb => ⟨(a4 b hb).1, ?_⟩⟩
  rw [zst_at, upd_ne _ _ (by omega)]; exact (a4 b hb).2
theorem mC_rd2 {p q : Nat} {r : (Nat × (Nat → Nat)) × (Nat × (Nat → Nat) × (Nat → Nat)) × (Nat × (Nat → Nat) × (Nat → Nat)) × Nat × Nat} {Y Z : zM} (hY : mC t tx X (p, r) Y) (hZ : rd2 Y q (nI 0) (-1) Z) : mC t tx X (q, r) Z := by
  obtain ⟨⟨D, W⟩, ⟨G, tm, wt⟩, ⟨B, lm, br⟩, C, T⟩ := r
  obtain ⟨h1, h2, h3, ⟨h4a, h4b, h4c, h4d, h4e⟩, h5, h6, h7⟩ := hY
  have z1 := hZ.1
  have z2 := hZ.2.1
  refine ⟨frQ_rd2 h1 hZ, rd2_tM hZ h2, hZ.2.2, ⟨?_, ?_, ?_, ?_, ?_⟩, fun k hk => ?_, fun g hg => ?_, fun b hb => ?_⟩
  · rw [z2 8 (by omega)]; exact h4a
  · rw [z2 10 (by omega)]; exact h4b
  · rw [z2 12 (by omega)]; exact h4c
  · rw [z2 14 (by omega)]; exact h4d
  · rw [z2 15 (by omega)]; exact h4e
  · rw [z1 42 (by decide)]; exact h5 k hk
  · rw [z1 43 (by decide), z1 44 (by decide)]; exact h6 g hg
  · rw [z1 45 (by decide), z1 46 (by decide)]; exact h7 b hb
theorem tM_st {c : Nat} {f : Nat → Int32} {Y : zM} (h : tM t tx Y) (h1 : c ≠ 39) (h2 : c ≠ 47) : tM t tx (zst Y c f) := by
  refine ⟨h.1, h.2.1, ?_, fun k hk => ?_⟩
  · rw [zst_ne _ _ (fun q => h1 q.symm)]; exact h.2.2.1
  · rw [zst_ne _ _ (fun q => h2 q.symm)]; exact h.2.2.2 k hk
theorem tM_39 {j : Nat} {v : Int32} {Y : zM} (h : tM t tx Y) (h1 : j ≠ 17) : tM t tx (zst Y 39 (upd (Y 39) j v)) := by
  refine ⟨h.1, h.2.1, ?_, fun k hk => ?_⟩
  · rw [zst_at, upd_ne _ _ (fun q => h1 q.symm)]; exact h.2.2.1
  · rw [zst_ne _ _ (by decide)]; exact h.2.2.2 k hk
section CN
variable {W tm wt lm br : Nat → Nat} {D G B C T : Nat} {Y : zM} {v : Int32}
theorem mC_42 (hY : mC t tx X (p, (D, W), (G, tm, wt), (B, lm, br), C, T) Y) : mC t tx X (p, (D, W), (G, tm, wt), (B, lm, br), C, T) (zst Y 42 (upd (Y 42) (12 + D) v)) := by
  obtain ⟨h1, h2, h3, h4, h5, h6, h7⟩ := hY
  refine ⟨frQ_42 h1 (by omega), tM_st h2 (by decide) (by decide), h3, h4, fun k hk => ?_, h6, h7⟩
  rw [zst_at, upd_ne _ _ (by omega)]; exact h5 k hk
theorem mC_43 (hY : mC t tx X (p, (D, W), (G, tm, wt), (B, lm, br), C, T) Y) : mC t tx X (p, (D, W), (G, tm, wt), (B, lm, br), C, T) (zst Y 43 (upd (Y 43) (7 + G) v)) := by
  obtain ⟨h1, h2, h3, h4, h5, h6, h7⟩ := hY
  refine ⟨frQ_43 h1, tM_st h2 (by decide) (by decide), h3, h4, h5, fun g hg => ⟨?_, (h6 g hg).2⟩, h7⟩
  rw [zst_at, upd_ne _ _ (by omega)]; exact (h6 g hg).1
theorem mC_44 (hY : mC t tx X (p, (D, W), (G, tm, wt), (B, lm, br), C, T) Y) : mC t tx X (p, (D, W), (G, tm, wt), (B, lm, br), C, T) (zst Y 44 (upd (Y 44) (7 + G) v)) := by
  obtain ⟨h1, h2, h3, h4, h5, h6, h7⟩ := hY
  refine ⟨frQ_44 h1, tM_st h2 (by decide) (by decide), h3, h4, h5, fun g hg => ⟨(h6 g hg).1, ?_⟩, h7⟩
  rw [zst_at, upd_ne _ _ (by omega)]; exact (h6 g hg).2
theorem mC_45 (hY : mC t tx X (p, (D, W), (G, tm, wt), (B, lm, br), C, T) Y) : mC t tx X (p, (D, W), (G, tm, wt), (B, lm, br), C, T) (zst Y 45 (upd (Y 45) (5 + B) v)) := by
  obtain ⟨h1, h2, h3, h4, h5, h6, h7⟩ := hY
  refine ⟨frQ_45 h1 (by omega), tM_st h2 (by decide) (by decide), h3, h4, h5, h6, fun b hb => ⟨?_, (h7 b hb).2⟩⟩
  rw [zst_at, upd_ne _ _ (by omega)]; exact (h7 b hb).1
theorem mC_46 (hY : mC t tx X (p, (D, W), (G, tm, wt), (B, lm, br), C, T) Y) : mC t tx X (p, (D, W), (G, tm, wt), (B, lm, br), C, T) (zst Y 46 (upd (Y 46) (5 + B) v)) := by
  obtain ⟨h1, h2, h3, h4, h5, h6, h7⟩ := hY
  refine ⟨frQ_46 h1 (by omega), tM_st h2 (by decide) (by decide), h3, h4, h5, h6, fun b hb => ⟨(h7 b hb).1, ?_⟩⟩
  rw [zst_at, upd_ne _ _ (by omega)]; exact (h7 b hb).2
theorem mC_Glass {a b : Nat} (hY : mC t tx X (p, (D, W), (G, tm, wt), (B, lm, br), C, T) Y) (ha : Y 43 (7 + G) = nI a) (hb : Y 44 (7 + G) = nI b) : mC t tx X (p, (D, W), (G + 1, un tm G a, un wt G b), (B, lm, br), C, T) (zst Y 39 (upd (Y 39) 10 (nI (G + 1)))) := by
  obtain ⟨h1, h2, ⟨h3a, h3b, h3c⟩, ⟨h4a, h4b, h4c, h4d, h4e⟩, h5, h6, h7⟩ := hY
  refine ⟨frQ_39 h1 (by omega), tM_39 h2 (by decide), ⟨?_, ?_, ?_⟩, ⟨?_, ?_, ?_, ?_, ?_⟩, h5, fun g hg => ?_, h7⟩
  · rw [zst_at, upd_ne _ _ (by decide)]; exact h3a
  · rw [zst_at, upd_ne _ _ (by decide)]; exact h3b
  · rw [zst_at, upd_ne _ _ (by decide)]; exact h3c
  · rw [zst_at, upd_ne _ _ (by decide)]; exact h4a
  · rw [zst_at, upd_at]
  · rw [zst_at, upd_ne _ _ (by decide)]; exact h4c
  · rw [zst_at, upd_ne _ _ (by decide)]; exact h4d
  · rw [zst_at, upd_ne _ _ (by decide)]; exact h4e
  · rw [zst_ne _ _ (by decide), zst_ne _ _ (by decide)]
    by_cases c : g = G
    · rw [c, un_at, un_at]; exact ⟨ha, hb⟩
    · rw [un_ne _ c, un_ne _ c]; exact h6 g (by omega)
theorem mC_Boat {a b : Nat} (hY : mC t tx X (p, (D, W), (G, tm, wt), (B, lm, br), C, T) Y) (ha : Y 45 (5 + B) = nI a) (hb : Y 46 (5 + B) = nI b) : mC t tx X (p, (D, W), (G, tm, wt), (B + 1, un lm B a, un br B b), C, T) (zst Y 39 (upd (Y 39) 12 (nI (B + 1)))) := by
  obtain ⟨h1, h2, ⟨h3a, h3b, h3c⟩, ⟨h4a, h4b, h4c, h4d, h4e⟩, h5, h6, h7⟩ := hY
  refine ⟨frQ_39 h1 (by omega), tM_39 h2 (by decide), ⟨?_, ?_, ?_⟩, ⟨?_, ?_, ?_, ?_, ?_⟩, h5, h6, fun g hg => ?_⟩
  · rw [zst_at, upd_ne _ _ (by decide)]; exact h3a
  · rw [zst_at, upd_ne _ _ (by decide)]; exact h3b
  · rw [zst_at, upd_ne _ _ (by decide)]; exact h3c
  · rw [zst_at, upd_ne _ _ (by decide)]; exact h4a
  · rw [zst_at, upd_ne _ _ (by decide)]; exact h4b
  · rw [zst_at, upd_at]
  · rw [zst_at, upd_ne _ _ (by decide)]; exact h4d
  · rw [zst_at, upd_ne _ _ (by decide)]; exact h4e
  · rw [zst_ne _ _ (by decide), zst_ne _ _ (by decide)]
    by_cases c : g = B
    · rw [c, un_at, un_at]; exact ⟨ha, hb⟩
    · rw [un_ne _ c, un_ne _ c]; exact h7 g (by omega)
theorem mC_weather {a : Nat} (hY : mC t tx X (p, (D, W), (G, tm, wt), (B, lm, br), C, T) Y) (ha : Y 42 (12 + D) = nI a) : mC t tx X (p, (D + 1, un W D a), (G, tm, wt), (B, lm, br), C, T) (zst Y 39 (upd (Y 39) 8 (nI (D + 1)))) := by
  obtain ⟨h1, h2, ⟨h3a, h3b, h3c⟩, ⟨h4a, h4b, h4c, h4d, h4e⟩, h5, h6, h7⟩ := hY
  refine ⟨frQ_39 h1 (by omega), tM_39 h2 (by decide), ⟨?_, ?_, ?_⟩, ⟨?_, ?_, ?_, ?_, ?_⟩, fun k hk => ?_, h6, h7⟩
  · rw [zst_at, upd_ne _ _ (by decide)]; exact h3a
  · rw [zst_at, upd_ne _ _ (by decide)]; exact h3b
  · rw [zst_at, upd_ne _ _ (by decide)]; exact h3c
  · rw [zst_at, upd_at]
  · rw [zst_at, upd_ne _ _ (by decide)]; exact h4b
  · rw [zst_at, upd_ne _ _ (by decide)]; exact h4c
  · rw [zst_at, upd_ne _ _ (by decide)]; exact h4d
  · rw [zst_at, upd_ne _ _ (by decide)]; exact h4e
  · rw [zst_ne _ _ (by decide)]
    by_cases c : k = D
    · rw [c, un_at]; exact ha
    · rw [un_ne _ c]; exact h5 k (by omega)
theorem mC_drinks {a : Nat} (hY : mC t tx X (p, (D, W), (G, tm, wt), (B, lm, br), C, T) Y) : mC t tx X (p, (D, W), (G, tm, wt), (B, lm, br), a, 1) (zst Y 39 (upd (upd (Y 39) 14 (nI a)) 15 (nI 1))) := by
  obtain ⟨h1, h2, ⟨h3a, h3b, h3c⟩, ⟨h4a, h4b, h4c, h4d, h4e⟩, h5, h6, h7⟩ := hY
  have e : zst Y 39 (upd (upd (Y 39) 14 (nI a)) 15 (nI 1)) = zst (zst Y 39 (upd (Y 39) 14 (nI a))) 39 (upd (zst Y 39 (upd (Y 39) 14 (nI a)) 39) 15 (nI 1)) := by rw [zst_at, zst_zst]
  refine ⟨?_, ?_, ⟨?_, ?_, ?_⟩, ⟨?_, ?_, ?_, ?_, ?_⟩, h5, h6, h7⟩
  · rw [e]; exact frQ_39 (frQ_39 h1 (by omega)) (by omega)
  · rw [e]; exact tM_39 (tM_39 h2 (by decide)) (by decide)
  · rw [zst_at, upd_ne _ _ (by decide), upd_ne _ _ (by decide)]; exact h3a
  · rw [zst_at, upd_ne _ _ (by decide), upd_ne _ _ (by decide)]; exact h3b
  · rw [zst_at, upd_ne _ _ (by decide), upd_ne _ _ (by decide)]; exact h3c
  · rw [zst_at, upd_ne _ _ (by decide), upd_ne _ _ (by decide)]; exact h4a
  · rw [zst_at, upd_ne _ _ (by decide), upd_ne _ _ (by decide)]; exact h4b
  · rw [zst_at, upd_ne _ _ (by decide), upd_ne _ _ (by decide)]; exact h4c
  · rw [zst_at, upd_ne _ _ (by decide), upd_at, if_neg (by decide)]
  · rw [zst_at, upd_at]
theorem c_takeDrinks {w : Int32} (hY : mC t tx X (p, (D, W), (G, tm, wt), (B, lm, br), C, 0) Y) (hp : p ≤ t) (hf : ¬ nk t tx 20 p = 0 → ∀ Z, gC X (nk t tx 20 p) (sk t tx p) Z → Q none Z) (ho : nk t tx 20 p = 0 → ∀ Z, mC t tx X (ne t tx p, (D, W), (G, tm, wt), (B, lm, br), nv t tx p, 1) Z → Q none Z) : zcl 165 [.ref 39, .int w] Y Q := by
  have l1 := ne_le (tx := tx) hp
  have tY := hY.2.1
  obtain ⟨a1, a2, a3⟩ := hY.2.2.1
  have e15 := hY.2.2.2.1.2.2.2.2
  have z1 : nI 1 = nI 0 ∨ nI 1 = nI 1 := Or.inr rfl
  have hw1 := fun Q n w => c_want1 (X := Y) (Q := Q) (n := n) (w := w) a2
  simp (disch := first | omega | assumption | decide) only [e165, s165_0, s165_1, s165_2, s165_5, s165_8, s165_9, s165_12, s165_13, s165_14, s165_15, s165_18, s165_21, s165_22, s165_23, s165_24, s165_26, s165_29, s165_32, s165_33, s165_34, s165_37, Option.toList_some, Option.toList_none, List.cons_append, List.nil_append, if_true, if_false, eq_self, n1n0, ne10, e15, hw1, n1n0]
  refine c_takeIn (by decide) tY a1 hp a2 (fun c1 Z1 hZ1 => ?_) (fun c1 Z1 hZ1 => ?_)
  · simp (disch := first | omega | assumption | decide) only [e165, s165_0, s165_1, s165_2, s165_5, s165_8, s165_9, s165_12, s165_13, s165_14, s165_15, s165_18, s165_21, s165_22, s165_23, s165_24, s165_26, s165_29, s165_32, s165_33, s165_34, s165_37, Option.toList_some, Option.toList_none, List.cons_append, List.nil_append, if_true, if_false, eq_self, n1n0, ne10, zst_at, zst_zst]
    refine hf c1 _ ⟨?_, ?_, ?_⟩
    · have e : zst Z1 39 (upd (upd (Z1 39) 14 (nI 0)) 15 (nI 1)) = zst (zst Z1 39 (upd (Z1 39) 14 (nI 0))) 39 (upd (zst Z1 39 (upd (Z1 39) 14 (nI 0)) 39) 15 (nI 1)) := by rw [zst_at, zst_zst]
      rw [e]
      exact frQ_39 (frQ_39 (frQ_rd2 hY.1 hZ1) (by omega)) (by omega)
    · rw [zst_at, upd_ne _ _ (by decide), upd_ne _ _ (by decide)]; exact hZ1.2.2.2.1
    · rw [zst_at, upd_ne _ _ (by decide), upd_ne _ _ (by decide)]; exact hZ1.2.2.2.2
  · rw [a3] at hZ1
    simp (disch := first | omega | assumption | decide) only [e165, s165_0, s165_1, s165_2, s165_5, s165_8, s165_9, s165_12, s165_13, s165_14, s165_15, s165_18, s165_21, s165_22, s165_23, s165_24, s165_26, s165_29, s165_32, s165_33, s165_34, s165_37, Option.toList_some, Option.toList_none, List.cons_append, List.nil_append, if_true, if_false, eq_self, n1n0, ne10, zst_at, zst_zst]
    exact ho c1 _ (mC_drinks (mC_rd2 hY hZ1))
theorem c_takeGlass {w : Int32} (hY : mC t tx X (p, (D, W), (G, tm, wt), (B, lm, br), C, T) Y) (hp : p ≤ t) (hG : G < 7) (hf1 : ¬ nk t tx 10 p = 0 → ∀ Z, gC X (nk t tx 10 p) (sk t tx p) Z → Q none Z) (hf2 : nk t tx 10 p = 0 → ¬ nk t tx 9 (ne t tx p) = 0 → ∀ Z, gC X (nk t tx 9 (ne t tx p)) (sk t tx (ne t tx p)) Z → Q none Z) (ho : nk t tx 10 p = 0 → nk t tx 9 (ne t tx p) = 0 → ∀ Z, mC t tx X (ne t tx (ne t tx p), (D, W), (G + 1, un tm G (nv t tx p), un wt G (nv t tx (ne t tx p))), (B, lm, br), C, T) Z → Q none Z) : zcl 163 [.ref 39, .int w] Y Q := by
  have l1 := ne_le (tx := tx) hp
  have l2 := ne_le (tx := tx) l1.2.2
  have i1 := nk_01 (t := t) (tx := tx) (m := 10) (p := p)
  have i2 := nk_01 (t := t) (tx := tx) (m := 9) (p := ne t tx p)
  have tY := hY.2.1
  obtain ⟨a1, a2, a3⟩ := hY.2.2.1
  have eg := hY.2.2.2.1.2.1
  have hw1 := fun Q n w => c_want1 (X := Y) (Q := Q) (n := n) (w := w) a2
  simp (disch := first | omega | assumption | decide) only [e163, s163_0, s163_1, s163_2, s163_5, s163_7, s163_10, s163_11, s163_14, s163_15, s163_16, s163_17, s163_20, s163_23, s163_24, s163_27, s163_29, s163_30, s163_33, s163_34, s163_35, s163_36, s163_38, s163_41, s163_42, s163_43, s163_46, s163_48, s163_49, s163_52, s163_53, s163_54, s163_55, s163_57, s163_60, s163_61, s163_62, s163_63, s163_66, s163_67, s163_68, s163_71, Option.toList_some, Option.toList_none, List.cons_append, List.nil_append, if_true, if_false, eq_self, n1n0, ne10, eg, nI_ltI, nI_add, hG, hw1, n1n0]
  refine c_takeIn (by decide) tY a1 hp a2 (fun c1 Z1 hZ1 => ?_) (fun c1 Z1 hZ1 => ?_)
  · have z20 := hZ1.2.2.2.1
    have hG1 : Z1 39 10 = nI G := by rw [hZ1.2.1 10 (by omega)]; exact eg
    have hin := fun Q a b => c_takeInF (X := zst Z1 43 (upd (Z1 43) (7 + G) (nI 0))) (Q := Q) (a := a) (b := b) c1 (by omega) z20
    simp (disch := first | omega | assumption | decide) only [e163, s163_0, s163_1, s163_2, s163_5, s163_7, s163_10, s163_11, s163_14, s163_15, s163_16, s163_17, s163_20, s163_23, s163_24, s163_27, s163_29, s163_30, s163_33, s163_34, s163_35, s163_36, s163_38, s163_41, s163_42, s163_43, s163_46, s163_48, s163_49, s163_52, s163_53, s163_54, s163_55, s163_57, s163_60, s163_61, s163_62, s163_63, s163_66, s163_67, s163_68, s163_71, Option.toList_some, Option.toList_none, List.cons_append, List.nil_append, if_true, if_false, eq_self, n1n0, ne10, nI_add, zst_ne, hG1, hin]
    refine hf1 c1 _ ⟨?_, ?_, ?_⟩
    · have e : zst (zst (zst Z1 43 (upd (Z1 43) (7 + G) (nI 0))) 44 (upd (Z1 44) (7 + G) (nI 0))) 39 (upd (Z1 39) 10 (nI (G + 1))) = zst (zst (zst Z1 43 (upd (Z1 43) (7 + G) (nI 0))) 44 (upd (zst Z1 43 (upd (Z1 43) (7 + G) (nI 0)) 44) (7 + G) (nI 0))) 39 (upd (zst (zst Z1 43 (upd (Z1 43) (7 + G) (nI 0))) 44 (upd (zst Z1 43 (upd (Z1 43) (7 + G) (nI 0)) 44) (7 + G) (nI 0)) 39) 10 (nI (G + 1))) := by
        rw [zst_ne _ _ (by decide), zst_ne _ _ (by decide), zst_ne _ _ (by decide)]
      rw [e]
      exact frQ_39 (frQ_44 (frQ_43 (frQ_rd2 hY.1 hZ1))) (by omega)
    · rw [zst_at, upd_ne _ _ (by decide)]; exact hZ1.2.2.2.1
    · rw [zst_at, upd_ne _ _ (by decide)]; exact hZ1.2.2.2.2
  · rw [a3] at hZ1
    have m1 := mC_rd2 hY hZ1
    simp (disch := first | omega | assumption | decide) only [e163, s163_0, s163_1, s163_2, s163_5, s163_7, s163_10, s163_11, s163_14, s163_15, s163_16, s163_17, s163_20, s163_23, s163_24, s163_27, s163_29, s163_30, s163_33, s163_34, s163_35, s163_36, s163_38, s163_41, s163_42, s163_43, s163_46, s163_48, s163_49, s163_52, s163_53, s163_54, s163_55, s163_57, s163_60, s163_61, s163_62, s163_63, s163_66, s163_67, s163_68, s163_71, Option.toList_some, Option.toList_none, List.cons_append, List.nil_append, if_true, if_false, eq_self, n1n0, ne10, nI_add]
    have m2 := mC_43 (v := nI (nv t tx p)) m1
    generalize hV : zst Z1 43 (upd (Z1 43) (7 + G) (nI (nv t tx p))) = V at m2 ⊢
    have vA : V 43 (7 + G) = nI (nv t tx p) := by rw [← hV, zst_at, upd_at]
    obtain ⟨b1, b2, b3⟩ := m2.2.2.1
    have eg2 := m2.2.2.2.1.2.1
    simp (disch := first | omega | assumption | decide) only [e163, s163_0, s163_1, s163_2, s163_5, s163_7, s163_10, s163_11, s163_14, s163_15, s163_16, s163_17, s163_20, s163_23, s163_24, s163_27, s163_29, s163_30, s163_33, s163_34, s163_35, s163_36, s163_38, s163_41, s163_42, s163_43, s163_46, s163_48, s163_49, s163_52, s163_53, s163_54, s163_55, s163_57, s163_60, s163_61, s163_62, s163_63, s163_66, s163_67, s163_68, s163_71, Option.toList_some, Option.toList_none, List.cons_append, List.nil_append, if_true, if_false, eq_self, n1n0, ne10, nI_add, eg2]
    refine c_takeIn (by decide) m2.2.1 b1 l1.2.2 b2 (fun c2 Z3 hZ3 => ?_) (fun c2 Z3 hZ3 => ?_)
    · have hG3 : Z3 39 10 = nI G := by rw [hZ3.2.1 10 (by omega)]; exact eg2
      simp (disch := first | omega | assumption | decide) only [e163, s163_0, s163_1, s163_2, s163_5, s163_7, s163_10, s163_11, s163_14, s163_15, s163_16, s163_17, s163_20, s163_23, s163_24, s163_27, s163_29, s163_30, s163_33, s163_34, s163_35, s163_36, s163_38, s163_41, s163_42, s163_43, s163_46, s163_48, s163_49, s163_52, s163_53, s163_54, s163_55, s163_57, s163_60, s163_61, s163_62, s163_63, s163_66, s163_67, s163_68, s163_71, Option.toList_some, Option.toList_none, List.cons_append, List.nil_append, if_true, if_false, eq_self, n1n0, ne10, nI_add, zst_ne, hG3]
      refine hf2 c1 c2 _ ⟨?_, ?_, ?_⟩
      · have e : zst (zst Z3 44 (upd (Z3 44) (7 + G) (nI 0))) 39 (upd (Z3 39) 10 (nI (G + 1))) = zst (zst Z3 44 (upd (Z3 44) (7 + G) (nI 0))) 39 (upd (zst Z3 44 (upd (Z3 44) (7 + G) (nI 0)) 39) 10 (nI (G + 1))) := by
          rw [zst_ne _ _ (by decide)]
        rw [e]
        exact frQ_39 (frQ_44 (frQ_rd2 m2.1 hZ3)) (by omega)
      · rw [zst_at, upd_ne _ _ (by decide)]; exact hZ3.2.2.2.1
      · rw [zst_at, upd_ne _ _ (by decide)]; exact hZ3.2.2.2.2
    · rw [b3] at hZ3
      have hG3 : Z3 39 10 = nI G := by rw [hZ3.2.1 10 (by omega)]; exact eg2
      have m3 := mC_44 (v := nI (nv t tx (ne t tx p))) (mC_rd2 m2 hZ3)
      have m4 := mC_Glass (a := nv t tx p) (b := nv t tx (ne t tx p)) m3 (by rw [zst_ne _ _ (by decide), hZ3.1 43 (by decide)]; exact vA) (by rw [zst_at, upd_at])
      rw [zst_ne Z3 _ (show 39 ≠ 44 by decide)] at m4
      simp (disch := first | omega | assumption | decide) only [e163, s163_0, s163_1, s163_2, s163_5, s163_7, s163_10, s163_11, s163_14, s163_15, s163_16, s163_17, s163_20, s163_23, s163_24, s163_27, s163_29, s163_30, s163_33, s163_34, s163_35, s163_36, s163_38, s163_41, s163_42, s163_43, s163_46, s163_48, s163_49, s163_52, s163_53, s163_54, s163_55, s163_57, s163_60, s163_61, s163_62, s163_63, s163_66, s163_67, s163_68, s163_71, Option.toList_some, Option.toList_none, List.cons_append, List.nil_append, if_true, if_false, eq_self, n1n0, ne10, nI_add, zst_ne, hG3]
      exact ho c1 c2 _ m4
theorem c_takeBoat {w : Int32} (hY : mC t tx X (p, (D, W), (G, tm, wt), (B, lm, br), C, T) Y) (hp : p ≤ t) (hG : B < 5) (hf1 : ¬ nk t tx 9 p = 0 → ∀ Z, gC X (nk t tx 9 p) (sk t tx p) Z → Q none Z) (hf2 : nk t tx 9 p = 0 → ¬ nk t tx 9 (ne t tx p) = 0 → ∀ Z, gC X (nk t tx 9 (ne t tx p)) (sk t tx (ne t tx p)) Z → Q none Z) (ho : nk t tx 9 p = 0 → nk t tx 9 (ne t tx p) = 0 → ∀ Z, mC t tx X (ne t tx (ne t tx p), (D, W), (G, tm, wt), (B + 1, un lm B (nv t tx p), un br B (nv t tx (ne t tx p))), C, T) Z → Q none Z) : zcl 164 [.ref 39, .int w] Y Q := by
  have l1 := ne_le (tx := tx) hp
  have l2 := ne_le (tx := tx) l1.2.2
  have i1 := nk_01 (t := t) (tx := tx) (m := 9) (p := p)
  have i2 := nk_01 (t := t) (tx := tx) (m := 9) (p := ne t tx p)
  have tY := hY.2.1
  obtain ⟨a1, a2, a3⟩ := hY.2.2.1
  have eg := hY.2.2.2.1.2.2.1
  have hw1 := fun Q n w => c_want1 (X := Y) (Q := Q) (n := n) (w := w) a2
  simp (disch := first | omega | assumption | decide) only [e164, s164_0, s164_1, s164_2, s164_5, s164_6, s164_9, s164_10, s164_13, s164_14, s164_15, s164_16, s164_19, s164_22, s164_23, s164_26, s164_27, s164_28, s164_31, s164_32, s164_33, s164_34, s164_36, s164_39, s164_40, s164_41, s164_44, s164_45, s164_46, s164_49, s164_50, s164_51, s164_52, s164_54, s164_57, s164_58, s164_59, s164_60, s164_63, s164_64, s164_65, s164_68, Option.toList_some, Option.toList_none, List.cons_append, List.nil_append, if_true, if_false, eq_self, n1n0, ne10, eg, nI_ltI, nI_add, hG, hw1, n1n0]
  refine c_takeIn (by decide) tY a1 hp a2 (fun c1 Z1 hZ1 => ?_) (fun c1 Z1 hZ1 => ?_)
  · have z20 := hZ1.2.2.2.1
    have hG1 : Z1 39 12 = nI B := by rw [hZ1.2.1 12 (by omega)]; exact eg
    have hin := fun Q a b => c_takeInF (X := zst Z1 45 (upd (Z1 45) (5 + B) (nI 0))) (Q := Q) (a := a) (b := b) c1 (by omega) z20
    simp (disch := first | omega | assumption | decide) only [e164, s164_0, s164_1, s164_2, s164_5, s164_6, s164_9, s164_10, s164_13, s164_14, s164_15, s164_16, s164_19, s164_22, s164_23, s164_26, s164_27, s164_28, s164_31, s164_32, s164_33, s164_34, s164_36, s164_39, s164_40, s164_41, s164_44, s164_45, s164_46, s164_49, s164_50, s164_51, s164_52, s164_54, s164_57, s164_58, s164_59, s164_60, s164_63, s164_64, s164_65, s164_68, Option.toList_some, Option.toList_none, List.cons_append, List.nil_append, if_true, if_false, eq_self, n1n0, ne10, nI_add, zst_ne, hG1, hin]
    refine hf1 c1 _ ⟨?_, ?_, ?_⟩
    · have e : zst (zst (zst Z1 45 (upd (Z1 45) (5 + B) (nI 0))) 46 (upd (Z1 46) (5 + B) (nI 0))) 39 (upd (Z1 39) 12 (nI (B + 1))) = zst (zst (zst Z1 45 (upd (Z1 45) (5 + B) (nI 0))) 46 (upd (zst Z1 45 (upd (Z1 45) (5 + B) (nI 0)) 46) (5 + B) (nI 0))) 39 (upd (zst (zst Z1 45 (upd (Z1 45) (5 + B) (nI 0))) 46 (upd (zst Z1 45 (upd (Z1 45) (5 + B) (nI 0)) 46) (5 + B) (nI 0)) 39) 12 (nI (B + 1))) := by
        rw [zst_ne _ _ (by decide), zst_ne _ _ (by decide), zst_ne _ _ (by decide)]
      rw [e]
      exact frQ_39 (frQ_46 (frQ_45 (frQ_rd2 hY.1 hZ1) (by omega)) (by omega)) (by omega)
    · rw [zst_at, upd_ne _ _ (by decide)]; exact hZ1.2.2.2.1
    · rw [zst_at, upd_ne _ _ (by decide)]; exact hZ1.2.2.2.2
  · rw [a3] at hZ1
    have m1 := mC_rd2 hY hZ1
    simp (disch := first | omega | assumption | decide) only [e164, s164_0, s164_1, s164_2, s164_5, s164_6, s164_9, s164_10, s164_13, s164_14, s164_15, s164_16, s164_19, s164_22, s164_23, s164_26, s164_27, s164_28, s164_31, s164_32, s164_33, s164_34, s164_36, s164_39, s164_40, s164_41, s164_44, s164_45, s164_46, s164_49, s164_50, s164_51, s164_52, s164_54, s164_57, s164_58, s164_59, s164_60, s164_63, s164_64, s164_65, s164_68, Option.toList_some, Option.toList_none, List.cons_append, List.nil_append, if_true, if_false, eq_self, n1n0, ne10, nI_add]
    have m2 := mC_45 (v := nI (nv t tx p)) m1
    generalize hV : zst Z1 45 (upd (Z1 45) (5 + B) (nI (nv t tx p))) = V at m2 ⊢
    have vA : V 45 (5 + B) = nI (nv t tx p) := by rw [← hV, zst_at, upd_at]
    obtain ⟨b1, b2, b3⟩ := m2.2.2.1
    have eg2 := m2.2.2.2.1.2.2.1
    simp (disch := first | omega | assumption | decide) only [e164, s164_0, s164_1, s164_2, s164_5, s164_6, s164_9, s164_10, s164_13, s164_14, s164_15, s164_16, s164_19, s164_22, s164_23, s164_26, s164_27, s164_28, s164_31, s164_32, s164_33, s164_34, s164_36, s164_39, s164_40, s164_41, s164_44, s164_45, s164_46, s164_49, s164_50, s164_51, s164_52, s164_54, s164_57, s164_58, s164_59, s164_60, s164_63, s164_64, s164_65, s164_68, Option.toList_some, Option.toList_none, List.cons_append, List.nil_append, if_true, if_false, eq_self, n1n0, ne10, nI_add, eg2]
    refine c_takeIn (by decide) m2.2.1 b1 l1.2.2 b2 (fun c2 Z3 hZ3 => ?_) (fun c2 Z3 hZ3 => ?_)
    · have hG3 : Z3 39 12 = nI B := by rw [hZ3.2.1 12 (by omega)]; exact eg2
      simp (disch := first | omega | assumption | decide) only [e164, s164_0, s164_1, s164_2, s164_5, s164_6, s164_9, s164_10, s164_13, s164_14, s164_15, s164_16, s164_19, s164_22, s164_23, s164_26, s164_27, s164_28, s164_31, s164_32, s164_33, s164_34, s164_36, s164_39, s164_40, s164_41, s164_44, s164_45, s164_46, s164_49, s164_50, s164_51, s164_52, s164_54, s164_57, s164_58, s164_59, s164_60, s164_63, s164_64, s164_65, s164_68, Option.toList_some, Option.toList_none, List.cons_append, List.nil_append, if_true, if_false, eq_self, n1n0, ne10, nI_add, zst_ne, hG3]
      refine hf2 c1 c2 _ ⟨?_, ?_, ?_⟩
      · have e : zst (zst Z3 46 (upd (Z3 46) (5 + B) (nI 0))) 39 (upd (Z3 39) 12 (nI (B + 1))) = zst (zst Z3 46 (upd (Z3 46) (5 + B) (nI 0))) 39 (upd (zst Z3 46 (upd (Z3 46) (5 + B) (nI 0)) 39) 12 (nI (B + 1))) := by
          rw [zst_ne _ _ (by decide)]
        rw [e]
        exact frQ_39 (frQ_46 (frQ_rd2 m2.1 hZ3) (by omega)) (by omega)
      · rw [zst_at, upd_ne _ _ (by decide)]; exact hZ3.2.2.2.1
      · rw [zst_at, upd_ne _ _ (by decide)]; exact hZ3.2.2.2.2
    · rw [b3] at hZ3
      have hG3 : Z3 39 12 = nI B := by rw [hZ3.2.1 12 (by omega)]; exact eg2
      have m3 := mC_46 (v := nI (nv t tx (ne t tx p))) (mC_rd2 m2 hZ3)
      have m4 := mC_Boat (a := nv t tx p) (b := nv t tx (ne t tx p)) m3 (by rw [zst_ne _ _ (by decide), hZ3.1 45 (by decide)]; exact vA) (by rw [zst_at, upd_at])
      rw [zst_ne Z3 _ (show 39 ≠ 46 by decide)] at m4
      simp (disch := first | omega | assumption | decide) only [e164, s164_0, s164_1, s164_2, s164_5, s164_6, s164_9, s164_10, s164_13, s164_14, s164_15, s164_16, s164_19, s164_22, s164_23, s164_26, s164_27, s164_28, s164_31, s164_32, s164_33, s164_34, s164_36, s164_39, s164_40, s164_41, s164_44, s164_45, s164_46, s164_49, s164_50, s164_51, s164_52, s164_54, s164_57, s164_58, s164_59, s164_60, s164_63, s164_64, s164_65, s164_68, Option.toList_some, Option.toList_none, List.cons_append, List.nil_append, if_true, if_false, eq_self, n1n0, ne10, nI_add, zst_ne, hG3]
      exact ho c1 c2 _ m4
theorem twM_loop {l1 : Value} {r : Nat × Nat × Nat × Nat × (Nat → Nat)} (hf : ¬ r.1 = 0 → ∀ Z, gC X r.1 r.2.1 Z → Q none Z) (ho : ∀ Z q, q ≤ t → mC t tx X (q, r.2.2.2, (G, tm, wt), (B, lm, br), C, T) Z → r.1 = ek t tx q → r.2.1 = sk t tx q → r.2.2.1 = sk t tx q + 1 → Q none Z) : ∀ (n D : Nat) (W : Nat → Nat) (p : Nat) (Y : zM), D + (n + 1) = 12 → p ≤ t → wth t tx (n + 1) D W p = r → mC t tx X (p, (D, W), (G, tm, wt), (B, lm, br), C, T) Y → zev 162 19 [.ref 39, l1, .int (nI 1)] [] Y Q := by
  intro n
  induction n with
  | zero =>
    intro D W p Y hD hp hr hY
    have hlt : D < 12 := by omega
    have l1 := ne_le (tx := tx) hp
    have l2 := sk_le (tx := tx) l1.2.2
    have i1 := nk_01 (t := t) (tx := tx) (m := 9) (p := p)
    have tY := hY.2.1
    obtain ⟨a1, a2, a3⟩ := hY.2.2.1
    have e8 := hY.2.2.2.1.1
    unfold wth at hr
    rw [s162_19]
    simp (disch := first | omega | assumption | decide) only [e162, s162_0, s162_1, s162_2, s162_5, s162_8, s162_9, s162_12, s162_13, s162_14, s162_15, s162_18, s162_20, s162_23, s162_24, s162_27, s162_29, s162_30, s162_33, s162_34, s162_35, s162_36, s162_38, s162_41, s162_42, s162_43, s162_44, s162_47, s162_48, s162_49, s162_52, s162_53, s162_56, s162_59, s162_60, s162_63, s162_65, s162_68, s162_69, s162_72, s162_73, s162_74, s162_75, s162_78, s162_79, s162_80, s162_83, s162_85, s162_88, s162_89, s162_92, s162_93, s162_94, s162_95, s162_98, s162_101, s162_104, s162_105, s162_106, s162_109, s162_110, s162_111, s162_114, s162_115, s162_118, s162_119, s162_122, s162_125, s162_126, s162_129, s162_130, s162_131, s162_134, Option.toList_some, Option.toList_none, List.cons_append, List.nil_append, if_true, if_false, eq_self, n1n0, ne10, e8, nI_add, n1n0]
    refine c_takeIn (by decide) tY a1 hp a2 (fun c1 Z1 hZ1 => ?_) (fun c1 Z1 hZ1 => ?_)
    · have z20 := hZ1.2.2.2.1
      have h81 : Z1 39 8 = nI D := by rw [hZ1.2.1 8 (by omega)]; exact e8
      have n0 : ¬ nI (nk t tx 9 p) = nI 0 := fun q => c1 ((nI_eq (by omega) (by decide)).mp q)
      have u20 : upd (Z1 39) 8 (nI (D + 1)) 20 = nI (nk t tx 9 p) := by rw [upd_ne _ _ (by decide)]; exact z20
      rw [if_neg c1] at hr
      subst hr
      simp (disch := first | omega | assumption | decide) only [e162, s162_0, s162_1, s162_2, s162_5, s162_8, s162_9, s162_12, s162_13, s162_14, s162_15, s162_18, s162_20, s162_23, s162_24, s162_27, s162_29, s162_30, s162_33, s162_34, s162_35, s162_36, s162_38, s162_41, s162_42, s162_43, s162_44, s162_47, s162_48, s162_49, s162_52, s162_53, s162_56, s162_59, s162_60, s162_63, s162_65, s162_68, s162_69, s162_72, s162_73, s162_74, s162_75, s162_78, s162_79, s162_80, s162_83, s162_85, s162_88, s162_89, s162_92, s162_93, s162_94, s162_95, s162_98, s162_101, s162_104, s162_105, s162_106, s162_109, s162_110, s162_111, s162_114, s162_115, s162_118, s162_119, s162_122, s162_125, s162_126, s162_129, s162_130, s162_131, s162_134, Option.toList_some, Option.toList_none, List.cons_append, List.nil_append, if_true, if_false, eq_self, n1n0, ne10, nI_add, zst_ne, zst_at, h81, u20, n0]
      rw [s162_19]
      simp (disch := first | omega | assumption | decide) only [e162, s162_0, s162_1, s162_2, s162_5, s162_8, s162_9, s162_12, s162_13, s162_14, s162_15, s162_18, s162_20, s162_23, s162_24, s162_27, s162_29, s162_30, s162_33, s162_34, s162_35, s162_36, s162_38, s162_41, s162_42, s162_43, s162_44, s162_47, s162_48, s162_49, s162_52, s162_53, s162_56, s162_59, s162_60, s162_63, s162_65, s162_68, s162_69, s162_72, s162_73, s162_74, s162_75, s162_78, s162_79, s162_80, s162_83, s162_85, s162_88, s162_89, s162_92, s162_93, s162_94, s162_95, s162_98, s162_101, s162_104, s162_105, s162_106, s162_109, s162_110, s162_111, s162_114, s162_115, s162_118, s162_119, s162_122, s162_125, s162_126, s162_129, s162_130, s162_131, s162_134, Option.toList_some, Option.toList_none, List.cons_append, List.nil_append, if_true, if_false, eq_self, n1n0, ne10]
      refine hf c1 _ ⟨?_, ?_, ?_⟩
      · have e : zst (zst Z1 42 (upd (Z1 42) (12 + D) (nI 0))) 39 (upd (Z1 39) 8 (nI (D + 1))) = zst (zst Z1 42 (upd (Z1 42) (12 + D) (nI 0))) 39 (upd (zst Z1 42 (upd (Z1 42) (12 + D) (nI 0)) 39) 8 (nI (D + 1))) := by
          rw [zst_ne _ _ (by decide)]
        rw [e]
        exact frQ_39 (frQ_42 (frQ_rd2 hY.1 hZ1) (by omega)) (by omega)
      · rw [zst_at]; exact u20
      · rw [zst_at, upd_ne _ _ (by decide)]; exact hZ1.2.2.2.2
    · rw [if_pos c1, if_neg (by omega)] at hr
      rw [a3] at hZ1
      have m1 := mC_rd2 hY hZ1
      have h81 : Z1 39 8 = nI D := by rw [hZ1.2.1 8 (by omega)]; exact e8
      have m2 := mC_42 (v := nI (nv t tx p)) m1
      have m3 := mC_weather (a := nv t tx p) m2 (by rw [zst_at, upd_at])
      rw [zst_ne Z1 _ (show 39 ≠ 42 by decide)] at m3
      have u20 : upd (Z1 39) 8 (nI (D + 1)) 20 = nI 0 := by rw [upd_ne _ _ (by decide)]; exact hZ1.2.2.2.1
      simp (disch := first | omega | assumption | decide) only [e162, s162_0, s162_1, s162_2, s162_5, s162_8, s162_9, s162_12, s162_13, s162_14, s162_15, s162_18, s162_20, s162_23, s162_24, s162_27, s162_29, s162_30, s162_33, s162_34, s162_35, s162_36, s162_38, s162_41, s162_42, s162_43, s162_44, s162_47, s162_48, s162_49, s162_52, s162_53, s162_56, s162_59, s162_60, s162_63, s162_65, s162_68, s162_69, s162_72, s162_73, s162_74, s162_75, s162_78, s162_79, s162_80, s162_83, s162_85, s162_88, s162_89, s162_92, s162_93, s162_94, s162_95, s162_98, s162_101, s162_104, s162_105, s162_106, s162_109, s162_110, s162_111, s162_114, s162_115, s162_118, s162_119, s162_122, s162_125, s162_126, s162_129, s162_130, s162_131, s162_134, Option.toList_some, Option.toList_none, List.cons_append, List.nil_append, if_true, if_false, eq_self, n1n0, ne10, nI_add, zst_ne, zst_at, h81, u20]
      generalize hV : zst (zst Z1 42 (upd (Z1 42) (12 + D) (nI (nv t tx p)))) 39 (upd (Z1 39) 8 (nI (D + 1))) = V at m3 ⊢
      clear u20
      refine c_here m3.2.1 m3.2.2.1.1 l1.2.2 (fun V2 hV2 => ?_)
      have hr2 := hd1_rd2 hV2
      rw [m3.2.2.1.2.1, m3.2.2.1.2.2] at hr2
      have m4 := mC_rd2 m3 hr2
      by_cases c4 : sk t tx (ne t tx p) < t ∧ tx (sk t tx (ne t tx p)) = 44
      · have c5 : sg t tx (sk t tx (ne t tx p)) = nI 44 := (sgn_n tY.2.1 (by decide)).mpr c4
        have c12 : ¬ D + 1 < 12 := by omega
        have q8 := m4.2.2.2.1.1
        obtain ⟨d1, d2, d3⟩ := m4.2.2.1
        have hek : ek t tx (ne t tx p) = 1 := if_neg (fun q => by have := c4.2; have := q.2; omega)
        have hw0 := fun Q w => c_want0 (X := V2) (Q := Q) (n := 1) (w := w) d2 (by decide) (by decide)
        have u20 : upd (upd (V2 39) 20 (nI 1)) 21 (nI (sk t tx (ne t tx p))) 20 = nI 1 := by rw [upd_ne _ _ (by decide), upd_at]
        simp (disch := first | omega | assumption | decide) only [s162_63, s162_65, s162_68, s162_69, s162_72, s162_73, s162_74, s162_75, s162_78, s162_79, s162_80, s162_83, s162_85, s162_88, s162_89, s162_92, s162_93, s162_94, s162_95, s162_98, s162_101, s162_104, s162_105, s162_106, s162_109, s162_110, s162_111, s162_114, s162_115, s162_118, s162_119, s162_122, s162_125, s162_126, s162_129, s162_130, s162_131, Option.toList_some, Option.toList_none, List.cons_append, List.nil_append, if_true, if_false, eq_self, n1n0, ne10, c5, n1n0, q8, nI_ltI, c12, d1, hw0, zst_at, u20]
        rw [s162_19]
        simp (disch := first | omega | assumption | decide) only [e162, s162_0, s162_1, s162_2, s162_5, s162_8, s162_9, s162_12, s162_13, s162_14, s162_15, s162_18, s162_20, s162_23, s162_24, s162_27, s162_29, s162_30, s162_33, s162_34, s162_35, s162_36, s162_38, s162_41, s162_42, s162_43, s162_44, s162_47, s162_48, s162_49, s162_52, s162_53, s162_56, s162_59, s162_60, s162_63, s162_65, s162_68, s162_69, s162_72, s162_73, s162_74, s162_75, s162_78, s162_79, s162_80, s162_83, s162_85, s162_88, s162_89, s162_92, s162_93, s162_94, s162_95, s162_98, s162_101, s162_104, s162_105, s162_106, s162_109, s162_110, s162_111, s162_114, s162_115, s162_118, s162_119, s162_122, s162_125, s162_126, s162_129, s162_130, s162_131, s162_134, Option.toList_some, Option.toList_none, List.cons_append, List.nil_append, if_true, if_false, eq_self, n1n0, ne10]
        subst hr
        refine hf (by rw [hek]; exact (show ¬ (1 : Nat) = 0 by decide)) _ ⟨?_, ?_, ?_⟩
        · exact frQ_rd2 m4.1 (rd2_bad (fun _ _ => rfl) (fun _ _ => rfl) d1)
        · rw [zst_at, hek]; exact u20
        · rw [zst_at, upd_at]
      · have c5 : ¬ sg t tx (sk t tx (ne t tx p)) = nI 44 := fun q => c4 ((sgn_n tY.2.1 (by decide)).mp q)
        simp (disch := first | omega | assumption | decide) only [s162_63, s162_65, s162_68, s162_69, s162_72, s162_73, s162_74, s162_75, s162_78, s162_79, s162_80, s162_83, s162_85, s162_88, s162_89, s162_92, s162_93, s162_94, s162_95, s162_98, s162_101, s162_104, s162_105, s162_106, s162_109, s162_110, s162_111, s162_114, s162_115, s162_118, s162_119, s162_122, s162_125, s162_126, s162_129, s162_130, s162_131, Option.toList_some, Option.toList_none, List.cons_append, List.nil_append, if_true, if_false, eq_self, n1n0, ne10, c5, n1n0]
        rw [s162_19]
        simp (disch := first | omega | assumption | decide) only [e162, s162_0, s162_1, s162_2, s162_5, s162_8, s162_9, s162_12, s162_13, s162_14, s162_15, s162_18, s162_20, s162_23, s162_24, s162_27, s162_29, s162_30, s162_33, s162_34, s162_35, s162_36, s162_38, s162_41, s162_42, s162_43, s162_44, s162_47, s162_48, s162_49, s162_52, s162_53, s162_56, s162_59, s162_60, s162_63, s162_65, s162_68, s162_69, s162_72, s162_73, s162_74, s162_75, s162_78, s162_79, s162_80, s162_83, s162_85, s162_88, s162_89, s162_92, s162_93, s162_94, s162_95, s162_98, s162_101, s162_104, s162_105, s162_106, s162_109, s162_110, s162_111, s162_114, s162_115, s162_118, s162_119, s162_122, s162_125, s162_126, s162_129, s162_130, s162_131, s162_134, Option.toList_some, Option.toList_none, List.cons_append, List.nil_append, if_true, if_false, eq_self, n1n0, ne10]
        subst hr
        exact ho _ (sk t tx (ne t tx p)) l2.2 m4 (ek_sk l1.2.2).symm (sk_sk l1.2.2).symm (by rw [sk_sk l1.2.2])
  | succ n ih =>
    intro D W p Y hD hp hr hY
    have hlt : D < 12 := by omega
    have l1 := ne_le (tx := tx) hp
    have l2 := sk_le (tx := tx) l1.2.2
    have i1 := nk_01 (t := t) (tx := tx) (m := 9) (p := p)
    have tY := hY.2.1
    obtain ⟨a1, a2, a3⟩ := hY.2.2.1
    have e8 := hY.2.2.2.1.1
    unfold wth at hr
    rw [s162_19]
    simp (disch := first | omega | assumption | decide) only [e162, s162_0, s162_1, s162_2, s162_5, s162_8, s162_9, s162_12, s162_13, s162_14, s162_15, s162_18, s162_20, s162_23, s162_24, s162_27, s162_29, s162_30, s162_33, s162_34, s162_35, s162_36, s162_38, s162_41, s162_42, s162_43, s162_44, s162_47, s162_48, s162_49, s162_52, s162_53, s162_56, s162_59, s162_60, s162_63, s162_65, s162_68, s162_69, s162_72, s162_73, s162_74, s162_75, s162_78, s162_79, s162_80, s162_83, s162_85, s162_88, s162_89, s162_92, s162_93, s162_94, s162_95, s162_98, s162_101, s162_104, s162_105, s162_106, s162_109, s162_110, s162_111, s162_114, s162_115, s162_118, s162_119, s162_122, s162_125, s162_126, s162_129, s162_130, s162_131, s162_134, Option.toList_some, Option.toList_none, List.cons_append, List.nil_append, if_true, if_false, eq_self, n1n0, ne10, e8, nI_add, n1n0]
    refine c_takeIn (by decide) tY a1 hp a2 (fun c1 Z1 hZ1 => ?_) (fun c1 Z1 hZ1 => ?_)
    · have z20 := hZ1.2.2.2.1
      have h81 : Z1 39 8 = nI D := by rw [hZ1.2.1 8 (by omega)]; exact e8
      have n0 : ¬ nI (nk t tx 9 p) = nI 0 := fun q => c1 ((nI_eq (by omega) (by decide)).mp q)
      have u20 : upd (Z1 39) 8 (nI (D + 1)) 20 = nI (nk t tx 9 p) := by rw [upd_ne _ _ (by decide)]; exact z20
      rw [if_neg c1] at hr
      subst hr
      simp (disch := first | omega | assumption | decide) only [e162, s162_0, s162_1, s162_2, s162_5, s162_8, s162_9, s162_12, s162_13, s162_14, s162_15, s162_18, s162_20, s162_23, s162_24, s162_27, s162_29, s162_30, s162_33, s162_34, s162_35, s162_36, s162_38, s162_41, s162_42, s162_43, s162_44, s162_47, s162_48, s162_49, s162_52, s162_53, s162_56, s162_59, s162_60, s162_63, s162_65, s162_68, s162_69, s162_72, s162_73, s162_74, s162_75, s162_78, s162_79, s162_80, s162_83, s162_85, s162_88, s162_89, s162_92, s162_93, s162_94, s162_95, s162_98, s162_101, s162_104, s162_105, s162_106, s162_109, s162_110, s162_111, s162_114, s162_115, s162_118, s162_119, s162_122, s162_125, s162_126, s162_129, s162_130, s162_131, s162_134, Option.toList_some, Option.toList_none, List.cons_append, List.nil_append, if_true, if_false, eq_self, n1n0, ne10, nI_add, zst_ne, zst_at, h81, u20, n0]
      rw [s162_19]
      simp (disch := first | omega | assumption | decide) only [e162, s162_0, s162_1, s162_2, s162_5, s162_8, s162_9, s162_12, s162_13, s162_14, s162_15, s162_18, s162_20, s162_23, s162_24, s162_27, s162_29, s162_30, s162_33, s162_34, s162_35, s162_36, s162_38, s162_41, s162_42, s162_43, s162_44, s162_47, s162_48, s162_49, s162_52, s162_53, s162_56, s162_59, s162_60, s162_63, s162_65, s162_68, s162_69, s162_72, s162_73, s162_74, s162_75, s162_78, s162_79, s162_80, s162_83, s162_85, s162_88, s162_89, s162_92, s162_93, s162_94, s162_95, s162_98, s162_101, s162_104, s162_105, s162_106, s162_109, s162_110, s162_111, s162_114, s162_115, s162_118, s162_119, s162_122, s162_125, s162_126, s162_129, s162_130, s162_131, s162_134, Option.toList_some, Option.toList_none, List.cons_append, List.nil_append, if_true, if_false, eq_self, n1n0, ne10]
      refine hf c1 _ ⟨?_, ?_, ?_⟩
      · have e : zst (zst Z1 42 (upd (Z1 42) (12 + D) (nI 0))) 39 (upd (Z1 39) 8 (nI (D + 1))) = zst (zst Z1 42 (upd (Z1 42) (12 + D) (nI 0))) 39 (upd (zst Z1 42 (upd (Z1 42) (12 + D) (nI 0)) 39) 8 (nI (D + 1))) := by
          rw [zst_ne _ _ (by decide)]
        rw [e]
        exact frQ_39 (frQ_42 (frQ_rd2 hY.1 hZ1) (by omega)) (by omega)
      · rw [zst_at]; exact u20
      · rw [zst_at, upd_ne _ _ (by decide)]; exact hZ1.2.2.2.2
    · rw [if_pos c1] at hr
      rw [a3] at hZ1
      have m1 := mC_rd2 hY hZ1
      have h81 : Z1 39 8 = nI D := by rw [hZ1.2.1 8 (by omega)]; exact e8
      have m2 := mC_42 (v := nI (nv t tx p)) m1
      have m3 := mC_weather (a := nv t tx p) m2 (by rw [zst_at, upd_at])
      rw [zst_ne Z1 _ (show 39 ≠ 42 by decide)] at m3
      have u20 : upd (Z1 39) 8 (nI (D + 1)) 20 = nI 0 := by rw [upd_ne _ _ (by decide)]; exact hZ1.2.2.2.1
      simp (disch := first | omega | assumption | decide) only [e162, s162_0, s162_1, s162_2, s162_5, s162_8, s162_9, s162_12, s162_13, s162_14, s162_15, s162_18, s162_20, s162_23, s162_24, s162_27, s162_29, s162_30, s162_33, s162_34, s162_35, s162_36, s162_38, s162_41, s162_42, s162_43, s162_44, s162_47, s162_48, s162_49, s162_52, s162_53, s162_56, s162_59, s162_60, s162_63, s162_65, s162_68, s162_69, s162_72, s162_73, s162_74, s162_75, s162_78, s162_79, s162_80, s162_83, s162_85, s162_88, s162_89, s162_92, s162_93, s162_94, s162_95, s162_98, s162_101, s162_104, s162_105, s162_106, s162_109, s162_110, s162_111, s162_114, s162_115, s162_118, s162_119, s162_122, s162_125, s162_126, s162_129, s162_130, s162_131, s162_134, Option.toList_some, Option.toList_none, List.cons_append, List.nil_append, if_true, if_false, eq_self, n1n0, ne10, nI_add, zst_ne, zst_at, h81, u20]
      generalize hV : zst (zst Z1 42 (upd (Z1 42) (12 + D) (nI (nv t tx p)))) 39 (upd (Z1 39) 8 (nI (D + 1))) = V at m3 ⊢
      clear u20
      refine c_here m3.2.1 m3.2.2.1.1 l1.2.2 (fun V2 hV2 => ?_)
      have hr2 := hd1_rd2 hV2
      rw [m3.2.2.1.2.1, m3.2.2.1.2.2] at hr2
      have m4 := mC_rd2 m3 hr2
      by_cases c4 : sk t tx (ne t tx p) < t ∧ tx (sk t tx (ne t tx p)) = 44
      · have c5 : sg t tx (sk t tx (ne t tx p)) = nI 44 := (sgn_n tY.2.1 (by decide)).mpr c4
        have c12 : D + 1 < 12 := by omega
        have q8 := m4.2.2.2.1.1
        obtain ⟨d1, d2, d3⟩ := m4.2.2.1
        rw [if_pos ⟨c4.1, c4.2, c12⟩] at hr
        have hw1 := fun Q n w => c_want1 (X := V2) (Q := Q) (n := n) (w := w) d2
        have hat := hd1_rd2 (hd1_at (X := V2) (p := sk t tx (ne t tx p)) (q := sk t tx (ne t tx p) + 1) ⟨fun _ _ => rfl, fun _ _ => rfl, d1⟩)
        rw [d2, d3] at hat
        have kk := ih (D + 1) _ (sk t tx (ne t tx p) + 1) _ (by omega) (by omega) hr (mC_rd2 m4 hat)
        have u20 : upd (V2 39) 18 (nI (sk t tx (ne t tx p) + 1)) 20 = nI 0 := by rw [upd_ne _ _ (by decide)]; exact d2
        simp (disch := first | omega | assumption | decide) only [s162_63, s162_65, s162_68, s162_69, s162_72, s162_73, s162_74, s162_75, s162_78, s162_79, s162_80, s162_83, s162_85, s162_88, s162_89, s162_92, s162_93, s162_94, s162_95, s162_98, s162_101, s162_104, s162_105, s162_106, s162_109, s162_110, s162_111, s162_114, s162_115, s162_118, s162_119, s162_122, s162_125, s162_126, s162_129, s162_130, s162_131, Option.toList_some, Option.toList_none, List.cons_append, List.nil_append, if_true, if_false, eq_self, n1n0, ne10, c5, n1n0, q8, nI_ltI, nI_add, c12, d1, hw1, zst_at, u20]
        exact kk
      · rw [if_neg (fun q => c4 ⟨q.1, q.2.1⟩)] at hr
        have c5 : ¬ sg t tx (sk t tx (ne t tx p)) = nI 44 := fun q => c4 ((sgn_n tY.2.1 (by decide)).mp q)
        simp (disch := first | omega | assumption | decide) only [s162_63, s162_65, s162_68, s162_69, s162_72, s162_73, s162_74, s162_75, s162_78, s162_79, s162_80, s162_83, s162_85, s162_88, s162_89, s162_92, s162_93, s162_94, s162_95, s162_98, s162_101, s162_104, s162_105, s162_106, s162_109, s162_110, s162_111, s162_114, s162_115, s162_118, s162_119, s162_122, s162_125, s162_126, s162_129, s162_130, s162_131, Option.toList_some, Option.toList_none, List.cons_append, List.nil_append, if_true, if_false, eq_self, n1n0, ne10, c5, n1n0]
        rw [s162_19]
        simp (disch := first | omega | assumption | decide) only [e162, s162_0, s162_1, s162_2, s162_5, s162_8, s162_9, s162_12, s162_13, s162_14, s162_15, s162_18, s162_20, s162_23, s162_24, s162_27, s162_29, s162_30, s162_33, s162_34, s162_35, s162_36, s162_38, s162_41, s162_42, s162_43, s162_44, s162_47, s162_48, s162_49, s162_52, s162_53, s162_56, s162_59, s162_60, s162_63, s162_65, s162_68, s162_69, s162_72, s162_73, s162_74, s162_75, s162_78, s162_79, s162_80, s162_83, s162_85, s162_88, s162_89, s162_92, s162_93, s162_94, s162_95, s162_98, s162_101, s162_104, s162_105, s162_106, s162_109, s162_110, s162_111, s162_114, s162_115, s162_118, s162_119, s162_122, s162_125, s162_126, s162_129, s162_130, s162_131, s162_134, Option.toList_some, Option.toList_none, List.cons_append, List.nil_append, if_true, if_false, eq_self, n1n0, ne10]
        subst hr
        exact ho _ (sk t tx (ne t tx p)) l2.2 m4 (ek_sk l1.2.2).symm (sk_sk l1.2.2).symm (by rw [sk_sk l1.2.2])
end CN
end CM
