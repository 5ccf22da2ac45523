/-! runs: more fuel does no harm; an instruction as an equation -/
theorem zsem_mono {k1 k2 : Nat → List Value → List Value → zM → Option zR} {c1 c2 : Nat → List Value → zM → Option zR} {e : zE} {L S : List Value} {X : zM} {r : zR} (hk : ∀ p L S X r, k1 p L S X = some r → k2 p L S X = some r) (hc : ∀ y as X r, c1 y as X = some r → c2 y as X = some r) (h : zsem k1 c1 e L S X = some r) : zsem k2 c2 e L S X = some r := by
  unfold zsem at h ⊢
  cases hq : zstp e L S X with
  | none => rw [hq] at h; cases h
  | some o =>
    rw [hq] at h
    match o with
    | .inl q => exact hk _ _ _ _ _ h
    | .inr (.inl r1) => exact h
    | .inr (.inr q) =>
      simp only at h ⊢
      cases h1 : c1 q.1 q.2.1 X with
      | none => rw [h1] at h; cases h
      | some r1 =>
        rw [h1] at h
        rw [hc _ _ _ _ h1]
        exact hk _ _ _ _ _ h
theorem zrun_succ {y pc : Nat} {e : zE} (hf : zfetch y pc = some e) (n : Nat) (L S : List Value) (X : zM) : zrun (n + 1) y pc L S X = zsem (zrun n y) (fun y1 as X1 => if (zent (zmx y1) as).length = zmx y1 then zrun n y1 0 (zent (zmx y1) as) [] X1 else none) e L S X := by
  show (match zfetch y pc with | none => none | some e => zsem (zrun n y) (fun y1 as X1 => if (zent (zmx y1) as).length = zmx y1 then zrun n y1 0 (zent (zmx y1) as) [] X1 else none) e L S X) = _
  rw [hf]
theorem zrun_mono1 : ∀ (n y pc : Nat) (L S : List Value) (X : zM) (r : zR), zrun n y pc L S X = some r → zrun (n + 1) y pc L S X = some r := by
  intro n
  induction n with
  | zero => intro y pc L S X r h; cases h
  | succ n ih =>
    intro y pc L S X r h
    cases hf : zfetch y pc with
    | none => rw [zrun, hf] at h; cases h
    | some e =>
      rw [zrun_succ hf] at h ⊢
      exact zsem_mono (fun p L S X r h => ih y p L S X r h) (fun y1 as X r h => by
        by_cases hc : (zent (zmx y1) as).length = zmx y1
        · simp only [if_pos hc] at h ⊢
          exact ih y1 0 _ [] X r h
        · simp only [if_neg hc] at h
          cases h) h
theorem zrun_mono {n m : Nat} (hm : n ≤ m) {y pc : Nat} {L S : List Value} {X : zM} {r : zR} (h : zrun n y pc L S X = some r) : zrun m y pc L S X = some r := by
  induction hm with
  | refl => exact h
  | step _ ih => exact zrun_mono1 _ _ _ _ _ _ _ ih
theorem zev_unf {y pc : Nat} {e : zE} (hf : zfetch y pc = some e) {L S : List Value} {X : zM} {Q : Option Value → zM → Prop} : zev y pc L S X Q ↔ ∃ (n : Nat) (r : zR), zsem (zrun n y) (fun y1 as X1 => if (zent (zmx y1) as).length = zmx y1 then zrun n y1 0 (zent (zmx y1) as) [] X1 else none) e L S X = some r ∧ Q r.1 r.2 := by
  constructor
  · rintro ⟨n, r, h, hQ⟩
    cases n with
    | zero => cases h
    | succ n => rw [zrun_succ hf] at h; exact ⟨n, r, h, hQ⟩
  · rintro ⟨n, r, h, hQ⟩
    exact ⟨n + 1, r, by rw [zrun_succ hf]; exact h, hQ⟩
theorem zev_go {y pc : Nat} {e : zE} (hf : zfetch y pc = some e) {L S L1 S1 : List Value} {X X1 : zM} {p1 : Nat} (h : zstp e L S X = some (.inl (p1, L1, S1, X1))) (Q : Option Value → zM → Prop) : zev y pc L S X Q = zev y p1 L1 S1 X1 Q := by
  apply propext
  rw [zev_unf hf]
  unfold zsem zev
  rw [h]
theorem zev_if {y pc : Nat} {e : zE} (hf : zfetch y pc = some e) {L S L1 S1 L2 S2 : List Value} {X X1 X2 : zM} {p1 p2 : Nat} {c : Prop} [Decidable c] (h : zstp e L S X = if c then some (.inl (p1, L1, S1, X1)) else some (.inl (p2, L2, S2, X2))) (Q : Option Value → zM → Prop) : zev y pc L S X Q = if c then zev y p1 L1 S1 X1 Q else zev y p2 L2 S2 X2 Q := by
  by_cases hc : c
  · rw [if_pos hc] at h ⊢; exact zev_go hf h Q
  · rw [if_neg hc] at h ⊢; exact zev_go hf h Q
theorem zev_ret {y pc : Nat} {e : zE} (hf : zfetch y pc = some e) {L S : List Value} {X : zM} {r : Option Value} {X1 : zM} (h : zstp e L S X = some (.inr (.inl (r, X1)))) (Q : Option Value → zM → Prop) : zev y pc L S X Q = Q r X1 := by
  apply propext
  rw [zev_unf hf]
  unfold zsem
  rw [h]
  constructor
  · rintro ⟨n, r1, h1, hQ⟩
    cases h1
    exact hQ
  · intro hQ
    exact ⟨0, _, rfl, hQ⟩
theorem zev_call {y pc : Nat} {e : zE} (hf : zfetch y pc = some e) {L S S1 as : List Value} {X : zM} {y1 p1 : Nat} (h : zstp e L S X = some (.inr (.inr (y1, as, p1, S1)))) (Q : Option Value → zM → Prop) : zev y pc L S X Q = zcl y1 as X (fun r X1 => zev y p1 L (r.toList ++ S1) X1 Q) := by
  apply propext
  rw [zev_unf hf]
  unfold zsem
  rw [h]
  constructor
  · rintro ⟨n, r, h1, hQ⟩
    simp only at h1
    by_cases hc : (zent (zmx y1) as).length = zmx y1
    · rw [if_pos hc] at h1
      cases h2 : zrun n y1 0 (zent (zmx y1) as) [] X with
      | none => rw [h2] at h1; cases h1
      | some r1 =>
        rw [h2] at h1
        exact ⟨hc, n, r1, h2, n, r, h1, hQ⟩
    · rw [if_neg hc] at h1
      cases h1
  · rintro ⟨hc, n, r1, h2, m, r, h1, hQ⟩
    refine ⟨n + m, r, ?_, hQ⟩
    simp only
    rw [if_pos hc, zrun_mono (Nat.le_add_right n m) h2]
    exact zrun_mono (Nat.le_add_left m n) h1
theorem zev_cl (y : Nat) (as : List Value) (X : zM) (Q : Option Value → zM → Prop) {L : List Value} (h : zent (zmx y) as = L) (hl : L.length = zmx y) : zcl y as X Q = zev y 0 L [] X Q := by
  unfold zcl; rw [h]; exact propext ⟨fun q => q.2, fun q => ⟨hl, q⟩⟩
theorem zev_imp {y pc : Nat} {L S : List Value} {X : zM} {Q Q2 : Option Value → zM → Prop} (h : zev y pc L S X Q) (hi : ∀ r X, Q r X → Q2 r X) : zev y pc L S X Q2 := by
  obtain ⟨n, r, h1, h2⟩ := h
  exact ⟨n, r, h1, hi _ _ h2⟩
theorem zcl_imp {y : Nat} {as : List Value} {X : zM} {Q Q2 : Option Value → zM → Prop} (h : zcl y as X Q) (hi : ∀ r X, Q r X → Q2 r X) : zcl y as X Q2 := ⟨h.1, zev_imp h.2 hi⟩
theorem zev_sw0 (y : Nat) (d : Nat) (x : Int32) (L S : List Value) (X : zM) (Q : Option Value → zM → Prop) : zev y (zsw [] d x) L S X Q = zev y d L S X Q := rfl
theorem zev_sw1 (y : Nat) (c : Int32) (t : Nat) (r : List (Int32 × Nat)) (d : Nat) (x : Int32) (L S : List Value) (X : zM) (Q : Option Value → zM → Prop) : zev y (zsw ((c, t) :: r) d x) L S X Q = if x = c then zev y t L S X Q else zev y (zsw r d x) L S X Q := by
  show zev y (if x = c then t else zsw r d x) L S X Q = _
  split <;> rfl
