/-! the whole state as one value, and how each side holds it -/
abbrev pT : Type := Nat × Nat × Nat × Nat × (Nat → Nat) × (Nat → Nat) × (Nat → Nat)
/-- parameters; the row; what can be undone; images, their seeds; the seed; text, fault; taps, book -/
abbrev aT : Type := pT × (Nat → Nat) × (Nat × (Nat → Nat → Nat)) × (Nat × (Nat → Nat → Nat) × (Nat → Nat)) × Nat × (Nat × (Nat → Nat) × Int32) × (Nat × (Nat → Nat) × (Nat → Nat) × Nat × (Nat → Nat) × (Nat → Nat))
def cIm (G B : Nat) (X : zM) (kb : Nat) (Ri : Nat → Nat → Nat) (si ni : Nat → Nat) : Prop := X 36 2 = nI kb ∧ ∀ i, i < 2 → bt kb i = 1 → cS G B X (305 + 8 * i) (Ri i) (ni i) ∧ X 38 i = nI (si i)
def mIm (X : zM) (kb : Nat) (Ri : Nat → Nat → Nat) (si : Nat → Nat) : Prop := (∀ i, i < 2 → X 41 i = nI (bt kb i)) ∧ ∀ i, i < 2 → bt kb i = 1 → mW (X 40) (184 + 92 * i) (Ri i) ∧ X 40 (184 + 92 * i + 91) = nI (si i)
def cTx (X : zM) (t : Nat) (tx : Nat → Nat) (fa : Int32) : Prop := X 1 1 = nI t ∧ X 1 4 = fa ∧ ∀ k, k < t → X 2 k = nI (tx k)
def mTx (X : zM) (t : Nat) (tx : Nat → Nat) (fa : Int32) : Prop := X 39 17 = nI t ∧ X 39 21 = fa ∧ ∀ k, k < t → X 47 k = nI (tx k)
def cNb (X : zM) (tn : Nat) (tg tr : Nat → Nat) (en : Nat) (eg et : Nat → Nat) : Prop := X 28 5 = nI tn ∧ X 28 8 = nI en ∧ (∀ i, i < tn → X 29 i = nI (tg i) ∧ X 30 i = nI (tr i)) ∧ ∀ i, i < en → X 31 i = nI (eg i) ∧ X 32 i = nI (et i)
def mNb (X : zM) (tn : Nat) (tg tr : Nat → Nat) (en : Nat) (eg et : Nat → Nat) : Prop := X 39 30 = nI tn ∧ X 39 33 = nI en ∧ (∀ i, i < tn → X 53 i = nI (tg i) ∧ X 54 i = nI (tr i)) ∧ ∀ i, i < en → X 55 i = nI (eg i) ∧ X 56 i = nI (et i)
def cTu (X : zM) : Prop := (X 19 10 = nI 26 ∧ X 19 11 = nI 27) ∨ (X 19 10 = nI 27 ∧ X 19 11 = nI 26)
/-- a state's row in a run -/
def okS (B : Nat) (R : Nat → Nat) : Prop := okR B R ∧ R 29 ≤ 9030
def OKA (a : aT) : Prop := match a with
  | ((D, G, B, C, W, lim, bear), R, (u, Rs), (kb, Ri, si), sd, (t, tx, _), (tn, tg, tr, en, eg, et)) =>
    okP D G B C W lim bear ∧ okS B R ∧ (u ≤ 30 ∧ ∀ i, i < u → okS B (Rs i)) ∧ (kb < 4 ∧ ∀ i, i < 2 → bt kb i = 1 → okS B (Ri i) ∧ si i < 2147483648) ∧ sd < 2147483648 ∧ (t ≤ 240 ∧ ∀ k, k < t → tx k ≤ 255) ∧ (tn ≤ 6 ∧ ∀ i, i < tn → tg i < G ∧ tr i ≤ 9) ∧ (en ≤ 20 ∧ ∀ i, i < en → eg i < G ∧ et i ≤ 10)
def CI (a : aT) (X : zM) : Prop := match a with
  | ((D, G, B, C, W, lim, bear), R, (u, Rs), (kb, Ri, si), sd, (t, tx, fa), (tn, tg, tr, en, eg, et)) =>
    ∃ (nx k : Nat) (ns ni : Nat → Nat), cP D G B C W lim bear X ∧ cS G B X 57 R nx ∧ cU G B X u k Rs ns ∧ cIm G B X kb Ri si ni ∧ X 0 10 = nI sd ∧ cTx X t tx fa ∧ cNb X tn tg tr en eg et ∧ cTu X
def MI (a : aT) (X : zM) : Prop := match a with
  | ((D, G, B, C, W, lim, bear), R, (u, Rs), (kb, Ri, si), sd, (t, tx, fa), (tn, tg, tr, en, eg, et)) =>
    mP D G B C W lim bear X ∧ mW (X 40) 0 R ∧ mU X u Rs ∧ mIm X kb Ri si ∧ X 40 91 = nI sd ∧ mTx X t tx fa ∧ mNb X tn tg tr en eg et
/-- the reference's cells are as they were; the class's -/
def frM (X Y : zM) : Prop := ∀ c, 39 ≤ c → c < 57 → Y c = X c
def frK (X Y : zM) : Prop := ∀ c, (c < 39 ∨ 57 ≤ c) → Y c = X c
theorem frM.rf {X : zM} : frM X X := fun _ _ _ => rfl
theorem frK.rf {X : zM} : frK X X := fun _ _ => rfl
theorem frM.tr {X Y Z : zM} (h : frM X Y) (h2 : frM Y Z) : frM X Z := fun c a b => (h2 c a b).trans (h c a b)
theorem frK.tr {X Y Z : zM} (h : frK X Y) (h2 : frK Y Z) : frK X Z := fun c a => (h2 c a).trans (h c a)
theorem MI_fr {a : aT} {X Y : zM} (h : MI a X) (f : frM X Y) : MI a Y := by
  obtain ⟨⟨D, G, B, C, W, lim, bear⟩, R, ⟨u, Rs⟩, ⟨kb, Ri, si⟩, sd, ⟨t, tx, fa⟩, ⟨tn, tg, tr, en, eg, et⟩⟩ := a
  simp only [MI, mP, mU, mIm, mTx, mNb] at h ⊢
  rw [f 39 (by decide) (by decide), f 40 (by decide) (by decide), f 41 (by decide) (by decide), f 42 (by decide) (by decide), f 45 (by decide) (by decide), f 46 (by decide) (by decide), f 47 (by decide) (by decide), f 53 (by decide) (by decide), f 54 (by decide) (by decide), f 55 (by decide) (by decide), f 56 (by decide) (by decide)]
  exact h
theorem CI_fr {a : aT} {X Y : zM} (h : CI a X) (f : frK X Y) : CI a Y := by
  obtain ⟨⟨D, G, B, C, W, lim, bear⟩, R, ⟨u, Rs⟩, ⟨kb, Ri, si⟩, sd, ⟨t, tx, fa⟩, ⟨tn, tg, tr, en, eg, et⟩⟩ := a
  obtain ⟨nx, k, ns, ni, h1, h2, h3, h4, h5, h6, h7, h8⟩ := h
  have hu := h3.2.2.1
  refine ⟨nx, k, ns, ni, cP_of h1 (f 9 (by omega)) (f 10 (by omega)) (f 13 (by omega)) (f 14 (by omega)), cS_fr h2 (fun c c1 c2 => f c (by omega)), ⟨?_, ?_, h3.2.2.1, h3.2.2.2.1, fun i hi => cS_fr (h3.2.2.2.2 i hi) (fun c c1 c2 => f c (by omega))⟩, ⟨?_, fun i hi hb => ⟨cS_fr (h4.2 i hi hb).1 (fun c c1 c2 => f c (by omega)), ?_⟩⟩, ?_, ?_, ?_, ?_⟩
  · rw [f 34 (by omega)]; exact h3.1
  · rw [f 34 (by omega)]; exact h3.2.1
  · rw [f 36 (by omega)]; exact h4.1
  · rw [f 38 (by omega)]; exact (h4.2 i hi hb).2
  · rw [f 0 (by omega)]; exact h5
  · unfold cTx at h6 ⊢; rw [f 1 (by omega), f 2 (by omega)]; exact h6
  · unfold cNb at h7 ⊢; rw [f 28 (by omega), f 29 (by omega), f 30 (by omega), f 31 (by omega), f 32 (by omega)]; exact h7
  · unfold cTu at h8 ⊢; rw [f 19 (by omega)]; exact h8
/-- what an answer of each side is to be -/
def okC (y : Nat) (as : List Value) (a a1 : aT) (v : Int32) : Prop := ∀ (X : zM) (Q : Option Value → zM → Prop), CI a X → (∀ Y, CI a1 Y → frM X Y → Q (some (.int v)) Y) → zcl y as X Q
def okM (y : Nat) (as : List Value) (a a1 : aT) (v : Int32) : Prop := ∀ (X : zM) (Q : Option Value → zM → Prop), MI a X → (∀ Y, MI a1 Y → frK X Y → Q (some (.int v)) Y) → zcl y as X Q
/-- a call of both sides: one value, one answer, in range again -/
def okCall (yc ym : Nat) (as : List Value) : Prop := ∀ a : aT, OKA a → ∃ (a1 : aT) (v : Int32), OKA a1 ∧ okC yc (.ref 0 :: as) a a1 v ∧ okM ym (.ref 39 :: as) a a1 v
theorem okC_ro {y : Nat} {as : List Value} {a : aT} {v : Int32} (h : ∀ (X : zM) (Q : Option Value → zM → Prop), CI a X → zcl y as X Q = Q (some (.int v)) X) : okC y as a a v := fun X Q hX hQ => by
  rw [h X Q hX]
  exact hQ X hX frM.rf
theorem okM_ro {y : Nat} {as : List Value} {a : aT} {v : Int32} (h : ∀ (X : zM) (Q : Option Value → zM → Prop), MI a X → zcl y as X Q = Q (some (.int v)) X) : okM y as a a v := fun X Q hX hQ => by
  rw [h X Q hX]
  exact hQ X hX frK.rf
