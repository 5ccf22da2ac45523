/-! coast: the text, read purely -/
def skF (tx : Nat → Nat) : Nat → Nat → Nat
  | 0, p => p
  | n + 1, p => if tx p = 32 then skF tx n (p + 1) else p
/-- past the blanks -/
def sk (t : Nat) (tx : Nat → Nat) (p : Nat) : Nat := skF tx (t - p) p
def dgF (tx : Nat → Nat) : Nat → Nat → Nat → Nat × Nat
  | 0, p, a => (p, a)
  | n + 1, p, a => if 48 ≤ tx p ∧ tx p ≤ 57 then dgF tx n (p + 1) (a * 10 + (tx p - 48)) else (p, a)
/-- past the figures, and their number -/
def dg (t : Nat) (tx : Nat → Nat) (p a : Nat) : Nat × Nat := dgF tx (t - p) p a
def ne (t : Nat) (tx : Nat → Nat) (p : Nat) : Nat := (dg t tx (sk t tx p) 0).1
def nv (t : Nat) (tx : Nat → Nat) (p : Nat) : Nat := (dg t tx (sk t tx p) 0).2
def nk (t : Nat) (tx : Nat → Nat) (m p : Nat) : Nat := if sk t tx p < t ∧ 48 ≤ tx (sk t tx p) ∧ tx (sk t tx p) ≤ 57 then (if 3 < ne t tx p - sk t tx p ∨ m < nv t tx p then 2 else 0) else 1
def ek (t : Nat) (tx : Nat → Nat) (p : Nat) : Nat := if sk t tx p < t ∧ tx (sk t tx p) = 59 then 0 else 1
def sg (t : Nat) (tx : Nat → Nat) (p : Nat) : Int32 := if p < t then nI (tx p) else -1
section TP
variable {t : Nat} {tx : Nat → Nat} {p a m : Nat}
theorem sk_end (h : t ≤ p) : sk t tx p = p := by
  unfold sk
  rw [show t - p = 0 by omega]
  rfl
theorem sk_sp (h : p < t) (h2 : tx p = 32) : sk t tx p = sk t tx (p + 1) := by
  unfold sk
  rw [show t - p = (t - (p + 1)) + 1 by omega]
  exact if_pos h2
theorem sk_no (h : p < t) (h2 : ¬ tx p = 32) : sk t tx p = p := by
  unfold sk
  rw [show t - p = (t - (p + 1)) + 1 by omega]
  exact if_neg h2
theorem sk_all : ∀ n p, p + n = t → p ≤ sk t tx p ∧ sk t tx p ≤ t ∧ (sk t tx p < t → ¬ tx (sk t tx p) = 32) := by
  intro n
  induction n with
  | zero =>
    intro p hp
    rw [sk_end (by omega)]
    exact ⟨Nat.le_refl p, by omega, fun q => absurd q (by omega)⟩
  | succ n ih =>
    intro p hp
    by_cases c : tx p = 32
    · rw [sk_sp (by omega) c]
      have := ih (p + 1) (by omega)
      exact ⟨by omega, this.2.1, this.2.2⟩
    · rw [sk_no (by omega) c]
      exact ⟨Nat.le_refl p, by omega, fun _ => c⟩
theorem sk_le (h : p ≤ t) : p ≤ sk t tx p ∧ sk t tx p ≤ t := by
  have := sk_all (t := t) (tx := tx) (t - p) p (by omega)
  exact ⟨this.1, this.2.1⟩
theorem sk_sk (h : p ≤ t) : sk t tx (sk t tx p) = sk t tx p := by
  have k := sk_all (t := t) (tx := tx) (t - p) p (by omega)
  by_cases c : sk t tx p < t
  · exact sk_no c (k.2.2 c)
  · exact sk_end (by omega)
theorem dg_end (h : t ≤ p) : dg t tx p a = (p, a) := by
  unfold dg
  rw [show t - p = 0 by omega]
  rfl
theorem dg_y (h : p < t) (h2 : 48 ≤ tx p ∧ tx p ≤ 57) : dg t tx p a = dg t tx (p + 1) (a * 10 + (tx p - 48)) := by
  unfold dg
  rw [show t - p = (t - (p + 1)) + 1 by omega]
  exact if_pos h2
theorem dg_n (h : p < t) (h2 : ¬ (48 ≤ tx p ∧ tx p ≤ 57)) : dg t tx p a = (p, a) := by
  unfold dg
  rw [show t - p = (t - (p + 1)) + 1 by omega]
  exact if_neg h2
theorem dg_all : ∀ n p a, p + n = t → p ≤ (dg t tx p a).1 ∧ (dg t tx p a).1 ≤ t := by
  intro n
  induction n with
  | zero =>
    intro p a hp
    rw [dg_end (by omega)]
    exact ⟨Nat.le_refl p, by omega⟩
  | succ n ih =>
    intro p a hp
    by_cases c : 48 ≤ tx p ∧ tx p ≤ 57
    · rw [dg_y (by omega) c]
      have := ih (p + 1) (a * 10 + (tx p - 48)) (by omega)
      exact ⟨by omega, this.2⟩
    · rw [dg_n (by omega) c]
      exact ⟨Nat.le_refl p, by omega⟩
theorem ne_le (h : p ≤ t) : p ≤ ne t tx p ∧ sk t tx p ≤ ne t tx p ∧ ne t tx p ≤ t := by
  have h1 := sk_le (tx := tx) h
  have h2 := dg_all (t := t) (tx := tx) (t - sk t tx p) (sk t tx p) 0 (by omega)
  unfold ne
  omega
theorem nk_ok (h : nk t tx m p = 0) : nv t tx p ≤ m := by
  unfold nk at h
  split at h
  · split at h
    · omega
    · omega
  · omega
theorem nk_01 : nk t tx m p ≤ 2 := by
  unfold nk
  split
  · split <;> omega
  · omega
theorem ek_01 : ek t tx p = 0 ∨ ek t tx p = 1 := by
  unfold ek
  split
  · exact Or.inl rfl
  · exact Or.inr rfl
theorem ek_lt (h : ek t tx p = 0) : sk t tx p < t := by
  unfold ek at h
  split at h
  · rename_i q; exact q.1
  · omega
end TP
/-- a number put into a row -/
def un (f : Nat → Nat) (k v : Nat) : Nat → Nat := fun i => if i = k then v else f i
theorem un_at (f : Nat → Nat) (k v : Nat) : un f k v k = v := if_pos rfl
theorem un_ne (f : Nat → Nat) {k v j : Nat} (h : j ≠ k) : un f k v j = f j := if_neg h
theorem un_le {f : Nat → Nat} {k v c : Nat} (hf : ∀ i, f i ≤ c) (hv : v ≤ c) (i : Nat) : un f k v i ≤ c := by
  unfold un
  split
  · exact hv
  · exact hf i
/-- where reading stands, weathers, glasses, boats, drinks, whether they were told -/
abbrev sT : Type := Nat × (Nat × (Nat → Nat)) × (Nat × (Nat → Nat) × (Nat → Nat)) × (Nat × (Nat → Nat) × (Nat → Nat)) × Nat × Nat
/-- two numbers and an end: fault and where (0: none) -/
def n2k (t : Nat) (tx : Nat → Nat) (m1 m2 p : Nat) : Nat × Nat := if nk t tx m1 p = 0 then (if nk t tx m2 (ne t tx p) = 0 then (ek t tx (ne t tx (ne t tx p)), sk t tx (ne t tx (ne t tx p))) else (nk t tx m2 (ne t tx p), sk t tx (ne t tx p))) else (nk t tx m1 p, sk t tx p)
def n1k (t : Nat) (tx : Nat → Nat) (m1 p : Nat) : Nat × Nat := if nk t tx m1 p = 0 then (ek t tx (ne t tx p), sk t tx (ne t tx p)) else (nk t tx m1 p, sk t tx p)
/-- the weathers from the D-th on: fault, where, then where it stands, how many, which -/
def wth (t : Nat) (tx : Nat → Nat) : Nat → Nat → (Nat → Nat) → Nat → Nat × Nat × Nat × Nat × (Nat → Nat)
  | 0, D, W, p => (1, p, p, D, W)
  | n + 1, D, W, p => if nk t tx 9 p = 0 then (if sk t tx (ne t tx p) < t ∧ tx (sk t tx (ne t tx p)) = 44 ∧ D + 1 < 12 then wth t tx n (D + 1) (un W D (nv t tx p)) (sk t tx (ne t tx p) + 1) else (ek t tx (ne t tx p), sk t tx (ne t tx p), sk t tx (ne t tx p) + 1, D + 1, un W D (nv t tx p))) else (nk t tx 9 p, sk t tx p, p, D, W)
/-- a clause, from its word on -/
def clS (t : Nat) (tx : Nat → Nat) (s : sT) : Nat × Nat × sT := match s with
  | (p, (D, W), (G, tm, wt), (B, lm, br), C, T) =>
    if tx (sk t tx p) ≠ 119 ∧ D = 0 then (1, sk t tx p, s)
    else if tx (sk t tx p) = 119 then (if 0 < D then (3, sk t tx p, s) else ((wth t tx 12 D W (sk t tx p + 1)).1, (wth t tx 12 D W (sk t tx p + 1)).2.1, ((wth t tx 12 D W (sk t tx p + 1)).2.2.1, (wth t tx 12 D W (sk t tx p + 1)).2.2.2, (G, tm, wt), (B, lm, br), C, T)))
    else if tx (sk t tx p) = 103 then (if 7 ≤ G then (3, sk t tx p, s) else ((n2k t tx 10 9 (sk t tx p + 1)).1, (n2k t tx 10 9 (sk t tx p + 1)).2, (sk t tx (ne t tx (ne t tx (sk t tx p + 1))) + 1, (D, W), (G + 1, un tm G (nv t tx (sk t tx p + 1)), un wt G (nv t tx (ne t tx (sk t tx p + 1)))), (B, lm, br), C, T)))
    else if tx (sk t tx p) = 98 then (if 5 ≤ B then (3, sk t tx p, s) else ((n2k t tx 9 9 (sk t tx p + 1)).1, (n2k t tx 9 9 (sk t tx p + 1)).2, (sk t tx (ne t tx (ne t tx (sk t tx p + 1))) + 1, (D, W), (G, tm, wt), (B + 1, un lm B (nv t tx (sk t tx p + 1)), un br B (nv t tx (ne t tx (sk t tx p + 1)))), C, T)))
    else if tx (sk t tx p) = 100 then (if ¬ T = 0 then (3, sk t tx p, s) else ((n1k t tx 20 (sk t tx p + 1)).1, (n1k t tx 20 (sk t tx p + 1)).2, (sk t tx (ne t tx (sk t tx p + 1)) + 1, (D, W), (G, tm, wt), (B, lm, br), nv t tx (sk t tx p + 1), 1)))
    else (1, sk t tx p, s)
def prs (t : Nat) (tx : Nat → Nat) : Nat → sT → Nat × Nat × sT
  | 0, s => (0, 0, s)
  | n + 1, s => if t ≤ sk t tx s.1 then (0, 0, s) else if (clS t tx s).1 = 0 then prs t tx n (clS t tx s).2.2 else ((clS t tx s).1, (clS t tx s).2.1, s)
def okT (t : Nat) (s : sT) : Prop := match s with
  | (p, (D, W), (G, tm, wt), (B, lm, br), C, T) => p ≤ t ∧ D ≤ 12 ∧ (∀ k, W k ≤ 9) ∧ G ≤ 7 ∧ (∀ g, tm g ≤ 10) ∧ (∀ g, wt g ≤ 9) ∧ B ≤ 5 ∧ (∀ b, lm b ≤ 9) ∧ (∀ b, br b ≤ 9) ∧ C ≤ 20 ∧ T ≤ 1 ∧ (T = 0 → C = 0) ∧ (D = 0 → G = 0 ∧ B = 0 ∧ T = 0)
section TQ
variable {t : Nat} {tx : Nat → Nat}
theorem n2_ok {m1 m2 p : Nat} (hp : p ≤ t) (h : (n2k t tx m1 m2 p).1 = 0) : nk t tx m1 p = 0 ∧ nk t tx m2 (ne t tx p) = 0 ∧ ek t tx (ne t tx (ne t tx p)) = 0 ∧ nv t tx p ≤ m1 ∧ nv t tx (ne t tx p) ≤ m2 ∧ p < sk t tx (ne t tx (ne t tx p)) + 1 ∧ sk t tx (ne t tx (ne t tx p)) + 1 ≤ t := by
  unfold n2k at h
  by_cases c1 : nk t tx m1 p = 0
  · rw [if_pos c1] at h
    by_cases c2 : nk t tx m2 (ne t tx p) = 0
    · rw [if_pos c2] at h
      have e1 := ne_le (tx := tx) hp
      have e2 := ne_le (tx := tx) e1.2.2
      have e3 := sk_le (tx := tx) e2.2.2
      have e4 := ek_lt h
      exact ⟨c1, c2, h, nk_ok c1, nk_ok c2, by omega, by omega⟩
    · rw [if_neg c2] at h
      exact absurd h c2
  · rw [if_neg c1] at h
    exact absurd h c1
theorem n1_ok {m1 p : Nat} (hp : p ≤ t) (h : (n1k t tx m1 p).1 = 0) : nk t tx m1 p = 0 ∧ ek t tx (ne t tx p) = 0 ∧ nv t tx p ≤ m1 ∧ p < sk t tx (ne t tx p) + 1 ∧ sk t tx (ne t tx p) + 1 ≤ t := by
  unfold n1k at h
  by_cases c1 : nk t tx m1 p = 0
  · rw [if_pos c1] at h
    have e1 := ne_le (tx := tx) hp
    have e3 := sk_le (tx := tx) e1.2.2
    have e4 := ek_lt h
    exact ⟨c1, h, nk_ok c1, by omega, by omega⟩
  · rw [if_neg c1] at h
    exact absurd h c1
theorem wth_ok : ∀ (n D : Nat) (W : Nat → Nat) (p : Nat), p ≤ t → D + n = 12 → (∀ k, W k ≤ 9) → (wth t tx n D W p).1 = 0 → p < (wth t tx n D W p).2.2.1 ∧ (wth t tx n D W p).2.2.1 ≤ t ∧ 0 < (wth t tx n D W p).2.2.2.1 ∧ (wth t tx n D W p).2.2.2.1 ≤ 12 ∧ ∀ k, (wth t tx n D W p).2.2.2.2 k ≤ 9 := by
  intro n
  induction n with
  | zero => intro D W p hp hD hW h; exact absurd h (by intro q; cases q)
  | succ n ih =>
    intro D W p hp hD hW h
    have e1 := ne_le (tx := tx) hp
    have e2 := sk_le (tx := tx) e1.2.2
    unfold wth at h ⊢
    by_cases c1 : nk t tx 9 p = 0
    · rw [if_pos c1] at h ⊢
      by_cases c2 : sk t tx (ne t tx p) < t ∧ tx (sk t tx (ne t tx p)) = 44 ∧ D + 1 < 12
      · rw [if_pos c2] at h ⊢
        have k := ih (D + 1) (un W D (nv t tx p)) (sk t tx (ne t tx p) + 1) (by omega) (by omega) (un_le hW (nk_ok c1)) h
        exact ⟨by omega, k.2⟩
      · rw [if_neg c2] at h ⊢
        have e3 := ek_lt h
        exact ⟨by dsimp only; omega, e3, by dsimp only; omega, by dsimp only; omega, un_le hW (nk_ok c1)⟩
    · rw [if_neg c1] at h
      exact absurd h c1
theorem clS_ok {s : sT} (hs : okT t s) (hq : sk t tx s.1 < t) (h : (clS t tx s).1 = 0) : okT t (clS t tx s).2.2 ∧ s.1 < (clS t tx s).2.2.1 := by
  obtain ⟨p, ⟨D, W⟩, ⟨G, tm, wt⟩, ⟨B, lm, br⟩, C, T⟩ := s
  obtain ⟨h1, h2, h3, h4, h5, h6, h7, h8, h9, h10, h11, h12, h13⟩ := hs
  have e1 := sk_le (tx := tx) h1
  have hq : sk t tx p < t := hq
  unfold clS at h ⊢
  dsimp only at h ⊢
  by_cases c1 : tx (sk t tx p) ≠ 119 ∧ D = 0
  · rw [if_pos c1] at h; exact absurd h (by intro q; cases q)
  · rw [if_neg c1] at h ⊢
    by_cases c2 : tx (sk t tx p) = 119
    · rw [if_pos c2] at h ⊢
      by_cases c3 : 0 < D
      · rw [if_pos c3] at h; exact absurd h (by intro q; cases q)
      · rw [if_neg c3] at h ⊢
        have k := wth_ok (tx := tx) 12 D W (sk t tx p + 1) (by omega) (by omega) h3 h
        have h14 := h13 (by omega)
        exact ⟨⟨k.2.1, k.2.2.2.1, k.2.2.2.2, h4, h5, h6, h7, h8, h9, h10, h11, h12, fun q => absurd q (Nat.ne_of_gt k.2.2.1)⟩, by dsimp only; omega⟩
    · have c1 : ¬ D = 0 := fun q => c1 ⟨c2, q⟩
      rw [if_neg c2] at h ⊢
      by_cases c4 : tx (sk t tx p) = 103
      · rw [if_pos c4] at h ⊢
        by_cases c3 : 7 ≤ G
        · rw [if_pos c3] at h; exact absurd h (by intro q; cases q)
        · rw [if_neg c3] at h ⊢
          have k := n2_ok (tx := tx) (by omega) h
          exact ⟨⟨k.2.2.2.2.2.2, h2, h3, by omega, un_le h5 k.2.2.2.1, un_le h6 k.2.2.2.2.1, h7, h8, h9, h10, h11, h12, fun q => absurd q c1⟩, by dsimp only; omega⟩
      · rw [if_neg c4] at h ⊢
        by_cases c5 : tx (sk t tx p) = 98
        · rw [if_pos c5] at h ⊢
          by_cases c3 : 5 ≤ B
          · rw [if_pos c3] at h; exact absurd h (by intro q; cases q)
          · rw [if_neg c3] at h ⊢
            have k := n2_ok (tx := tx) (by omega) h
            exact ⟨⟨k.2.2.2.2.2.2, h2, h3, h4, h5, h6, by omega, un_le h8 k.2.2.2.1, un_le h9 k.2.2.2.2.1, h10, h11, h12, fun q => absurd q c1⟩, by dsimp only; omega⟩
        · rw [if_neg c5] at h ⊢
          by_cases c6 : tx (sk t tx p) = 100
          · rw [if_pos c6] at h ⊢
            by_cases c3 : ¬ T = 0
            · rw [if_pos c3] at h; exact absurd h (by intro q; cases q)
            · rw [if_neg c3] at h ⊢
              have k := n1_ok (tx := tx) (by omega) h
              exact ⟨⟨k.2.2.2.2, h2, h3, h4, h5, h6, h7, h8, h9, k.2.2.1, by omega, fun q => absurd q (by decide), fun q => absurd q c1⟩, by dsimp only; omega⟩
          · rw [if_neg c6] at h; exact absurd h (by intro q; cases q)
theorem prs_ok : ∀ (n : Nat) (s : sT), okT t s → (prs t tx n s).1 = 0 → okT t (prs t tx n s).2.2 := by
  intro n
  induction n with
  | zero => intro s hs h; exact hs
  | succ n ih =>
    intro s hs h
    unfold prs at h ⊢
    by_cases c1 : t ≤ sk t tx s.1
    · rw [if_pos c1]; exact hs
    · rw [if_neg c1] at h ⊢
      by_cases c2 : (clS t tx s).1 = 0
      · rw [if_pos c2] at h ⊢
        exact ih _ (clS_ok hs (by omega) c2).1 h
      · rw [if_neg c2] at h; exact absurd h c2
end TQ
section TS
variable {t : Nat} {tx : Nat → Nat}
theorem n2_3 {m1 m2 p : Nat} : (n2k t tx m1 m2 p).1 ≤ 3 := by
  have i1 := nk_01 (t := t) (tx := tx) (m := m1) (p := p)
  have i2 := nk_01 (t := t) (tx := tx) (m := m2) (p := ne t tx p)
  have i3 := ek_01 (t := t) (tx := tx) (p := ne t tx (ne t tx p))
  unfold n2k
  split
  · split
    · dsimp only; omega
    · dsimp only; omega
  · dsimp only; omega
theorem n1_3 {m1 p : Nat} : (n1k t tx m1 p).1 ≤ 3 := by
  have i1 := nk_01 (t := t) (tx := tx) (m := m1) (p := p)
  have i3 := ek_01 (t := t) (tx := tx) (p := ne t tx p)
  unfold n1k
  split
  · dsimp only; omega
  · dsimp only; omega
theorem wth_3 : ∀ (n D : Nat) (W : Nat → Nat) (p : Nat), (wth t tx n D W p).1 ≤ 3
  | 0, D, W, p => by show 1 ≤ 3; omega
  | n + 1, D, W, p => by
    have i1 := nk_01 (t := t) (tx := tx) (m := 9) (p := p)
    have i3 := ek_01 (t := t) (tx := tx) (p := ne t tx p)
    unfold wth
    split
    · split
      · exact wth_3 n _ _ _
      · dsimp only; omega
    · dsimp only; omega
theorem clS_3 (s : sT) : (clS t tx s).1 ≤ 3 := by
  obtain ⟨p, ⟨D, W⟩, ⟨G, tm, wt⟩, ⟨B, lm, br⟩, C, T⟩ := s
  unfold clS
  dsimp only
  split
  · dsimp only; omega
  · split
    · split
      · dsimp only; omega
      · exact wth_3 _ _ _ _
    · split
      · split
        · dsimp only; omega
        · exact n2_3
      · split
        · split
          · dsimp only; omega
          · exact n2_3
        · split
          · split
            · dsimp only; omega
            · exact n1_3
          · dsimp only; omega
/-- from behind the blanks it is the same clause -/
theorem clS_sk {p D G B C T : Nat} {W tm wt lm br : Nat → Nat} (h : p ≤ t) : clS t tx (sk t tx p, (D, W), (G, tm, wt), (B, lm, br), C, T) = ((clS t tx (p, (D, W), (G, tm, wt), (B, lm, br), C, T)).1, (clS t tx (p, (D, W), (G, tm, wt), (B, lm, br), C, T)).2.1, (clS t tx (sk t tx p, (D, W), (G, tm, wt), (B, lm, br), C, T)).2.2) ∧ ((clS t tx (p, (D, W), (G, tm, wt), (B, lm, br), C, T)).1 = 0 → (clS t tx (sk t tx p, (D, W), (G, tm, wt), (B, lm, br), C, T)).2.2 = (clS t tx (p, (D, W), (G, tm, wt), (B, lm, br), C, T)).2.2) := by
  have e := sk_sk (tx := tx) h
  unfold clS
  dsimp only
  rw [e]
  by_cases c1 : tx (sk t tx p) ≠ 119 ∧ D = 0
  · simp only [if_pos c1]
    exact ⟨trivial, fun q => absurd q (by decide)⟩
  · simp only [if_neg c1]
    by_cases c2 : tx (sk t tx p) = 119
    · simp only [if_pos c2]
      by_cases c3 : 0 < D
      · simp only [if_pos c3]
        exact ⟨trivial, fun q => absurd q (by decide)⟩
      · simp only [if_neg c3]
        exact ⟨trivial, fun _ => trivial⟩
    · simp only [if_neg c2]
      by_cases c4 : tx (sk t tx p) = 103
      · simp only [if_pos c4]
        by_cases c3 : 7 ≤ G
        · simp only [if_pos c3]
          exact ⟨trivial, fun q => absurd q (by decide)⟩
        · simp only [if_neg c3]
          exact ⟨trivial, fun _ => trivial⟩
      · simp only [if_neg c4]
        by_cases c5 : tx (sk t tx p) = 98
        · simp only [if_pos c5]
          by_cases c3 : 5 ≤ B
          · simp only [if_pos c3]
            exact ⟨trivial, fun q => absurd q (by decide)⟩
          · simp only [if_neg c3]
            exact ⟨trivial, fun _ => trivial⟩
        · simp only [if_neg c5]
          by_cases c6 : tx (sk t tx p) = 100
          · simp only [if_pos c6]
            by_cases c3 : ¬ T = 0
            · simp only [if_pos c3]
              exact ⟨trivial, fun q => absurd q (by decide)⟩
            · simp only [if_neg c3]
              exact ⟨trivial, fun _ => trivial⟩
          · simp only [if_neg c6]
            exact ⟨trivial, fun q => absurd q (by decide)⟩
end TS
theorem clP_3 {t : Nat} {tx : Nat → Nat} : ∀ (n : Nat) (s : sT), (prs t tx n s).1 ≤ 3
  | 0, s => Nat.zero_le 3
  | n + 1, s => by
    unfold prs
    split
    · exact Nat.zero_le 3
    · split
      · exact clP_3 n _
      · exact clS_3 s
