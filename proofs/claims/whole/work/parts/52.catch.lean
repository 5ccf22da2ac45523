/-! catches, loses -/
/-- days that end well -/
def sB (t w : Nat → Nat) (L be : Nat) : Nat → Nat
  | 0 => 0
  | n + 1 => if sB t w L be n < n then sB t w L be n else if L ≤ t n ∧ w n < be then n else n + 1
theorem sB_le {t w : Nat → Nat} {L be : Nat} : ∀ n, sB t w L be n ≤ n
  | 0 => Nat.le_refl _
  | n + 1 => by
    have := sB_le (t := t) (w := w) (L := L) (be := be) n
    unfold sB
    split
    · omega
    · split <;> omega
theorem sB_stay {t w : Nat → Nat} {L be m : Nat} (h : sB t w L be m < m) : ∀ j, sB t w L be (m + j) = sB t w L be m
  | 0 => rfl
  | j + 1 => by
    have ih := sB_stay h j
    show sB t w L be (m + j + 1) = _
    rw [← ih]
    exact if_pos (by omega)
def sfF (t w : Nat → Nat) (L be : Nat) : Nat → Nat → Nat
  | 0, k => k
  | s + 1, k => if L ≤ t k ∧ w k < be then k else sfF t w L be s (k + 1)
theorem sf_sB {t w : Nat → Nat} {L be : Nat} : ∀ s k, sB t w L be k = k → sfF t w L be s k = sB t w L be (k + s)
  | 0, k, h => h.symm
  | s + 1, k, h => by
    have h1 : sB t w L be (k + 1) = if L ≤ t k ∧ w k < be then k else k + 1 := by
      show (if sB t w L be k < k then _ else _) = _
      rw [if_neg (by omega)]
    unfold sfF
    by_cases c : L ≤ t k ∧ w k < be
    · rw [if_pos c] at h1 ⊢
      rw [show k + (s + 1) = k + 1 + s by omega, sB_stay (by omega) s, h1]
    · rw [if_neg c] at h1 ⊢
      rw [sf_sB s (k + 1) h1, show k + (s + 1) = k + 1 + s by omega]
def hlN (t w : Nat → Nat) (L n : Nat) : Nat := smN (fun k => if L ≤ t k then w k else 0) n
theorem hlN_le {t w : Nat → Nat} {L n : Nat} (h : ∀ k, w k ≤ 9) : hlN t w L n ≤ n * 9 := smN_le (fun k _ => by split; exact h k; omega)
theorem hlN_s {t w : Nat → Nat} {L n : Nat} : hlN t w L (n + 1) = hlN t w L n + if L ≤ t n then w n else 0 := rfl
section BV
variable {D G B C : Nat} {W lim bear : Nat → Nat} {R : Nat → Nat}
theorem boatN_hi (t v : Nat) : ∀ n j, n ≤ j → boatN lim bear t v R n (23 + j) = R (23 + j)
  | 0, _, _ => rfl
  | n + 1, j, h => by
    have ih := boatN_hi t v n j (by omega)
    simp only [boatN]
    split
    · split
      · rw [upN_ne _ _ (by omega)]; exact ih
      · rw [upN_ne _ _ (by omega)]; exact ih
    · exact ih
theorem boatN_22 (t v : Nat) : ∀ n, boatN lim bear t v R n 22 = R 22
  | 0 => rfl
  | n + 1 => by
    have ih := boatN_22 t v n
    simp only [boatN]
    split
    · split
      · rw [upN_ne _ _ (by omega)]; exact ih
      · rw [upN_ne _ _ (by omega)]; exact ih
    · exact ih
theorem boatN_at (t v : Nat) : ∀ n b, b < n → n ≤ 5 → bt (boatN lim bear t v R n 21) b = (if (bt (R 21) b = 0 ∧ bt (R 22) b = 0 ∧ lim b ≤ t) ∧ v < bear b then 1 else bt (R 21) b) ∧ boatN lim bear t v R n (23 + b) = (if (bt (R 21) b = 0 ∧ bt (R 22) b = 0 ∧ lim b ≤ t) ∧ ¬ v < bear b then min 999999 (R (23 + b) + v) else R (23 + b))
  | 0, b, h, _ => absurd h (by omega)
  | n + 1, b, h, h5 => by
    by_cases hb : b = n
    · subst hb
      obtain ⟨k1, k2⟩ := boatN_bit (lim := lim) (bear := bear) (R := R) t v b b (Nat.le_refl _) (by omega)
      have k3 := boatN_hi (lim := lim) (bear := bear) (R := R) t v b b (Nat.le_refl _)
      simp only [boatN]
      rw [k2]
      by_cases c : bt (R 21) b = 0 ∧ bt (R 22) b = 0 ∧ lim b ≤ t
      · rw [if_pos (by rw [k1]; exact c)]
        by_cases c2 : v < bear b
        · rw [if_pos c2, if_pos ⟨c, c2⟩, if_neg (fun q => q.2 c2), upN_at, upN_ne _ _ (by omega), bt_or2, if_pos rfl]
          exact ⟨rfl, k3⟩
        · rw [if_neg c2, if_neg (fun q => c2 q.2), if_pos ⟨c, c2⟩, upN_at, upN_ne _ _ (by omega), k3]
          exact ⟨k1, rfl⟩
      · rw [if_neg (by rw [k1]; exact c), if_neg (fun q => c q.1), if_neg (fun q => c q.1)]
        exact ⟨k1, k3⟩
    · obtain ⟨i1, i2⟩ := boatN_at t v n b (by omega) (by omega)
      rw [← i1, ← i2]
      simp only [boatN]
      split
      · split
        · rw [upN_at, upN_ne _ _ (by omega), bt_or2, if_neg hb]
          exact ⟨rfl, rfl⟩
        · rw [upN_ne _ _ (by omega), upN_ne _ _ (by omega)]
          exact ⟨rfl, rfl⟩
      · exact ⟨rfl, rfl⟩
theorem dayI_boat {b : Nat} (ho : okP D G B C W lim bear) (hr : okR B R) (hb : b < B) : ∀ n, n ≤ 60 → R 29 + n ≤ 9100 → dayI D G B C W lim bear n R 22 = R 22 ∧ (bt (R 21) b = 0 ∧ bt (R 22) b = 0 → bt (dayI D G B C W lim bear n R 21) b = (if sB (tN D G W R) (fun k => wN D W (R 29 + (k + 1))) (lim b) (bear b) n < n then 1 else 0) ∧ dayI D G B C W lim bear n R (23 + b) = R (23 + b) + hlN (tN D G W R) (fun k => wN D W (R 29 + (k + 1))) (lim b) (sB (tN D G W R) (fun k => wN D W (R 29 + (k + 1))) (lim b) (bear b) n)) ∧ (¬ (bt (R 21) b = 0 ∧ bt (R 22) b = 0) → bt (dayI D G B C W lim bear n R 21) b = bt (R 21) b ∧ dayI D G B C W lim bear n R (23 + b) = R (23 + b)) := by
  have hB := ho.2.2.1
  have hG := ho.2.1
  have hcb := hr.2.2.2.1 b (by omega)
  have h29 := hr.2.2.2.2.2.1
  generalize htt : tN D G W R = t
  generalize hww : (fun k => wN D W (R 29 + (k + 1))) = w
  have hw9 : ∀ k, w k ≤ 9 := fun k => by rw [← hww]; exact wN_le ho.2.2.2.2.1 _
  intro n
  induction n with
  | zero =>
    intro _ _
    refine ⟨rfl, fun h => ⟨?_, ?_⟩, fun _ => ⟨rfl, rfl⟩⟩
    · show bt (R 21) b = _
      rw [h.1]; rfl
    · show R (23 + b) = R (23 + b) + 0
      omega
  | succ n ih =>
    intro hn h9
    obtain ⟨i0, i1, i2⟩ := ih (by omega) (by omega)
    have hok := (dayI_ok ho n R hr (by omega)).1
    have et : tN D G W (dayI D G B C W lim bear n R) 0 = t n := by rw [tN_ahead ho hr (by omega), htt]
    have ew : wN D W (dayI D G B C W lim bear n R 29 + 1) = w n := by rw [wN_ahead ho hr (by omega), ← hww]
    rw [dayI_succ]
    generalize hS : dayI D G B C W lim bear n R = S at i0 i1 i2 hok et ew
    have d22 : dayN D G B C W lim bear S 22 = S 22 := by
      rw [dayN_lo hB hok hG ho.2.2.2.2.1 (by omega), boatN_22]
    have dl : ∀ j, (j = 21 ∨ (23 ≤ j ∧ j < 28)) → dayN D G B C W lim bear S j = boatN lim bear (t n) (w n) S B j := fun j hj => by
      rw [dayN_lo hB hok hG ho.2.2.2.2.1 (by omega), et, ew]
    obtain ⟨b1, b2⟩ := boatN_at (lim := lim) (bear := bear) (R := S) (t n) (w n) B b hb hB
    rw [dl 21 (by omega), dl (23 + b) (by omega), d22, b1, b2, i0]
    refine ⟨rfl, fun hrd => ?_, fun hrd => ?_⟩
    · obtain ⟨j1, j2⟩ := i1 hrd
      have hsl := sB_le (t := t) (w := w) (L := lim b) (be := bear b) n
      by_cases c : sB t w (lim b) (bear b) n < n
      · rw [if_pos c] at j1
        have e1 : sB t w (lim b) (bear b) (n + 1) = sB t w (lim b) (bear b) n := if_pos c
        rw [e1, if_neg (fun q => by have := q.1.1; omega), if_pos (show sB t w (lim b) (bear b) n < n + 1 by omega), if_neg (fun q => by have := q.1.1; omega)]
        exact ⟨j1, j2⟩
      · rw [if_neg c] at j1
        have e0 : sB t w (lim b) (bear b) n = n := by omega
        have e1 : sB t w (lim b) (bear b) (n + 1) = if lim b ≤ t n ∧ w n < bear b then n else n + 1 := if_neg c
        rw [e0] at j2
        by_cases c1 : lim b ≤ t n ∧ w n < bear b
        · rw [if_pos c1] at e1
          rw [e1, if_pos ⟨⟨j1, hrd.2, c1.1⟩, c1.2⟩, if_pos (show n < n + 1 by omega), if_neg (fun q => q.2 c1.2)]
          exact ⟨rfl, j2⟩
        · rw [if_neg c1] at e1
          rw [e1, if_neg (fun q => c1 ⟨q.1.2.2, q.2⟩), if_neg (by omega)]
          refine ⟨j1, ?_⟩
          rw [hlN_s]
          have hh := hlN_le (t := t) (w := w) (L := lim b) (n := n) hw9
          have h9n := hw9 n
          by_cases c2 : lim b ≤ t n
          · rw [if_pos ⟨⟨j1, hrd.2, c2⟩, fun q => c1 ⟨c2, q⟩⟩, if_pos c2, j2]
            omega
          · rw [if_neg (fun q => c2 q.1.2.2), if_neg c2, j2]
            rfl
    · obtain ⟨j1, j2⟩ := i2 hrd
      rw [j1, j2, if_neg (fun q => hrd ⟨q.1.1, q.1.2.1⟩), if_neg (fun q => hrd ⟨q.1.1, q.1.2.1⟩)]
      exact ⟨rfl, rfl⟩
end BV
