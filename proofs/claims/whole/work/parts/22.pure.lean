/-! the mathematical values: parameters, a state's row R of numbers, and how both sides hold them -/
def smN (f : Nat → Nat) : Nat → Nat
  | 0 => 0
  | n + 1 => smN f n + f n
theorem sm_nI {f : Nat → Int32} {h : Nat → Nat} : ∀ {n : Nat}, (∀ i, i < n → f i = nI (h i)) → sm f n = nI (smN h n)
  | 0, _ => rfl
  | n + 1, hf => by
    rw [sm, smN, sm_nI (fun i hi => hf i (Nat.lt_succ_of_lt hi)), hf n (Nat.lt_succ_self n), nI_add]
theorem smN_le {f : Nat → Nat} {c : Nat} : ∀ {n : Nat}, (∀ i, i < n → f i ≤ c) → smN f n ≤ n * c
  | 0, _ => by simp [smN]
  | n + 1, h => by
    have h1 := smN_le (n := n) (fun i hi => h i (Nat.lt_succ_of_lt hi))
    have h2 := h n (Nat.lt_succ_self n)
    rw [smN, Nat.succ_mul]
    omega
theorem smN_cong {f h : Nat → Nat} : ∀ {n : Nat}, (∀ i, i < n → f i = h i) → smN f n = smN h n
  | 0, _ => rfl
  | n + 1, q => by
    rw [smN, smN, smN_cong (fun i hi => q i (Nat.lt_succ_of_lt hi)), q n (Nat.lt_succ_self n)]
def rdN (w t l n : Nat) : Nat := min 9 (w + t + (if n < l then 2 else 0) - 5)
theorem rdv_nI : ∀ w, w < 10 → ∀ t, t < 11 → rdv (nI w + nI t - nI 5 + nI 2) = nI (min 9 (w + t + 2 - 5)) ∧ rdv (nI w + nI t - nI 5 + nI 0) = nI (min 9 (w + t + 0 - 5)) := by decide +kernel
theorem rd_nI {w t l n : Nat} (hw : w ≤ 9) (ht : t ≤ 10) (hl : l < 2 ^ 31) (hn : n < 2 ^ 31) : rd (nI w) (nI t) (nI l) n = nI (rdN w t l n) := by
  have h := rdv_nI w (by omega) t (by omega)
  unfold rd rdN
  by_cases hc : n < l
  · rw [if_pos ((nI_ltI hn hl).mpr hc), if_pos hc]
    exact h.1
  · rw [if_neg (fun q => hc ((nI_ltI hn hl).mp q)), if_neg hc]
    exact h.2
def telN (a b : Nat) : Nat := if b = 0 then 5 else a / b
theorem tl_nI {a b : Nat} (ha : a < 2 ^ 31) (hb : b < 2 ^ 31) : tl (nI a) (nI b) = nI (telN a b) := by
  unfold tl telN
  by_cases h : b = 0
  · subst h
    rw [if_neg Int32.lt_irrefl, if_pos rfl]
  · rw [if_pos ((nI_ltI (by omega) hb).mpr (by omega)), if_neg h, pk_div ha (by omega) hb]
theorem tm_nI {a b : Nat} (ha : a < 2 ^ 31) (hb : b < 2 ^ 31) : tm (nI a) (nI b) = nI (telN a b) := by
  unfold tm telN
  by_cases h : b = 0
  · subst h
    rw [if_pos rfl, if_pos rfl]
  · rw [if_neg (fun q => h ((nI_eq hb (by omega)).mp q)), if_neg h, pk_div ha (by omega) hb]
section PU
variable (D G B C : Nat) (W lim bear : Nat → Nat)
def okP : Prop := D ≤ 12 ∧ G ≤ 7 ∧ B ≤ 5 ∧ C ≤ 20 ∧ (∀ k, W k ≤ 9) ∧ (∀ b, lim b ≤ 9) ∧ (∀ b, bear b ≤ 9) ∧ (D = 0 → G = 0 ∧ B = 0 ∧ C = 0)
/-- the class's shore -/
def cP (X : zM) : Prop := X 9 0 = nI D ∧ X 9 1 = nI G ∧ X 9 2 = nI B ∧ X 9 3 = nI C ∧ (∀ k, k < D → X 10 k = nI (W k)) ∧ ∀ b, b < B → X 13 b = nI (lim b) ∧ X 14 b = nI (bear b)
/-- the reference's -/
def mP (X : zM) : Prop := X 39 7 = nI D ∧ X 39 9 = nI G ∧ X 39 11 = nI B ∧ X 39 13 = nI C ∧ (∀ k, k < D → X 42 k = nI (W k)) ∧ ∀ b, b < B → X 45 b = nI (lim b) ∧ X 46 b = nI (bear b)
/-- a state of the class in the cells from s on: the row R; its log's ring ends ahead of nx -/
def cS (X : zM) (s : Nat) (R : Nat → Nat) (nx : Nat) : Prop := (X s 0 = nI (R 29) ∧ X s 1 = nI (R 28) ∧ X s 2 = nI (R 21) ∧ X s 3 = nI (R 22)) ∧ (X s 8 = nI (R 30) ∧ X s 9 = nI nx ∧ nx < 20 ∧ (R 30 < 20 → nx = R 30)) ∧ (∀ g, g < G → X (s + 1) g = nI (R g) ∧ X (s + 2) g = nI (R (7 + g)) ∧ X (s + 3) g = nI (R (14 + g))) ∧ (∀ b, b < B → X (s + 4) b = nI (R (23 + b))) ∧
  ∀ i, i < R 30 → X (s + 5) ((nx + 20 - R 30 + i) % 20) = nI (R (31 + 3 * i)) ∧ X (s + 6) ((nx + 20 - R 30 + i) % 20) = nI (R (31 + 3 * i + 1)) ∧ X (s + 7) ((nx + 20 - R 30 + i) % 20) = nI (R (31 + 3 * i + 2))
/-- the reference's row at x -/
def mR (X : zM) (x : Nat) (R : Nat → Nat) : Prop := ∀ i, i < 91 → X 40 (x + i) = nI (R i)
def okR (R : Nat → Nat) : Prop := (∀ g, g < 7 → R g ≤ 10 ∧ R (7 + g) ≤ 9 ∧ R (14 + g) ≤ 60) ∧ R 21 < 2 ^ B ∧ R 22 < 2 ^ B ∧ (∀ b, b < 5 → R (23 + b) ≤ 9 * R 29) ∧ R 28 ≤ 20 ∧ R 29 ≤ 9100 ∧ R 30 ≤ 20 ∧ ∀ i, i < 20 → R (31 + 3 * i) ≤ 9 ∧ R (31 + 3 * i + 1) ≤ 9 ∧ R (31 + 3 * i + 2) ≤ 5
def wN (k : Nat) : Nat := if D = 0 then 0 else W (k % D)
def rN (R : Nat → Nat) (g n : Nat) : Nat := rdN (wN D W (R 29 + (n + 1))) (R g) (R (14 + g)) n
def tN (R : Nat → Nat) (n : Nat) : Nat := telN (smN (fun g => R (7 + g) * rN D W R g n) G) (smN (fun g => R (7 + g)) G)
end PU
section PV
variable {D G B C : Nat} {W lim bear : Nat → Nat} {X : zM} {R : Nat → Nat} {nx x : Nat} {Q : Option Value → zM → Prop}
theorem wN_le (hW : ∀ k, W k ≤ 9) (k : Nat) : wN D W k ≤ 9 := by
  unfold wN
  split
  · omega
  · exact hW _
theorem rdN_le (w t l n : Nat) : rdN w t l n ≤ 9 := Nat.min_le_left _ _
theorem rN_le (R : Nat → Nat) (g n : Nat) : rN D W R g n ≤ 9 := rdN_le _ _ _ _
theorem tel_le {G : Nat} {f r : Nat → Nat} (hr : ∀ g, g < G → r g ≤ 9) : telN (smN (fun g => f g * r g) G) (smN f G) ≤ 9 := by
  have h : ∀ n, n ≤ G → smN (fun g => f g * r g) n ≤ 9 * smN f n := by
    intro n
    induction n with
    | zero => intro _; simp [smN]
    | succ n ih =>
      intro hn
      have h1 := ih (by omega)
      have h2 : f n * r n ≤ f n * 9 := Nat.mul_le_mul_left _ (hr n (by omega))
      rw [smN, smN]
      omega
  unfold telN
  split
  · omega
  · have h1 := h G (Nat.le_refl G)
    exact Nat.div_le_of_le_mul (by rw [Nat.mul_comm]; exact h1)
theorem tN_le (R : Nat → Nat) (n : Nat) : tN D G W R n ≤ 9 := tel_le (fun g _ => rN_le R g n)
theorem wx_c (hc : cP D G B C W lim bear X) (k : Nat) : wx (X 10) D k = nI (wN D W k) := by
  unfold wx wN
  by_cases h : D = 0
  · rw [if_pos h, if_pos h]
  · rw [if_neg h, if_neg h]
    exact hc.2.2.2.2.1 _ (Nat.mod_lt _ (by omega))
theorem wx_m (hm : mP D G B C W lim bear X) (k : Nat) : wx (X 42) D k = nI (wN D W k) := by
  unfold wx wN
  by_cases h : D = 0
  · rw [if_pos h, if_pos h]
  · rw [if_neg h, if_neg h]
    exact hm.2.2.2.2.1 _ (Nat.mod_lt _ (by omega))
theorem sm_lt {f : Nat → Nat} {G c : Nat} (hG : G ≤ 7) (h : ∀ g, g < G → f g ≤ c) (hc : c ≤ 1000) : smN f G < 2 ^ 31 := by
  have h1 := smN_le h
  have h2 : G * c ≤ 7 * 1000 := Nat.mul_le_mul hG hc
  omega
theorem cc_weatherAhead {n : Nat} (ho : okP D G B C W lim bear) (hc : cP D G B C W lim bear X) (hs : cS G B X 57 R nx) (hr : okR B R) (hn : n < 1000) : zcl 21 [.ref 15, .int (nI n)] X Q = Q (some (.int (nI (wN D W (R 29 + n))))) X := by
  have := hr.2.2.2.2.2.1
  rw [c_weatherAhead hc.1 ho.1 hs.1.1 (by omega), wx_c hc]
theorem rd_c {g n : Nat} (ho : okP D G B C W lim bear) (hc : cP D G B C W lim bear X) (hs : cS G B X 57 R nx) (hr : okR B R) (hg : g < G) (hn : n < 1000) : rd (wx (X 10) D (R 29 + (n + 1))) (X 58 g) (X 60 g) n = nI (rN D W R g n) := by
  have hG := ho.2.1
  obtain ⟨h1, h2, h3⟩ := hs.2.2.1 g hg
  obtain ⟨r1, r2, r3⟩ := hr.1 g (by omega)
  rw [wx_c hc, h1, h3, rd_nI (wN_le ho.2.2.2.2.1 _) r1 (by omega) (by omega)]
  rfl
theorem cc_reading {g n : Nat} (ho : okP D G B C W lim bear) (hc : cP D G B C W lim bear X) (hs : cS G B X 57 R nx) (hr : okR B R) (hg : g < G) (hn : n < 1000) : zcl 68 [.ref 15, .int (nI g), .int (nI n)] X Q = Q (some (.int (nI (rN D W R g n)))) X := by
  have hG := ho.2.1
  have := hr.2.2.2.2.2.1
  rw [c_readingR hc.1 ho.1 hs.1.1 (by omega) (by omega), rd_c ho hc hs hr hg hn]
theorem cc_telling {n : Nat} (ho : okP D G B C W lim bear) (hc : cP D G B C W lim bear X) (hs : cS G B X 57 R nx) (hr : okR B R) (hn : n < 1000) : zcl 116 [.ref 15, .int (nI n)] X Q = Q (some (.int (nI (tN D G W R n)))) X := by
  have hG := ho.2.1
  have := hr.2.2.2.2.2.1
  rw [c_telling hc.1 ho.1 hs.1.1 (by omega) hc.2.1 ho.2.1]
  rw [sm_nI (f := X 59) (h := fun g => R (7 + g)) (fun g hg => (hs.2.2.1 g hg).2.1)]
  rw [sm_nI (h := fun g => R (7 + g) * rN D W R g n) (fun g hg => by rw [rd_c ho hc hs hr hg hn, (hs.2.2.1 g hg).2.1, pk_mul])]
  rw [tl_nI (sm_lt hG (c := 81) (fun g hg => Nat.mul_le_mul (hr.1 g (by omega)).2.1 (rN_le R g n)) (by omega)) (sm_lt hG (c := 9) (fun g hg => (hr.1 g (by omega)).2.1) (by omega))]
  rfl
theorem mm_tomorrow (ho : okP D G B C W lim bear) (hm : mP D G B C W lim bear X) (hs : mR X x R) (hr : okR B R) (hD : 0 < D) (hx : x < 1000) : zcl 94 [.ref 39, .int (nI x)] X Q = Q (some (.int (nI (wN D W (R 29 + 1))))) X := by
  have := hr.2.2.2.2.2.1
  rw [c_tomorrow hm.1 hD ho.1 hx (hs 29 (by omega)) (by omega), wx_m hm]
theorem rd_m {g : Nat} (ho : okP D G B C W lim bear) (hm : mP D G B C W lim bear X) (hs : mR X x R) (hr : okR B R) (hg : g < 7) : rd (wx (X 42) D (R 29 + 1)) (X 40 (x + g)) (X 40 (x + 14 + g)) 0 = nI (rN D W R g 0) := by
  obtain ⟨r1, r2, r3⟩ := hr.1 g (by omega)
  rw [wx_m hm, hs g (by omega), show x + 14 + g = x + (14 + g) by omega, hs (14 + g) (by omega), rd_nI (wN_le ho.2.2.2.2.1 _) r1 (by omega) (by omega)]
  rfl
theorem mm_reads {g : Nat} (ho : okP D G B C W lim bear) (hm : mP D G B C W lim bear X) (hs : mR X x R) (hr : okR B R) (hD : 0 < D) (hx : x < 1000) (hg : g < 7) : zcl 166 [.ref 39, .int (nI x), .int (nI g)] X Q = Q (some (.int (nI (rN D W R g 0)))) X := by
  have := hr.2.2.2.2.2.1
  rw [c_reads hm.1 hD ho.1 hx (hs 29 (by omega)) (by omega) hg, rd_m ho hm hs hr hg]
theorem mm_rowTells (ho : okP D G B C W lim bear) (hm : mP D G B C W lim bear X) (hs : mR X x R) (hr : okR B R) (hD : 0 < D) (hx : x < 1000) : zcl 184 [.ref 39, .int (nI x)] X Q = Q (some (.int (nI (tN D G W R 0)))) X := by
  have hG := ho.2.1
  have := hr.2.2.2.2.2.1
  rw [c_rowTells hm.1 hD ho.1 hx (hs 29 (by omega)) (by omega) hm.2.1 ho.2.1]
  rw [sm_nI (f := fun g => X 40 (x + 7 + g)) (h := fun g => R (7 + g)) (fun g hg => by rw [show x + 7 + g = x + (7 + g) by omega]; exact hs (7 + g) (by omega))]
  rw [sm_nI (h := fun g => R (7 + g) * rN D W R g 0) (fun g hg => by rw [rd_m ho hm hs hr (by omega), show x + 7 + g = x + (7 + g) by omega, hs (7 + g) (by omega), pk_mul])]
  rw [tm_nI (sm_lt hG (c := 81) (fun g hg => Nat.mul_le_mul (hr.1 g (by omega)).2.1 (rN_le R g 0)) (by omega)) (sm_lt hG (c := 9) (fun g hg => (hr.1 g (by omega)).2.1) (by omega))]
  rfl
end PV
