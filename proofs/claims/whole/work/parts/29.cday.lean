/-! the class: passDay -/
section CF
variable {D G B C : Nat} {W lim bear : Nat → Nat} {X : zM} {R : Nat → Nat} {nx x : Nat} {Q : Option Value → zM → Prop}
theorem zst_self2 (X : zM) (a b : Nat) : zst (zst X a (X a)) b (X b) = X := by
  rw [zst_self, zst_self]
theorem ring_day {nx n i : Nat} (hx : nx < 20) (hn : n ≤ 20) (hl : n < 20 → nx = n) (hi : i < min 20 (n + 1)) : ((nx + 1) % 20 + 20 - min 20 (n + 1) + i) % 20 = if i + 1 = min 20 (n + 1) then nx else if n = 20 then (nx + 20 - n + (i + 1)) % 20 else (nx + 20 - n + i) % 20 := by
  split
  · omega
  · split
    · omega
    · have := hl (by omega)
      omega
theorem ring_ne {nx n i : Nat} (hx : nx < 20) (hn : n ≤ 20) (hl : n < 20 → nx = n) (hi : i < min 20 (n + 1)) (h : ¬ i + 1 = min 20 (n + 1)) : ((nx + 1) % 20 + 20 - min 20 (n + 1) + i) % 20 ≠ nx := by
  by_cases h20 : n = 20
  · omega
  · have := hl (by omega)
    omega
set_option maxHeartbeats 1000000 in
theorem c_passDay (ho : okP D G B C W lim bear) (hc : cP D G B C W lim bear X) (hs : cS G B X 57 R nx) (hr : okR B R) (hQ : ∀ Y, cS G B Y 57 (dayN D G B C W lim bear R) ((nx + 1) % 20) → frC X Y → Q none Y) : zcl 172 [.ref 16] X Q := by
  obtain ⟨⟨s0, s1, s2, s3⟩, ⟨s8, s9, snx, snl⟩, sg, sb, sl⟩ := id hs
  have h29 := hr.2.2.2.2.2.1
  have h30 := hr.2.2.2.2.2.2.1
  have hW := ho.2.2.2.2.1
  have hv : wN D W (R 29 + 1) ≤ 9 := wN_le hW _
  have ht : tN D G W R 0 ≤ 9 := tN_le R 0
  have hcc : ∀ b, b < 5 → R (23 + b) ≤ 900000 := fun b hb => by
    have := hr.2.2.2.1 b hb
    omega
  have hB := ho.2.2.1
  have hG := ho.2.1
  have h32 := two_pow_le hB
  have hol := outN_lt (lim := lim) (R := R) (tN D G W R 0) B
  have hoc := out_cnt (lim := lim) (bear := bear) (R := R) (tN D G W R 0) (wN D W (R 29 + 1)) B hB
  obtain ⟨a1, a2, a3, a4, a5, a6⟩ := boatN_ok (lim := lim) (bear := bear) (t := tN D G W R 0) (v := wN D W (R 29 + 1)) (B := B) hv hB hr.2.1 hr.2.2.1 hcc B (Nat.le_refl B)
  simp (disch := first | omega | assumption) only [e172, s172_0, s172_1, s172_4, s172_5, s172_8, s172_9, s172_10, s172_13, s172_14, s172_17, s172_18, s172_19, s172_22, s172_23, s172_24, s172_28, s172_29, s172_32, s172_35, s172_38, s172_39, s172_41, s172_44, s172_47, s172_48, s172_50, s172_51, s172_54, s172_57, s172_60, s172_61, s172_64, s172_65, s172_66, s172_67, s172_70, s172_73, s172_74, s172_78, s172_79, s172_82, s172_85, s172_88, s172_89, s172_92, s172_95, s172_97, s172_98, s172_101, s172_104, s172_106, s172_107, s172_108, s172_109, s172_110, s172_113, s172_114, s172_117, s172_120, s172_121, s172_124, s172_125, s172_128, s172_131, s172_134, s172_135, s172_138, s172_139, s172_142, s172_143, s172_144, s172_147, Option.toList_some, Option.toList_none, List.cons_append, List.nil_append, nI_add, pk_mul, Nat.reduceAdd, Nat.reduceMul, Nat.add_zero, Nat.zero_add, if_true, if_false, ite_self, cc_telling ho hc hs hr (n := 0) (by omega), cc_weatherAhead ho hc hs hr (n := 1) (by omega), cc_sailing ho hc hs hr]
  have key := pass_loop (X := X) (Q := Q) (R := R) (t := tN D G W R 0) (v := wN D W (R 29 + 1)) (l0 := X 0) ho hc hv ht hr.2.1 hr.2.2.1 hcc (fun f k hf hf2 hk => by
    have f8 : (zst (zst X 57 f) 61 k) 57 8 = nI (R 30) := (hf2 8 (by decide)).trans s8
    have f9 : (zst (zst X 57 f) 61 k) 57 9 = nI nx := (hf2 9 (by decide)).trans s9
    simp (disch := first | omega | assumption) only [e172, s172_0, s172_1, s172_4, s172_5, s172_8, s172_9, s172_10, s172_13, s172_14, s172_17, s172_18, s172_19, s172_22, s172_23, s172_24, s172_28, s172_29, s172_32, s172_35, s172_38, s172_39, s172_41, s172_44, s172_47, s172_48, s172_50, s172_51, s172_54, s172_57, s172_60, s172_61, s172_64, s172_65, s172_66, s172_67, s172_70, s172_73, s172_74, s172_78, s172_79, s172_82, s172_85, s172_88, s172_89, s172_92, s172_95, s172_97, s172_98, s172_101, s172_104, s172_106, s172_107, s172_108, s172_109, s172_110, s172_113, s172_114, s172_117, s172_120, s172_121, s172_124, s172_125, s172_128, s172_131, s172_134, s172_135, s172_138, s172_139, s172_142, s172_143, s172_144, s172_147, Option.toList_some, Option.toList_none, List.cons_append, List.nil_append, nI_add, pk_mul, Nat.reduceAdd, Nat.reduceMul, Nat.add_zero, Nat.zero_add, if_true, if_false, ite_self, c_bitCount, hoc, c_addToLog f8 f9 h30 snx]
    generalize hY : zst (zst (zst (zst (zst (zst X 57 f) 61 k) 62 _) 63 _) 64 _) 57 _ = Y
    have y60 : Y 60 = X 60 := by rw [← hY]; rfl
    have hcY : cP D G B C W lim bear Y := cP_of hc (by rw [← hY]; rfl) (by rw [← hY]; rfl) (by rw [← hY]; rfl) (by rw [← hY]; rfl)
    have hCe := hcY.2.2.2.1
    rw [← zst_self Y 60, y60]
    refine gladp_loop (R := R) (Y := Y) ho hcY (fun g hg => (hr.1 g hg).2.2) (fun h hh => ?_) G 0 (X 60) (by omega) (fun j hj => absurd hj (by omega)) (fun j _ hj => (sg j hj).2.2)
    have y57 : Y 57 0 = nI (R 29) := by
      rw [← hY]
      exact (hf2 0 (by decide)).trans s0
    simp (disch := first | omega | assumption) only [e172, s172_0, s172_1, s172_4, s172_5, s172_8, s172_9, s172_10, s172_13, s172_14, s172_17, s172_18, s172_19, s172_22, s172_23, s172_24, s172_28, s172_29, s172_32, s172_35, s172_38, s172_39, s172_41, s172_44, s172_47, s172_48, s172_50, s172_51, s172_54, s172_57, s172_60, s172_61, s172_64, s172_65, s172_66, s172_67, s172_70, s172_73, s172_74, s172_78, s172_79, s172_82, s172_85, s172_88, s172_89, s172_92, s172_95, s172_97, s172_98, s172_101, s172_104, s172_106, s172_107, s172_108, s172_109, s172_110, s172_113, s172_114, s172_117, s172_120, s172_121, s172_124, s172_125, s172_128, s172_131, s172_134, s172_135, s172_138, s172_139, s172_142, s172_143, s172_144, s172_147, Option.toList_some, Option.toList_none, List.cons_append, List.nil_append, nI_add, pk_mul, Nat.reduceAdd, Nat.reduceMul, Nat.add_zero, Nat.zero_add, if_true, if_false, ite_self, zst_zst, zst_ne, hCe, zst_at, upd_ne, y57]
    refine hQ _ ⟨⟨?_, ?_, ?_, ?_⟩, ⟨?_, ?_, Nat.mod_lt _ (by decide), ?_⟩, fun g hg => ⟨?_, ?_, ?_⟩, fun b hb => ?_, fun i hi => ?_⟩ (fun i hi => ?_)
    · rw [zst_at, upd_at, dayN_29]
    · rw [zst_at, upd_ne _ _ (by decide), upd_at, dayN_28]
    · rw [zst_at, upd_ne _ _ (by decide), upd_ne _ _ (by decide), dayN_lo hB hr hG hW (by omega), ← hf, ← hY]
      rfl
    · rw [zst_at, upd_ne _ _ (by decide), upd_ne _ _ (by decide), dayN_lo hB hr hG hW (by omega), a2, ← s3, ← hf2 3 (by decide), ← hY]
      rfl
    · rw [zst_at, upd_ne _ _ (by decide), upd_ne _ _ (by decide), dayN_log hG (by omega), logN_30 (by rw [a5 30 (by omega)]; exact h30), a5 30 (by omega), ← hY]
      rfl
    · rw [zst_at, upd_ne _ _ (by decide), upd_ne _ _ (by decide), ← hY]
      rfl
    · intro hq
      rw [dayN_log hG (by omega), logN_30 (by rw [a5 30 (by omega)]; exact h30), a5 30 (by omega)] at hq ⊢
      have := snl (by omega)
      omega
    · rw [dayN_lo hB hr hG hW (by omega), a5 g (by omega), ← (sg g hg).1, ← hY]
      rfl
    · rw [dayN_lo hB hr hG hW (by omega), a5 (7 + g) (by omega), ← (sg g hg).2.1, ← hY]
      rfl
    · rw [dayN_gl hB hr hG hW hg, ← hh g hg]
      rfl
    · rw [dayN_lo hB hr hG hW (by omega), ← hk b hb, ← hY]
      rfl
    · have hL := logN_30 (R := boatN lim bear (tN D G W R 0) (wN D W (R 29 + 1)) R B) (t := tN D G W R 0) (v := wN D W (R 29 + 1)) (s := cntN lim bear (tN D G W R 0) (wN D W (R 29 + 1)) R B) (by rw [a5 30 (by omega)]; exact h30)
      rw [a5 30 (by omega)] at hL
      rw [dayN_log hG (by omega), hL] at hi ⊢
      have hA := fun c hc => logN_at (R := boatN lim bear (tN D G W R 0) (wN D W (R 29 + 1)) R B) (t := tN D G W R 0) (v := wN D W (R 29 + 1)) (s := cntN lim bear (tN D G W R 0) (wN D W (R 29 + 1)) R B) (i := i) (c := c) (by rw [a5 30 (by omega)]; exact h30) hc (by rw [a5 30 (by omega)]; exact hi)
      simp only [a5 30 (by omega)] at hA
      have hA0 := hA 0 (by decide)
      have hA1 := hA 1 (by decide)
      have hA2 := hA 2 (by decide)
      rw [dayN_log hG (by omega), dayN_log hG (by omega), dayN_log hG (by omega)]
      simp only [Nat.add_zero] at hA0
      rw [hA0, hA1, hA2]
      by_cases hl : i + 1 = min 20 (R 30 + 1)
      · rw [ring_day snx h30 snl hi, if_pos hl, if_pos hl, if_pos hl, if_pos hl]
        refine ⟨?_, ?_, ?_⟩
        · rw [← hY]; exact upd_at _ _ _
        · rw [← hY]; exact upd_at _ _ _
        · rw [← hY]; exact upd_at _ _ _
      · have hne := ring_ne snx h30 snl hi hl
        have hrd := ring_day snx h30 snl hi
        rw [if_neg hl] at hrd
        rw [if_neg hl, if_neg hl, if_neg hl]
        have hbase : (X 62 (((nx + 1) % 20 + 20 - min 20 (R 30 + 1) + i) % 20) = nI (if R 30 = 20 then R (31 + 3 * (i + 1)) else R (31 + 3 * i))) ∧ (X 63 (((nx + 1) % 20 + 20 - min 20 (R 30 + 1) + i) % 20) = nI (if R 30 = 20 then R (31 + 3 * (i + 1) + 1) else R (31 + 3 * i + 1))) ∧ (X 64 (((nx + 1) % 20 + 20 - min 20 (R 30 + 1) + i) % 20) = nI (if R 30 = 20 then R (31 + 3 * (i + 1) + 2) else R (31 + 3 * i + 2))) := by
          rw [hrd]
          by_cases h20 : R 30 = 20
          · simp only [if_pos h20]
            exact sl (i + 1) (by omega)
          · simp only [if_neg h20]
            exact sl i (by omega)
        obtain ⟨b1, b2, b3⟩ := hbase
        refine ⟨?_, ?_, ?_⟩
        · rw [← hY]
          refine (upd_ne _ _ hne).trans (b1.trans ?_)
          split <;> rw [a5 _ (by omega)]
        · rw [← hY]
          refine (upd_ne _ _ hne).trans (b2.trans ?_)
          split <;> rw [a5 _ (by omega)]
        · rw [← hY]
          refine (upd_ne _ _ hne).trans (b3.trans ?_)
          split <;> rw [a5 _ (by omega)]
    · rw [zst_ne _ _ (by omega), zst_ne _ _ (by omega), ← hY, zst_ne _ _ (by omega), zst_ne _ _ (by omega), zst_ne _ _ (by omega), zst_ne _ _ (by omega), zst_ne _ _ (by omega), zst_ne _ _ (by omega)]) B 0 (X 57) (X 61) (by omega) s2 (fun _ _ => rfl) (fun j hj => sb j hj)
  rw [zst_self2] at key
  exact key
end CF
