/-! deeds: what is remembered, one number of the row changed -/
section DE
variable {D G B C : Nat} {W lim bear : Nat → Nat} {R R1 : Nat → Nat} {u : Nat} {Rs : Nat → Nat → Nat} {kb : Nat} {Ri : Nat → Nat → Nat} {si : Nat → Nat} {sd : Nat} {tt : Nat × (Nat → Nat) × Int32} {nb : Nat × (Nat → Nat) × (Nat → Nat) × Nat × (Nat → Nat) × (Nat → Nat)} {X : zM} {Q : Option Value → zM → Prop} {nx : Nat}
theorem CI_rem (hG : G ≤ 7) (hB : B ≤ 5) (h : CI ((D, G, B, C, W, lim, bear), R, (u, Rs), (kb, Ri, si), sd, tt, nb) X) (hQ : ∀ Y, CI ((D, G, B, C, W, lim, bear), R, (min 30 (u + 1), psh u Rs R), (kb, Ri, si), sd, tt, nb) Y → frM X Y → Q none Y) : zcl 59 [.ref 34, .ref 57] X Q := by
  obtain ⟨nx, k, ns, ni, h1, h2, h3, h4, h5, h6, h7, h8⟩ := id h
  refine c_rememberC hG hB h2 h3 (fun Y hY hU => hQ Y (CI_sd h (fun c c0 c34 c36 c38 c57 => hY c c34 (by omega)) (cS_fr h2 (fun c c1 c2 => hY c (by omega) (by omega))) hU (cIm_fr h4 (fun c hc => hY c (by omega) (by omega))) (by rw [hY 0 (by omega) (by omega)]; exact h5)) (fun c c1 c2 => hY c (by omega) (by omega)))
theorem MI_rem (hu : u ≤ 30) (h : MI ((D, G, B, C, W, lim, bear), R, (u, Rs), (kb, Ri, si), sd, tt, nb) X) (hQ : ∀ Y, MI ((D, G, B, C, W, lim, bear), R, (min 30 (u + 1), psh u Rs R), (kb, Ri, si), sd, tt, nb) Y → frK X Y → Q none Y) : zcl 100 [.ref 39] X Q := by
  obtain ⟨h1, h2, h3, h4, h5, h6, h7⟩ := id h
  refine c_rememberM h3.1 hu (fun w f f22 ff w0 wr => hQ _ (MI_w h ff (fun i hi => ?_) f22 (fun i hi c hc => ?_) (fun i hi hb => ⟨fun c hc => ?_, ?_⟩) ?_) (fun c hc => by rw [zst_ne _ _ (by omega), zst_ne _ _ (by omega)]))
  · rw [w0 _ (by omega)]; exact h2 i hi
  · rw [wr i hi c (by omega)]
    unfold psh
    split
    · have := h2 c hc
      rwa [Nat.zero_add] at this
    · split
      · exact h3.2 (i + 1) (by omega) c hc
      · exact h3.2 i (by omega) c hc
  · rw [w0 _ (by omega)]; exact (h4.2 i hi hb).1 c hc
  · rw [w0 _ (by omega)]; exact (h4.2 i hi hb).2
  · rw [w0 _ (by omega)]; exact h5
theorem okS_psh (hu : u ≤ 30) (hR : okS B R) (h : ∀ i, i < u → okS B (Rs i)) : min 30 (u + 1) ≤ 30 ∧ ∀ i, i < min 30 (u + 1) → okS B (psh u Rs R i) := by
  refine ⟨by omega, fun i hi => ?_⟩
  unfold psh
  split
  · exact hR
  · split
    · exact h (i + 1) (by omega)
    · exact h i (by omega)
/-- the state's own cells have changed -/
theorem CI_R {Y : zM} (h : CI ((D, G, B, C, W, lim, bear), R, (u, Rs), (kb, Ri, si), sd, tt, nb) X) (f : frC X Y) (hs : cS G B Y 57 R1 nx) : CI ((D, G, B, C, W, lim, bear), R1, (u, Rs), (kb, Ri, si), sd, tt, nb) Y := by
  obtain ⟨nx0, k, ns, ni, h1, h2, h3, h4, h5, h6, h7, h8⟩ := id h
  exact CI_sd h (fun c _ _ _ _ c57 => f c (by omega)) hs (cU_fr h3 (fun c hc => f c (by omega))) (cIm_fr h4 (fun c hc => f c (by omega))) (by rw [f 0 (by omega)]; exact h5)
theorem MI_R {w : Nat → Int32} (h : MI ((D, G, B, C, W, lim, bear), R, (u, Rs), (kb, Ri, si), sd, tt, nb) X) (hw : mW w 0 R1) (hf : frW (X 40) w 0) : MI ((D, G, B, C, W, lim, bear), R1, (u, Rs), (kb, Ri, si), sd, tt, nb) (zst X 40 w) := by
  refine MI_w0 h hw (fun i hi c hc => ?_) (fun i hi hb => ⟨fun c hc => ?_, ?_⟩) ?_
  · rw [hf _ (by omega)]; exact h.2.2.1.2 i hi c hc
  · rw [hf _ (by omega)]; exact (h.2.2.2.1.2 i hi hb).1 c hc
  · rw [hf _ (by omega)]; exact (h.2.2.2.1.2 i hi hb).2
  · rw [hf _ (by omega)]; exact h.2.2.2.2.1
theorem cS_t {g v : Nat} (h : cS G B X 57 R nx) (hG : G ≤ 7) (hg : g < G) : cS G B (zst X 58 (upd (X 58) g (nI v))) 57 (upN R g v) nx := by
  obtain ⟨⟨s0, s1, s2, s3⟩, ⟨s8, s9, snx, snl⟩, sg, sb, sl⟩ := h
  refine ⟨⟨?_, ?_, ?_, ?_⟩, ⟨?_, ?_, snx, ?_⟩, fun j hj => ⟨?_, ?_, ?_⟩, fun b hb => ?_, fun i hi => ?_⟩
  any_goals (simp (disch := omega) only [zst_ne, upN_ne]; assumption)
  · by_cases hjg : j = g
    · subst hjg
      rw [zst_at, upd_at, upN_at]
    · rw [zst_at, upd_ne _ _ hjg, upN_ne _ _ hjg]; exact (sg j hj).1
  · simp (disch := omega) only [zst_ne, upN_ne]; exact (sg j hj).2.1
  · simp (disch := omega) only [zst_ne, upN_ne]; exact (sg j hj).2.2
  · simp (disch := omega) only [zst_ne, upN_ne]; exact sb b hb
  · simp (disch := omega) only [zst_ne, upN_ne] at hi ⊢; exact sl i hi
theorem cS_w {g v : Nat} (h : cS G B X 57 R nx) (hG : G ≤ 7) (hg : g < G) : cS G B (zst X 59 (upd (X 59) g (nI v))) 57 (upN R (7 + g) v) nx := by
  obtain ⟨⟨s0, s1, s2, s3⟩, ⟨s8, s9, snx, snl⟩, sg, sb, sl⟩ := h
  refine ⟨⟨?_, ?_, ?_, ?_⟩, ⟨?_, ?_, snx, ?_⟩, fun j hj => ⟨?_, ?_, ?_⟩, fun b hb => ?_, fun i hi => ?_⟩
  any_goals (simp (disch := omega) only [zst_ne, upN_ne]; assumption)
  · simp (disch := omega) only [zst_ne, upN_ne]; exact (sg j hj).1
  · by_cases hjg : j = g
    · subst hjg
      rw [zst_at, upd_at, upN_at]
    · rw [zst_at, upd_ne _ _ hjg, upN_ne _ _ (by omega)]; exact (sg j hj).2.1
  · simp (disch := omega) only [zst_ne, upN_ne]; exact (sg j hj).2.2
  · simp (disch := omega) only [zst_ne, upN_ne]; exact sb b hb
  · simp (disch := omega) only [zst_ne, upN_ne] at hi ⊢; exact sl i hi
theorem cS_g {g v : Nat} (h : cS G B X 57 R nx) (hG : G ≤ 7) (hg : g < G) : cS G B (zst X 60 (upd (X 60) g (nI v))) 57 (upN R (14 + g) v) nx := by
  obtain ⟨⟨s0, s1, s2, s3⟩, ⟨s8, s9, snx, snl⟩, sg, sb, sl⟩ := h
  refine ⟨⟨?_, ?_, ?_, ?_⟩, ⟨?_, ?_, snx, ?_⟩, fun j hj => ⟨?_, ?_, ?_⟩, fun b hb => ?_, fun i hi => ?_⟩
  any_goals (simp (disch := omega) only [zst_ne, upN_ne]; assumption)
  · simp (disch := omega) only [zst_ne, upN_ne]; exact (sg j hj).1
  · simp (disch := omega) only [zst_ne, upN_ne]; exact (sg j hj).2.1
  · by_cases hjg : j = g
    · subst hjg
      rw [zst_at, upd_at, upN_at]
    · rw [zst_at, upd_ne _ _ hjg, upN_ne _ _ (by omega)]; exact (sg j hj).2.2
  · simp (disch := omega) only [zst_ne, upN_ne]; exact sb b hb
  · simp (disch := omega) only [zst_ne, upN_ne] at hi ⊢; exact sl i hi
theorem cS_f {k r v : Nat} (h : cS G B X 57 R nx) (hG : G ≤ 7) (hB : B ≤ 5) (hk : (k = 1 ∧ r = 28) ∨ (k = 2 ∧ r = 21) ∨ (k = 3 ∧ r = 22)) : cS G B (zst X 57 (upd (X 57) k (nI v))) 57 (upN R r v) nx := by
  obtain ⟨⟨s0, s1, s2, s3⟩, ⟨s8, s9, snx, snl⟩, sg, sb, sl⟩ := h
  refine ⟨⟨?_, ?_, ?_, ?_⟩, ⟨?_, ?_, snx, ?_⟩, fun j hj => ⟨?_, ?_, ?_⟩, fun b hb => ?_, fun i hi => ?_⟩
  · simp (disch := omega) only [zst_at, upd_ne, upN_ne]; exact s0
  · by_cases h1 : k = 1
    · have : r = 28 := by omega
      subst h1; subst this
      rw [zst_at, upd_at, upN_at]
    · simp (disch := omega) only [zst_at, upd_ne, upN_ne]; exact s1
  · by_cases h1 : k = 2
    · have : r = 21 := by omega
      subst h1; subst this
      rw [zst_at, upd_at, upN_at]
    · simp (disch := omega) only [zst_at, upd_ne, upN_ne]; exact s2
  · by_cases h1 : k = 3
    · have : r = 22 := by omega
      subst h1; subst this
      rw [zst_at, upd_at, upN_at]
    · simp (disch := omega) only [zst_at, upd_ne, upN_ne]; exact s3
  · simp (disch := omega) only [zst_at, upd_ne, upN_ne]; exact s8
  · simp (disch := omega) only [zst_at, upd_ne, upN_ne]; exact s9
  · simp (disch := omega) only [upN_ne]; exact snl
  · simp (disch := omega) only [zst_ne, upN_ne]; exact (sg j hj).1
  · simp (disch := omega) only [zst_ne, upN_ne]; exact (sg j hj).2.1
  · simp (disch := omega) only [zst_ne, upN_ne]; exact (sg j hj).2.2
  · simp (disch := omega) only [zst_ne, upN_ne]; exact sb b hb
  · simp (disch := omega) only [zst_ne, upN_ne] at hi ⊢; exact sl i hi
theorem frC_57 (X : zM) (i : Nat) (f : Nat → Int32) (h : 57 ≤ i) (h2 : i ≤ 64) : frC X (zst X i f) := fun c hc => zst_ne _ _ (by omega)
theorem okR_t {g v : Nat} (h : okR B R) (hg : g < 7) (hv : v ≤ 10) : okR B (upN R g v) := by
  obtain ⟨h1, h2, h3, h4, h5, h6, h7, h8⟩ := h
  refine ⟨fun j hj => ⟨?_, ?_, ?_⟩, ?_, ?_, fun b hb => ?_, ?_, ?_, ?_, fun i hi => ?_⟩
  · by_cases hjg : j = g
    · subst hjg; rw [upN_at]; exact hv
    · rw [upN_ne _ _ hjg]; exact (h1 j hj).1
  all_goals simp (disch := omega) only [upN_ne]
  · exact (h1 j hj).2.1
  · exact (h1 j hj).2.2
  · exact h2
  · exact h3
  · exact h4 b hb
  · exact h5
  · exact h6
  · exact h7
  · exact h8 i hi
theorem okR_w {g v : Nat} (h : okR B R) (hg : g < 7) (hv : v ≤ 9) : okR B (upN R (7 + g) v) := by
  obtain ⟨h1, h2, h3, h4, h5, h6, h7, h8⟩ := h
  refine ⟨fun j hj => ⟨?_, ?_, ?_⟩, ?_, ?_, fun b hb => ?_, ?_, ?_, ?_, fun i hi => ?_⟩
  · rw [upN_ne _ _ (by omega)]; exact (h1 j hj).1
  · by_cases hjg : j = g
    · subst hjg; rw [upN_at]; exact hv
    · rw [upN_ne _ _ (by omega)]; exact (h1 j hj).2.1
  all_goals simp (disch := omega) only [upN_ne]
  · exact (h1 j hj).2.2
  · exact h2
  · exact h3
  · exact h4 b hb
  · exact h5
  · exact h6
  · exact h7
  · exact h8 i hi
theorem okR_g {g v : Nat} (h : okR B R) (hg : g < 7) (hv : v ≤ 60) : okR B (upN R (14 + g) v) := by
  obtain ⟨h1, h2, h3, h4, h5, h6, h7, h8⟩ := h
  refine ⟨fun j hj => ⟨?_, ?_, ?_⟩, ?_, ?_, fun b hb => ?_, ?_, ?_, ?_, fun i hi => ?_⟩
  · rw [upN_ne _ _ (by omega)]; exact (h1 j hj).1
  · rw [upN_ne _ _ (by omega)]; exact (h1 j hj).2.1
  · by_cases hjg : j = g
    · subst hjg; rw [upN_at]; exact hv
    · rw [upN_ne _ _ (by omega)]; exact (h1 j hj).2.2
  all_goals simp (disch := omega) only [upN_ne]
  · exact h2
  · exact h3
  · exact h4 b hb
  · exact h5
  · exact h6
  · exact h7
  · exact h8 i hi
theorem okR_f {r v : Nat} (h : okR B R) (hr : (r = 28 ∧ v ≤ 20) ∨ (r = 21 ∧ v < 2 ^ B) ∨ (r = 22 ∧ v < 2 ^ B)) : okR B (upN R r v) := by
  obtain ⟨h1, h2, h3, h4, h5, h6, h7, h8⟩ := h
  refine ⟨fun j hj => ⟨?_, ?_, ?_⟩, ?_, ?_, fun b hb => ?_, ?_, ?_, ?_, fun i hi => ?_⟩
  · rw [upN_ne _ _ (by omega)]; exact (h1 j hj).1
  · rw [upN_ne _ _ (by omega)]; exact (h1 j hj).2.1
  · rw [upN_ne _ _ (by omega)]; exact (h1 j hj).2.2
  · by_cases hq : r = 21
    · subst hq; rw [upN_at]; omega
    · rw [upN_ne _ _ (by omega)]; exact h2
  · by_cases hq : r = 22
    · subst hq; rw [upN_at]; omega
    · rw [upN_ne _ _ (by omega)]; exact h3
  · rw [upN_ne _ _ (by omega), upN_ne _ _ (by omega)]; exact h4 b hb
  · by_cases hq : r = 28
    · subst hq; rw [upN_at]; omega
    · rw [upN_ne _ _ (by omega)]; exact h5
  · rw [upN_ne _ _ (by omega)]; exact h6
  · rw [upN_ne _ _ (by omega)]; exact h7
  · simp (disch := omega) only [upN_ne]; exact h8 i hi
end DE
