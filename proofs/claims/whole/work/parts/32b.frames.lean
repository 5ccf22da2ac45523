/-! frames, a component at a time -/
section FR
variable {G B : Nat} {X Y : zM}
theorem cU_fr {u k : Nat} {Rs : Nat → Nat → Nat} {ns : Nat → Nat} (h : cU G B X u k Rs ns) (f : ∀ c, (c = 34 ∨ (65 ≤ c ∧ c < 305)) → Y c = X c) : cU G B Y u k Rs ns := by
  obtain ⟨h1, h2, h3, h4, h5⟩ := h
  refine ⟨?_, ?_, h3, h4, fun i hi => cS_fr (h5 i hi) (fun c c1 c2 => f c (by omega))⟩
  · rw [f 34 (by omega)]; exact h1
  · rw [f 34 (by omega)]; exact h2
theorem cIm_fr {kb : Nat} {Ri : Nat → Nat → Nat} {si ni : Nat → Nat} (h : cIm G B X kb Ri si ni) (f : ∀ c, (c = 36 ∨ c = 38 ∨ 305 ≤ c) → Y c = X c) : cIm G B Y kb Ri si ni := by
  refine ⟨?_, fun i hi hb => ⟨cS_fr (h.2 i hi hb).1 (fun c c1 c2 => f c (by omega)), ?_⟩⟩
  · rw [f 36 (by omega)]; exact h.1
  · rw [f 38 (by omega)]; exact (h.2 i hi hb).2
theorem cTx_fr {t : Nat} {tx : Nat → Nat} {fa : Int32} (h : cTx X t tx fa) (f1 : Y 1 = X 1) (f2 : Y 2 = X 2) : cTx Y t tx fa := by
  unfold cTx at h ⊢; rw [f1, f2]; exact h
theorem cNb_fr {tn : Nat} {tg tr : Nat → Nat} {en : Nat} {eg et : Nat → Nat} (h : cNb X tn tg tr en eg et) (f : ∀ c, 28 ≤ c → c < 33 → Y c = X c) : cNb Y tn tg tr en eg et := by
  unfold cNb at h ⊢
  rw [f 28 (by omega) (by omega), f 29 (by omega) (by omega), f 30 (by omega) (by omega), f 31 (by omega) (by omega), f 32 (by omega) (by omega)]
  exact h
theorem cTu_fr (h : cTu X) (f : Y 19 = X 19) : cTu Y := by
  unfold cTu at h ⊢; rw [f]; exact h
end FR
section FS
variable {p : pT} {R R1 : Nat → Nat} {uu uu1 : Nat × (Nat → Nat → Nat)} {im im1 : Nat × (Nat → Nat → Nat) × (Nat → Nat)} {sd sd1 : Nat} {tt tt1 : Nat × (Nat → Nat) × Int32} {nb nb1 : Nat × (Nat → Nat) × (Nat → Nat) × Nat × (Nat → Nat) × (Nat → Nat)} {X Y : zM}
/-- the text has changed, no more -/
theorem CI_txt (h : CI (p, R, uu, im, sd, tt, nb) X) (f : ∀ c, c ≠ 1 → c ≠ 2 → Y c = X c) (ht : cTx Y tt1.1 tt1.2.1 tt1.2.2) : CI (p, R, uu, im, sd, tt1, nb) Y := by
  obtain ⟨nx, k, ns, ni, h1, h2, h3, h4, h5, h6, h7, h8⟩ := h
  refine ⟨nx, k, ns, ni, cP_of h1 (f 9 (by omega) (by omega)) (f 10 (by omega) (by omega)) (f 13 (by omega) (by omega)) (f 14 (by omega) (by omega)), cS_fr h2 (fun c _ _ => f c (by omega) (by omega)), cU_fr h3 (fun c _ => f c (by omega) (by omega)), cIm_fr h4 (fun c _ => f c (by omega) (by omega)), ?_, ht, cNb_fr h7 (fun c _ _ => f c (by omega) (by omega)), cTu_fr h8 (f 19 (by omega) (by omega))⟩
  rw [f 0 (by omega) (by omega)]; exact h5
/-- the notebook has changed, no more -/
theorem CI_nb (h : CI (p, R, uu, im, sd, tt, nb) X) (f : ∀ c, (c < 28 ∨ 33 < c) → Y c = X c) (ht : cNb Y nb1.1 nb1.2.1 nb1.2.2.1 nb1.2.2.2.1 nb1.2.2.2.2.1 nb1.2.2.2.2.2) : CI (p, R, uu, im, sd, tt, nb1) Y := by
  obtain ⟨nx, k, ns, ni, h1, h2, h3, h4, h5, h6, h7, h8⟩ := h
  refine ⟨nx, k, ns, ni, cP_of h1 (f 9 (by omega)) (f 10 (by omega)) (f 13 (by omega)) (f 14 (by omega)), cS_fr h2 (fun c _ _ => f c (by omega)), cU_fr h3 (fun c _ => f c (by omega)), cIm_fr h4 (fun c _ => f c (by omega)), ?_, cTx_fr h6 (f 1 (by omega)) (f 2 (by omega)), ht, cTu_fr h8 (f 19 (by omega))⟩
  rw [f 0 (by omega)]; exact h5
/-- the fleet's and the tuner's own rows have changed, no more -/
theorem CI_tun (h : CI (p, R, uu, im, sd, tt, nb) X) (f : ∀ c, (c < 16 ∨ 27 < c) → Y c = X c) (ht : cTu Y) : CI (p, R, uu, im, sd, tt, nb) Y := by
  obtain ⟨nx, k, ns, ni, h1, h2, h3, h4, h5, h6, h7, h8⟩ := h
  refine ⟨nx, k, ns, ni, cP_of h1 (f 9 (by omega)) (f 10 (by omega)) (f 13 (by omega)) (f 14 (by omega)), cS_fr h2 (fun c _ _ => f c (by omega)), cU_fr h3 (fun c _ => f c (by omega)), cIm_fr h4 (fun c _ => f c (by omega)), ?_, cTx_fr h6 (f 1 (by omega)) (f 2 (by omega)), cNb_fr h7 (fun c _ _ => f c (by omega)), ht⟩
  rw [f 0 (by omega)]; exact h5
/-- the part's own rows (its scratch row 33) -/
theorem CI_scr (h : CI (p, R, uu, im, sd, tt, nb) X) (f : ∀ c, c ≠ 33 → Y c = X c) : CI (p, R, uu, im, sd, tt, nb) Y := by
  obtain ⟨nx, k, ns, ni, h1, h2, h3, h4, h5, h6, h7, h8⟩ := h
  refine ⟨nx, k, ns, ni, cP_of h1 (f 9 (by omega)) (f 10 (by omega)) (f 13 (by omega)) (f 14 (by omega)), cS_fr h2 (fun c _ _ => f c (by omega)), cU_fr h3 (fun c _ => f c (by omega)), cIm_fr h4 (fun c _ => f c (by omega)), ?_, cTx_fr h6 (f 1 (by omega)) (f 2 (by omega)), cNb_fr h7 (fun c _ _ => f c (by omega)), cTu_fr h8 (f 19 (by omega))⟩
  rw [f 0 (by omega)]; exact h5
end FS
section FT
variable {D G B C : Nat} {W lim bear : Nat → Nat} {R R1 : Nat → Nat} {u u1 : Nat} {Rs Rs1 : Nat → Nat → Nat} {kb kb1 : Nat} {Ri Ri1 : Nat → Nat → Nat} {si si1 : Nat → Nat} {sd sd1 : Nat} {tt tt1 : Nat × (Nat → Nat) × Int32} {nb nb1 : Nat × (Nat → Nat) × (Nat → Nat) × Nat × (Nat → Nat) × (Nat → Nat)} {X Y : zM}
/-- state, deeds, images, seed -/
theorem CI_sd {nx1 k1 : Nat} {ns1 ni1 : Nat → Nat} (h : CI ((D, G, B, C, W, lim, bear), R, (u, Rs), (kb, Ri, si), sd, tt, nb) X) (f : ∀ c, c ≠ 0 → c ≠ 34 → c ≠ 36 → c ≠ 38 → c < 57 → Y c = X c) (hs : cS G B Y 57 R1 nx1) (hU : cU G B Y u1 k1 Rs1 ns1) (hI : cIm G B Y kb1 Ri1 si1 ni1) (hd : Y 0 10 = nI sd1) : CI ((D, G, B, C, W, lim, bear), R1, (u1, Rs1), (kb1, Ri1, si1), sd1, tt, nb) Y := by
  obtain ⟨nx, k, ns, ni, h1, h2, h3, h4, h5, h6, h7, h8⟩ := h
  exact ⟨nx1, k1, ns1, ni1, cP_of h1 (f 9 (by omega) (by omega) (by omega) (by omega) (by omega)) (f 10 (by omega) (by omega) (by omega) (by omega) (by omega)) (f 13 (by omega) (by omega) (by omega) (by omega) (by omega)) (f 14 (by omega) (by omega) (by omega) (by omega) (by omega)), hs, hU, hI, hd, cTx_fr h6 (f 1 (by omega) (by omega) (by omega) (by omega) (by omega)) (f 2 (by omega) (by omega) (by omega) (by omega) (by omega)), cNb_fr h7 (fun c _ _ => f c (by omega) (by omega) (by omega) (by omega) (by omega)), cTu_fr h8 (f 19 (by omega) (by omega) (by omega) (by omega) (by omega))⟩
/-- the reference: its row w has changed, and the number of what can be undone -/
theorem MI_w {w f : Nat → Int32} (h : MI ((D, G, B, C, W, lim, bear), R, (u, Rs), (kb, Ri, si), sd, tt, nb) X) (hf : ∀ j, j ≠ 22 → f j = X 39 j) (h0 : mW w 0 R1) (hu : f 22 = nI u1) (hU : ∀ i, i < u1 → mW w (368 + 92 * i) (Rs1 i)) (hI : ∀ i, i < 2 → bt kb i = 1 → mW w (184 + 92 * i) (Ri i) ∧ w (184 + 92 * i + 91) = nI (si i)) (hs : w 91 = nI sd1) : MI ((D, G, B, C, W, lim, bear), R1, (u1, Rs1), (kb, Ri, si), sd1, tt, nb) (zst (zst X 40 w) 39 f) := by
  obtain ⟨h1, h2, h3, h4, h5, h6, h7⟩ := h
  obtain ⟨t, tx, fa⟩ := tt
  obtain ⟨tn, tg, tr, en, eg, et⟩ := nb
  refine ⟨⟨?_, ?_, ?_, ?_, h1.2.2.2.2.1, h1.2.2.2.2.2⟩, h0, ⟨hu, hU⟩, ⟨h4.1, hI⟩, hs, ⟨?_, ?_, h6.2.2⟩, ⟨?_, ?_, h7.2.2⟩⟩
  · rw [zst_at, hf _ (by decide)]; exact h1.1
  · rw [zst_at, hf _ (by decide)]; exact h1.2.1
  · rw [zst_at, hf _ (by decide)]; exact h1.2.2.1
  · rw [zst_at, hf _ (by decide)]; exact h1.2.2.2.1
  · rw [zst_at, hf _ (by decide)]; exact h6.1
  · rw [zst_at, hf _ (by decide)]; exact h6.2.1
  · rw [zst_at, hf _ (by decide)]; exact h7.1
  · rw [zst_at, hf _ (by decide)]; exact h7.2.1
/-- the reference: its row w has changed, no more -/
theorem MI_w0 {w : Nat → Int32} (h : MI ((D, G, B, C, W, lim, bear), R, (u, Rs), (kb, Ri, si), sd, tt, nb) X) (h0 : mW w 0 R1) (hU : ∀ i, i < u → mW w (368 + 92 * i) (Rs i)) (hI : ∀ i, i < 2 → bt kb i = 1 → mW w (184 + 92 * i) (Ri i) ∧ w (184 + 92 * i + 91) = nI (si i)) (hs : w 91 = nI sd1) : MI ((D, G, B, C, W, lim, bear), R1, (u, Rs), (kb, Ri, si), sd1, tt, nb) (zst X 40 w) := by
  have := MI_w (w := w) (f := X 39) h (fun _ _ => rfl) h0 h.2.2.1.1 hU hI hs
  rwa [show X 39 = (zst X 40 w) 39 from rfl, zst_self] at this
/-- the tried row (92 .. 183) is nobody's -/
theorem MI_tried {w : Nat → Int32} (h : MI ((D, G, B, C, W, lim, bear), R, (u, Rs), (kb, Ri, si), sd, tt, nb) X) (hw : ∀ j, (j < 92 ∨ 184 ≤ j) → w j = X 40 j) : MI ((D, G, B, C, W, lim, bear), R, (u, Rs), (kb, Ri, si), sd, tt, nb) (zst X 40 w) := by
  refine MI_w0 h (fun i hi => ?_) (fun i hi c hc => ?_) (fun i hi hb => ⟨fun c hc => ?_, ?_⟩) ?_
  · rw [hw _ (by omega)]; exact h.2.1 i hi
  · rw [hw _ (by omega)]; exact h.2.2.1.2 i hi c hc
  · rw [hw _ (by omega)]; exact (h.2.2.2.1.2 i hi hb).1 c hc
  · rw [hw _ (by omega)]; exact (h.2.2.2.1.2 i hi hb).2
  · rw [hw _ (by omega)]; exact h.2.2.2.2.1
end FT
