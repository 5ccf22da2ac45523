/-! bestLimit -/
section MS
variable {a : aT} {X Y : zM}
/-- the reference's own rows 48 .. 52 are nobody's -/
theorem MI_scr (h : MI a X) (f : ∀ c, 39 ≤ c → c < 57 → (c < 48 ∨ 52 < c) → Y c = X c) : MI a Y := by
  obtain ⟨⟨D, G, B, C, W, lim, bear⟩, R, ⟨u, Rs⟩, ⟨kb, Ri, si⟩, sd, ⟨t, tx, fa⟩, ⟨tn, tg, tr, en, eg, et⟩⟩ := a
  simp only [MI, mP, mU, mIm, mTx, mNb] at h ⊢
  rw [f 39 (by decide) (by decide) (by decide), f 40 (by decide) (by decide) (by decide), f 41 (by decide) (by decide) (by decide), f 42 (by decide) (by decide) (by decide), f 45 (by decide) (by decide) (by decide), f 46 (by decide) (by decide) (by decide), f 47 (by decide) (by decide) (by decide), f 53 (by decide) (by decide) (by decide), f 54 (by decide) (by decide) (by decide), f 55 (by decide) (by decide) (by decide), f 56 (by decide) (by decide) (by decide)]
  exact h
end MS
/-- the best of the first L + 1, and how good -/
def bf (f : Nat → Int32) : Nat → Int32 × Int32
  | 0 => (nI 0, f 0)
  | L + 1 => if (bf f L).2 < f (L + 1) then (nI (L + 1), f (L + 1)) else bf f L
def woI (t w : Nat → Nat) (L be n : Nat) : Int32 := nI (hlN t w L (sB t w L be n)) - (if sB t w L be n < n then nI 20 else nI 0)
section BL
variable {D G B C : Nat} {W lim bear : Nat → Nat} {X : zM} {R : Nat → Nat} {nx x : Nat} {Q : Option Value → zM → Prop}
/-- looked ahead, and the best limit so far -/
def liC (D G : Nat) (W R : Nat → Nat) (X Y : zM) : Prop := (∀ c, c ≠ 16 → c ≠ 17 → c ≠ 18 → Y c = X c) ∧ ∀ k, k < 14 → Y 17 k = nI (tN D G W R k) ∧ Y 18 k = nI (wA D W R k)
theorem liC_la {Y : zM} (h : liC D G W R X Y) : laC D G W R 14 (zst X 16 (Y 16)) Y := ⟨fun c c1 c2 => by
    by_cases c3 : c = 16
    · rw [c3, zst_at]
    · rw [zst_ne _ _ c3]; exact h.1 c c3 c1 c2, h.2⟩
theorem limC_loop {b : Nat} (ho : okP D G B C W lim bear) (hc : cP D G B C W lim bear X) (hs : cS G B X 57 R nx) (hr : okR B R) (hb : b < B) (hQ : ∀ Y, liC D G W R X Y → Y 16 5 = (bf (fun L => woI (tN D G W R) (wA D W R) L (bear b) 14) 9).1 → Y 16 6 = (bf (fun L => woI (tN D G W R) (wA D W R) L (bear b) 14) 9).2 → Q none Y) : ∀ (n L : Nat) (Y : zM) (l3 l4 : Value), L + n = 10 → liC D G W R X Y → (0 < L → Y 16 5 = (bf (fun L => woI (tN D G W R) (wA D W R) L (bear b) 14) (L - 1)).1 ∧ Y 16 6 = (bf (fun L => woI (tN D G W R) (wA D W R) L (bear b) 14) (L - 1)).2) → zev 175 8 [.ref 16, .int (nI b), .int (nI L), l3, l4] [] Y Q := by
  intro n
  induction n with
  | zero =>
    intro L Y l3 l4 hL hY h5
    have q : L = 10 := by omega
    subst q
    obtain ⟨a1, a2⟩ := h5 (by omega)
    rw [s175_8]
    simp (disch := first | omega | assumption | decide) only [e175, s175_0, s175_1, s175_3, s175_6, s175_7, s175_9, s175_11, s175_14, s175_15, s175_16, s175_17, s175_19, s175_22, s175_23, s175_24, s175_25, s175_26, s175_27, s175_30, s175_31, s175_33, s175_36, s175_38, s175_41, s175_42, s175_43, s175_45, s175_46, s175_49, s175_51, s175_52, s175_55, s175_58, s175_59, s175_60, s175_63, s175_64, s175_66, s175_69, s175_72, s175_75, Option.toList_some, Option.toList_none, List.cons_append, List.nil_append, if_true, if_false, eq_self, n1n0, ne10, nI_ltI, show 9 < 10 by omega]
    exact hQ Y hY a1 a2
  | succ n ih =>
    intro L Y l3 l4 hL hY h5
    have hlt : ¬ 9 < L := by omega
    have p1 : cP D G B C W lim bear Y := cP_of hc (hY.1 9 (by omega) (by omega) (by omega)) (hY.1 10 (by omega) (by omega) (by omega)) (hY.1 13 (by omega) (by omega) (by omega)) (hY.1 14 (by omega) (by omega) (by omega))
    have p2 : cS G B Y 57 R nx := cS_fr hs (fun c _ _ => hY.1 c (by omega) (by omega) (by omega))
    have hla := liC_la hY
    have hsf := fun Q => cc_safe (X := zst X 16 (Y 16)) (Y := Y) (Q := Q) (b := b) (L := L) (m := 14) ho p1 hla hb (by omega) (by omega)
    have hhl := fun Q => cc_haul (X := zst X 16 (Y 16)) (Y := Y) (Q := Q) (b := b) (L := L) (m := 14) (m2 := sB (tN D G W R) (wA D W R) L (bear b) 14) ho p2 hr hla hb (by omega) (by omega) (sB_le 14)
    have hsl := sB_le (t := tN D G W R) (w := wA D W R) (L := L) (be := bear b) 14
    have hwo : woI (tN D G W R) (wA D W R) L (bear b) 14 = nI (hlN (tN D G W R) (wA D W R) L (sB (tN D G W R) (wA D W R) L (bear b) 14)) - (if sB (tN D G W R) (wA D W R) L (bear b) 14 < 14 then nI 20 else nI 0) := rfl
    have set : ∀ v : Int32, v = woI (tN D G W R) (wA D W R) L (bear b) 14 → (bf (fun L => woI (tN D G W R) (wA D W R) L (bear b) 14) L) = (nI L, v) → ∀ l3 l4, zev 175 8 [.ref 16, .int (nI b), .int (nI (L + 1)), l3, l4] [] (zst (zst Y 16 (upd (Y 16) 5 (nI L))) 16 (upd ((zst Y 16 (upd (Y 16) 5 (nI L))) 16) 6 v)) Q := by
      intro v hv hbf l3 l4
      rw [zst_at, zst_zst]
      refine ih (L + 1) _ _ _ (by omega) ⟨fun c c1 c2 c3 => by rw [zst_ne _ _ c1]; exact hY.1 c c1 c2 c3, fun k hk => by rw [zst_ne _ _ (by omega), zst_ne _ _ (by omega)]; exact hY.2 k hk⟩ (fun _ => ?_)
      rw [show L + 1 - 1 = L by omega, hbf, zst_at, upd_ne _ _ (by omega), upd_at, upd_at]
      exact ⟨rfl, rfl⟩
    have stay : (bf (fun L => woI (tN D G W R) (wA D W R) L (bear b) 14) L) = (bf (fun L => woI (tN D G W R) (wA D W R) L (bear b) 14) (L - 1)) → 0 < L → ∀ l3 l4, zev 175 8 [.ref 16, .int (nI b), .int (nI (L + 1)), l3, l4] [] Y Q := by
      intro hbf h0 l3 l4
      refine ih (L + 1) Y _ _ (by omega) hY (fun _ => ?_)
      rw [show L + 1 - 1 = L by omega, hbf]
      exact h5 h0
    rw [s175_8]
    generalize hv : woI (tN D G W R) (wA D W R) L (bear b) 14 = v at hwo set
    have mid : ∀ v2, v2 = v → ∀ l3, zev 175 43 [.ref 16, .int (nI b), .int (nI L), l3, l4] [.int v2] Y Q := by
      intro v2 hv2 l3
      rw [hv2]
      by_cases c0 : L = 0
      · have hbf : bf (fun L => woI (tN D G W R) (wA D W R) L (bear b) 14) L = (nI L, v) := by
          rw [← hv, c0]; rfl
        have k := set v rfl hbf
        simp (disch := first | omega | assumption | decide) only [e175, s175_0, s175_1, s175_3, s175_6, s175_7, s175_9, s175_11, s175_14, s175_15, s175_16, s175_17, s175_19, s175_22, s175_23, s175_24, s175_25, s175_26, s175_27, s175_30, s175_31, s175_33, s175_36, s175_38, s175_41, s175_42, s175_43, s175_45, s175_46, s175_49, s175_51, s175_52, s175_55, s175_58, s175_59, s175_60, s175_63, s175_64, s175_66, s175_69, s175_72, s175_75, Option.toList_some, Option.toList_none, List.cons_append, List.nil_append, if_true, if_false, eq_self, n1n0, ne10, nI_eq, c0]
        rw [c0] at k
        exact k _ _
      · have q : L = (L - 1) + 1 := by omega
        obtain ⟨a1, a2⟩ := h5 (by omega)
        by_cases c1 : (bf (fun L => woI (tN D G W R) (wA D W R) L (bear b) 14) (L - 1)).2 < v
        · have hbf : bf (fun L => woI (tN D G W R) (wA D W R) L (bear b) 14) L = (nI L, v) := by
            rw [← hv, q]
            exact if_pos (by rw [← q]; rw [← hv] at c1; exact c1)
          have k := set v rfl hbf
          simp (disch := first | omega | assumption | decide) only [e175, s175_0, s175_1, s175_3, s175_6, s175_7, s175_9, s175_11, s175_14, s175_15, s175_16, s175_17, s175_19, s175_22, s175_23, s175_24, s175_25, s175_26, s175_27, s175_30, s175_31, s175_33, s175_36, s175_38, s175_41, s175_42, s175_43, s175_45, s175_46, s175_49, s175_51, s175_52, s175_55, s175_58, s175_59, s175_60, s175_63, s175_64, s175_66, s175_69, s175_72, s175_75, Option.toList_some, Option.toList_none, List.cons_append, List.nil_append, if_true, if_false, eq_self, n1n0, ne10, nI_eq, c0, a2, c1, nI_add]
          exact k _ _
        · have hbf : bf (fun L => woI (tN D G W R) (wA D W R) L (bear b) 14) L = bf (fun L => woI (tN D G W R) (wA D W R) L (bear b) 14) (L - 1) := by
            rw [q]
            exact if_neg (by rw [← q]; rw [← hv] at c1; exact c1)
          have k := stay hbf (by omega)
          simp (disch := first | omega | assumption | decide) only [e175, s175_0, s175_1, s175_3, s175_6, s175_7, s175_9, s175_11, s175_14, s175_15, s175_16, s175_17, s175_19, s175_22, s175_23, s175_24, s175_25, s175_26, s175_27, s175_30, s175_31, s175_33, s175_36, s175_38, s175_41, s175_42, s175_43, s175_45, s175_46, s175_49, s175_51, s175_52, s175_55, s175_58, s175_59, s175_60, s175_63, s175_64, s175_66, s175_69, s175_72, s175_75, Option.toList_some, Option.toList_none, List.cons_append, List.nil_append, if_true, if_false, eq_self, n1n0, ne10, nI_eq, c0, a2, c1, nI_add]
          exact k _ _
    by_cases c : sB (tN D G W R) (wA D W R) L (bear b) 14 < 14
    · rw [if_pos c] at hwo
      have k := mid _ hwo.symm (.int (nI (sB (tN D G W R) (wA D W R) L (bear b) 14)))
      simp (disch := first | omega | assumption | decide) only [e175, s175_0, s175_1, s175_3, s175_6, s175_7, s175_9, s175_11, s175_14, s175_15, s175_16, s175_17, s175_19, s175_22, s175_23, s175_24, s175_25, s175_26, s175_27, s175_30, s175_31, s175_33, s175_36, s175_38, s175_41, s175_42, s175_43, s175_45, s175_46, s175_49, s175_51, s175_52, s175_55, s175_58, s175_59, s175_60, s175_63, s175_64, s175_66, s175_69, s175_72, s175_75, Option.toList_some, Option.toList_none, List.cons_append, List.nil_append, if_true, if_false, eq_self, n1n0, ne10] at k
      simp (disch := first | omega | assumption | decide) only [e175, s175_0, s175_1, s175_3, s175_6, s175_7, s175_9, s175_11, s175_14, s175_15, s175_16, s175_17, s175_19, s175_22, s175_23, s175_24, s175_25, s175_26, s175_27, s175_30, s175_31, s175_33, s175_36, s175_38, s175_41, s175_42, s175_43, s175_45, s175_46, s175_49, s175_51, s175_52, s175_55, s175_58, s175_59, s175_60, s175_63, s175_64, s175_66, s175_69, s175_72, s175_75, Option.toList_some, Option.toList_none, List.cons_append, List.nil_append, if_true, if_false, eq_self, n1n0, ne10, nI_ltI, hlt, hsf, hhl, c]
      exact k
    · rw [if_neg c] at hwo
      have k := mid _ hwo.symm (.int (nI (sB (tN D G W R) (wA D W R) L (bear b) 14)))
      simp (disch := first | omega | assumption | decide) only [e175, s175_0, s175_1, s175_3, s175_6, s175_7, s175_9, s175_11, s175_14, s175_15, s175_16, s175_17, s175_19, s175_22, s175_23, s175_24, s175_25, s175_26, s175_27, s175_30, s175_31, s175_33, s175_36, s175_38, s175_41, s175_42, s175_43, s175_45, s175_46, s175_49, s175_51, s175_52, s175_55, s175_58, s175_59, s175_60, s175_63, s175_64, s175_66, s175_69, s175_72, s175_75, Option.toList_some, Option.toList_none, List.cons_append, List.nil_append, if_true, if_false, eq_self, n1n0, ne10] at k
      simp (disch := first | omega | assumption | decide) only [e175, s175_0, s175_1, s175_3, s175_6, s175_7, s175_9, s175_11, s175_14, s175_15, s175_16, s175_17, s175_19, s175_22, s175_23, s175_24, s175_25, s175_26, s175_27, s175_30, s175_31, s175_33, s175_36, s175_38, s175_41, s175_42, s175_43, s175_45, s175_46, s175_49, s175_51, s175_52, s175_55, s175_58, s175_59, s175_60, s175_63, s175_64, s175_66, s175_69, s175_72, s175_75, Option.toList_some, Option.toList_none, List.cons_append, List.nil_append, if_true, if_false, eq_self, n1n0, ne10, nI_ltI, hlt, hsf, hhl, c]
      exact k
/-- days laid ahead by the reference -/
def lyM (D G B C : Nat) (W lim bear R : Nat → Nat) (n : Nat) (X Y : zM) : Prop := (∀ c, c ≠ 40 → c ≠ 48 → c ≠ 49 → Y c = X c) ∧ mW (Y 40) 92 (dayI D G B C W lim bear n R) ∧ (∀ j, (j < 92 ∨ 184 ≤ j) → Y 40 j = X 40 j) ∧ ∀ k, k < n → Y 48 k = nI (tN D G W R k) ∧ Y 49 k = nI (wA D W R k)
theorem mP_of {Y : zM} (h : mP D G B C W lim bear X) (f : ∀ c, (c = 39 ∨ c = 42 ∨ c = 45 ∨ c = 46) → Y c = X c) : mP D G B C W lim bear Y := by
  unfold mP at h ⊢
  rw [f 39 (by omega), f 42 (by omega), f 45 (by omega), f 46 (by omega)]
  exact h
theorem lay_loop {m : Nat} (ho : okP D G B C W lim bear) (hm : mP D G B C W lim bear X) (hD : 0 < D) (hm2 : m ≤ 12 + 2) (hr : okR B R) (h29 : R 29 + m ≤ 9100) (hQ : ∀ Z, lyM D G B C W lim bear R m X Z → Q none Z) : ∀ (n i : Nat) (Y : zM), i + n = m → lyM D G B C W lim bear R i X Y → zev 205 9 [.ref 39, .int (nI m), .int (nI i)] [] Y Q := by
  intro n
  induction n with
  | zero =>
    intro i Y hi hY
    have q : i = m := by omega
    subst q
    rw [s205_9]
    simp (disch := first | omega | assumption | decide) only [e205, s205_0, s205_1, s205_2, s205_4, s205_7, s205_8, s205_10, s205_11, s205_14, s205_15, s205_18, s205_19, s205_20, s205_22, s205_25, s205_26, s205_27, s205_30, s205_31, s205_32, s205_34, s205_37, s205_38, s205_39, s205_41, s205_44, s205_47, s205_50, Option.toList_some, Option.toList_none, List.cons_append, List.nil_append, if_true, if_false, eq_self, n1n0, ne10, nI_ltI, Nat.lt_irrefl]
    exact hQ Y hY
  | succ n ih =>
    intro i Y hi hY
    have hlt : i < m := by omega
    have hrd := (dayI_ok ho i R hr (by omega)).1
    obtain ⟨y1, y2, y3, y4⟩ := hY
    have p1 : mP D G B C W lim bear Y := mP_of hm (fun c hc => y1 c (by omega) (by omega) (by omega))
    have hte := fun Q => mm_rowTells (X := Y) (Q := Q) (x := 92) ho p1 (fun i hi => y2 i hi) hrd hD (by omega)
    rw [tN_ahead ho hr (by omega)] at hte
    generalize hZ : zst Y 48 (upd (Y 48) i (nI (tN D G W R i))) = Z
    have z0 : ∀ c, c ≠ 48 → Z c = Y c := fun c hc => by rw [← hZ]; exact zst_ne _ _ hc
    have z48 : Z 48 = upd (Y 48) i (nI (tN D G W R i)) := by rw [← hZ, zst_at]
    have q1 : mP D G B C W lim bear Z := mP_of p1 (fun c hc => z0 c (by omega))
    have q2 : mW (Z 40) 92 (dayI D G B C W lim bear i R) := by rw [z0 40 (by omega)]; exact y2
    have hto := fun Q => mm_tomorrow (X := Z) (Q := Q) (x := 92) ho q1 (fun i hi => q2 i hi) hrd hD (by omega)
    rw [wN_ahead ho hr (by omega)] at hto
    rw [s205_9]
    simp (disch := first | omega | assumption | decide) only [e205, s205_0, s205_1, s205_2, s205_4, s205_7, s205_8, s205_10, s205_11, s205_14, s205_15, s205_18, s205_19, s205_20, s205_22, s205_25, s205_26, s205_27, s205_30, s205_31, s205_32, s205_34, s205_37, s205_38, s205_39, s205_41, s205_44, s205_47, s205_50, Option.toList_some, Option.toList_none, List.cons_append, List.nil_append, if_true, if_false, eq_self, n1n0, ne10, nI_ltI, hlt, hte, hZ, hto]
    generalize hV : zst Z 49 (upd (Z 49) i (nI (wN D W (R 29 + (i + 1))))) = V
    have v0 : ∀ c, c ≠ 49 → V c = Z c := fun c hc => by rw [← hV]; exact zst_ne _ _ hc
    have v49 : V 49 = upd (Z 49) i (nI (wN D W (R 29 + (i + 1)))) := by rw [← hV, zst_at]
    have r1 : mP D G B C W lim bear V := mP_of q1 (fun c hc => v0 c (by omega))
    have r2 : mW (V 40) 92 (dayI D G B C W lim bear i R) := by rw [v0 40 (by omega)]; exact q2
    refine c_dayIn ho r1 r2 hrd hD (by omega) (fun w hw fw => ?_)
    simp (disch := first | omega | assumption | decide) only [e205, s205_0, s205_1, s205_2, s205_4, s205_7, s205_8, s205_10, s205_11, s205_14, s205_15, s205_18, s205_19, s205_20, s205_22, s205_25, s205_26, s205_27, s205_30, s205_31, s205_32, s205_34, s205_37, s205_38, s205_39, s205_41, s205_44, s205_47, s205_50, Option.toList_some, Option.toList_none, List.cons_append, List.nil_append, if_true, if_false, eq_self, n1n0, ne10, nI_add]
    refine ih (i + 1) _ (by omega) ⟨fun c c1 c2 c3 => ?_, ?_, fun j hj => ?_, fun k hk => ⟨?_, ?_⟩⟩
    · rw [zst_ne _ _ c1, v0 c c3, z0 c c2]; exact y1 c c1 c2 c3
    · rw [zst_at, dayI_succ]; exact hw
    · rw [zst_at, fw j (by omega), v0 40 (by omega), z0 40 (by omega)]; exact y3 j hj
    · rw [zst_ne _ _ (by omega), v0 48 (by omega), z48]
      by_cases c : k = i
      · rw [c, upd_at]
      · rw [upd_ne _ _ c]; exact (y4 k (by omega)).1
    · rw [zst_ne _ _ (by omega), v49]
      by_cases c : k = i
      · rw [c, upd_at]; rfl
      · rw [upd_ne _ _ c, z0 49 (by omega)]; exact (y4 k (by omega)).2
theorem c_lay {m : Nat} (ho : okP D G B C W lim bear) (hm : mP D G B C W lim bear X) (hs : mW (X 40) 0 R) (hD : 0 < D) (hm2 : m ≤ 12 + 2) (hr : okR B R) (h29 : R 29 + m ≤ 9100) (hQ : ∀ Z, lyM D G B C W lim bear R m X Z → Q none Z) : zcl 205 [.ref 39, .int (nI m)] X Q := by
  simp (disch := first | omega | assumption | decide) only [e205, s205_0, s205_1, s205_2, s205_4, s205_7, s205_8, s205_10, s205_11, s205_14, s205_15, s205_18, s205_19, s205_20, s205_22, s205_25, s205_26, s205_27, s205_30, s205_31, s205_32, s205_34, s205_37, s205_38, s205_39, s205_41, s205_44, s205_47, s205_50, Option.toList_some, Option.toList_none, List.cons_append, List.nil_append, if_true, if_false, eq_self, n1n0, ne10]
  refine c_tryStart hs (fun Y hY => ?_)
  obtain ⟨w, rfl, hw, hf⟩ := hY
  simp (disch := first | omega | assumption | decide) only [e205, s205_0, s205_1, s205_2, s205_4, s205_7, s205_8, s205_10, s205_11, s205_14, s205_15, s205_18, s205_19, s205_20, s205_22, s205_25, s205_26, s205_27, s205_30, s205_31, s205_32, s205_34, s205_37, s205_38, s205_39, s205_41, s205_44, s205_47, s205_50, Option.toList_some, Option.toList_none, List.cons_append, List.nil_append, if_true, if_false, eq_self, n1n0, ne10]
  exact lay_loop ho hm hD hm2 hr h29 hQ m 0 _ (by omega) ⟨fun c c1 _ _ => zst_ne _ _ c1, by rw [zst_at]; exact hw, fun j hj => by rw [zst_at]; exact hf j hj, fun k hk => absurd hk (by omega)⟩
def cbI (t w : Nat → Nat) (L be : Nat) : Nat → Nat → Int32
  | 0, k => nI (hlN t w L k)
  | s + 1, k => if L ≤ t k ∧ w k < be then nI (hlN t w L k) - nI 20 else cbI t w L be s (k + 1)
theorem cb_wo {t w : Nat → Nat} {L be : Nat} : ∀ s k, cbI t w L be s k = nI (hlN t w L (sfF t w L be s k)) - (if sfF t w L be s k < k + s then nI 20 else nI 0)
  | 0, k => by
    show nI (hlN t w L k) = nI (hlN t w L k) - (if k < k + 0 then nI 20 else nI 0)
    rw [if_neg (by omega), pk_sub (by omega)]
    rfl
  | s + 1, k => by
    unfold cbI sfF
    by_cases c : L ≤ t k ∧ w k < be
    · rw [if_pos c, if_pos c, if_pos (by omega)]
    · rw [if_neg c, if_neg c, cb_wo s (k + 1), show k + 1 + s = k + (s + 1) by omega]
theorem cby_loop {b L : Nat} {Y : zM} (ho : okP D G B C W lim bear) (hm : mP D G B C W lim bear Y) (hb : b < B) (hL : L ≤ 9) (hy : ∀ k, k < 14 → Y 48 k = nI (tN D G W R k) ∧ Y 49 k = nI (wA D W R k)) : ∀ n i : Nat, i + n = 14 → zev 52 5 [.ref 39, .int (nI b), .int (nI L), .int (nI (hlN (tN D G W R) (wA D W R) L i)), .int (nI i)] [] Y Q = Q (some (.int (cbI (tN D G W R) (wA D W R) L (bear b) n i))) Y := by
  have hB := ho.2.2.1
  intro n
  induction n with
  | zero =>
    intro i hi
    have q : i = 14 := by omega
    subst q
    rw [s52_5]
    simp (disch := first | omega | assumption | decide) only [e52, s52_0, s52_1, s52_2, s52_3, s52_7, s52_9, s52_12, s52_13, s52_16, s52_18, s52_19, s52_20, s52_23, s52_24, s52_27, s52_29, s52_30, s52_31, s52_34, s52_35, s52_36, s52_39, s52_40, s52_42, s52_43, s52_44, s52_45, s52_46, s52_49, s52_51, s52_52, s52_53, s52_54, s52_57, s52_60, s52_61, Option.toList_some, Option.toList_none, List.cons_append, List.nil_append, if_true, if_false, eq_self, n1n0, ne10, nI_ltI, Nat.lt_irrefl]
    rfl
  | succ n ih =>
    intro i hi
    have hlt : i < 14 := by omega
    obtain ⟨f1, f2⟩ := hy i hlt
    have ht9 := tN_le (D := D) (G := G) (W := W) R i
    have hw9 := wA_le (D := D) (R := R) ho.2.2.2.2.1 i
    have hbe := ho.2.2.2.2.2.2.1 b
    have e1 := (hm.2.2.2.2.2 b hb).2
    rw [s52_5]
    show _ = Q (some (.int (if L ≤ tN D G W R i ∧ wA D W R i < bear b then nI (hlN (tN D G W R) (wA D W R) L i) - nI 20 else cbI (tN D G W R) (wA D W R) L (bear b) n (i + 1)))) Y
    by_cases c1 : tN D G W R i < L
    · rw [if_neg (by omega)]
      refine Eq.trans ?_ (ih (i + 1) (by omega))
      rw [hlN_s, if_neg (by omega)]
      simp (disch := first | omega | assumption | decide) only [e52, s52_0, s52_1, s52_2, s52_3, s52_7, s52_9, s52_12, s52_13, s52_16, s52_18, s52_19, s52_20, s52_23, s52_24, s52_27, s52_29, s52_30, s52_31, s52_34, s52_35, s52_36, s52_39, s52_40, s52_42, s52_43, s52_44, s52_45, s52_46, s52_49, s52_51, s52_52, s52_53, s52_54, s52_57, s52_60, s52_61, Option.toList_some, Option.toList_none, List.cons_append, List.nil_append, if_true, if_false, eq_self, n1n0, ne10, nI_ltI, hlt, f1, c1, nI_add, Nat.add_zero]
    · by_cases c2 : wA D W R i < bear b
      · rw [if_pos ⟨by omega, c2⟩]
        simp (disch := first | omega | assumption | decide) only [e52, s52_0, s52_1, s52_2, s52_3, s52_7, s52_9, s52_12, s52_13, s52_16, s52_18, s52_19, s52_20, s52_23, s52_24, s52_27, s52_29, s52_30, s52_31, s52_34, s52_35, s52_36, s52_39, s52_40, s52_42, s52_43, s52_44, s52_45, s52_46, s52_49, s52_51, s52_52, s52_53, s52_54, s52_57, s52_60, s52_61, Option.toList_some, Option.toList_none, List.cons_append, List.nil_append, if_true, if_false, eq_self, n1n0, ne10, nI_ltI, hlt, f1, c1, f2, e1, c2]
      · rw [if_neg (by omega)]
        refine Eq.trans ?_ (ih (i + 1) (by omega))
        rw [hlN_s, if_pos (show L ≤ tN D G W R i by omega)]
        simp (disch := first | omega | assumption | decide) only [e52, s52_0, s52_1, s52_2, s52_3, s52_7, s52_9, s52_12, s52_13, s52_16, s52_18, s52_19, s52_20, s52_23, s52_24, s52_27, s52_29, s52_30, s52_31, s52_34, s52_35, s52_36, s52_39, s52_40, s52_42, s52_43, s52_44, s52_45, s52_46, s52_49, s52_51, s52_52, s52_53, s52_54, s52_57, s52_60, s52_61, Option.toList_some, Option.toList_none, List.cons_append, List.nil_append, if_true, if_false, eq_self, n1n0, ne10, nI_ltI, hlt, f1, c1, f2, e1, c2, nI_add]
theorem c_caughtBy {b L : Nat} {Y : zM} (ho : okP D G B C W lim bear) (hm : mP D G B C W lim bear Y) (hb : b < B) (hL : L ≤ 9) (hy : ∀ k, k < 14 → Y 48 k = nI (tN D G W R k) ∧ Y 49 k = nI (wA D W R k)) : zcl 52 [.ref 39, .int (nI b), .int (nI L)] Y Q = Q (some (.int (woI (tN D G W R) (wA D W R) L (bear b) 14))) Y := by
  have k := cby_loop (Q := Q) ho hm hb hL hy 14 0 (by omega)
  rw [cb_wo, sf_sB 14 0 rfl, Nat.zero_add] at k
  refine Eq.trans ?_ k
  simp (disch := first | omega | assumption | decide) only [e52, s52_0, s52_1, s52_2, s52_3, s52_7, s52_9, s52_12, s52_13, s52_16, s52_18, s52_19, s52_20, s52_23, s52_24, s52_27, s52_29, s52_30, s52_31, s52_34, s52_35, s52_36, s52_39, s52_40, s52_42, s52_43, s52_44, s52_45, s52_46, s52_49, s52_51, s52_52, s52_53, s52_54, s52_57, s52_60, s52_61, Option.toList_some, Option.toList_none, List.cons_append, List.nil_append, if_true, if_false, eq_self, n1n0, ne10]
  rfl
theorem limM_loop {b : Nat} {v : Int32} {Y : zM} (ho : okP D G B C W lim bear) (hm : mP D G B C W lim bear Y) (hb : b < B) (hy : ∀ k, k < 14 → Y 48 k = nI (tN D G W R k) ∧ Y 49 k = nI (wA D W R k)) : ∀ (n L : Nat) (l6 : Value), L + n = 9 → zev 212 43 [.ref 39, .int (nI b), .int v, .int (bf (fun L => woI (tN D G W R) (wA D W R) L (bear b) 14) L).1, .int (bf (fun L => woI (tN D G W R) (wA D W R) L (bear b) 14) L).2, .int (nI (L + 1)), l6] [] Y Q = Q (some (.int (if v = nI 0 then (bf (fun L => woI (tN D G W R) (wA D W R) L (bear b) 14) 9).1 else (bf (fun L => woI (tN D G W R) (wA D W R) L (bear b) 14) 9).2))) Y := by
  intro n
  induction n with
  | zero =>
    intro L l6 hL
    have q : L = 9 := by omega
    subst q
    rw [s212_43]
    by_cases c : v = nI 0
    · rw [if_pos c]
      simp (disch := first | omega | assumption | decide) only [e212, s212_0, s212_1, s212_2, s212_5, s212_8, s212_10, s212_11, s212_12, s212_13, s212_14, s212_15, s212_18, s212_21, s212_23, s212_24, s212_25, s212_27, s212_30, s212_31, s212_32, s212_33, s212_34, s212_35, s212_38, s212_40, s212_41, s212_45, s212_47, s212_50, s212_51, s212_52, s212_54, s212_57, s212_59, s212_61, s212_63, s212_66, s212_68, s212_71, s212_72, s212_73, s212_75, s212_77, s212_80, s212_82, s212_85, s212_88, s212_89, s212_92, s212_93, s212_96, s212_98, Option.toList_some, Option.toList_none, List.cons_append, List.nil_append, if_true, if_false, eq_self, n1n0, ne10, Nat.reduceAdd, nI_ltI, Nat.lt_irrefl, c]
    · rw [if_neg c]
      simp (disch := first | omega | assumption | decide) only [e212, s212_0, s212_1, s212_2, s212_5, s212_8, s212_10, s212_11, s212_12, s212_13, s212_14, s212_15, s212_18, s212_21, s212_23, s212_24, s212_25, s212_27, s212_30, s212_31, s212_32, s212_33, s212_34, s212_35, s212_38, s212_40, s212_41, s212_45, s212_47, s212_50, s212_51, s212_52, s212_54, s212_57, s212_59, s212_61, s212_63, s212_66, s212_68, s212_71, s212_72, s212_73, s212_75, s212_77, s212_80, s212_82, s212_85, s212_88, s212_89, s212_92, s212_93, s212_96, s212_98, Option.toList_some, Option.toList_none, List.cons_append, List.nil_append, if_true, if_false, eq_self, n1n0, ne10, Nat.reduceAdd, nI_ltI, Nat.lt_irrefl, c]
  | succ n ih =>
    intro L l6 hL
    have hlt : L + 1 < 10 := by omega
    have hcb := fun Q => c_caughtBy (Y := Y) (Q := Q) (b := b) (L := L + 1) ho hm hb (by omega) hy
    generalize hv : woI (tN D G W R) (wA D W R) (L + 1) (bear b) 14 = w at hcb
    have k := ih (L + 1) (.int w) (by omega)
    refine Eq.trans ?_ k
    rw [s212_43]
    by_cases c1 : (bf (fun L => woI (tN D G W R) (wA D W R) L (bear b) 14) L).2 < w
    · have hbf : bf (fun L => woI (tN D G W R) (wA D W R) L (bear b) 14) (L + 1) = (nI (L + 1), w) := by
        rw [← hv]
        exact if_pos (by rw [← hv] at c1; exact c1)
      rw [hbf]
      simp (disch := first | omega | assumption | decide) only [e212, s212_0, s212_1, s212_2, s212_5, s212_8, s212_10, s212_11, s212_12, s212_13, s212_14, s212_15, s212_18, s212_21, s212_23, s212_24, s212_25, s212_27, s212_30, s212_31, s212_32, s212_33, s212_34, s212_35, s212_38, s212_40, s212_41, s212_45, s212_47, s212_50, s212_51, s212_52, s212_54, s212_57, s212_59, s212_61, s212_63, s212_66, s212_68, s212_71, s212_72, s212_73, s212_75, s212_77, s212_80, s212_82, s212_85, s212_88, s212_89, s212_92, s212_93, s212_96, s212_98, Option.toList_some, Option.toList_none, List.cons_append, List.nil_append, if_true, if_false, eq_self, n1n0, ne10, nI_ltI, hlt, hcb, c1, c_most, nI_add]
    · have hbf : bf (fun L => woI (tN D G W R) (wA D W R) L (bear b) 14) (L + 1) = bf (fun L => woI (tN D G W R) (wA D W R) L (bear b) 14) L := if_neg (by rw [← hv] at c1; exact c1)
      rw [hbf]
      simp (disch := first | omega | assumption | decide) only [e212, s212_0, s212_1, s212_2, s212_5, s212_8, s212_10, s212_11, s212_12, s212_13, s212_14, s212_15, s212_18, s212_21, s212_23, s212_24, s212_25, s212_27, s212_30, s212_31, s212_32, s212_33, s212_34, s212_35, s212_38, s212_40, s212_41, s212_45, s212_47, s212_50, s212_51, s212_52, s212_54, s212_57, s212_59, s212_61, s212_63, s212_66, s212_68, s212_71, s212_72, s212_73, s212_75, s212_77, s212_80, s212_82, s212_85, s212_88, s212_89, s212_92, s212_93, s212_96, s212_98, Option.toList_some, Option.toList_none, List.cons_append, List.nil_append, if_true, if_false, eq_self, n1n0, ne10, nI_ltI, hlt, hcb, c1, c_most, nI_add]
end BL
theorem ok_bestLimit (x y : Int32) : okCall 196 212 [.int x, .int y] := by
  rintro ⟨⟨D, G, B, C, W, lim, bear⟩, R, ⟨u, Rs⟩, ⟨kb, Ri, si⟩, sd, ⟨t, tx, fa⟩, ⟨tn, tg, tr, en, eg, et⟩⟩ ha
  have hD := ha.1.1
  have hB := ha.1.2.2.1
  have hr := ha.2.1.1
  have h29 := ha.2.1.2
  rcases rngm x B (by omega) with h | ⟨h, h2⟩ | ⟨j, hj, rfl, n1, n2⟩
  · refine ⟨_, -1000000001, ha, okC_ro ?_, okM_ro ?_⟩
    · rintro X Q ⟨nx, k, ns, ni, h1, -⟩
      simp (disch := first | omega | assumption | decide) only [e196, s196_0, s196_1, s196_2, s196_5, s196_8, s196_10, s196_11, s196_12, s196_13, s196_14, s196_17, s196_20, s196_22, s196_23, s196_24, s196_27, s196_28, s196_31, s196_32, s196_35, s196_36, s196_39, s196_42, s196_45, s196_46, s196_49, s196_52, Option.toList_some, Option.toList_none, List.cons_append, List.nil_append, if_true, if_false, eq_self, n1n0, ne10, c_noBoat x h1.2.2.1, if_pos h, n1n0]
    · rintro X Q ⟨h1, -⟩
      simp (disch := first | omega | assumption | decide) only [e212, s212_0, s212_1, s212_2, s212_5, s212_8, s212_10, s212_11, s212_12, s212_13, s212_14, s212_15, s212_18, s212_21, s212_23, s212_24, s212_25, s212_27, s212_30, s212_31, s212_32, s212_33, s212_34, s212_35, s212_38, s212_40, s212_41, s212_45, s212_47, s212_50, s212_51, s212_52, s212_54, s212_57, s212_59, s212_61, s212_63, s212_66, s212_68, s212_71, s212_72, s212_73, s212_75, s212_77, s212_80, s212_82, s212_85, s212_88, s212_89, s212_92, s212_93, s212_96, s212_98, Option.toList_some, Option.toList_none, List.cons_append, List.nil_append, if_true, if_false, eq_self, n1n0, ne10, c_isBoat x h1.2.2.1, if_pos h]
  · refine ⟨_, -1000000001, ha, okC_ro ?_, okM_ro ?_⟩
    · rintro X Q ⟨nx, k, ns, ni, h1, -⟩
      simp (disch := first | omega | assumption | decide) only [e196, s196_0, s196_1, s196_2, s196_5, s196_8, s196_10, s196_11, s196_12, s196_13, s196_14, s196_17, s196_20, s196_22, s196_23, s196_24, s196_27, s196_28, s196_31, s196_32, s196_35, s196_36, s196_39, s196_42, s196_45, s196_46, s196_49, s196_52, Option.toList_some, Option.toList_none, List.cons_append, List.nil_append, if_true, if_false, eq_self, n1n0, ne10, c_noBoat x h1.2.2.1, if_neg h, if_pos h2, n1n0]
    · rintro X Q ⟨h1, -⟩
      simp (disch := first | omega | assumption | decide) only [e212, s212_0, s212_1, s212_2, s212_5, s212_8, s212_10, s212_11, s212_12, s212_13, s212_14, s212_15, s212_18, s212_21, s212_23, s212_24, s212_25, s212_27, s212_30, s212_31, s212_32, s212_33, s212_34, s212_35, s212_38, s212_40, s212_41, s212_45, s212_47, s212_50, s212_51, s212_52, s212_54, s212_57, s212_59, s212_61, s212_63, s212_66, s212_68, s212_71, s212_72, s212_73, s212_75, s212_77, s212_80, s212_82, s212_85, s212_88, s212_89, s212_92, s212_93, s212_96, s212_98, Option.toList_some, Option.toList_none, List.cons_append, List.nil_append, if_true, if_false, eq_self, n1n0, ne10, c_isBoat x h1.2.2.1, if_neg h, if_pos h2]
  · have h0 : 0 < D := by
      rcases Nat.eq_zero_or_pos D with q | q
      · have := (ha.1.2.2.2.2.2.2.2 q).2.1; omega
      · exact q
    have hnb := fun X Q (h : X 9 2 = nI B) => c_noBoat_in (X := X) (Q := Q) h hj (by omega)
    have hib := fun X Q (h : X 39 11 = nI B) => c_isBoat_in (X := X) (Q := Q) h hj (by omega)
    rcases rng y 0 1 (by decide) (by decide) with h | ⟨h, hh2⟩ | ⟨m, -, hm, rfl⟩
    · refine ⟨_, -1000000002, ha, okC_ro ?_, okM_ro ?_⟩
      · rintro X Q ⟨nx, k, ns, ni, h1, h2, h3, h4, h5, h6, h7, h8⟩
        simp (disch := first | omega | assumption | decide) only [e196, s196_0, s196_1, s196_2, s196_5, s196_8, s196_10, s196_11, s196_12, s196_13, s196_14, s196_17, s196_20, s196_22, s196_23, s196_24, s196_27, s196_28, s196_31, s196_32, s196_35, s196_36, s196_39, s196_42, s196_45, s196_46, s196_49, s196_52, Option.toList_some, Option.toList_none, List.cons_append, List.nil_append, if_true, if_false, eq_self, n1n0, ne10, hnb X _ h1.2.2.1, c_isOut, if_pos h]
      · rintro X Q ⟨h1, h2, h3, h4, h5, h6, h7⟩
        simp (disch := first | omega | assumption | decide) only [e212, s212_0, s212_1, s212_2, s212_5, s212_8, s212_10, s212_11, s212_12, s212_13, s212_14, s212_15, s212_18, s212_21, s212_23, s212_24, s212_25, s212_27, s212_30, s212_31, s212_32, s212_33, s212_34, s212_35, s212_38, s212_40, s212_41, s212_45, s212_47, s212_50, s212_51, s212_52, s212_54, s212_57, s212_59, s212_61, s212_63, s212_66, s212_68, s212_71, s212_72, s212_73, s212_75, s212_77, s212_80, s212_82, s212_85, s212_88, s212_89, s212_92, s212_93, s212_96, s212_98, Option.toList_some, Option.toList_none, List.cons_append, List.nil_append, if_true, if_false, eq_self, n1n0, ne10, hib X _ h1.2.2.1, li_0, li_1, li_255, li_48, li_57, li_60, li_30, li_9, li_10, li_12, li_2, li_100, c_in, if_pos h]
    · refine ⟨_, -1000000002, ha, okC_ro ?_, okM_ro ?_⟩
      · rintro X Q ⟨nx, k, ns, ni, h1, h2, h3, h4, h5, h6, h7, h8⟩
        simp (disch := first | omega | assumption | decide) only [e196, s196_0, s196_1, s196_2, s196_5, s196_8, s196_10, s196_11, s196_12, s196_13, s196_14, s196_17, s196_20, s196_22, s196_23, s196_24, s196_27, s196_28, s196_31, s196_32, s196_35, s196_36, s196_39, s196_42, s196_45, s196_46, s196_49, s196_52, Option.toList_some, Option.toList_none, List.cons_append, List.nil_append, if_true, if_false, eq_self, n1n0, ne10, hnb X _ h1.2.2.1, c_isOut, if_neg h, if_pos hh2]
      · rintro X Q ⟨h1, h2, h3, h4, h5, h6, h7⟩
        simp (disch := first | omega | assumption | decide) only [e212, s212_0, s212_1, s212_2, s212_5, s212_8, s212_10, s212_11, s212_12, s212_13, s212_14, s212_15, s212_18, s212_21, s212_23, s212_24, s212_25, s212_27, s212_30, s212_31, s212_32, s212_33, s212_34, s212_35, s212_38, s212_40, s212_41, s212_45, s212_47, s212_50, s212_51, s212_52, s212_54, s212_57, s212_59, s212_61, s212_63, s212_66, s212_68, s212_71, s212_72, s212_73, s212_75, s212_77, s212_80, s212_82, s212_85, s212_88, s212_89, s212_92, s212_93, s212_96, s212_98, Option.toList_some, Option.toList_none, List.cons_append, List.nil_append, if_true, if_false, eq_self, n1n0, ne10, hib X _ h1.2.2.1, li_0, li_1, li_255, li_48, li_57, li_60, li_30, li_9, li_10, li_12, li_2, li_100, c_in, if_neg h, if_pos hh2]
    · have hio := fun X Q => c_isOut_in (X := X) (Q := Q) (j := m) (lo := 0) (hi := 1) (Nat.zero_le m) hm (by decide)
      have hii := fun X Q => c_in_in (X := X) (Q := Q) (j := m) (lo := 0) (hi := 1) (Nat.zero_le m) hm (by decide)
      refine ⟨_, if nI m = nI 0 then (bf (fun L => woI (tN D G W R) (wA D W R) L (bear j) 14) 9).1 else (bf (fun L => woI (tN D G W R) (wA D W R) L (bear j) 14) 9).2, ha, ?_, ?_⟩
      · intro X Q hX hQ
        obtain ⟨nx, k, ns, ni, h1, h2, h3, h4, h5, h6, h7, h8⟩ := id hX
        simp (disch := first | omega | assumption | decide) only [e196, s196_0, s196_1, s196_2, s196_5, s196_8, s196_10, s196_11, s196_12, s196_13, s196_14, s196_17, s196_20, s196_22, s196_23, s196_24, s196_27, s196_28, s196_31, s196_32, s196_35, s196_36, s196_39, s196_42, s196_45, s196_46, s196_49, s196_52, e175, s175_0, s175_1, s175_3, s175_6, s175_7, s175_9, s175_11, s175_14, s175_15, s175_16, s175_17, s175_19, s175_22, s175_23, s175_24, s175_25, s175_26, s175_27, s175_30, s175_31, s175_33, s175_36, s175_38, s175_41, s175_42, s175_43, s175_45, s175_46, s175_49, s175_51, s175_52, s175_55, s175_58, s175_59, s175_60, s175_63, s175_64, s175_66, s175_69, s175_72, s175_75, Option.toList_some, Option.toList_none, List.cons_append, List.nil_append, if_true, if_false, eq_self, n1n0, ne10, hnb X _ h1.2.2.1, hio]
        refine c_look ha.1 h1 h2 hr (by omega) (fun Y hY => ?_)
        simp (disch := first | omega | assumption | decide) only [e196, s196_0, s196_1, s196_2, s196_5, s196_8, s196_10, s196_11, s196_12, s196_13, s196_14, s196_17, s196_20, s196_22, s196_23, s196_24, s196_27, s196_28, s196_31, s196_32, s196_35, s196_36, s196_39, s196_42, s196_45, s196_46, s196_49, s196_52, e175, s175_0, s175_1, s175_3, s175_6, s175_7, s175_9, s175_11, s175_14, s175_15, s175_16, s175_17, s175_19, s175_22, s175_23, s175_24, s175_25, s175_26, s175_27, s175_30, s175_31, s175_33, s175_36, s175_38, s175_41, s175_42, s175_43, s175_45, s175_46, s175_49, s175_51, s175_52, s175_55, s175_58, s175_59, s175_60, s175_63, s175_64, s175_66, s175_69, s175_72, s175_75, Option.toList_some, Option.toList_none, List.cons_append, List.nil_append, if_true, if_false, eq_self, n1n0, ne10]
        refine limC_loop ha.1 h1 h2 hr hj (fun Z hZ z5 z6 => ?_) 10 0 Y _ _ (by omega) ⟨fun c c1 c2 c3 => hY.1 c c2 c3, hY.2⟩ (fun q => absurd q (by omega))
        have hQ2 := hQ Z (CI_tun hX (fun c hc => hZ.1 c (by omega) (by omega) (by omega)) (cTu_fr h8 (hZ.1 19 (by omega) (by omega) (by omega)))) (fun c c1 c2 => hZ.1 c (by omega) (by omega) (by omega))
        by_cases c : nI m = nI 0
        · rw [if_pos c] at hQ2
          simp (disch := first | omega | assumption | decide) only [e196, s196_0, s196_1, s196_2, s196_5, s196_8, s196_10, s196_11, s196_12, s196_13, s196_14, s196_17, s196_20, s196_22, s196_23, s196_24, s196_27, s196_28, s196_31, s196_32, s196_35, s196_36, s196_39, s196_42, s196_45, s196_46, s196_49, s196_52, Option.toList_some, Option.toList_none, List.cons_append, List.nil_append, if_true, if_false, eq_self, n1n0, ne10, c, z5]
          exact hQ2
        · rw [if_neg c] at hQ2
          simp (disch := first | omega | assumption | decide) only [e196, s196_0, s196_1, s196_2, s196_5, s196_8, s196_10, s196_11, s196_12, s196_13, s196_14, s196_17, s196_20, s196_22, s196_23, s196_24, s196_27, s196_28, s196_31, s196_32, s196_35, s196_36, s196_39, s196_42, s196_45, s196_46, s196_49, s196_52, Option.toList_some, Option.toList_none, List.cons_append, List.nil_append, if_true, if_false, eq_self, n1n0, ne10, c, z6]
          exact hQ2
      · intro X Q hX hQ
        obtain ⟨h1, h2, h3, h4, h5, h6, h7⟩ := id hX
        simp (disch := first | omega | assumption | decide) only [e212, s212_0, s212_1, s212_2, s212_5, s212_8, s212_10, s212_11, s212_12, s212_13, s212_14, s212_15, s212_18, s212_21, s212_23, s212_24, s212_25, s212_27, s212_30, s212_31, s212_32, s212_33, s212_34, s212_35, s212_38, s212_40, s212_41, s212_45, s212_47, s212_50, s212_51, s212_52, s212_54, s212_57, s212_59, s212_61, s212_63, s212_66, s212_68, s212_71, s212_72, s212_73, s212_75, s212_77, s212_80, s212_82, s212_85, s212_88, s212_89, s212_92, s212_93, s212_96, s212_98, Option.toList_some, Option.toList_none, List.cons_append, List.nil_append, if_true, if_false, eq_self, n1n0, ne10, hib X _ h1.2.2.1, li_0, li_1, hii]
        refine c_lay ha.1 h1 h2 h0 (by omega) hr (by omega) (fun Z hZ => ?_)
        obtain ⟨y1, y2, y3, y4⟩ := hZ
        have p1 : mP D G B C W lim bear Z := mP_of h1 (fun c hc => y1 c (by omega) (by omega) (by omega))
        have hcb := fun Q => c_caughtBy (Y := Z) (Q := Q) (b := j) (L := 0) ha.1 p1 hj (by omega) y4
        have hl := fun l6 => limM_loop (Y := Z) (Q := Q) (b := j) (v := nI m) ha.1 p1 hj y4 9 0 l6 (by omega)
        rw [show bf (fun L => woI (tN D G W R) (wA D W R) L (bear j) 14) 0 = (nI 0, woI (tN D G W R) (wA D W R) 0 (bear j) 14) from rfl] at hl
        simp (disch := first | omega | assumption | decide) only [e212, s212_0, s212_1, s212_2, s212_5, s212_8, s212_10, s212_11, s212_12, s212_13, s212_14, s212_15, s212_18, s212_21, s212_23, s212_24, s212_25, s212_27, s212_30, s212_31, s212_32, s212_33, s212_34, s212_35, s212_38, s212_40, s212_41, s212_45, s212_47, s212_50, s212_51, s212_52, s212_54, s212_57, s212_59, s212_61, s212_63, s212_66, s212_68, s212_71, s212_72, s212_73, s212_75, s212_77, s212_80, s212_82, s212_85, s212_88, s212_89, s212_92, s212_93, s212_96, s212_98, Option.toList_some, Option.toList_none, List.cons_append, List.nil_append, if_true, if_false, eq_self, n1n0, ne10, hcb, hl]
        refine hQ Z ?_ (fun c hc => y1 c (by omega) (by omega) (by omega))
        exact MI_scr (MI_tried hX (w := Z 40) y3) (fun c c1 c2 c3 => by
          by_cases c4 : c = 40
          · rw [c4, zst_at]
          · rw [zst_ne _ _ c4]; exact y1 c c4 (by omega) (by omega))
