/-! coast: the class reads letters, numbers, ends -/
theorem sgn_n {t : Nat} {tx : Nat → Nat} {p c : Nat} (hx : ∀ k, k < t → tx k ≤ 255) (hc : c < 1000) : (sg t tx p = nI c) ↔ (p < t ∧ tx p = c) := by
  unfold sg
  by_cases h : p < t
  · rw [if_pos h]
    have := hx p h
    rw [nI_eq (by omega) (by omega)]
    exact ⟨fun q => ⟨h, q⟩, fun q => q.2⟩
  · rw [if_neg h]
    refine ⟨fun q => ?_, fun q => absurd q.1 h⟩
    exact absurd q.symm (nm1b c hc)
  where nm1b : ∀ g, g < 1000 → ¬ nI g = -1 := by decide +kernel
section LC
variable {X : zM} {Q : Option Value → zM → Prop} {t : Nat} {tx : Nat → Nat} {p : Nat}
def tC (t : Nat) (tx : Nat → Nat) (X : zM) : Prop := t ≤ 240 ∧ (∀ k, k < t → tx k ≤ 255) ∧ X 1 1 = nI t ∧ ∀ k, k < t → X 2 k = nI (tx k)
/-- the reader has moved to p, with this fault -/
def rd1 (X : zM) (p : Nat) (k f : Int32) (Y : zM) : Prop := (∀ c, c ≠ 1 → Y c = X c) ∧ Y 1 0 = X 1 0 ∧ Y 1 1 = X 1 1 ∧ Y 1 2 = nI p ∧ Y 1 3 = k ∧ Y 1 4 = f
theorem rd1_tC {k f : Int32} {Y : zM} (h : rd1 X p k f Y) (ht : tC t tx X) : tC t tx Y := by
  obtain ⟨h1, h2, h3, h4⟩ := ht
  refine ⟨h1, h2, ?_, fun k hk => ?_⟩
  · rw [h.2.2.1]; exact h3
  · rw [h.1 2 (by decide)]; exact h4 k hk
theorem rd1_tr {k f k2 f2 : Int32} {p2 : Nat} {Y Z : zM} (h : rd1 X p k f Y) (h2 : rd1 Y p2 k2 f2 Z) : rd1 X p2 k2 f2 Z := ⟨fun c hc => (h2.1 c hc).trans (h.1 c hc), h2.2.1.trans h.2.1, h2.2.2.1.trans h.2.2.1, h2.2.2.2⟩
theorem next_end {q : Nat} {Y : zM} (ht : tC t tx Y) (hq : q ≤ t) (h2 : Y 1 2 = nI q) (hQ : Q (some (.int (sg t tx q))) Y) : zev 19 38 [.ref 1] [] Y Q := by
  obtain ⟨t1, t2, t3, t4⟩ := ht
  unfold sg at hQ
  by_cases c : q < t
  · have e := t4 q c
    rw [if_pos c] at hQ
    simp (disch := first | omega | assumption | decide) only [e19, s19_1, s19_4, s19_5, s19_8, s19_11, s19_12, s19_15, s19_16, s19_19, s19_20, s19_22, s19_25, s19_26, s19_27, s19_30, s19_31, s19_32, s19_35, s19_38, s19_39, s19_42, s19_43, s19_46, s19_49, s19_50, s19_53, s19_54, s19_57, s19_58, s19_61, s19_62, Option.toList_some, Option.toList_none, List.cons_append, List.nil_append, if_true, if_false, eq_self, n1n0, ne10, h2, t3, nI_ltI, c, e]
    exact hQ
  · rw [if_neg c] at hQ
    simp (disch := first | omega | assumption | decide) only [e19, s19_1, s19_4, s19_5, s19_8, s19_11, s19_12, s19_15, s19_16, s19_19, s19_20, s19_22, s19_25, s19_26, s19_27, s19_30, s19_31, s19_32, s19_35, s19_38, s19_39, s19_42, s19_43, s19_46, s19_49, s19_50, s19_53, s19_54, s19_57, s19_58, s19_61, s19_62, Option.toList_some, Option.toList_none, List.cons_append, List.nil_append, if_true, if_false, eq_self, n1n0, ne10, h2, t3, nI_ltI, c]
    exact hQ
theorem next_loop2 {k f : Int32} (hQ : ∀ Y, rd1 X (sk t tx p) k f Y → Q (some (.int (sg t tx (sk t tx p)))) Y) : ∀ (n q : Nat) (Y : zM), q + n = t → sk t tx q = sk t tx p → tC t tx Y → rd1 X q k f Y → zev 19 0 [.ref 1] [] Y Q := by
  intro n
  induction n with
  | zero =>
    intro q Y hq hs ht hY
    have e : sk t tx q = q := sk_end (by omega)
    rw [← hs, e] at hQ
    have k := next_end ht (by omega) hY.2.2.2.1 (hQ Y hY)
    obtain ⟨t1, t2, t3, t4⟩ := ht
    have h2 := hY.2.2.2.1
    have c : ¬ q < t := by omega
    rw [s19_0]
    simp (disch := first | omega | assumption | decide) only [s19_1, s19_4, s19_5, s19_8, h2, t3, nI_ltI, c, if_false]
    exact k
  | succ n ih =>
    intro q Y hq hs ht hY
    have hlt : q < t := by omega
    obtain ⟨t1, t2, t3, t4⟩ := id ht
    have h2 := hY.2.2.2.1
    have h3 := t4 q hlt
    have h4 := t2 q hlt
    by_cases c : tx q = 32
    · have hZ : rd1 X (q + 1) k f (zst Y 1 (upd (Y 1) 2 (nI (q + 1)))) := by
        obtain ⟨y1, y2, y3, y4, y5, y6⟩ := hY
        refine ⟨fun c hc => by rw [zst_ne _ _ hc]; exact y1 c hc, ?_, ?_, ?_, ?_, ?_⟩
        · rw [zst_at, upd_ne _ _ (by decide)]; exact y2
        · rw [zst_at, upd_ne _ _ (by decide)]; exact y3
        · rw [zst_at, upd_at]
        · rw [zst_at, upd_ne _ _ (by decide)]; exact y5
        · rw [zst_at, upd_ne _ _ (by decide)]; exact y6
      have kk := ih (q + 1) _ (by omega) (by rw [← hs]; exact (sk_sp hlt c).symm) (by
        refine ⟨t1, t2, ?_, fun k hk => ?_⟩
        · rw [zst_at, upd_ne _ _ (by decide)]; exact t3
        · rw [zst_ne _ _ (by decide)]; exact t4 k hk) hZ
      have c2 : nI (tx q) = nI 32 := by rw [c]
      rw [s19_0]
      simp (disch := first | omega | assumption | decide) only [s19_1, s19_4, s19_5, s19_8, s19_11, s19_12, s19_15, s19_16, s19_19, s19_20, s19_22, s19_25, s19_26, s19_27, s19_30, s19_31, s19_32, s19_35, h2, t3, nI_ltI, nI_add, hlt, h3, c2, if_true]
      exact kk
    · have e : sk t tx q = q := sk_no hlt c
      rw [← hs, e] at hQ
      have k := next_end ht (by omega) h2 (hQ Y hY)
      have c2 : ¬ nI (tx q) = nI 32 := fun z => c ((nI_eq (by omega) (by omega)).mp z)
      rw [s19_0]
      simp (disch := first | omega | assumption | decide) only [s19_1, s19_4, s19_5, s19_8, s19_11, s19_12, s19_15, s19_16, s19_19, s19_20, s19_22, h2, t3, nI_ltI, hlt, h3, c2, if_true, if_false]
      exact k
theorem c_next2 (ht : tC t tx X) (h2 : X 1 2 = nI p) (hp : p ≤ t) (hQ : ∀ Y, rd1 X (sk t tx p) (X 1 3) (X 1 4) Y → Q (some (.int (sg t tx (sk t tx p)))) Y) : zcl 19 [.ref 1] X Q := by
  simp (disch := first | omega | assumption | decide) only [e19]
  exact next_loop2 hQ (t - p) p X (by omega) rfl ht ⟨fun _ _ => rfl, rfl, rfl, h2, rfl, rfl⟩
theorem c_fail {a b : Int32} : zcl 18 [.ref 1, .int a, .int b] X Q = if X 1 3 = nI 0 then Q none (zst X 1 (upd (upd (X 1) 3 a) 4 b)) else Q none X := by
  by_cases c : X 1 3 = nI 0
  · rw [if_pos c]
    simp (disch := first | omega | assumption | decide) only [e18, s18_0, s18_1, s18_4, s18_7, s18_8, s18_9, s18_12, s18_13, s18_14, s18_17, Option.toList_some, Option.toList_none, List.cons_append, List.nil_append, if_true, if_false, eq_self, n1n0, ne10, c, zst_at, zst_zst]
  · rw [if_neg c]
    simp (disch := first | omega | assumption | decide) only [e18, s18_0, s18_1, s18_4, s18_7, s18_8, s18_9, s18_12, s18_13, s18_14, s18_17, Option.toList_some, Option.toList_none, List.cons_append, List.nil_append, if_true, if_false, eq_self, n1n0, ne10, c]
theorem rd1_fail {k f a b : Int32} {Y : zM} (hY : rd1 X p k f Y) : rd1 X p a b (zst Y 1 (upd (upd (Y 1) 3 a) 4 b)) := by
  obtain ⟨y1, y2, y3, y4, y5, y6⟩ := hY
  refine ⟨fun c hc => by rw [zst_ne _ _ hc]; exact y1 c hc, ?_, ?_, ?_, ?_, ?_⟩
  · rw [zst_at, upd_ne _ _ (by decide), upd_ne _ _ (by decide)]; exact y2
  · rw [zst_at, upd_ne _ _ (by decide), upd_ne _ _ (by decide)]; exact y3
  · rw [zst_at, upd_ne _ _ (by decide), upd_ne _ _ (by decide)]; exact y4
  · rw [zst_at, upd_ne _ _ (by decide), upd_at]
  · rw [zst_at, upd_at]
theorem rd1_at {k f : Int32} {q : Nat} {Y : zM} (hY : rd1 X p k f Y) : rd1 X q k f (zst Y 1 (upd (Y 1) 2 (nI q))) := by
  obtain ⟨y1, y2, y3, y4, y5, y6⟩ := hY
  refine ⟨fun c hc => by rw [zst_ne _ _ hc]; exact y1 c hc, ?_, ?_, ?_, ?_, ?_⟩
  · rw [zst_at, upd_ne _ _ (by decide)]; exact y2
  · rw [zst_at, upd_ne _ _ (by decide)]; exact y3
  · rw [zst_at, upd_at]
  · rw [zst_at, upd_ne _ _ (by decide)]; exact y5
  · rw [zst_at, upd_ne _ _ (by decide)]; exact y6
/-- a fault put beside one that may be there -/
def flK (k : Int32) (n : Nat) : Int32 := if k = nI 0 then nI n else k
def flF (k f : Int32) (n w : Nat) : Int32 := if k = nI 0 ∧ ¬ n = 0 then nI w else f
theorem flK_0 (k : Int32) : flK k 0 = k := by
  unfold flK
  split
  · rename_i h; exact h.symm
  · rfl
theorem flF_0 (k f : Int32) (w : Nat) : flF k f 0 w = f := if_neg (fun q => q.2 rfl)
/-- how 'fail' goes on -/
theorem c_failR {n q w : Nat} {Y : zM} {k f : Int32} (hY : rd1 X q k f Y) (hn : ¬ n = 0) (hQ : ∀ Z, rd1 X q (flK k n) (flF k f n w) Z → Q none Z) : zcl 18 [.ref 1, .int (nI n), .int (nI w)] Y Q := by
  rw [c_fail, hY.2.2.2.2.1]
  unfold flK flF at hQ
  by_cases c : k = nI 0
  · rw [if_pos c]
    refine hQ _ ?_
    rw [if_pos c, if_pos ⟨c, hn⟩]
    exact rd1_fail hY
  · rw [if_neg c]
    refine hQ _ ?_
    rw [if_neg c, if_neg (fun q => c q.1)]
    exact hY
theorem c_endC (ht : tC t tx X) (h2 : X 1 2 = nI p) (hp : p ≤ t) (hQ : ∀ Y, rd1 X (if ek t tx p = 0 then sk t tx p + 1 else sk t tx p) (flK (X 1 3) (ek t tx p)) (flF (X 1 3) (X 1 4) (ek t tx p) (sk t tx p)) Y → Q none Y) : zcl 67 [.ref 1] X Q := by
  have hx := ht.2.1
  simp (disch := first | omega | assumption | decide) only [e67, s67_0, s67_1, s67_4, s67_6, s67_9, s67_10, s67_11, s67_14, s67_15, s67_16, s67_19, s67_22, s67_23, s67_24, s67_25, s67_28, s67_31, Option.toList_some, Option.toList_none, List.cons_append, List.nil_append, if_true, if_false, eq_self, n1n0, ne10]
  refine c_next2 ht h2 hp (fun Y hY => ?_)
  have h3 := hY.2.2.2.1
  by_cases c : sk t tx p < t ∧ tx (sk t tx p) = 59
  · have e : sg t tx (sk t tx p) = nI 59 := (sgn_n hx (by decide)).mpr c
    have e2 : ek t tx p = 0 := if_pos c
    rw [e2, if_pos rfl, flK_0, flF_0] at hQ
    simp (disch := first | omega | assumption | decide) only [e67, s67_0, s67_1, s67_4, s67_6, s67_9, s67_10, s67_11, s67_14, s67_15, s67_16, s67_19, s67_22, s67_23, s67_24, s67_25, s67_28, s67_31, Option.toList_some, Option.toList_none, List.cons_append, List.nil_append, if_true, if_false, eq_self, n1n0, ne10, e, h3, nI_add]
    exact hQ _ (rd1_at hY)
  · have e : ¬ sg t tx (sk t tx p) = nI 59 := fun q => c ((sgn_n hx (by decide)).mp q)
    have e2 : ek t tx p = 1 := if_neg c
    rw [e2, if_neg (by decide)] at hQ
    simp (disch := first | omega | assumption | decide) only [e67, s67_0, s67_1, s67_4, s67_6, s67_9, s67_10, s67_11, s67_14, s67_15, s67_16, s67_19, s67_22, s67_23, s67_24, s67_25, s67_28, s67_31, Option.toList_some, Option.toList_none, List.cons_append, List.nil_append, if_true, if_false, eq_self, n1n0, ne10, e, h3]
    refine c_failR hY (by decide) (fun Z hZ => ?_)
    simp (disch := first | omega | assumption | decide) only [e67, s67_0, s67_1, s67_4, s67_6, s67_9, s67_10, s67_11, s67_14, s67_15, s67_16, s67_19, s67_22, s67_23, s67_24, s67_25, s67_28, s67_31, Option.toList_some, Option.toList_none, List.cons_append, List.nil_append, if_true, if_false, eq_self, n1n0, ne10]
    exact hQ Z hZ
theorem fig_n {t : Nat} {tx : Nat → Nat} {q : Nat} (hx : ∀ k, k < t → tx k ≤ 255) : (if sg t tx q < nI 48 then nI 0 else if nI 57 < sg t tx q then nI 0 else nI 1) = if q < t ∧ 48 ≤ tx q ∧ tx q ≤ 57 then nI 1 else nI 0 := by
  unfold sg
  by_cases h : q < t
  · have := hx q h
    rw [if_pos h]
    by_cases c1 : tx q < 48
    · rw [if_pos ((nI_ltI (by omega) (by omega)).mpr c1), if_neg (by omega)]
    · rw [if_neg (fun z => c1 ((nI_ltI (by omega) (by omega)).mp z))]
      by_cases c2 : 57 < tx q
      · rw [if_pos ((nI_ltI (by omega) (by omega)).mpr c2), if_neg (by omega)]
      · rw [if_neg (fun z => c2 ((nI_ltI (by omega) (by omega)).mp z)), if_pos (by omega)]
  · have h2 : ¬ (q < t ∧ 48 ≤ tx q ∧ tx q ≤ 57) := fun z => h z.1
    rw [if_neg h, if_neg h2]
    decide
theorem num_loop {m s : Nat} {k f : Int32} {l2 : Value} {e v : Nat} (hQ : ∀ Y, rd1 X e k f Y → zev 66 95 [.ref 1, .int (nI m), l2, .int (nI s), .int (nI (min v 1000000))] [] Y Q) : ∀ (n q a : Nat) (Y : zM), q + n = t → dg t tx q a = (e, v) → tC t tx Y → rd1 X q k f Y → zev 66 31 [.ref 1, .int (nI m), l2, .int (nI s), .int (nI (min a 1000000))] [] Y Q := by
  intro n
  induction n with
  | zero =>
    intro q a Y hq hd ht hY
    rw [dg_end (by omega)] at hd
    cases hd
    have kk := hQ Y hY
    obtain ⟨t1, t2, t3, t4⟩ := ht
    have h2 := hY.2.2.2.1
    have c : ¬ e < t := by omega
    rw [s66_31]
    simp (disch := first | omega | assumption | decide) only [s66_32, s66_35, s66_36, s66_39, h2, t3, nI_ltI, c, if_false]
    exact kk
  | succ n ih =>
    intro q a Y hq hd ht hY
    have hlt : q < t := by omega
    obtain ⟨t1, t2, t3, t4⟩ := id ht
    have h2 := hY.2.2.2.1
    have h3 := t4 q hlt
    have h4 := t2 q hlt
    by_cases c : 48 ≤ tx q ∧ tx q ≤ 57
    · have hfg : (if tx q < 48 then nI 0 else if 57 < tx q then nI 0 else nI 1) = nI 1 := by rw [if_neg (by omega), if_neg (by omega)]
      rw [dg_y hlt c] at hd
      have kk := ih (q + 1) _ _ (by omega) hd (by
        refine ⟨t1, t2, ?_, fun k hk => ?_⟩
        · rw [zst_at, upd_ne _ _ (by decide)]; exact t3
        · rw [zst_ne _ _ (by decide)]; exact t4 k hk) (rd1_at (q := q + 1) hY)
      have hmn : min (min a 1000000 * 10 + tx q - 48) 1000000 = min (a * 10 + (tx q - 48)) 1000000 := by omega
      have hsub : nI (min a 1000000 * 10 + tx q) - nI 48 = nI (min a 1000000 * 10 + tx q - 48) := pk_sub (by omega)
      rw [← hmn] at kk
      rw [s66_31]
      simp (disch := first | omega | assumption | decide) only [e66, s66_0, s66_1, s66_4, s66_5, s66_6, s66_9, s66_12, s66_13, s66_14, s66_15, s66_18, s66_21, s66_22, s66_23, s66_24, s66_27, s66_28, s66_29, s66_32, s66_35, s66_36, s66_39, s66_42, s66_43, s66_46, s66_47, s66_50, s66_51, s66_54, s66_57, s66_59, s66_61, s66_62, s66_63, s66_66, s66_67, s66_70, s66_71, s66_72, s66_74, s66_75, s66_77, s66_80, s66_82, s66_83, s66_84, s66_87, s66_88, s66_89, s66_92, s66_95, s66_96, s66_99, s66_100, s66_101, s66_102, s66_105, s66_107, s66_108, s66_111, s66_112, s66_113, s66_114, s66_117, s66_119, Option.toList_some, Option.toList_none, List.cons_append, List.nil_append, if_true, if_false, eq_self, n1n0, ne10, h2, t3, nI_ltI, nI_add, pk_mul, hlt, h3, c_isFigure, hfg, hsub, mn_N, n1n0]
      exact kk
    · have hfg : (if tx q < 48 then nI 0 else if 57 < tx q then nI 0 else nI 1) = nI 0 := by
        by_cases d : tx q < 48
        · rw [if_pos d]
        · rw [if_neg d, if_pos (by omega)]
      rw [dg_n hlt c] at hd
      cases hd
      have kk := hQ Y hY
      rw [s66_31]
      simp (disch := first | omega | assumption | decide) only [s66_32, s66_35, s66_36, s66_39, s66_42, s66_43, s66_46, s66_47, s66_50, s66_51, s66_54, Option.toList_some, Option.toList_none, List.cons_append, List.nil_append, if_true, if_false, eq_self, n1n0, ne10, h2, t3, nI_ltI, hlt, h3, c_isFigure, hfg]
      exact kk
theorem c_numC {m : Nat} (hm : m ≤ 20) (ht : tC t tx X) (h2 : X 1 2 = nI p) (hp : p ≤ t) (hQ : ∀ Y v, (nk t tx m p = 0 → v = nI (nv t tx p)) → rd1 X (ne t tx p) (flK (X 1 3) (nk t tx m p)) (flF (X 1 3) (X 1 4) (nk t tx m p) (sk t tx p)) Y → Q (some (.int v)) Y) : zcl 66 [.ref 1, .int (nI m)] X Q := by
  have hx := ht.2.1
  have ht240 := ht.1
  have l1 := sk_le (tx := tx) hp
  have l2 := ne_le (tx := tx) hp
  simp (disch := first | omega | assumption | decide) only [e66, s66_0, s66_1, s66_4, s66_5, s66_6, s66_9, s66_12, s66_13, s66_14, s66_15, s66_18, s66_21, s66_22, s66_23, s66_24, s66_27, s66_28, s66_29, s66_32, s66_35, s66_36, s66_39, s66_42, s66_43, s66_46, s66_47, s66_50, s66_51, s66_54, s66_57, s66_59, s66_61, s66_62, s66_63, s66_66, s66_67, s66_70, s66_71, s66_72, s66_74, s66_75, s66_77, s66_80, s66_82, s66_83, s66_84, s66_87, s66_88, s66_89, s66_92, s66_95, s66_96, s66_99, s66_100, s66_101, s66_102, s66_105, s66_107, s66_108, s66_111, s66_112, s66_113, s66_114, s66_117, s66_119, Option.toList_some, Option.toList_none, List.cons_append, List.nil_append, if_true, if_false, eq_self, n1n0, ne10]
  refine c_next2 ht h2 hp (fun Y hY => ?_)
  have h3 := hY.2.2.2.1
  have hfg := fig_n (q := sk t tx p) hx
  by_cases c : sk t tx p < t ∧ 48 ≤ tx (sk t tx p) ∧ tx (sk t tx p) ≤ 57
  · rw [if_pos c] at hfg
    have hnk : nk t tx m p = if 3 < ne t tx p - sk t tx p ∨ m < nv t tx p then 2 else 0 := if_pos c
    simp (disch := first | omega | assumption | decide) only [e66, s66_0, s66_1, s66_4, s66_5, s66_6, s66_9, s66_12, s66_13, s66_14, s66_15, s66_18, s66_21, s66_22, s66_23, s66_24, s66_27, s66_28, s66_29, s66_32, s66_35, s66_36, s66_39, s66_42, s66_43, s66_46, s66_47, s66_50, s66_51, s66_54, s66_57, s66_59, s66_61, s66_62, s66_63, s66_66, s66_67, s66_70, s66_71, s66_72, s66_74, s66_75, s66_77, s66_80, s66_82, s66_83, s66_84, s66_87, s66_88, s66_89, s66_92, s66_95, s66_96, s66_99, s66_100, s66_101, s66_102, s66_105, s66_107, s66_108, s66_111, s66_112, s66_113, s66_114, s66_117, s66_119, Option.toList_some, Option.toList_none, List.cons_append, List.nil_append, if_true, if_false, eq_self, n1n0, ne10, c_isFigure, hfg, n1n0, h3]
    refine num_loop (X := X) (m := m) (s := sk t tx p) (k := X 1 3) (f := X 1 4) (e := ne t tx p) (v := nv t tx p) (fun Z hZ => ?_) (t - sk t tx p) (sk t tx p) 0 Y (by omega) rfl (rd1_tC hY ht) hY
    have h4 := hZ.2.2.2.1
    have hsub : nI (ne t tx p) - nI (sk t tx p) = nI (ne t tx p - sk t tx p) := pk_sub (by omega)
    by_cases c1 : 3 < ne t tx p - sk t tx p
    · rw [if_pos (Or.inl c1)] at hnk
      simp (disch := first | omega | assumption | decide) only [e66, s66_0, s66_1, s66_4, s66_5, s66_6, s66_9, s66_12, s66_13, s66_14, s66_15, s66_18, s66_21, s66_22, s66_23, s66_24, s66_27, s66_28, s66_29, s66_32, s66_35, s66_36, s66_39, s66_42, s66_43, s66_46, s66_47, s66_50, s66_51, s66_54, s66_57, s66_59, s66_61, s66_62, s66_63, s66_66, s66_67, s66_70, s66_71, s66_72, s66_74, s66_75, s66_77, s66_80, s66_82, s66_83, s66_84, s66_87, s66_88, s66_89, s66_92, s66_95, s66_96, s66_99, s66_100, s66_101, s66_102, s66_105, s66_107, s66_108, s66_111, s66_112, s66_113, s66_114, s66_117, s66_119, Option.toList_some, Option.toList_none, List.cons_append, List.nil_append, if_true, if_false, eq_self, n1n0, ne10, h4, hsub, nI_ltI, c1]
      refine c_failR (w := sk t tx p) hZ (by decide) (fun V hV => ?_)
      simp (disch := first | omega | assumption | decide) only [e66, s66_0, s66_1, s66_4, s66_5, s66_6, s66_9, s66_12, s66_13, s66_14, s66_15, s66_18, s66_21, s66_22, s66_23, s66_24, s66_27, s66_28, s66_29, s66_32, s66_35, s66_36, s66_39, s66_42, s66_43, s66_46, s66_47, s66_50, s66_51, s66_54, s66_57, s66_59, s66_61, s66_62, s66_63, s66_66, s66_67, s66_70, s66_71, s66_72, s66_74, s66_75, s66_77, s66_80, s66_82, s66_83, s66_84, s66_87, s66_88, s66_89, s66_92, s66_95, s66_96, s66_99, s66_100, s66_101, s66_102, s66_105, s66_107, s66_108, s66_111, s66_112, s66_113, s66_114, s66_117, s66_119, Option.toList_some, Option.toList_none, List.cons_append, List.nil_append, if_true, if_false, eq_self, n1n0, ne10]
      exact hQ V _ (fun q => absurd q (by omega)) (by rw [hnk]; exact hV)
    · by_cases c2 : m < nv t tx p
      · rw [if_pos (Or.inr c2)] at hnk
        have c3 : m < min (nv t tx p) 1000000 := by omega
        simp (disch := first | omega | assumption | decide) only [e66, s66_0, s66_1, s66_4, s66_5, s66_6, s66_9, s66_12, s66_13, s66_14, s66_15, s66_18, s66_21, s66_22, s66_23, s66_24, s66_27, s66_28, s66_29, s66_32, s66_35, s66_36, s66_39, s66_42, s66_43, s66_46, s66_47, s66_50, s66_51, s66_54, s66_57, s66_59, s66_61, s66_62, s66_63, s66_66, s66_67, s66_70, s66_71, s66_72, s66_74, s66_75, s66_77, s66_80, s66_82, s66_83, s66_84, s66_87, s66_88, s66_89, s66_92, s66_95, s66_96, s66_99, s66_100, s66_101, s66_102, s66_105, s66_107, s66_108, s66_111, s66_112, s66_113, s66_114, s66_117, s66_119, Option.toList_some, Option.toList_none, List.cons_append, List.nil_append, if_true, if_false, eq_self, n1n0, ne10, h4, hsub, nI_ltI, c1, c3]
        refine c_failR (w := sk t tx p) hZ (by decide) (fun V hV => ?_)
        simp (disch := first | omega | assumption | decide) only [e66, s66_0, s66_1, s66_4, s66_5, s66_6, s66_9, s66_12, s66_13, s66_14, s66_15, s66_18, s66_21, s66_22, s66_23, s66_24, s66_27, s66_28, s66_29, s66_32, s66_35, s66_36, s66_39, s66_42, s66_43, s66_46, s66_47, s66_50, s66_51, s66_54, s66_57, s66_59, s66_61, s66_62, s66_63, s66_66, s66_67, s66_70, s66_71, s66_72, s66_74, s66_75, s66_77, s66_80, s66_82, s66_83, s66_84, s66_87, s66_88, s66_89, s66_92, s66_95, s66_96, s66_99, s66_100, s66_101, s66_102, s66_105, s66_107, s66_108, s66_111, s66_112, s66_113, s66_114, s66_117, s66_119, Option.toList_some, Option.toList_none, List.cons_append, List.nil_append, if_true, if_false, eq_self, n1n0, ne10]
        exact hQ V _ (fun q => absurd q (by omega)) (by rw [hnk]; exact hV)
      · rw [if_neg (by omega)] at hnk
        have c3 : ¬ m < min (nv t tx p) 1000000 := by omega
        have c4 : min (nv t tx p) 1000000 = nv t tx p := by omega
        rw [hnk, flK_0, flF_0] at hQ
        rw [c4] at c3
        rw [c4]
        simp (disch := first | omega | assumption | decide) only [e66, s66_0, s66_1, s66_4, s66_5, s66_6, s66_9, s66_12, s66_13, s66_14, s66_15, s66_18, s66_21, s66_22, s66_23, s66_24, s66_27, s66_28, s66_29, s66_32, s66_35, s66_36, s66_39, s66_42, s66_43, s66_46, s66_47, s66_50, s66_51, s66_54, s66_57, s66_59, s66_61, s66_62, s66_63, s66_66, s66_67, s66_70, s66_71, s66_72, s66_74, s66_75, s66_77, s66_80, s66_82, s66_83, s66_84, s66_87, s66_88, s66_89, s66_92, s66_95, s66_96, s66_99, s66_100, s66_101, s66_102, s66_105, s66_107, s66_108, s66_111, s66_112, s66_113, s66_114, s66_117, s66_119, Option.toList_some, Option.toList_none, List.cons_append, List.nil_append, if_true, if_false, eq_self, n1n0, ne10, h4, hsub, nI_ltI, c1, c3]
        exact hQ Z _ (fun _ => rfl) hZ
  · rw [if_neg c] at hfg
    have hnk : nk t tx m p = 1 := if_neg c
    have hne : ne t tx p = sk t tx p := by
      unfold ne
      by_cases c1 : sk t tx p < t
      · rw [dg_n c1 (fun z => c ⟨c1, z⟩)]
      · rw [dg_end (by omega)]
    rw [hnk, hne] at hQ
    simp (disch := first | omega | assumption | decide) only [e66, s66_0, s66_1, s66_4, s66_5, s66_6, s66_9, s66_12, s66_13, s66_14, s66_15, s66_18, s66_21, s66_22, s66_23, s66_24, s66_27, s66_28, s66_29, s66_32, s66_35, s66_36, s66_39, s66_42, s66_43, s66_46, s66_47, s66_50, s66_51, s66_54, s66_57, s66_59, s66_61, s66_62, s66_63, s66_66, s66_67, s66_70, s66_71, s66_72, s66_74, s66_75, s66_77, s66_80, s66_82, s66_83, s66_84, s66_87, s66_88, s66_89, s66_92, s66_95, s66_96, s66_99, s66_100, s66_101, s66_102, s66_105, s66_107, s66_108, s66_111, s66_112, s66_113, s66_114, s66_117, s66_119, Option.toList_some, Option.toList_none, List.cons_append, List.nil_append, if_true, if_false, eq_self, n1n0, ne10, c_isFigure, hfg, h3]
    refine c_failR hY (by decide) (fun V hV => ?_)
    simp (disch := first | omega | assumption | decide) only [e66, s66_0, s66_1, s66_4, s66_5, s66_6, s66_9, s66_12, s66_13, s66_14, s66_15, s66_18, s66_21, s66_22, s66_23, s66_24, s66_27, s66_28, s66_29, s66_32, s66_35, s66_36, s66_39, s66_42, s66_43, s66_46, s66_47, s66_50, s66_51, s66_54, s66_57, s66_59, s66_61, s66_62, s66_63, s66_66, s66_67, s66_70, s66_71, s66_72, s66_74, s66_75, s66_77, s66_80, s66_82, s66_83, s66_84, s66_87, s66_88, s66_89, s66_92, s66_95, s66_96, s66_99, s66_100, s66_101, s66_102, s66_105, s66_107, s66_108, s66_111, s66_112, s66_113, s66_114, s66_117, s66_119, Option.toList_some, Option.toList_none, List.cons_append, List.nil_append, if_true, if_false, eq_self, n1n0, ne10]
    exact hQ V _ (fun q => absurd q (by decide)) hV
end LC
