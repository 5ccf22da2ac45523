/-! coast: the reference reads letters, numbers -/
section LM
variable {X : zM} {Q : Option Value → zM → Prop} {t : Nat} {tx : Nat → Nat} {p : Nat}
def tM (t : Nat) (tx : Nat → Nat) (X : zM) : Prop := t ≤ 240 ∧ (∀ k, k < t → tx k ≤ 255) ∧ X 39 17 = nI t ∧ ∀ k, k < t → X 47 k = nI (tx k)
/-- the reader has moved to p, no more -/
def hd1 (X : zM) (p : Nat) (Y : zM) : Prop := (∀ c, c ≠ 39 → Y c = X c) ∧ (∀ j, j ≠ 18 → Y 39 j = X 39 j) ∧ Y 39 18 = nI p
/-- moved, with a fault -/
def rd2 (X : zM) (p : Nat) (k f : Int32) (Y : zM) : Prop := (∀ c, c ≠ 39 → Y c = X c) ∧ (∀ j, (j < 18 ∨ 21 < j) → Y 39 j = X 39 j) ∧ Y 39 18 = nI p ∧ Y 39 20 = k ∧ Y 39 21 = f
theorem rd2_tM {k f : Int32} {Y : zM} (h : rd2 X p k f Y) (ht : tM t tx X) : tM t tx Y := by
  obtain ⟨h1, h2, h3, h4⟩ := ht
  refine ⟨h1, h2, ?_, fun k hk => ?_⟩
  · rw [h.2.1 17 (by omega)]; exact h3
  · rw [h.1 47 (by decide)]; exact h4 k hk
theorem hd1_tM {Y : zM} (h : hd1 X p Y) (ht : tM t tx X) : tM t tx Y := by
  obtain ⟨h1, h2, h3, h4⟩ := ht
  refine ⟨h1, h2, ?_, fun k hk => ?_⟩
  · rw [h.2.1 17 (by omega)]; exact h3
  · rw [h.1 47 (by decide)]; exact h4 k hk
theorem hd1_rd2 {Y : zM} (h : hd1 X p Y) : rd2 X p (X 39 20) (X 39 21) Y := ⟨h.1, fun j hj => h.2.1 j (by omega), h.2.2, h.2.1 20 (by decide), h.2.1 21 (by decide)⟩
theorem rd2_tr {k f k2 f2 : Int32} {p2 : Nat} {Y Z : zM} (h : rd2 X p k f Y) (h2 : rd2 Y p2 k2 f2 Z) : rd2 X p2 k2 f2 Z := ⟨fun c hc => (h2.1 c hc).trans (h.1 c hc), fun j hj => (h2.2.1 j hj).trans (h.2.1 j hj), h2.2.2⟩
theorem here_end {q : Nat} {Y : zM} (ht : tM t tx Y) (hq : q ≤ t) (h2 : Y 39 18 = nI q) (hQ : Q (some (.int (sg t tx q))) Y) : zev 43 38 [.ref 39] [] Y Q := by
  obtain ⟨t1, t2, t3, t4⟩ := ht
  unfold sg at hQ
  by_cases c : q < t
  · have e := t4 q c
    rw [if_pos c] at hQ
    simp (disch := first | omega | assumption | decide) only [e43, s43_1, s43_4, s43_5, s43_8, s43_11, s43_12, s43_15, s43_16, s43_19, s43_20, s43_22, s43_25, s43_26, s43_27, s43_30, s43_31, s43_32, s43_35, s43_38, s43_39, s43_42, s43_43, s43_46, s43_49, s43_50, s43_53, s43_54, s43_57, s43_58, s43_61, s43_62, Option.toList_some, Option.toList_none, List.cons_append, List.nil_append, if_true, if_false, eq_self, n1n0, ne10, h2, t3, nI_ltI, c, e]
    exact hQ
  · rw [if_neg c] at hQ
    simp (disch := first | omega | assumption | decide) only [e43, s43_1, s43_4, s43_5, s43_8, s43_11, s43_12, s43_15, s43_16, s43_19, s43_20, s43_22, s43_25, s43_26, s43_27, s43_30, s43_31, s43_32, s43_35, s43_38, s43_39, s43_42, s43_43, s43_46, s43_49, s43_50, s43_53, s43_54, s43_57, s43_58, s43_61, s43_62, Option.toList_some, Option.toList_none, List.cons_append, List.nil_append, if_true, if_false, eq_self, n1n0, ne10, h2, t3, nI_ltI, c]
    exact hQ
theorem hd1_at {q : Nat} {Y : zM} (hY : hd1 X p Y) : hd1 X q (zst Y 39 (upd (Y 39) 18 (nI q))) := by
  obtain ⟨y1, y2, y3⟩ := hY
  refine ⟨fun c hc => by rw [zst_ne _ _ hc]; exact y1 c hc, fun j hj => ?_, ?_⟩
  · rw [zst_at, upd_ne _ _ hj]; exact y2 j hj
  · rw [zst_at, upd_at]
theorem here_loop (hQ : ∀ Y, hd1 X (sk t tx p) Y → Q (some (.int (sg t tx (sk t tx p)))) Y) : ∀ (n q : Nat) (Y : zM), q + n = t → sk t tx q = sk t tx p → tM t tx Y → hd1 X q Y → zev 43 0 [.ref 39] [] Y Q := by
  intro n
  induction n with
  | zero =>
    intro q Y hq hs ht hY
    have e : sk t tx q = q := sk_end (by omega)
    rw [← hs, e] at hQ
    have k := here_end ht (by omega) hY.2.2 (hQ Y hY)
    obtain ⟨t1, t2, t3, t4⟩ := ht
    have h2 := hY.2.2
    have c : ¬ q < t := by omega
    rw [s43_0]
    simp (disch := first | omega | assumption | decide) only [s43_1, s43_4, s43_5, s43_8, h2, t3, nI_ltI, c, if_false]
    exact k
  | succ n ih =>
    intro q Y hq hs ht hY
    have hlt : q < t := by omega
    obtain ⟨t1, t2, t3, t4⟩ := id ht
    have h2 := hY.2.2
    have h3 := t4 q hlt
    have h4 := t2 q hlt
    by_cases c : tx q = 32
    · have hZ := hd1_at (q := q + 1) hY
      have kk := ih (q + 1) _ (by omega) (by rw [← hs]; exact (sk_sp hlt c).symm) (by
        refine ⟨t1, t2, ?_, fun k hk => ?_⟩
        · rw [zst_at, upd_ne _ _ (by decide)]; exact t3
        · rw [zst_ne _ _ (by decide)]; exact t4 k hk) hZ
      have c2 : nI (tx q) = nI 32 := by rw [c]
      rw [s43_0]
      simp (disch := first | omega | assumption | decide) only [s43_1, s43_4, s43_5, s43_8, s43_11, s43_12, s43_15, s43_16, s43_19, s43_20, s43_22, s43_25, s43_26, s43_27, s43_30, s43_31, s43_32, s43_35, h2, t3, nI_ltI, nI_add, hlt, h3, c2, if_true]
      exact kk
    · have e : sk t tx q = q := sk_no hlt c
      rw [← hs, e] at hQ
      have k := here_end ht (by omega) h2 (hQ Y hY)
      have c2 : ¬ nI (tx q) = nI 32 := fun z => c ((nI_eq (by omega) (by omega)).mp z)
      rw [s43_0]
      simp (disch := first | omega | assumption | decide) only [s43_1, s43_4, s43_5, s43_8, s43_11, s43_12, s43_15, s43_16, s43_19, s43_20, s43_22, h2, t3, nI_ltI, hlt, h3, c2, if_true, if_false]
      exact k
theorem c_here (ht : tM t tx X) (h2 : X 39 18 = nI p) (hp : p ≤ t) (hQ : ∀ Y, hd1 X (sk t tx p) Y → Q (some (.int (sg t tx (sk t tx p)))) Y) : zcl 43 [.ref 39] X Q := by
  simp (disch := first | omega | assumption | decide) only [e43]
  exact here_loop hQ (t - p) p X (by omega) rfl ht ⟨fun _ _ => rfl, fun _ _ => rfl, h2⟩
theorem c_want1 {n w : Int32} (h : X 39 20 = nI 0) : zcl 44 [.ref 39, .int (nI 1), .int n, .int w] X Q = Q (some (.int (nI 1))) X := by
  have z1 : nI 1 = nI 0 ∨ nI 1 = nI 1 := Or.inr rfl
  simp (disch := first | omega | assumption | decide) only [e44, s44_0, s44_1, s44_4, s44_5, s44_8, s44_11, s44_12, s44_13, s44_16, s44_17, s44_18, s44_21, s44_22, s44_25, s44_28, s44_29, s44_32, s44_33a, s44_33b, s44_33, Option.toList_some, Option.toList_none, List.cons_append, List.nil_append, if_true, if_false, eq_self, n1n0, ne10, h, n1n0]
theorem c_want0 {n : Nat} {w : Int32} (h : X 39 20 = nI 0) (hn : ¬ n = 0) (hn3 : n ≤ 3) : zcl 44 [.ref 39, .int (nI 0), .int (nI n), .int w] X Q = Q (some (.int (nI 0))) (zst X 39 (upd (upd (X 39) 20 (nI n)) 21 w)) := by
  have n0 : ¬ nI n = nI 0 := fun q => hn ((nI_eq (by omega) (by decide)).mp q)
  have e : upd (upd (X 39) 20 (nI n)) 21 w 20 = nI n := by rw [upd_ne _ _ (by decide), upd_at]
  have z1 : nI 0 = nI 0 ∨ nI 0 = nI 1 := Or.inl rfl
  simp (disch := first | omega | assumption | decide) only [e44, s44_0, s44_1, s44_4, s44_5, s44_8, s44_11, s44_12, s44_13, s44_16, s44_17, s44_18, s44_21, s44_22, s44_25, s44_28, s44_29, s44_32, s44_33a, s44_33b, s44_33, Option.toList_some, Option.toList_none, List.cons_append, List.nil_append, if_true, if_false, eq_self, n1n0, ne10, h, zst_at, zst_zst, e, n0]
theorem c_wantF {g n w : Int32} (h : ¬ X 39 20 = nI 0) : zcl 44 [.ref 39, .int g, .int n, .int w] X Q = Q (some (.int (nI 0))) X := by
  have z1 : nI 0 = nI 0 ∨ nI 0 = nI 1 := Or.inl rfl
  by_cases c : g = nI 0
  · simp (disch := first | omega | assumption | decide) only [e44, s44_0, s44_1, s44_4, s44_5, s44_8, s44_11, s44_12, s44_13, s44_16, s44_17, s44_18, s44_21, s44_22, s44_25, s44_28, s44_29, s44_32, s44_33a, s44_33b, s44_33, Option.toList_some, Option.toList_none, List.cons_append, List.nil_append, if_true, if_false, eq_self, n1n0, ne10, h, c]
  · simp (disch := first | omega | assumption | decide) only [e44, s44_0, s44_1, s44_4, s44_5, s44_8, s44_11, s44_12, s44_13, s44_16, s44_17, s44_18, s44_21, s44_22, s44_25, s44_28, s44_29, s44_32, s44_33a, s44_33b, s44_33, Option.toList_some, Option.toList_none, List.cons_append, List.nil_append, if_true, if_false, eq_self, n1n0, ne10, h, c]
theorem tnM_loop {e v : Nat} {l1 l3 : Value} (hQ : ∀ Y x, hd1 X e Y → (x = v ∨ (99999 < x ∧ 99999 < v)) → x ≤ 1000000 → zev 90 123 [.ref 39, l1, .int (nI x), l3] [] Y Q) : ∀ (n q a x : Nat) (Y : zM), q + n = t → dg t tx q a = (e, v) → tM t tx Y → hd1 X q Y → (x = a ∨ (99999 < x ∧ 99999 < a)) → x ≤ 1000000 → zev 90 49 [.ref 39, l1, .int (nI x), l3] [] Y Q := by
  intro n
  induction n with
  | zero =>
    intro q a x Y hq hd ht hY hx hx2
    rw [dg_end (by omega)] at hd
    cases hd
    have kk := hQ Y x hY hx hx2
    obtain ⟨t1, t2, t3, t4⟩ := ht
    have h2 := hY.2.2
    have c : ¬ e < t := by omega
    rw [s90_49]
    simp (disch := first | omega | assumption | decide) only [s90_50, s90_53, s90_54, s90_57, h2, t3, nI_ltI, c, if_false]
    exact kk
  | succ n ih =>
    intro q a x Y hq hd ht hY hx hx2
    have hlt : q < t := by omega
    obtain ⟨t1, t2, t3, t4⟩ := id ht
    have h2 := hY.2.2
    have h3 := t4 q hlt
    have h4 := t2 q hlt
    by_cases c : 48 ≤ tx q ∧ tx q ≤ 57
    · have hfg : (if tx q < 48 then nI 0 else if 57 < tx q then nI 0 else nI 1) = nI 1 := by rw [if_neg (by omega), if_neg (by omega)]
      rw [dg_y hlt c] at hd
      have kk := fun x h1 h2 => ih (q + 1) _ x _ (by omega) hd (by
        refine ⟨t1, t2, ?_, fun k hk => ?_⟩
        · rw [zst_at, upd_ne _ _ (by decide)]; exact t3
        · rw [zst_ne _ _ (by decide)]; exact t4 k hk) (hd1_at (q := q + 1) hY) h1 h2
      rw [s90_49]
      by_cases c9 : 99999 < x
      · have k2 := kk x (Or.inr ⟨c9, by omega⟩) hx2
        simp (disch := first | omega | assumption | decide) only [e90, s90_0, s90_1, s90_4, s90_7, s90_8, s90_9, s90_10, s90_13, s90_14, s90_15, s90_16, s90_19, s90_22, s90_23, s90_24, s90_25, s90_28, s90_31, s90_34, s90_35, s90_36, s90_39, s90_42, s90_45, s90_46, s90_47, s90_48, s90_50, s90_53, s90_54, s90_57, s90_60, s90_61, s90_64, s90_65, s90_68, s90_69, s90_70, s90_73, s90_76, s90_79, s90_82, s90_83, s90_85, s90_88, s90_89, s90_92, s90_94, s90_95, s90_96, s90_97, s90_100, s90_101, s90_104, s90_105, s90_106, s90_108, s90_109, s90_110, s90_111, s90_112, s90_115, s90_116, s90_117, s90_120, s90_123, s90_124, s90_125, s90_128, s90_129, s90_132, s90_133, s90_134, s90_137, s90_138, s90_141, s90_142, s90_143, s90_144, s90_147, s90_150, s90_151, s90_152, Option.toList_some, Option.toList_none, List.cons_append, List.nil_append, if_true, if_false, eq_self, n1n0, ne10, li_0, li_1, li_255, li_48, li_57, li_60, li_30, li_9, li_10, li_12, li_2, li_100, c_in, h2, t3, nI_ltI, nI_add, pk_mul, hlt, h3, hfg, n1n0, c9]
        exact k2
      · have k2 := kk (10 * x + tx q - 48) (Or.inl (by omega)) (by omega)
        have hsub : nI (10 * x + tx q) - nI 48 = nI (10 * x + tx q - 48) := pk_sub (by omega)
        simp (disch := first | omega | assumption | decide) only [e90, s90_0, s90_1, s90_4, s90_7, s90_8, s90_9, s90_10, s90_13, s90_14, s90_15, s90_16, s90_19, s90_22, s90_23, s90_24, s90_25, s90_28, s90_31, s90_34, s90_35, s90_36, s90_39, s90_42, s90_45, s90_46, s90_47, s90_48, s90_50, s90_53, s90_54, s90_57, s90_60, s90_61, s90_64, s90_65, s90_68, s90_69, s90_70, s90_73, s90_76, s90_79, s90_82, s90_83, s90_85, s90_88, s90_89, s90_92, s90_94, s90_95, s90_96, s90_97, s90_100, s90_101, s90_104, s90_105, s90_106, s90_108, s90_109, s90_110, s90_111, s90_112, s90_115, s90_116, s90_117, s90_120, s90_123, s90_124, s90_125, s90_128, s90_129, s90_132, s90_133, s90_134, s90_137, s90_138, s90_141, s90_142, s90_143, s90_144, s90_147, s90_150, s90_151, s90_152, Option.toList_some, Option.toList_none, List.cons_append, List.nil_append, if_true, if_false, eq_self, n1n0, ne10, li_0, li_1, li_255, li_48, li_57, li_60, li_30, li_9, li_10, li_12, li_2, li_100, c_in, h2, t3, nI_ltI, nI_add, pk_mul, hlt, h3, hfg, n1n0, c9, hsub]
        exact k2
    · have hfg : (if tx q < 48 then nI 0 else if 57 < tx q then nI 0 else nI 1) = nI 0 := by
        by_cases d : tx q < 48
        · rw [if_pos d]
        · rw [if_neg d, if_pos (by omega)]
      rw [dg_n hlt c] at hd
      cases hd
      have kk := hQ Y x hY hx hx2
      rw [s90_49]
      simp (disch := first | omega | assumption | decide) only [s90_50, s90_53, s90_54, s90_57, s90_60, s90_61, s90_64, s90_65, s90_68, s90_69, s90_70, s90_73, s90_76, s90_79, Option.toList_some, Option.toList_none, List.cons_append, List.nil_append, if_true, if_false, eq_self, n1n0, ne10, li_0, li_1, li_255, li_48, li_57, li_60, li_30, li_9, li_10, li_12, li_2, li_100, c_in, h2, t3, nI_ltI, hlt, h3, hfg]
      exact kk
theorem rd2_bad {q n w : Nat} {Y : zM} (h1 : ∀ c, c ≠ 39 → Y c = X c) (h2 : ∀ j, (j < 18 ∨ 21 < j) → Y 39 j = X 39 j) (h3 : Y 39 18 = nI q) : rd2 X q (nI n) (nI w) (zst Y 39 (upd (upd (Y 39) 20 (nI n)) 21 (nI w))) := by
  refine ⟨fun c hc => by rw [zst_ne _ _ hc]; exact h1 c hc, fun j hj => ?_, ?_, ?_, ?_⟩
  · rw [zst_at, upd_ne _ _ (by omega), upd_ne _ _ (by omega)]; exact h2 j hj
  · rw [zst_at, upd_ne _ _ (by decide), upd_ne _ _ (by decide)]; exact h3
  · rw [zst_at, upd_ne _ _ (by decide), upd_at]
  · rw [zst_at, upd_at]
theorem c_takeIn {m : Nat} (hm : m ≤ 20) (ht : tM t tx X) (h2 : X 39 18 = nI p) (hp : p ≤ t) (h20 : X 39 20 = nI 0) (hf : ¬ nk t tx m p = 0 → ∀ Y, rd2 X (ne t tx p) (nI (nk t tx m p)) (nI (sk t tx p)) Y → Q (some (.int (nI 0))) Y) (ho : nk t tx m p = 0 → ∀ Y, rd2 X (ne t tx p) (nI 0) (X 39 21) Y → Q (some (.int (nI (nv t tx p)))) Y) : zcl 139 [.ref 39, .int (nI 0), .int (nI m)] X Q := by
  have hx := ht.2.1
  have ht240 := ht.1
  have l1 := sk_le (tx := tx) hp
  have l2 := ne_le (tx := tx) hp
  have nlt : ¬ nI 0 < nI 0 := Int32.lt_irrefl
  have p1 : nI 0 < nI 1 := by decide
  have p2 : nI 0 < nI 2 := by decide
  have n20 : ¬ nI 2 = nI 0 := by decide
  simp (disch := first | omega | assumption | decide) only [e139, s139_0, s139_1, s139_4, s139_5, s139_6, s139_7, s139_10, s139_13, s139_14, s139_15, s139_16, s139_17, s139_18, s139_19, s139_22, s139_25, s139_26, s139_29, s139_30, s139_31, s139_32, s139_35, s139_38, s139_40, s139_41, s139_44, s139_47, s139_48, s139_51, s139_52, Option.toList_some, Option.toList_none, List.cons_append, List.nil_append, if_true, if_false, eq_self, n1n0, ne10]
  simp (disch := first | omega | assumption | decide) only [e90, s90_0, s90_1, s90_4, s90_7, s90_8, s90_9, s90_10, s90_13, s90_14, s90_15, s90_16, s90_19, s90_22, s90_23, s90_24, s90_25, s90_28, s90_31, s90_34, s90_35, s90_36, s90_39, s90_42, s90_45, s90_46, s90_47, s90_48, s90_50, s90_53, s90_54, s90_57, s90_60, s90_61, s90_64, s90_65, s90_68, s90_69, s90_70, s90_73, s90_76, s90_79, s90_82, s90_83, s90_85, s90_88, s90_89, s90_92, s90_94, s90_95, s90_96, s90_97, s90_100, s90_101, s90_104, s90_105, s90_106, s90_108, s90_109, s90_110, s90_111, s90_112, s90_115, s90_116, s90_117, s90_120, s90_123, s90_124, s90_125, s90_128, s90_129, s90_132, s90_133, s90_134, s90_137, s90_138, s90_141, s90_142, s90_143, s90_144, s90_147, s90_150, s90_151, s90_152, Option.toList_some, Option.toList_none, List.cons_append, List.nil_append, if_true, if_false, eq_self, n1n0, ne10, h20, nlt]
  refine c_here ht h2 hp (fun Y hY => ?_)
  have h3 := hY.2.2
  have hfg := fig_n (q := sk t tx p) hx
  have y20 : Y 39 20 = nI 0 := by rw [hY.2.1 20 (by decide)]; exact h20
  generalize hV : zst Y 39 (upd (Y 39) 19 (nI (sk t tx p))) = V
  have v0 : ∀ c, c ≠ 39 → V c = X c := fun c hc => by rw [← hV, zst_ne _ _ hc]; exact hY.1 c hc
  have v1 : ∀ j, (j < 18 ∨ 19 < j) → V 39 j = X 39 j := fun j hj => by rw [← hV, zst_at, upd_ne _ _ (by omega)]; exact hY.2.1 j (by omega)
  have v18 : V 39 18 = nI (sk t tx p) := by rw [← hV, zst_at, upd_ne _ _ (by decide)]; exact h3
  have v19 : V 39 19 = nI (sk t tx p) := by rw [← hV, zst_at, upd_at]
  have v20 : V 39 20 = nI 0 := by rw [v1 20 (by omega)]; exact h20
  have tV : tM t tx V := ⟨ht.1, ht.2.1, by rw [v1 17 (by omega)]; exact ht.2.2.1, fun k hk => by rw [v0 47 (by decide)]; exact ht.2.2.2 k hk⟩
  by_cases c : sk t tx p < t ∧ 48 ≤ tx (sk t tx p) ∧ tx (sk t tx p) ≤ 57
  · rw [if_pos c] at hfg
    have hnk : nk t tx m p = if 3 < ne t tx p - sk t tx p ∨ m < nv t tx p then 2 else 0 := if_pos c
    have hw1 := fun Q n w => c_want1 (X := V) (Q := Q) (n := n) (w := w) v20
    simp (disch := first | omega | assumption | decide) only [e90, s90_0, s90_1, s90_4, s90_7, s90_8, s90_9, s90_10, s90_13, s90_14, s90_15, s90_16, s90_19, s90_22, s90_23, s90_24, s90_25, s90_28, s90_31, s90_34, s90_35, s90_36, s90_39, s90_42, s90_45, s90_46, s90_47, s90_48, s90_50, s90_53, s90_54, s90_57, s90_60, s90_61, s90_64, s90_65, s90_68, s90_69, s90_70, s90_73, s90_76, s90_79, s90_82, s90_83, s90_85, s90_88, s90_89, s90_92, s90_94, s90_95, s90_96, s90_97, s90_100, s90_101, s90_104, s90_105, s90_106, s90_108, s90_109, s90_110, s90_111, s90_112, s90_115, s90_116, s90_117, s90_120, s90_123, s90_124, s90_125, s90_128, s90_129, s90_132, s90_133, s90_134, s90_137, s90_138, s90_141, s90_142, s90_143, s90_144, s90_147, s90_150, s90_151, s90_152, Option.toList_some, Option.toList_none, List.cons_append, List.nil_append, if_true, if_false, eq_self, n1n0, ne10, li_0, li_1, li_255, li_48, li_57, li_60, li_30, li_9, li_10, li_12, li_2, li_100, c_in, h3, hV, v18, hfg, hw1, n1n0]
    refine tnM_loop (X := V) (e := ne t tx p) (v := nv t tx p) (fun Z x hZ hxv hx2 => ?_) (t - sk t tx p) (sk t tx p) 0 0 V (by omega) rfl tV ⟨fun _ _ => rfl, fun _ _ => rfl, v18⟩ (Or.inl rfl) (by omega)
    have h4 := hZ.2.2
    have z19 : Z 39 19 = nI (sk t tx p) := by rw [hZ.2.1 19 (by decide)]; exact v19
    have z20 : Z 39 20 = nI 0 := by rw [hZ.2.1 20 (by decide)]; exact v20
    have z0 : ∀ c, c ≠ 39 → Z c = X c := fun c hc => (hZ.1 c hc).trans (v0 c hc)
    have z1 : ∀ j, (j < 18 ∨ 21 < j) → Z 39 j = X 39 j := fun j hj => (hZ.2.1 j (by omega)).trans (v1 j (by omega))
    have hsub : nI (ne t tx p) - nI (sk t tx p) = nI (ne t tx p - sk t tx p) := pk_sub (by omega)
    by_cases c1 : 3 < ne t tx p - sk t tx p
    · rw [if_pos (Or.inl c1)] at hnk
      have c2 : ¬ ne t tx p - sk t tx p < 4 := by omega
      have hw0 := fun Q w => c_want0 (X := Z) (Q := Q) (n := 2) (w := w) z20 (by decide) (by decide)
      generalize hU : zst Z 39 (upd (upd (Z 39) 20 (nI 2)) 21 (nI (sk t tx p))) = U
      have hr2 : rd2 X (ne t tx p) (nI 2) (nI (sk t tx p)) U := by rw [← hU]; exact rd2_bad z0 z1 h4
      have u20 : U 39 20 = nI 2 := hr2.2.2.2.1
      have u20n : ¬ U 39 20 = nI 0 := by rw [u20]; decide
      have hwF := fun Q g n w => c_wantF (X := U) (Q := Q) (g := g) (n := n) (w := w) u20n
      rw [hnk] at hf
      simp (disch := first | omega | assumption | decide) only [e90, s90_0, s90_1, s90_4, s90_7, s90_8, s90_9, s90_10, s90_13, s90_14, s90_15, s90_16, s90_19, s90_22, s90_23, s90_24, s90_25, s90_28, s90_31, s90_34, s90_35, s90_36, s90_39, s90_42, s90_45, s90_46, s90_47, s90_48, s90_50, s90_53, s90_54, s90_57, s90_60, s90_61, s90_64, s90_65, s90_68, s90_69, s90_70, s90_73, s90_76, s90_79, s90_82, s90_83, s90_85, s90_88, s90_89, s90_92, s90_94, s90_95, s90_96, s90_97, s90_100, s90_101, s90_104, s90_105, s90_106, s90_108, s90_109, s90_110, s90_111, s90_112, s90_115, s90_116, s90_117, s90_120, s90_123, s90_124, s90_125, s90_128, s90_129, s90_132, s90_133, s90_134, s90_137, s90_138, s90_141, s90_142, s90_143, s90_144, s90_147, s90_150, s90_151, s90_152, Option.toList_some, Option.toList_none, List.cons_append, List.nil_append, if_true, if_false, eq_self, n1n0, ne10, h4, z19, hsub, nI_ltI, c2, hw0, hU]
      simp (disch := first | omega | assumption | decide) only [e139, s139_0, s139_1, s139_4, s139_5, s139_6, s139_7, s139_10, s139_13, s139_14, s139_15, s139_16, s139_17, s139_18, s139_19, s139_22, s139_25, s139_26, s139_29, s139_30, s139_31, s139_32, s139_35, s139_38, s139_40, s139_41, s139_44, s139_47, s139_48, s139_51, s139_52, Option.toList_some, Option.toList_none, List.cons_append, List.nil_append, if_true, if_false, eq_self, n1n0, ne10, u20, p2, hwF]
      exact hf (by decide) U hr2
    · have c2 : ne t tx p - sk t tx p < 4 := by omega
      have hw1 := fun Q n w => c_want1 (X := Z) (Q := Q) (n := n) (w := w) z20
      by_cases c3 : m < nv t tx p
      · rw [if_pos (Or.inr c3)] at hnk
        have c4 : m < x := by omega
        have hw0 := fun Q w => c_want0 (X := Z) (Q := Q) (n := 2) (w := w) z20 (by decide) (by decide)
        generalize hU : zst Z 39 (upd (upd (Z 39) 20 (nI 2)) 21 (nI (sk t tx p))) = U
        have hr2 : rd2 X (ne t tx p) (nI 2) (nI (sk t tx p)) U := by rw [← hU]; exact rd2_bad z0 z1 h4
        have u20 : U 39 20 = nI 2 := hr2.2.2.2.1
        rw [hnk] at hf
        have i0 : ¬ nI x < nI 0 := fun q => absurd ((nI_ltI (by omega) (by omega)).mp q) (by omega)
        have i1 : nI m < nI x := (nI_ltI (by omega) (by omega)).mpr c4
        simp (disch := first | omega | assumption | decide) only [e90, s90_0, s90_1, s90_4, s90_7, s90_8, s90_9, s90_10, s90_13, s90_14, s90_15, s90_16, s90_19, s90_22, s90_23, s90_24, s90_25, s90_28, s90_31, s90_34, s90_35, s90_36, s90_39, s90_42, s90_45, s90_46, s90_47, s90_48, s90_50, s90_53, s90_54, s90_57, s90_60, s90_61, s90_64, s90_65, s90_68, s90_69, s90_70, s90_73, s90_76, s90_79, s90_82, s90_83, s90_85, s90_88, s90_89, s90_92, s90_94, s90_95, s90_96, s90_97, s90_100, s90_101, s90_104, s90_105, s90_106, s90_108, s90_109, s90_110, s90_111, s90_112, s90_115, s90_116, s90_117, s90_120, s90_123, s90_124, s90_125, s90_128, s90_129, s90_132, s90_133, s90_134, s90_137, s90_138, s90_141, s90_142, s90_143, s90_144, s90_147, s90_150, s90_151, s90_152, Option.toList_some, Option.toList_none, List.cons_append, List.nil_append, if_true, if_false, eq_self, n1n0, ne10, h4, z19, hsub, nI_ltI, c2, hw1]
        simp (disch := first | omega | assumption | decide) only [e139, s139_0, s139_1, s139_4, s139_5, s139_6, s139_7, s139_10, s139_13, s139_14, s139_15, s139_16, s139_17, s139_18, s139_19, s139_22, s139_25, s139_26, s139_29, s139_30, s139_31, s139_32, s139_35, s139_38, s139_40, s139_41, s139_44, s139_47, s139_48, s139_51, s139_52, Option.toList_some, Option.toList_none, List.cons_append, List.nil_append, if_true, if_false, eq_self, n1n0, ne10, z20, z19, nlt, c_in, i0, i1, hw0, hU, u20, p2]
        exact hf (by decide) U hr2
      · rw [if_neg (by omega)] at hnk
        have ex : x = nv t tx p := by omega
        have i0 : ¬ nI (nv t tx p) < nI 0 := fun q => absurd ((nI_ltI (by omega) (by omega)).mp q) (by omega)
        have i1 : ¬ nI m < nI (nv t tx p) := fun q => absurd ((nI_ltI (by omega) (by omega)).mp q) (by omega)
        subst ex
        simp (disch := first | omega | assumption | decide) only [e90, s90_0, s90_1, s90_4, s90_7, s90_8, s90_9, s90_10, s90_13, s90_14, s90_15, s90_16, s90_19, s90_22, s90_23, s90_24, s90_25, s90_28, s90_31, s90_34, s90_35, s90_36, s90_39, s90_42, s90_45, s90_46, s90_47, s90_48, s90_50, s90_53, s90_54, s90_57, s90_60, s90_61, s90_64, s90_65, s90_68, s90_69, s90_70, s90_73, s90_76, s90_79, s90_82, s90_83, s90_85, s90_88, s90_89, s90_92, s90_94, s90_95, s90_96, s90_97, s90_100, s90_101, s90_104, s90_105, s90_106, s90_108, s90_109, s90_110, s90_111, s90_112, s90_115, s90_116, s90_117, s90_120, s90_123, s90_124, s90_125, s90_128, s90_129, s90_132, s90_133, s90_134, s90_137, s90_138, s90_141, s90_142, s90_143, s90_144, s90_147, s90_150, s90_151, s90_152, Option.toList_some, Option.toList_none, List.cons_append, List.nil_append, if_true, if_false, eq_self, n1n0, ne10, h4, z19, hsub, nI_ltI, c2, hw1]
        simp (disch := first | omega | assumption | decide) only [e139, s139_0, s139_1, s139_4, s139_5, s139_6, s139_7, s139_10, s139_13, s139_14, s139_15, s139_16, s139_17, s139_18, s139_19, s139_22, s139_25, s139_26, s139_29, s139_30, s139_31, s139_32, s139_35, s139_38, s139_40, s139_41, s139_44, s139_47, s139_48, s139_51, s139_52, Option.toList_some, Option.toList_none, List.cons_append, List.nil_append, if_true, if_false, eq_self, n1n0, ne10, z20, z19, nlt, c_in, i0, i1, n1n0, hw1]
        exact ho hnk Z ⟨z0, z1, h4, z20, by rw [hZ.2.1 21 (by decide)]; exact v1 21 (by omega)⟩
  · rw [if_neg c] at hfg
    have hnk : nk t tx m p = 1 := if_neg c
    have hne : ne t tx p = sk t tx p := by
      unfold ne
      by_cases c1 : sk t tx p < t
      · rw [dg_n c1 (fun z => c ⟨c1, z⟩)]
      · rw [dg_end (by omega)]
    rw [hnk, hne] at hf
    have hw0 := fun Q w => c_want0 (X := V) (Q := Q) (n := 1) (w := w) v20 (by decide) (by decide)
    generalize hU : zst V 39 (upd (upd (V 39) 20 (nI 1)) 21 (nI (sk t tx p))) = U
    have hr2 : rd2 X (sk t tx p) (nI 1) (nI (sk t tx p)) U := by rw [← hU]; exact rd2_bad v0 (fun j hj => v1 j (by omega)) v18
    have u20 : U 39 20 = nI 1 := hr2.2.2.2.1
    have u20n : ¬ U 39 20 = nI 0 := by rw [u20]; decide
    have hwF := fun Q g n w => c_wantF (X := U) (Q := Q) (g := g) (n := n) (w := w) u20n
    simp (disch := first | omega | assumption | decide) only [e90, s90_0, s90_1, s90_4, s90_7, s90_8, s90_9, s90_10, s90_13, s90_14, s90_15, s90_16, s90_19, s90_22, s90_23, s90_24, s90_25, s90_28, s90_31, s90_34, s90_35, s90_36, s90_39, s90_42, s90_45, s90_46, s90_47, s90_48, s90_50, s90_53, s90_54, s90_57, s90_60, s90_61, s90_64, s90_65, s90_68, s90_69, s90_70, s90_73, s90_76, s90_79, s90_82, s90_83, s90_85, s90_88, s90_89, s90_92, s90_94, s90_95, s90_96, s90_97, s90_100, s90_101, s90_104, s90_105, s90_106, s90_108, s90_109, s90_110, s90_111, s90_112, s90_115, s90_116, s90_117, s90_120, s90_123, s90_124, s90_125, s90_128, s90_129, s90_132, s90_133, s90_134, s90_137, s90_138, s90_141, s90_142, s90_143, s90_144, s90_147, s90_150, s90_151, s90_152, Option.toList_some, Option.toList_none, List.cons_append, List.nil_append, if_true, if_false, eq_self, n1n0, ne10, li_0, li_1, li_255, li_48, li_57, li_60, li_30, li_9, li_10, li_12, li_2, li_100, c_in, h3, hV, v18, hfg, hw0, hU]
    simp (disch := first | omega | assumption | decide) only [e139, s139_0, s139_1, s139_4, s139_5, s139_6, s139_7, s139_10, s139_13, s139_14, s139_15, s139_16, s139_17, s139_18, s139_19, s139_22, s139_25, s139_26, s139_29, s139_30, s139_31, s139_32, s139_35, s139_38, s139_40, s139_41, s139_44, s139_47, s139_48, s139_51, s139_52, Option.toList_some, Option.toList_none, List.cons_append, List.nil_append, if_true, if_false, eq_self, n1n0, ne10, u20, p1, hwF]
    exact hf (by decide) U hr2
theorem c_takeInF {k : Nat} {a b : Int32} (hk : ¬ k = 0) (hk3 : k ≤ 3) (h20 : X 39 20 = nI k) : zcl 139 [.ref 39, .int a, .int b] X Q = Q (some (.int (nI 0))) X := by
  have n0 : ¬ X 39 20 = nI 0 := by rw [h20]; exact fun q => hk ((nI_eq (by omega) (by decide)).mp q)
  have p0 : nI 0 < nI k := (nI_ltI (by decide) (by omega)).mpr (by omega)
  have hwF := fun Q g n w => c_wantF (X := X) (Q := Q) (g := g) (n := n) (w := w) n0
  simp (disch := first | omega | assumption | decide) only [e139, s139_0, s139_1, s139_4, s139_5, s139_6, s139_7, s139_10, s139_13, s139_14, s139_15, s139_16, s139_17, s139_18, s139_19, s139_22, s139_25, s139_26, s139_29, s139_30, s139_31, s139_32, s139_35, s139_38, s139_40, s139_41, s139_44, s139_47, s139_48, s139_51, s139_52, e90, s90_0, s90_1, s90_4, s90_7, s90_8, s90_9, s90_10, s90_13, s90_14, s90_15, s90_16, s90_19, s90_22, s90_23, s90_24, s90_25, s90_28, s90_31, s90_34, s90_35, s90_36, s90_39, s90_42, s90_45, s90_46, s90_47, s90_48, s90_50, s90_53, s90_54, s90_57, s90_60, s90_61, s90_64, s90_65, s90_68, s90_69, s90_70, s90_73, s90_76, s90_79, s90_82, s90_83, s90_85, s90_88, s90_89, s90_92, s90_94, s90_95, s90_96, s90_97, s90_100, s90_101, s90_104, s90_105, s90_106, s90_108, s90_109, s90_110, s90_111, s90_112, s90_115, s90_116, s90_117, s90_120, s90_123, s90_124, s90_125, s90_128, s90_129, s90_132, s90_133, s90_134, s90_137, s90_138, s90_141, s90_142, s90_143, s90_144, s90_147, s90_150, s90_151, s90_152, Option.toList_some, Option.toList_none, List.cons_append, List.nil_append, if_true, if_false, eq_self, n1n0, ne10, h20, p0, hwF]
end LM
