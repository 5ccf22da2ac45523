/-! tapNext -/
def cnP (s : Nat) (r : Nat → Nat) (x : Nat) : Nat → Nat
  | 0 => 0
  | v + 1 => cnP s r x v + (if bt s v = 1 ∧ r v = x then 1 else 0)
def mxN (f : Nat → Nat) : Nat → Nat
  | 0 => 0
  | n + 1 => max (f n) (mxN f n)
theorem cnP_le {s : Nat} {r : Nat → Nat} {x : Nat} : ∀ v, cnP s r x v ≤ v
  | 0 => Nat.le_refl _
  | v + 1 => by
    have h := cnP_le (s := s) (r := r) (x := x) v
    unfold cnP
    split <;> omega
theorem mx_le {f : Nat → Nat} {m : Nat} : ∀ {n : Nat}, (∀ x, x < n → f x ≤ m) → mxN f n ≤ m
  | 0, _ => Nat.zero_le _
  | n + 1, h => by
    have h1 := mx_le (f := f) (n := n) (fun x hx => h x (by omega))
    have h2 := h n (by omega)
    unfold mxN
    omega
theorem le_mx {f : Nat → Nat} : ∀ {n x : Nat}, x < n → f x ≤ mxN f n
  | 0, x, h => absurd h (by omega)
  | n + 1, x, h => by
    unfold mxN
    by_cases c : x = n
    · rw [c]; omega
    · have := le_mx (f := f) (n := n) (x := x) (by omega)
      omega
theorem mx_upd {f f2 : Nat → Nat} {y n : Nat} (hy : y < n) (h1 : f2 y = f y + 1) (h2 : ∀ x, x ≠ y → f2 x = f x) : mxN f2 n = max (mxN f n) (f y + 1) := by
  apply Nat.le_antisymm
  · refine mx_le (fun x hx => ?_)
    by_cases c : x = y
    · rw [c, h1]; omega
    · rw [h2 x c]
      have := le_mx (f := f) hx
      omega
  · have a : mxN f n ≤ mxN f2 n := mx_le (fun x hx => by
      refine Nat.le_trans ?_ (le_mx (f := f2) hx)
      by_cases c : x = y
      · rw [c, h1]; omega
      · rw [h2 x c]; omega)
    have b := le_mx (f := f2) hy
    rw [h1] at b
    omega
def gpN (R : Nat → Nat) (g s : Nat) : Nat := mxN (fun x => cnP s (wrN R g) x 10) 10
theorem gpN_le (R : Nat → Nat) (g s : Nat) : gpN R g s ≤ 10 := mx_le (fun _ _ => cnP_le _)
def blN (e : Nat → Nat) (n0 : Nat) : Nat → Int32 × Nat
  | 0 => (-1, n0)
  | g + 1 => if e g < (blN e n0 g).2 then (nI g, e g) else blN e n0 g
theorem blN_le {e : Nat → Nat} {n0 m : Nat} (h0 : n0 ≤ m) (h : ∀ g, e g ≤ m) : ∀ n, (blN e n0 n).2 ≤ m
  | 0 => h0
  | n + 1 => by
    have := blN_le h0 h n
    unfold blN
    split
    · exact h n
    · exact this
section TN
variable {D G B C : Nat} {W lim bear : Nat → Nat} {X : zM} {R : Nat → Nat} {nx x : Nat} {Q : Option Value → zM → Prop} {tn : Nat} {tg tr : Nat → Nat} {en : Nat} {eg et : Nat → Nat}
theorem gpart_loop {g s : Nat} (hG : G ≤ 7) (hs : cS G B X 57 R nx) (hr : okR B R) (hg : g < G) (hs2 : s < 1024) (hQ : ∀ p, Q (some (.int (nI (gpN R g s)))) (zst X 33 p)) : ∀ (n v : Nat) (p : Nat → Int32) (l5 : Value), v + n = 10 → (∀ x, x < 10 → p x = nI (cnP s (wrN R g) x v)) → zev 111 13 [.ref 28, .int (nI g), .int (nI s), .int (nI (mxN (fun x => cnP s (wrN R g) x v) 10)), .int (nI v), l5] [] (zst X 33 p) Q := by
  intro n
  induction n with
  | zero =>
    intro v p l5 hv hp
    have q : v = 10 := by omega
    subst q
    rw [s111_13]
    simp (disch := first | omega | assumption | decide) only [e111, s111_0, s111_1, s111_4, s111_5, s111_8, s111_9, s111_10, s111_11, s111_15, s111_17, s111_20, s111_21, s111_23, s111_26, s111_29, s111_30, s111_33, s111_34, s111_36, s111_39, s111_41, s111_42, s111_45, s111_47, s111_48, s111_49, s111_50, s111_51, s111_52, s111_53, s111_54, s111_57, s111_59, s111_60, s111_63, s111_64, s111_67, s111_70, s111_71, Option.toList_some, Option.toList_none, List.cons_append, List.nil_append, if_true, if_false, eq_self, n1n0, ne10, nI_ltI, show 9 < 10 by omega]
    exact hQ p
  | succ n ih =>
    intro v p l5 hv hp
    have hlt : ¬ 9 < v := by omega
    have hs' : cS G B (zst X 33 p) 57 R nx := cS_fr hs (fun c c1 c2 => zst_ne _ _ (by omega))
    have hhb := fun X Q => c_hasBitN (a := s) (b := v) (by omega) (by omega) X Q
    have hb2 := bt_lt s v
    by_cases c : bt s v = 1
    · rw [c] at hhb
      have hrb := fun Q => cc_readingBy (X := zst X 33 p) (Q := Q) (g := g) (v := v) hG hs' hr hg (by omega)
      have h9 := wrN_le R g v
      generalize hy : wrN R g v = y at hrb h9
      have hpy := hp y (by omega)
      have hcy := cnP_le (s := s) (r := wrN R g) (x := y) v
      have hmx : mxN (fun x => cnP s (wrN R g) x v) 10 ≤ v := mx_le (fun _ _ => cnP_le _)
      have e1 : cnP s (wrN R g) y (v + 1) = cnP s (wrN R g) y v + 1 := by
        show _ + (if bt s v = 1 ∧ wrN R g v = y then 1 else 0) = _
        rw [if_pos ⟨c, hy⟩]
      have e2 : ∀ x, x ≠ y → cnP s (wrN R g) x (v + 1) = cnP s (wrN R g) x v := fun x hx => by
        show _ + (if bt s v = 1 ∧ wrN R g v = x then 1 else 0) = _
        rw [if_neg (fun q => hx (by rw [← q.2, hy]))]
        rfl
      have e3 := mx_upd (f := fun x => cnP s (wrN R g) x v) (f2 := fun x => cnP s (wrN R g) x (v + 1)) (y := y) (n := 10) (by omega) e1 e2
      have hnew : ∀ x, x < 10 → upd p y (nI (cnP s (wrN R g) y v + 1)) x = nI (cnP s (wrN R g) x (v + 1)) := fun x hx => by
        by_cases c3 : x = y
        · rw [c3, upd_at, e1]
        · rw [upd_ne _ _ c3, e2 x c3]; exact hp x hx
      have k := ih (v + 1) _ (.int (nI y)) (by omega) hnew
      rw [e3] at k
      rw [s111_13]
      by_cases c4 : mxN (fun x => cnP s (wrN R g) x v) 10 < cnP s (wrN R g) y v + 1
      · rw [show max (mxN (fun x => cnP s (wrN R g) x v) 10) (cnP s (wrN R g) y v + 1) = cnP s (wrN R g) y v + 1 by omega] at k
        simp (disch := first | omega | assumption | decide) only [e111, s111_0, s111_1, s111_4, s111_5, s111_8, s111_9, s111_10, s111_11, s111_15, s111_17, s111_20, s111_21, s111_23, s111_26, s111_29, s111_30, s111_33, s111_34, s111_36, s111_39, s111_41, s111_42, s111_45, s111_47, s111_48, s111_49, s111_50, s111_51, s111_52, s111_53, s111_54, s111_57, s111_59, s111_60, s111_63, s111_64, s111_67, s111_70, s111_71, Option.toList_some, Option.toList_none, List.cons_append, List.nil_append, if_true, if_false, eq_self, n1n0, ne10, nI_ltI, hlt, hhb, hrb, zst_at, hpy, nI_add, zst_zst, upd_at, c4]
        exact k
      · rw [show max (mxN (fun x => cnP s (wrN R g) x v) 10) (cnP s (wrN R g) y v + 1) = mxN (fun x => cnP s (wrN R g) x v) 10 by omega] at k
        simp (disch := first | omega | assumption | decide) only [e111, s111_0, s111_1, s111_4, s111_5, s111_8, s111_9, s111_10, s111_11, s111_15, s111_17, s111_20, s111_21, s111_23, s111_26, s111_29, s111_30, s111_33, s111_34, s111_36, s111_39, s111_41, s111_42, s111_45, s111_47, s111_48, s111_49, s111_50, s111_51, s111_52, s111_53, s111_54, s111_57, s111_59, s111_60, s111_63, s111_64, s111_67, s111_70, s111_71, Option.toList_some, Option.toList_none, List.cons_append, List.nil_append, if_true, if_false, eq_self, n1n0, ne10, nI_ltI, hlt, hhb, hrb, zst_at, hpy, nI_add, zst_zst, upd_at, c4]
        exact k
    · rw [show bt s v = 0 by omega] at hhb
      have e2 : ∀ x, cnP s (wrN R g) x (v + 1) = cnP s (wrN R g) x v := fun x => by
        show _ + (if bt s v = 1 ∧ wrN R g v = x then 1 else 0) = _
        rw [if_neg (fun q => c q.1)]
        rfl
      have k := ih (v + 1) p l5 (by omega) (fun x hx => by rw [e2]; exact hp x hx)
      rw [show (fun x => cnP s (wrN R g) x (v + 1)) = fun x => cnP s (wrN R g) x v from funext e2] at k
      rw [s111_13]
      simp (disch := first | omega | assumption | decide) only [e111, s111_0, s111_1, s111_4, s111_5, s111_8, s111_9, s111_10, s111_11, s111_15, s111_17, s111_20, s111_21, s111_23, s111_26, s111_29, s111_30, s111_33, s111_34, s111_36, s111_39, s111_41, s111_42, s111_45, s111_47, s111_48, s111_49, s111_50, s111_51, s111_52, s111_53, s111_54, s111_57, s111_59, s111_60, s111_63, s111_64, s111_67, s111_70, s111_71, Option.toList_some, Option.toList_none, List.cons_append, List.nil_append, if_true, if_false, eq_self, n1n0, ne10, nI_ltI, hlt, hhb, nI_add]
      exact k
theorem mx_0 : ∀ n, mxN (fun _ => 0) n = 0
  | 0 => rfl
  | n + 1 => by unfold mxN; rw [mx_0 n]; rfl
theorem c_gpart {g s : Nat} (hG : G ≤ 7) (hs : cS G B X 57 R nx) (hr : okR B R) (hg : g < G) (hs2 : s < 1024) (hQ : ∀ p, Q (some (.int (nI (gpN R g s)))) (zst X 33 p)) : zcl 111 [.ref 28, .int (nI g), .int (nI s)] X Q := by
  simp (disch := first | omega | assumption | decide) only [e111, s111_0, s111_1, s111_4, s111_5, s111_8, s111_9, s111_10, s111_11, s111_15, s111_17, s111_20, s111_21, s111_23, s111_26, s111_29, s111_30, s111_33, s111_34, s111_36, s111_39, s111_41, s111_42, s111_45, s111_47, s111_48, s111_49, s111_50, s111_51, s111_52, s111_53, s111_54, s111_57, s111_59, s111_60, s111_63, s111_64, s111_67, s111_70, s111_71, Option.toList_some, Option.toList_none, List.cons_append, List.nil_append, if_true, if_false, eq_self, n1n0, ne10]
  refine c_fill (i := 33) (m := 10) rfl (by decide) (fun p hp => ?_)
  simp (disch := first | omega | assumption | decide) only [e111, s111_0, s111_1, s111_4, s111_5, s111_8, s111_9, s111_10, s111_11, s111_15, s111_17, s111_20, s111_21, s111_23, s111_26, s111_29, s111_30, s111_33, s111_34, s111_36, s111_39, s111_41, s111_42, s111_45, s111_47, s111_48, s111_49, s111_50, s111_51, s111_52, s111_53, s111_54, s111_57, s111_59, s111_60, s111_63, s111_64, s111_67, s111_70, s111_71, Option.toList_some, Option.toList_none, List.cons_append, List.nil_append, if_true, if_false, eq_self, n1n0, ne10]
  have k := gpart_loop hG hs hr hg hs2 hQ 10 0 p zU (by omega) hp
  rw [show mxN (fun x => cnP s (wrN R g) x 0) 10 = 0 from mx_0 10] at k
  exact k
theorem bestTap_loop {s n0 : Nat} (hG : G ≤ 7) (hc : X 9 1 = nI G) (hs : cS G B X 57 R nx) (hr : okR B R) (hs2 : s < 1024) (hn0 : n0 ≤ 10) (hQ : ∀ p, Q (some (.int (blN (fun g => gpN R g s) n0 G).1)) (zst X 33 p)) : ∀ (n i : Nat) (p : Nat → Int32) (l5 : Value), i + n = G → zev 152 15 [.ref 28, .int (nI s), .int (blN (fun g => gpN R g s) n0 i).1, .int (nI (blN (fun g => gpN R g s) n0 i).2), .int (nI i), l5] [] (zst X 33 p) Q := by
  intro n
  induction n with
  | zero =>
    intro i p l5 hi
    have q : i = G := by omega
    subst q
    rw [s152_15]
    simp (disch := first | omega | assumption | decide) only [e152, s152_0, s152_1, s152_4, s152_5, s152_6, s152_7, s152_8, s152_11, s152_12, s152_13, s152_17, s152_18, s152_21, s152_24, s152_27, s152_28, s152_30, s152_31, s152_34, s152_36, s152_38, s152_39, s152_42, s152_44, s152_45, s152_47, s152_48, s152_51, s152_54, s152_55, Option.toList_some, Option.toList_none, List.cons_append, List.nil_append, if_true, if_false, eq_self, n1n0, ne10, zst_ne, hc, nI_ltI, Nat.lt_irrefl]
    exact hQ p
  | succ n ih =>
    intro i p l5 hi
    have hlt : i < G := by omega
    have hs' : cS G B (zst X 33 p) 57 R nx := cS_fr hs (fun c c1 c2 => zst_ne _ _ (by omega))
    have hc' : zst X 33 p 9 1 = nI G := by rw [zst_ne _ _ (by omega)]; exact hc
    have h10 := gpN_le R i s
    have hl10 := blN_le (e := fun g => gpN R g s) (m := 10) hn0 (fun g => gpN_le R g s) i
    rw [s152_15]
    simp (disch := first | omega | assumption | decide) only [e152, s152_0, s152_1, s152_4, s152_5, s152_6, s152_7, s152_8, s152_11, s152_12, s152_13, s152_17, s152_18, s152_21, s152_24, s152_27, s152_28, s152_30, s152_31, s152_34, s152_36, s152_38, s152_39, s152_42, s152_44, s152_45, s152_47, s152_48, s152_51, s152_54, s152_55, Option.toList_some, Option.toList_none, List.cons_append, List.nil_append, if_true, if_false, eq_self, n1n0, ne10, hc', nI_ltI, hlt]
    refine c_gpart hG hs' hr hlt hs2 (fun p2 => ?_)
    rw [zst_zst]
    have k := ih (i + 1) p2 (.int (nI (gpN R i s))) (by omega)
    by_cases c : gpN R i s < (blN (fun g => gpN R g s) n0 i).2
    · rw [show blN (fun g => gpN R g s) n0 (i + 1) = (nI i, gpN R i s) from if_pos c] at k
      simp (disch := first | omega | assumption | decide) only [e152, s152_0, s152_1, s152_4, s152_5, s152_6, s152_7, s152_8, s152_11, s152_12, s152_13, s152_17, s152_18, s152_21, s152_24, s152_27, s152_28, s152_30, s152_31, s152_34, s152_36, s152_38, s152_39, s152_42, s152_44, s152_45, s152_47, s152_48, s152_51, s152_54, s152_55, Option.toList_some, Option.toList_none, List.cons_append, List.nil_append, if_true, if_false, eq_self, n1n0, ne10, nI_ltI, c, nI_add]
      exact k
    · rw [show blN (fun g => gpN R g s) n0 (i + 1) = blN (fun g => gpN R g s) n0 i from if_neg c] at k
      simp (disch := first | omega | assumption | decide) only [e152, s152_0, s152_1, s152_4, s152_5, s152_6, s152_7, s152_8, s152_11, s152_12, s152_13, s152_17, s152_18, s152_21, s152_24, s152_27, s152_28, s152_30, s152_31, s152_34, s152_36, s152_38, s152_39, s152_42, s152_44, s152_45, s152_47, s152_48, s152_51, s152_54, s152_55, Option.toList_some, Option.toList_none, List.cons_append, List.nil_append, if_true, if_false, eq_self, n1n0, ne10, nI_ltI, c, nI_add]
      exact k
theorem mgp_in {g s x : Nat} {l3 : Value} (hs : mW (X 40) 0 R) (hr : okR B R) (hg : g < 7) (hs2 : s < 1024) (hx : x < 10) : ∀ n v : Nat, v + n = 10 → zev 190 18 [.ref 39, .int (nI g), .int (nI s), l3, .int (nI x), .int (nI (cnP s (wrN R g) x v)), .int (nI v)] [] X Q = zev 190 65 [.ref 39, .int (nI g), .int (nI s), l3, .int (nI x), .int (nI (cnP s (wrN R g) x 10)), .int (nI 10)] [] X Q := by
  intro n
  induction n with
  | zero =>
    intro v hv
    have q : v = 10 := by omega
    subst q
    rw [s190_18]
    simp (disch := first | omega | assumption | decide) only [s190_20, s190_22, nI_ltI, Nat.lt_irrefl, if_false]
  | succ n ih =>
    intro v hv
    have hlt : v < 10 := by omega
    have hhb := fun X Q => c_hasN (a := s) (b := v) (by omega) (by omega) X Q
    have hb2 := bt_lt s v
    have hrb := fun Q => c_wouldRead (X := X) (Q := Q) (g := g) (v := v) hs hr hg (by omega)
    have h9 := wrN_le R g v
    refine Eq.trans ?_ (ih (v + 1) (by omega))
    rw [s190_18]
    show _ = zev 190 18 [.ref 39, .int (nI g), .int (nI s), l3, .int (nI x), .int (nI (cnP s (wrN R g) x v + (if bt s v = 1 ∧ wrN R g v = x then 1 else 0))), .int (nI (v + 1))] [] X Q
    by_cases c : bt s v = 1
    · rw [c] at hhb
      by_cases c2 : wrN R g v = x
      · rw [if_pos ⟨c, c2⟩]
        simp (disch := first | omega | assumption | decide) only [e190, s190_0, s190_1, s190_2, s190_3, s190_7, s190_9, s190_12, s190_13, s190_15, s190_16, s190_20, s190_22, s190_25, s190_27, s190_28, s190_30, s190_33, s190_36, s190_37, s190_38, s190_40, s190_43, s190_45, s190_48, s190_49, s190_52, s190_53, s190_56, s190_57, s190_59, s190_62, s190_65, s190_67, s190_68, s190_71, s190_72, s190_75, s190_78, s190_79, Option.toList_some, Option.toList_none, List.cons_append, List.nil_append, if_true, if_false, eq_self, n1n0, ne10, nI_ltI, hlt, hhb, hrb, nI_eq, c2, c_one, nI_add]
      · rw [if_neg (fun q => c2 q.2)]
        simp (disch := first | omega | assumption | decide) only [e190, s190_0, s190_1, s190_2, s190_3, s190_7, s190_9, s190_12, s190_13, s190_15, s190_16, s190_20, s190_22, s190_25, s190_27, s190_28, s190_30, s190_33, s190_36, s190_37, s190_38, s190_40, s190_43, s190_45, s190_48, s190_49, s190_52, s190_53, s190_56, s190_57, s190_59, s190_62, s190_65, s190_67, s190_68, s190_71, s190_72, s190_75, s190_78, s190_79, Option.toList_some, Option.toList_none, List.cons_append, List.nil_append, if_true, if_false, eq_self, n1n0, ne10, nI_ltI, hlt, hhb, hrb, nI_eq, c2, c_one, nI_add]
    · rw [show bt s v = 0 by omega] at hhb
      rw [if_neg (fun q => c q.1)]
      simp (disch := first | omega | assumption | decide) only [e190, s190_0, s190_1, s190_2, s190_3, s190_7, s190_9, s190_12, s190_13, s190_15, s190_16, s190_20, s190_22, s190_25, s190_27, s190_28, s190_30, s190_33, s190_36, s190_37, s190_38, s190_40, s190_43, s190_45, s190_48, s190_49, s190_52, s190_53, s190_56, s190_57, s190_59, s190_62, s190_65, s190_67, s190_68, s190_71, s190_72, s190_75, s190_78, s190_79, Option.toList_some, Option.toList_none, List.cons_append, List.nil_append, if_true, if_false, eq_self, n1n0, ne10, nI_ltI, hlt, hhb, c_one, nI_add]
theorem mgp_out {g s : Nat} (hs : mW (X 40) 0 R) (hr : okR B R) (hg : g < 7) (hs2 : s < 1024) : ∀ (n x : Nat) (l5 l6 : Value), x + n = 10 → zev 190 5 [.ref 39, .int (nI g), .int (nI s), .int (nI (mxN (fun x => cnP s (wrN R g) x 10) x)), .int (nI x), l5, l6] [] X Q = Q (some (.int (nI (gpN R g s)))) X := by
  intro n
  induction n with
  | zero =>
    intro x l5 l6 hx
    have q : x = 10 := by omega
    subst q
    rw [s190_5]
    simp (disch := first | omega | assumption | decide) only [e190, s190_0, s190_1, s190_2, s190_3, s190_7, s190_9, s190_12, s190_13, s190_15, s190_16, s190_20, s190_22, s190_25, s190_27, s190_28, s190_30, s190_33, s190_36, s190_37, s190_38, s190_40, s190_43, s190_45, s190_48, s190_49, s190_52, s190_53, s190_56, s190_57, s190_59, s190_62, s190_65, s190_67, s190_68, s190_71, s190_72, s190_75, s190_78, s190_79, Option.toList_some, Option.toList_none, List.cons_append, List.nil_append, if_true, if_false, eq_self, n1n0, ne10, nI_ltI, Nat.lt_irrefl]
    rfl
  | succ n ih =>
    intro x l5 l6 hx
    have hlt : x < 10 := by omega
    have hin := mgp_in (Q := Q) (l3 := .int (nI (mxN (fun x => cnP s (wrN R g) x 10) x))) hs hr hg hs2 hlt 10 0 (by omega)
    have hcy := cnP_le (s := s) (r := wrN R g) (x := x) 10
    have hmx : mxN (fun x => cnP s (wrN R g) x 10) x ≤ 10 := mx_le (fun _ _ => cnP_le _)
    refine Eq.trans (Eq.trans ?_ hin) (Eq.trans ?_ (ih (x + 1) (.int (nI (cnP s (wrN R g) x 10))) (.int (nI 10)) (by omega)))
    · rw [s190_5]
      simp (disch := first | omega | assumption | decide) only [e190, s190_0, s190_1, s190_2, s190_3, s190_7, s190_9, s190_12, s190_13, s190_15, s190_16, s190_20, s190_22, s190_25, s190_27, s190_28, s190_30, s190_33, s190_36, s190_37, s190_38, s190_40, s190_43, s190_45, s190_48, s190_49, s190_52, s190_53, s190_56, s190_57, s190_59, s190_62, s190_65, s190_67, s190_68, s190_71, s190_72, s190_75, s190_78, s190_79, Option.toList_some, Option.toList_none, List.cons_append, List.nil_append, if_true, if_false, eq_self, n1n0, ne10, nI_ltI, hlt]
      rfl
    · show _ = zev 190 5 [.ref 39, .int (nI g), .int (nI s), .int (nI (max (cnP s (wrN R g) x 10) (mxN (fun x => cnP s (wrN R g) x 10) x))), .int (nI (x + 1)), .int (nI (cnP s (wrN R g) x 10)), .int (nI 10)] [] X Q
      by_cases c : mxN (fun x => cnP s (wrN R g) x 10) x < cnP s (wrN R g) x 10
      · rw [show max (cnP s (wrN R g) x 10) (mxN (fun x => cnP s (wrN R g) x 10) x) = cnP s (wrN R g) x 10 by omega]
        simp (disch := first | omega | assumption | decide) only [e190, s190_0, s190_1, s190_2, s190_3, s190_7, s190_9, s190_12, s190_13, s190_15, s190_16, s190_20, s190_22, s190_25, s190_27, s190_28, s190_30, s190_33, s190_36, s190_37, s190_38, s190_40, s190_43, s190_45, s190_48, s190_49, s190_52, s190_53, s190_56, s190_57, s190_59, s190_62, s190_65, s190_67, s190_68, s190_71, s190_72, s190_75, s190_78, s190_79, Option.toList_some, Option.toList_none, List.cons_append, List.nil_append, if_true, if_false, eq_self, n1n0, ne10, c_most, nI_ltI, c, nI_add]
      · rw [show max (cnP s (wrN R g) x 10) (mxN (fun x => cnP s (wrN R g) x 10) x) = mxN (fun x => cnP s (wrN R g) x 10) x by omega]
        simp (disch := first | omega | assumption | decide) only [e190, s190_0, s190_1, s190_2, s190_3, s190_7, s190_9, s190_12, s190_13, s190_15, s190_16, s190_20, s190_22, s190_25, s190_27, s190_28, s190_30, s190_33, s190_36, s190_37, s190_38, s190_40, s190_43, s190_45, s190_48, s190_49, s190_52, s190_53, s190_56, s190_57, s190_59, s190_62, s190_65, s190_67, s190_68, s190_71, s190_72, s190_75, s190_78, s190_79, Option.toList_some, Option.toList_none, List.cons_append, List.nil_append, if_true, if_false, eq_self, n1n0, ne10, c_most, nI_ltI, c, nI_add]
theorem c_mgp {g s : Nat} (hs : mW (X 40) 0 R) (hr : okR B R) (hg : g < 7) (hs2 : s < 1024) : zcl 190 [.ref 39, .int (nI g), .int (nI s)] X Q = Q (some (.int (nI (gpN R g s)))) X := by
  refine Eq.trans ?_ (mgp_out hs hr hg hs2 10 0 zU zU (by omega))
  simp (disch := first | omega | assumption | decide) only [e190, s190_0, s190_1, s190_2, s190_3, s190_7, s190_9, s190_12, s190_13, s190_15, s190_16, s190_20, s190_22, s190_25, s190_27, s190_28, s190_30, s190_33, s190_36, s190_37, s190_38, s190_40, s190_43, s190_45, s190_48, s190_49, s190_52, s190_53, s190_56, s190_57, s190_59, s190_62, s190_65, s190_67, s190_68, s190_71, s190_72, s190_75, s190_78, s190_79, Option.toList_some, Option.toList_none, List.cons_append, List.nil_append, if_true, if_false, eq_self, n1n0, ne10]
  rfl
theorem pcn_le (a : Nat) : ∀ n, pcn a n ≤ n
  | 0 => Nat.le_refl _
  | n + 1 => by
    have := pcn_le a n
    have h2 : a / 2 ^ n % 2 < 2 := Nat.mod_lt _ (by decide)
    unfold pcn
    omega
theorem count_loop {s : Nat} {l4 l5 : Value} (hs2 : s < 1024) : ∀ n i : Nat, i + n = 10 → zev 200 9 [.ref 39, .int (nI s), .int (nI (pcn s i)), .int (nI i), l4, l5] [] X Q = zev 200 34 [.ref 39, .int (nI s), .int (nI (pcn s 10)), .int (-1), .int (nI 0), l5] [] X Q := by
  intro n
  induction n with
  | zero =>
    intro i hi
    have q : i = 10 := by omega
    subst q
    rw [s200_9]
    simp (disch := first | omega | assumption | decide) only [e200, s200_0, s200_1, s200_4, s200_5, s200_6, s200_7, s200_8, s200_10, s200_12, s200_15, s200_16, s200_17, s200_18, s200_19, s200_20, s200_21, s200_22, s200_23, s200_26, s200_29, s200_30, s200_31, s200_32, s200_36, s200_37, s200_40, s200_43, s200_44, s200_46, s200_47, s200_50, s200_52, s200_54, s200_55, s200_58, s200_60, s200_63, s200_64, s200_65, s200_67, s200_68, s200_71, s200_72, s200_75, s200_78, s200_79, Option.toList_some, Option.toList_none, List.cons_append, List.nil_append, if_true, if_false, eq_self, n1n0, ne10, nI_ltI, Nat.lt_irrefl]
  | succ n ih =>
    intro i hi
    have hlt : i < 10 := by omega
    refine Eq.trans ?_ (ih (i + 1) (by omega))
    have hb := bit_nI (a := s) (b := i) (by omega) (by omega)
    rw [s200_9]
    simp (disch := first | omega | assumption | decide) only [e200, s200_0, s200_1, s200_4, s200_5, s200_6, s200_7, s200_8, s200_10, s200_12, s200_15, s200_16, s200_17, s200_18, s200_19, s200_20, s200_21, s200_22, s200_23, s200_26, s200_29, s200_30, s200_31, s200_32, s200_36, s200_37, s200_40, s200_43, s200_44, s200_46, s200_47, s200_50, s200_52, s200_54, s200_55, s200_58, s200_60, s200_63, s200_64, s200_65, s200_67, s200_68, s200_71, s200_72, s200_75, s200_78, s200_79, Option.toList_some, Option.toList_none, List.cons_append, List.nil_append, if_true, if_false, eq_self, n1n0, ne10, nI_ltI, hlt, hb, nI_add]
    rfl
theorem tapM_loop {s n0 : Nat} (hG : G ≤ 7) (hc : X 39 9 = nI G) (hs : mW (X 40) 0 R) (hr : okR B R) (hs2 : s < 1024) (hn0 : n0 ≤ 10) : ∀ (n i : Nat) (l5 : Value), i + n = G → zev 200 34 [.ref 39, .int (nI s), .int (nI (blN (fun g => gpN R g s) n0 i).2), .int (blN (fun g => gpN R g s) n0 i).1, .int (nI i), l5] [] X Q = Q (some (.int (blN (fun g => gpN R g s) n0 G).1)) X := by
  intro n
  induction n with
  | zero =>
    intro i l5 hi
    have q : i = G := by omega
    subst q
    rw [s200_34]
    simp (disch := first | omega | assumption | decide) only [e200, s200_0, s200_1, s200_4, s200_5, s200_6, s200_7, s200_8, s200_10, s200_12, s200_15, s200_16, s200_17, s200_18, s200_19, s200_20, s200_21, s200_22, s200_23, s200_26, s200_29, s200_30, s200_31, s200_32, s200_36, s200_37, s200_40, s200_43, s200_44, s200_46, s200_47, s200_50, s200_52, s200_54, s200_55, s200_58, s200_60, s200_63, s200_64, s200_65, s200_67, s200_68, s200_71, s200_72, s200_75, s200_78, s200_79, Option.toList_some, Option.toList_none, List.cons_append, List.nil_append, if_true, if_false, eq_self, n1n0, ne10, hc, nI_ltI, Nat.lt_irrefl]
  | succ n ih =>
    intro i l5 hi
    have hlt : i < G := by omega
    have hgp := fun Q => c_mgp (X := X) (Q := Q) (g := i) (s := s) hs hr (by omega) hs2
    have h10 := gpN_le R i s
    have hl10 := blN_le (e := fun g => gpN R g s) (m := 10) hn0 (fun g => gpN_le R g s) i
    have k := ih (i + 1) (.int (nI (gpN R i s))) (by omega)
    refine Eq.trans ?_ k
    rw [s200_34]
    by_cases c : gpN R i s < (blN (fun g => gpN R g s) n0 i).2
    · rw [show blN (fun g => gpN R g s) n0 (i + 1) = (nI i, gpN R i s) from if_pos c]
      simp (disch := first | omega | assumption | decide) only [e200, s200_0, s200_1, s200_4, s200_5, s200_6, s200_7, s200_8, s200_10, s200_12, s200_15, s200_16, s200_17, s200_18, s200_19, s200_20, s200_21, s200_22, s200_23, s200_26, s200_29, s200_30, s200_31, s200_32, s200_36, s200_37, s200_40, s200_43, s200_44, s200_46, s200_47, s200_50, s200_52, s200_54, s200_55, s200_58, s200_60, s200_63, s200_64, s200_65, s200_67, s200_68, s200_71, s200_72, s200_75, s200_78, s200_79, Option.toList_some, Option.toList_none, List.cons_append, List.nil_append, if_true, if_false, eq_self, n1n0, ne10, hc, hlt, hgp, nI_ltI, c, c_least, nI_add]
    · rw [show blN (fun g => gpN R g s) n0 (i + 1) = blN (fun g => gpN R g s) n0 i from if_neg c]
      simp (disch := first | omega | assumption | decide) only [e200, s200_0, s200_1, s200_4, s200_5, s200_6, s200_7, s200_8, s200_10, s200_12, s200_15, s200_16, s200_17, s200_18, s200_19, s200_20, s200_21, s200_22, s200_23, s200_26, s200_29, s200_30, s200_31, s200_32, s200_36, s200_37, s200_40, s200_43, s200_44, s200_46, s200_47, s200_50, s200_52, s200_54, s200_55, s200_58, s200_60, s200_63, s200_64, s200_65, s200_67, s200_68, s200_71, s200_72, s200_75, s200_78, s200_79, Option.toList_some, Option.toList_none, List.cons_append, List.nil_append, if_true, if_false, eq_self, n1n0, ne10, hc, hlt, hgp, nI_ltI, c, c_least, nI_add]
end TN
theorem ok_tapNext : okCall 182 200 [] := by
  rintro ⟨⟨D, G, B, C, W, lim, bear⟩, R, ⟨u, Rs⟩, ⟨kb, Ri, si⟩, sd, ⟨t, tx, fa⟩, ⟨tn, tg, tr, en, eg, et⟩⟩ ha
  have hG := ha.1.2.1
  have hr := ha.2.1.1
  have hs2 : stN (cdS R tn tg tr) 10 < 1024 := stN_lt 10
  have hn0 := pcn_le (stN (cdS R tn tg tr) 10) 10
  refine ⟨_, (blN (fun g => gpN R g (stN (cdS R tn tg tr) 10)) (pcn (stN (cdS R tn tg tr) 10) 10) G).1, ha, ?_, okM_ro ?_⟩
  · intro X Q hX hQ
    obtain ⟨nx, k, ns, ni, h1, h2, h3, h4, h5, h6, h7, h8⟩ := id hX
    have hf := fun Q => cc_fitting (X := X) (Q := Q) hG h2 hr h7 ha.2.2.2.2.2.2.1
    have hbc := fun X Q => c_bitCount hs2 X Q
    simp (disch := first | omega | assumption | decide) only [e182, s182_0, s182_1, s182_4, s182_7, e152, s152_0, s152_1, s152_4, s152_5, s152_6, s152_7, s152_8, s152_11, s152_12, s152_13, s152_17, s152_18, s152_21, s152_24, s152_27, s152_28, s152_30, s152_31, s152_34, s152_36, s152_38, s152_39, s152_42, s152_44, s152_45, s152_47, s152_48, s152_51, s152_54, s152_55, Option.toList_some, Option.toList_none, List.cons_append, List.nil_append, if_true, if_false, eq_self, n1n0, ne10, hf, hbc]
    have k := fun (Q2 : Option Value → zM → Prop) h => bestTap_loop (X := X) (Q := Q2) hG h1.2.1 h2 hr hs2 hn0 h G 0 (X 33) zU (by omega)
    rw [zst_self] at k
    refine k _ (fun p => ?_)
    simp (disch := first | omega | assumption | decide) only [e182, s182_0, s182_1, s182_4, s182_7, Option.toList_some, Option.toList_none, List.cons_append, List.nil_append, if_true, if_false, eq_self, n1n0, ne10]
    exact hQ _ (CI_scr hX (fun c hc => zst_ne _ _ hc)) (fun c c1 c2 => zst_ne _ _ (by omega))
  · rintro X Q ⟨h1, h2, h3, h4, h5, h6, h7⟩
    have hf := fun Q => cc_could (X := X) (Q := Q) hG h2 hr h7 ha.2.2.2.2.2.2.1
    have hcl := fun (l4 l5 : Value) => count_loop (X := X) (Q := Q) (l4 := l4) (l5 := l5) hs2 10 0 (by omega)
    rw [show pcn (stN (cdS R tn tg tr) 10) 0 = 0 from rfl] at hcl
    have htm := fun (l5 : Value) => tapM_loop (X := X) (Q := Q) hG h1.2.1 h2 hr hs2 hn0 G 0 l5 (by omega)
    simp only [blN] at htm
    simp (disch := first | omega | assumption | decide) only [e200, s200_0, s200_1, s200_4, s200_5, s200_6, s200_7, s200_8, s200_10, s200_12, s200_15, s200_16, s200_17, s200_18, s200_19, s200_20, s200_21, s200_22, s200_23, s200_26, s200_29, s200_30, s200_31, s200_32, s200_36, s200_37, s200_40, s200_43, s200_44, s200_46, s200_47, s200_50, s200_52, s200_54, s200_55, s200_58, s200_60, s200_63, s200_64, s200_65, s200_67, s200_68, s200_71, s200_72, s200_75, s200_78, s200_79, Option.toList_some, Option.toList_none, List.cons_append, List.nil_append, if_true, if_false, eq_self, n1n0, ne10, hf, hcl, htm]
