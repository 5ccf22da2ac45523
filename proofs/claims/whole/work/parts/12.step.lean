theorem zlk_pos {pc : Nat} {x : Int} : ∀ {os : List (Int × Int)} {d : Int}, (∀ q ∈ os, 0 ≤ (pc : Int) + q.2) → 0 ≤ (pc : Int) + d → 0 ≤ (pc : Int) + Op.lookupswitch.offset os d x
  | [], d, _, hd => hd
  | o :: r, d, h, hd => by
    have ih := zlk_pos (x := x) (os := r) (d := d) (fun q hq => h q (List.mem_cons_of_mem _ hq)) hd
    have ho := h o List.mem_cons_self
    by_cases hx : x = o.1
    · simp [Op.lookupswitch.offset, hx]; exact ho
    · have hx2 : ¬ o.1 = x := fun q => hx q.symm
      simp [Op.lookupswitch.offset, hx, hx2]; exact ih
theorem zdyn : ∀ a, a < 11 → ∀ b, b < (zcs a).2.2 → zft a b = 2 → ((zcs a).2.1 b).2.2.1 = "[I" := by
  have h : (List.range 11).all (fun a => (List.range (zcs a).2.2).all (fun b => decide (zft a b = 2 → ((zcs a).2.1 b).2.2.1 = "[I"))) = true := by decide +kernel
  intro a ha b hb
  exact of_decide_eq_true (List.all_eq_true.mp (List.all_eq_true.mp h a (List.mem_range.mpr ha)) b (List.mem_range.mpr hb))
theorem zsum_le (as : Nat → Nat) : ∀ (S : List Value), S.length ≤ 4 → ((S.map (zmv as)).map fun v => v.category).sum ≤ 8 := by
  have h : ∀ (S : List Value), ((S.map (zmv as)).map fun v => v.category).sum ≤ 2 * S.length := by
    intro S
    induction S with
    | nil => simp
    | cons v r ih =>
      simp only [List.map_cons, List.sum_cons, List.length_cons]
      have : (zmv as v).category ≤ 2 := by rcases lv_cat (zmv as v) with q | q <;> omega
      omega
  intro S hS
  have := h S
  omega
/-! one instruction that is no call and no end: the machine does it -/
set_option maxHeartbeats 4000000 in
set_option maxRecDepth 100000 in
theorem zgo1 {p : Program} {l : Launch} {ev : Env} {R : Room} {s : State} {m : MethodId} {args : Array Value} {below : List Frame} {meth : Method} {c : Code} {D : va_G} {as : Nat → Nat} {ca : Nat → ClassId} {A : Nat → Prop} {QQ : State → Prop} {y p1 : Nat} {e : zE} {L S L1 S1 : List Value} {X X1 : zM}
    (C : zCx p s m args meth c y) (hK : va_K D vwCl (ztys ca) s) (hRf : 1 ≤ R.frames) (hRl : 30 ≤ R.locals) (hok : zokB y e = true) (hs : zstp e L S X = some (.inl (p1, L1, S1, X1)))
    (hk : zGo p l ev R s m args below meth c D as ca A QQ y p1 L1 S1 X1) : zGo p l ev R s m args below meth c D as ca A QQ y e.1 L S X := by
  intro H locs ls hl hP hD hS
  obtain ⟨hx, hb, hr, hml, hown, hts, hlocks, hnw⟩ := C
  obtain ⟨pc, ins, len, a, b, v⟩ := e
  unfold zokB at hok
  obtain ⟨hdg0, hok2⟩ := Bool.and_eq_true_iff.mp hok
  have hdg : decode (zby y) pc = .ok (ins, len) := of_decide_eq_true hdg0
  clear hdg0 hok
  have hmls : c.maxLocals = ls.size := hml.trans hl.1.symm
  cases ins with
  | iconst n =>
    obtain ⟨g1, g2⟩ := Bool.and_eq_true_iff.mp hok2
    have h1 : len = 1 := of_decide_eq_true g1
    clear g1 hok2
    subst h1
    have h2 : v = .int (Int32.ofInt n) := of_decide_eq_true g2
    clear g2
    subst h2
    simp only [zstp] at hs
    simp only [Option.some.injEq, Sum.inl.injEq, Prod.mk.injEq] at hs
    obtain ⟨rfl, rfl, rfl, rfl⟩ := hs
    exact lv_iconst hx hb hdg rfl (hk H locs ls hl hP hD hS)
  | bipush n =>
    obtain ⟨g1, g2⟩ := Bool.and_eq_true_iff.mp hok2
    have h1 : len = 2 := of_decide_eq_true g1
    clear g1 hok2
    subst h1
    have h2 : v = .int (Int8.ofInt n).toInt32 := of_decide_eq_true g2
    clear g2
    subst h2
    simp only [zstp] at hs
    simp only [Option.some.injEq, Sum.inl.injEq, Prod.mk.injEq] at hs
    obtain ⟨rfl, rfl, rfl, rfl⟩ := hs
    exact lv_bipush hx hb hdg rfl (hk H locs ls hl hP hD hS)
  | sipush n =>
    obtain ⟨g1, g2⟩ := Bool.and_eq_true_iff.mp hok2
    have h1 : len = 3 := of_decide_eq_true g1
    clear g1 hok2
    subst h1
    have h2 : v = .int (Int16.ofInt n).toInt32 := of_decide_eq_true g2
    clear g2
    subst h2
    simp only [zstp] at hs
    simp only [Option.some.injEq, Sum.inl.injEq, Prod.mk.injEq] at hs
    obtain ⟨rfl, rfl, rfl, rfl⟩ := hs
    exact lv_sipush hx hb hdg rfl (hk H locs ls hl hP hD hS)
  | lconst n =>
    obtain ⟨g1, g2⟩ := Bool.and_eq_true_iff.mp hok2
    have h1 : len = 1 := of_decide_eq_true g1
    clear g1 hok2
    subst h1
    have h2 : v = .long (Int64.ofNat n.val) := of_decide_eq_true g2
    clear g2
    subst h2
    simp only [zstp] at hs
    simp only [Option.some.injEq, Sum.inl.injEq, Prod.mk.injEq] at hs
    obtain ⟨rfl, rfl, rfl, rfl⟩ := hs
    exact lv_lconst hx hb hdg rfl (hk H locs ls hl hP hD hS)
  | ldc ix =>
    obtain ⟨g1, g2⟩ := Bool.and_eq_true_iff.mp hok2
    have h1 : len = 2 := of_decide_eq_true g1
    clear g1 hok2
    subst h1
    cases v with
    | int x =>
      have h3 : zhasC (zow y) ix x = true := g2
      simp only [zstp] at hs
      simp only [Option.some.injEq, Sum.inl.injEq, Prod.mk.injEq] at hs
      obtain ⟨rfl, rfl, rfl, rfl⟩ := hs
      exact lv_ldc hx hb hown (hts _ (zhasC_ok h3)) hdg (hk H locs ls hl hP hD hS)
    | _ => exact absurd g2 Bool.false_ne_true
  | ldc_w ix =>
    obtain ⟨g1, g2⟩ := Bool.and_eq_true_iff.mp hok2
    have h1 : len = 3 := of_decide_eq_true g1
    clear g1 hok2
    subst h1
    cases v with
    | int x =>
      have h3 : zhasC (zow y) ix x = true := g2
      simp only [zstp] at hs
      simp only [Option.some.injEq, Sum.inl.injEq, Prod.mk.injEq] at hs
      obtain ⟨rfl, rfl, rfl, rfl⟩ := hs
      exact lv_ldcw hx hb hown (hts _ (zhasC_ok h3)) hdg (hk H locs ls hl hP hD hS)
    | _ => exact absurd g2 Bool.false_ne_true
  | ldc2_w ix =>
    obtain ⟨g1, g2⟩ := Bool.and_eq_true_iff.mp hok2
    have h1 : len = 3 := of_decide_eq_true g1
    clear g1 hok2
    subst h1
    cases v with
    | long x =>
      have h3 : zhasD (zow y) ix x = true := g2
      simp only [zstp] at hs
      simp only [Option.some.injEq, Sum.inl.injEq, Prod.mk.injEq] at hs
      obtain ⟨rfl, rfl, rfl, rfl⟩ := hs
      exact lv_ldc2 hx hb hown (hts _ (zhasD_ok h3)) hdg (hk H locs ls hl hP hD hS)
    | _ => exact absurd g2 Bool.false_ne_true
  | iload_n i =>
    obtain ⟨g1, g2⟩ := Bool.and_eq_true_iff.mp hok2
    have h1 : len = 1 := of_decide_eq_true g1
    clear g1 hok2
    subst h1
    have h2 : i.val = a := of_decide_eq_true g2
    clear g2
    simp only [zstp] at hs
    split at hs
    · rename_i x hL
      simp only [Option.some.injEq, Sum.inl.injEq, Prod.mk.injEq] at hs
      obtain ⟨rfl, rfl, rfl, rfl⟩ := hs
      exact lv_iload_n hx hb hdg h2 (zlv_i hl hL) (hk H locs ls hl hP hD hS)
    · cases hs
  | iload i =>
    obtain ⟨g1, g2⟩ := Bool.and_eq_true_iff.mp hok2
    have h1 : len = 2 := of_decide_eq_true g1
    clear g1 hok2
    subst h1
    have h2 : i = a := of_decide_eq_true g2
    clear g2
    subst h2
    simp only [zstp] at hs
    split at hs
    · rename_i x hL
      simp only [Option.some.injEq, Sum.inl.injEq, Prod.mk.injEq] at hs
      obtain ⟨rfl, rfl, rfl, rfl⟩ := hs
      exact lv_iload hx hb hdg (zlv_i hl hL) (hk H locs ls hl hP hD hS)
    · cases hs
  | aload_n i =>
    obtain ⟨g1, g2⟩ := Bool.and_eq_true_iff.mp hok2
    have h1 : len = 1 := of_decide_eq_true g1
    clear g1 hok2
    subst h1
    have h2 : i.val = a := of_decide_eq_true g2
    clear g2
    simp only [zstp] at hs
    split at hs
    · rename_i x hL
      simp only [Option.some.injEq, Sum.inl.injEq, Prod.mk.injEq] at hs
      obtain ⟨rfl, rfl, rfl, rfl⟩ := hs
      exact lv_aload_n hx hb hdg h2 (zlv_r hl hL) (hk H locs ls hl hP hD hS)
    · cases hs
  | lload_n i =>
    obtain ⟨g1, g2⟩ := Bool.and_eq_true_iff.mp hok2
    have h1 : len = 1 := of_decide_eq_true g1
    clear g1 hok2
    subst h1
    have h2 : i.val = a := of_decide_eq_true g2
    clear g2
    simp only [zstp] at hs
    split at hs
    · rename_i x hL
      split at hs
      · rename_i hL2
        simp only [Option.some.injEq, Sum.inl.injEq, Prod.mk.injEq] at hs
        obtain ⟨rfl, rfl, rfl, rfl⟩ := hs
        exact lv_lload_n hx hb hdg h2 (zlv_l hl hL hL2) (hk H locs ls hl hP hD hS)
      · cases hs
    · cases hs
  | lload i =>
    obtain ⟨g1, g2⟩ := Bool.and_eq_true_iff.mp hok2
    have h1 : len = 2 := of_decide_eq_true g1
    clear g1 hok2
    subst h1
    have h2 : i = a := of_decide_eq_true g2
    clear g2
    subst h2
    simp only [zstp] at hs
    split at hs
    · rename_i x hL
      split at hs
      · rename_i hL2
        simp only [Option.some.injEq, Sum.inl.injEq, Prod.mk.injEq] at hs
        obtain ⟨rfl, rfl, rfl, rfl⟩ := hs
        exact lv_lload hx hb hdg (zlv_l hl hL hL2) (hk H locs ls hl hP hD hS)
      · cases hs
    · cases hs
  | istore_n i =>
    obtain ⟨g1, g2⟩ := Bool.and_eq_true_iff.mp hok2
    have h1 : len = 1 := of_decide_eq_true g1
    clear g1 hok2
    subst h1
    have h2 : i.val = a := of_decide_eq_true g2
    clear g2
    simp only [zstp] at hs
    split at hs
    · rename_i x S2
      split at hs
      · rename_i hlt
        simp only [Option.some.injEq, Sum.inl.injEq, Prod.mk.injEq] at hs
        obtain ⟨rfl, rfl, rfl, rfl⟩ := hs
        obtain ⟨lv, hlv1, hlv2⟩ := zlv_list hl
        exact lv_istore_n hx hb hdg h2 hlv1 (by rw [← hl.2.1]; exact hlt) rfl (fun ls1 h1 => hk H locs ls1 (zlv_set1 (v := .int x) hl hlv2 (by intro q; cases q) h1) hP hD hS)
      · cases hs
    · cases hs
  | istore i =>
    obtain ⟨g1, g2⟩ := Bool.and_eq_true_iff.mp hok2
    have h1 : len = 2 := of_decide_eq_true g1
    clear g1 hok2
    subst h1
    have h2 : i = a := of_decide_eq_true g2
    clear g2
    subst h2
    simp only [zstp] at hs
    split at hs
    · rename_i x S2
      split at hs
      · rename_i hlt
        simp only [Option.some.injEq, Sum.inl.injEq, Prod.mk.injEq] at hs
        obtain ⟨rfl, rfl, rfl, rfl⟩ := hs
        obtain ⟨lv, hlv1, hlv2⟩ := zlv_list hl
        exact lv_istore hx hb hdg hlv1 (by rw [← hl.2.1]; exact hlt) rfl (fun ls1 h1 => hk H locs ls1 (zlv_set1 (v := .int x) hl hlv2 (by intro q; cases q) h1) hP hD hS)
      · cases hs
    · cases hs
  | astore_n i =>
    obtain ⟨g1, g2⟩ := Bool.and_eq_true_iff.mp hok2
    have h1 : len = 1 := of_decide_eq_true g1
    clear g1 hok2
    subst h1
    have h2 : i.val = a := of_decide_eq_true g2
    clear g2
    simp only [zstp] at hs
    split at hs
    · rename_i x S2
      split at hs
      · rename_i hlt
        simp only [Option.some.injEq, Sum.inl.injEq, Prod.mk.injEq] at hs
        obtain ⟨rfl, rfl, rfl, rfl⟩ := hs
        obtain ⟨lv, hlv1, hlv2⟩ := zlv_list hl
        exact lv_astore_n hx hb hdg h2 hlv1 (by rw [← hl.2.1]; exact hlt) rfl (fun ls1 h1 => hk H locs ls1 (zlv_set1 (v := .ref x) hl hlv2 (by intro q; cases q) h1) hP hD hS)
      · cases hs
    · cases hs
  | lstore_n i =>
    obtain ⟨g1, g2⟩ := Bool.and_eq_true_iff.mp hok2
    have h1 : len = 1 := of_decide_eq_true g1
    clear g1 hok2
    subst h1
    have h2 : i.val = a := of_decide_eq_true g2
    clear g2
    simp only [zstp] at hs
    split at hs
    · rename_i x S2
      split at hs
      · rename_i hlt
        simp only [Option.some.injEq, Sum.inl.injEq, Prod.mk.injEq] at hs
        obtain ⟨rfl, rfl, rfl, rfl⟩ := hs
        obtain ⟨lv, hlv1, hlv2⟩ := zlv_list hl
        exact lv_lstore_n hx hb hdg h2 hlv1 (by rw [← hl.2.1]; exact hlt) rfl (fun ls1 h1 => hk H locs ls1 (zlv_set2 hl hlt hlv2 h1) hP hD hS)
      · cases hs
    · cases hs
  | iinc i n =>
    obtain ⟨g1, g2⟩ := Bool.and_eq_true_iff.mp hok2
    have h1 : len = 3 := of_decide_eq_true g1
    clear g1 hok2
    subst h1
    obtain ⟨g3, g4⟩ := Bool.and_eq_true_iff.mp g2
    have h2 : i = a := of_decide_eq_true g3
    have h3 : v = .int (Int32.ofInt n) := of_decide_eq_true g4
    clear g2 g3 g4
    subst h2
    subst h3
    simp only [zstp] at hs
    split at hs
    · rename_i x hL
      simp only [Option.some.injEq, Sum.inl.injEq, Prod.mk.injEq] at hs
      obtain ⟨rfl, rfl, rfl, rfl⟩ := hs
      obtain ⟨lv, hlv1, hlv2⟩ := zlv_list hl
      have hm : (i, Value.int x) ∈ lv := by
        rcases hlv2 i _ hL with q | q | q
        · cases q
        · exact absurd q.1 (by simp [Value.category])
        · exact q
      obtain ⟨kx, hkx⟩ := List.getElem?_of_mem hm
      have hlt : i < L.length := (List.getElem?_eq_some_iff.mp hL).1
      exact lv_iinc hx hb hdg hlv1 hkx rfl (by rw [← hl.2.1]; exact hlt) rfl (fun ls1 h1 => hk H locs ls1 (zlv_set1 (v := .int (x + Int32.ofInt n)) hl hlv2 (by intro q; cases q) h1) hP hD hS)
    · cases hs
  | iadd =>
    have h1 : len = 1 := of_decide_eq_true hok2
    subst h1
    simp only [zstp] at hs
    split at hs
    · rename_i y1 x1 S2
      simp only [Option.some.injEq, Sum.inl.injEq, Prod.mk.injEq] at hs
      obtain ⟨rfl, rfl, rfl, rfl⟩ := hs
      exact lv_iadd hx hb hdg (hk H locs ls hl hP hD hS)
    · cases hs
  | isub =>
    have h1 : len = 1 := of_decide_eq_true hok2
    subst h1
    simp only [zstp] at hs
    split at hs
    · rename_i y1 x1 S2
      simp only [Option.some.injEq, Sum.inl.injEq, Prod.mk.injEq] at hs
      obtain ⟨rfl, rfl, rfl, rfl⟩ := hs
      exact lv_isub hx hb hdg (hk H locs ls hl hP hD hS)
    · cases hs
  | imul =>
    have h1 : len = 1 := of_decide_eq_true hok2
    subst h1
    simp only [zstp] at hs
    split at hs
    · rename_i y1 x1 S2
      simp only [Option.some.injEq, Sum.inl.injEq, Prod.mk.injEq] at hs
      obtain ⟨rfl, rfl, rfl, rfl⟩ := hs
      exact lv_imul hx hb hdg (hk H locs ls hl hP hD hS)
    · cases hs
  | iand =>
    have h1 : len = 1 := of_decide_eq_true hok2
    subst h1
    simp only [zstp] at hs
    split at hs
    · rename_i y1 x1 S2
      simp only [Option.some.injEq, Sum.inl.injEq, Prod.mk.injEq] at hs
      obtain ⟨rfl, rfl, rfl, rfl⟩ := hs
      exact lv_iand hx hb hdg (hk H locs ls hl hP hD hS)
    · cases hs
  | ior =>
    have h1 : len = 1 := of_decide_eq_true hok2
    subst h1
    simp only [zstp] at hs
    split at hs
    · rename_i y1 x1 S2
      simp only [Option.some.injEq, Sum.inl.injEq, Prod.mk.injEq] at hs
      obtain ⟨rfl, rfl, rfl, rfl⟩ := hs
      exact lv_ior hx hb hdg (hk H locs ls hl hP hD hS)
    · cases hs
  | ixor =>
    have h1 : len = 1 := of_decide_eq_true hok2
    subst h1
    simp only [zstp] at hs
    split at hs
    · rename_i y1 x1 S2
      simp only [Option.some.injEq, Sum.inl.injEq, Prod.mk.injEq] at hs
      obtain ⟨rfl, rfl, rfl, rfl⟩ := hs
      exact lv_ixor hx hb hdg (hk H locs ls hl hP hD hS)
    · cases hs
  | ishl =>
    have h1 : len = 1 := of_decide_eq_true hok2
    subst h1
    simp only [zstp] at hs
    split at hs
    · rename_i y1 x1 S2
      simp only [Option.some.injEq, Sum.inl.injEq, Prod.mk.injEq] at hs
      obtain ⟨rfl, rfl, rfl, rfl⟩ := hs
      exact lv_ishl hx hb hdg (hk H locs ls hl hP hD hS)
    · cases hs
  | ishr =>
    have h1 : len = 1 := of_decide_eq_true hok2
    subst h1
    simp only [zstp] at hs
    split at hs
    · rename_i y1 x1 S2
      simp only [Option.some.injEq, Sum.inl.injEq, Prod.mk.injEq] at hs
      obtain ⟨rfl, rfl, rfl, rfl⟩ := hs
      exact lv_ishr hx hb hdg (hk H locs ls hl hP hD hS)
    · cases hs
  | ladd =>
    have h1 : len = 1 := of_decide_eq_true hok2
    subst h1
    simp only [zstp] at hs
    split at hs
    · rename_i y1 x1 S2
      simp only [Option.some.injEq, Sum.inl.injEq, Prod.mk.injEq] at hs
      obtain ⟨rfl, rfl, rfl, rfl⟩ := hs
      exact lv_ladd hx hb hdg (hk H locs ls hl hP hD hS)
    · cases hs
  | lmul =>
    have h1 : len = 1 := of_decide_eq_true hok2
    subst h1
    simp only [zstp] at hs
    split at hs
    · rename_i y1 x1 S2
      simp only [Option.some.injEq, Sum.inl.injEq, Prod.mk.injEq] at hs
      obtain ⟨rfl, rfl, rfl, rfl⟩ := hs
      exact lv_lmul hx hb hdg (hk H locs ls hl hP hD hS)
    · cases hs
  | iushr =>
    have h1 : len = 1 := of_decide_eq_true hok2
    subst h1
    simp only [zstp] at hs
    split at hs
    · rename_i y1 x1 S2
      simp only [Option.some.injEq, Sum.inl.injEq, Prod.mk.injEq] at hs
      obtain ⟨rfl, rfl, rfl, rfl⟩ := hs
      exact lv_iushr hx hb hdg rfl (hk H locs ls hl hP hD hS)
    · cases hs
  | lcmp =>
    have h1 : len = 1 := of_decide_eq_true hok2
    subst h1
    simp only [zstp] at hs
    split at hs
    · rename_i y1 x1 S2
      simp only [Option.some.injEq, Sum.inl.injEq, Prod.mk.injEq] at hs
      obtain ⟨rfl, rfl, rfl, rfl⟩ := hs
      exact W.lcmp hx hb hdg (hk H locs ls hl hP hD hS)
    · cases hs
  | idiv =>
    have h1 : len = 1 := of_decide_eq_true hok2
    subst h1
    simp only [zstp] at hs
    split at hs
    · rename_i y1 x1 S2
      split at hs
      · cases hs
      · rename_i hne
        simp only [Option.some.injEq, Sum.inl.injEq, Prod.mk.injEq] at hs
        obtain ⟨rfl, rfl, rfl, rfl⟩ := hs
        exact lv_idiv hx hb hdg hne (hk H locs ls hl hP hD hS)
    · cases hs
  | irem =>
    have h1 : len = 1 := of_decide_eq_true hok2
    subst h1
    simp only [zstp] at hs
    split at hs
    · rename_i y1 x1 S2
      split at hs
      · cases hs
      · rename_i hne
        simp only [Option.some.injEq, Sum.inl.injEq, Prod.mk.injEq] at hs
        obtain ⟨rfl, rfl, rfl, rfl⟩ := hs
        exact lv_irem hx hb hdg hne (hk H locs ls hl hP hD hS)
    · cases hs
  | ldiv =>
    have h1 : len = 1 := of_decide_eq_true hok2
    subst h1
    simp only [zstp] at hs
    split at hs
    · rename_i y1 x1 S2
      split at hs
      · cases hs
      · rename_i hne
        simp only [Option.some.injEq, Sum.inl.injEq, Prod.mk.injEq] at hs
        obtain ⟨rfl, rfl, rfl, rfl⟩ := hs
        exact lv_ldiv hx hb hdg hne (hk H locs ls hl hP hD hS)
    · cases hs
  | lrem =>
    have h1 : len = 1 := of_decide_eq_true hok2
    subst h1
    simp only [zstp] at hs
    split at hs
    · rename_i y1 x1 S2
      split at hs
      · cases hs
      · rename_i hne
        simp only [Option.some.injEq, Sum.inl.injEq, Prod.mk.injEq] at hs
        obtain ⟨rfl, rfl, rfl, rfl⟩ := hs
        exact lv_lrem hx hb hdg hne (hk H locs ls hl hP hD hS)
    · cases hs
  | ineg =>
    have h1 : len = 1 := of_decide_eq_true hok2
    subst h1
    simp only [zstp] at hs
    split at hs
    · rename_i x1 S2
      simp only [Option.some.injEq, Sum.inl.injEq, Prod.mk.injEq] at hs
      obtain ⟨rfl, rfl, rfl, rfl⟩ := hs
      exact lv_ineg hx hb hdg (hk H locs ls hl hP hD hS)
    · cases hs
  | i2l =>
    have h1 : len = 1 := of_decide_eq_true hok2
    subst h1
    simp only [zstp] at hs
    split at hs
    · rename_i x1 S2
      simp only [Option.some.injEq, Sum.inl.injEq, Prod.mk.injEq] at hs
      obtain ⟨rfl, rfl, rfl, rfl⟩ := hs
      exact lv_i2l hx hb hdg rfl (hk H locs ls hl hP hD hS)
    · cases hs
  | l2i =>
    have h1 : len = 1 := of_decide_eq_true hok2
    subst h1
    simp only [zstp] at hs
    split at hs
    · rename_i x1 S2
      simp only [Option.some.injEq, Sum.inl.injEq, Prod.mk.injEq] at hs
      obtain ⟨rfl, rfl, rfl, rfl⟩ := hs
      exact lv_l2i hx hb hdg rfl (hk H locs ls hl hP hD hS)
    · cases hs
  | dup =>
    have h1 : len = 1 := of_decide_eq_true hok2
    subst h1
    simp only [zstp] at hs
    split at hs
    · rename_i x1 S2
      simp only [Option.some.injEq, Sum.inl.injEq, Prod.mk.injEq] at hs
      obtain ⟨rfl, rfl, rfl, rfl⟩ := hs
      exact lv_dup hx hb hdg rfl (hk H locs ls hl hP hD hS)
    · rename_i x1 S2
      simp only [Option.some.injEq, Sum.inl.injEq, Prod.mk.injEq] at hs
      obtain ⟨rfl, rfl, rfl, rfl⟩ := hs
      exact lv_dup hx hb hdg rfl (hk H locs ls hl hP hD hS)
    · cases hs
  | dup2 =>
    have h1 : len = 1 := of_decide_eq_true hok2
    subst h1
    simp only [zstp] at hs
    split at hs
    · rename_i y1 x1 S2
      simp only [Option.some.injEq, Sum.inl.injEq, Prod.mk.injEq] at hs
      obtain ⟨rfl, rfl, rfl, rfl⟩ := hs
      exact lv_dup2_11 hx hb hdg rfl rfl (hk H locs ls hl hP hD hS)
    · cases hs
  | goto o =>
    obtain ⟨g1, g2⟩ := Bool.and_eq_true_iff.mp hok2
    have h1 : len = 3 := of_decide_eq_true g1
    clear g1 hok2
    subst h1
    have h2 : (pc : Int) + o = (a : Int) := of_decide_eq_true g2
    clear g2
    simp only [zstp] at hs
    simp only [Option.some.injEq, Sum.inl.injEq, Prod.mk.injEq] at hs
    obtain ⟨rfl, rfl, rfl, rfl⟩ := hs
    exact lv_goto hx hb hdg h2 (hk H locs ls hl hP hD hS)
  | if_icmp cd o =>
    obtain ⟨g1, g2⟩ := Bool.and_eq_true_iff.mp hok2
    have h1 : len = 3 := of_decide_eq_true g1
    clear g1 hok2
    subst h1
    have h2 : (pc : Int) + o = (a : Int) := of_decide_eq_true g2
    clear g2
    simp only [zstp] at hs
    split at hs
    · rename_i y1 x1 S2
      cases cd with
      | eq =>
        simp only [zcb, decide_eq_true_eq] at hs
        refine lv_icmp_eq hx hb hdg h2 (fun hc => ?_) (fun hc => ?_)
        · rw [if_pos hc] at hs
          simp only [Option.some.injEq, Sum.inl.injEq, Prod.mk.injEq] at hs
          obtain ⟨rfl, rfl, rfl, rfl⟩ := hs
          exact hk H locs ls hl hP hD hS
        · rw [if_neg hc] at hs
          simp only [Option.some.injEq, Sum.inl.injEq, Prod.mk.injEq] at hs
          obtain ⟨rfl, rfl, rfl, rfl⟩ := hs
          exact hk H locs ls hl hP hD hS
      | ne =>
        simp only [zcb, decide_eq_true_eq] at hs
        refine lv_icmp_ne hx hb hdg h2 (fun hc => ?_) (fun hc => ?_)
        · rw [if_pos hc] at hs
          simp only [Option.some.injEq, Sum.inl.injEq, Prod.mk.injEq] at hs
          obtain ⟨rfl, rfl, rfl, rfl⟩ := hs
          exact hk H locs ls hl hP hD hS
        · rw [if_neg (fun q => q hc)] at hs
          simp only [Option.some.injEq, Sum.inl.injEq, Prod.mk.injEq] at hs
          obtain ⟨rfl, rfl, rfl, rfl⟩ := hs
          exact hk H locs ls hl hP hD hS
      | lt =>
        simp only [zcb, decide_eq_true_eq] at hs
        refine lv_icmp_lt hx hb hdg h2 (fun hc => ?_) (fun hc => ?_)
        · rw [if_pos hc] at hs
          simp only [Option.some.injEq, Sum.inl.injEq, Prod.mk.injEq] at hs
          obtain ⟨rfl, rfl, rfl, rfl⟩ := hs
          exact hk H locs ls hl hP hD hS
        · rw [if_neg hc] at hs
          simp only [Option.some.injEq, Sum.inl.injEq, Prod.mk.injEq] at hs
          obtain ⟨rfl, rfl, rfl, rfl⟩ := hs
          exact hk H locs ls hl hP hD hS
      | ge =>
        simp only [zcb, decide_eq_true_eq] at hs
        refine lv_icmp_ge hx hb hdg h2 (fun hc => ?_) (fun hc => ?_)
        · rw [if_pos hc] at hs
          simp only [Option.some.injEq, Sum.inl.injEq, Prod.mk.injEq] at hs
          obtain ⟨rfl, rfl, rfl, rfl⟩ := hs
          exact hk H locs ls hl hP hD hS
        · rw [if_neg hc] at hs
          simp only [Option.some.injEq, Sum.inl.injEq, Prod.mk.injEq] at hs
          obtain ⟨rfl, rfl, rfl, rfl⟩ := hs
          exact hk H locs ls hl hP hD hS
      | gt =>
        simp only [zcb, decide_eq_true_eq] at hs
        refine lv_icmp_gt hx hb hdg h2 (fun hc => ?_) (fun hc => ?_)
        · rw [if_pos hc] at hs
          simp only [Option.some.injEq, Sum.inl.injEq, Prod.mk.injEq] at hs
          obtain ⟨rfl, rfl, rfl, rfl⟩ := hs
          exact hk H locs ls hl hP hD hS
        · rw [if_neg hc] at hs
          simp only [Option.some.injEq, Sum.inl.injEq, Prod.mk.injEq] at hs
          obtain ⟨rfl, rfl, rfl, rfl⟩ := hs
          exact hk H locs ls hl hP hD hS
      | le =>
        simp only [zcb, decide_eq_true_eq] at hs
        refine lv_icmp_le hx hb hdg h2 (fun hc => ?_) (fun hc => ?_)
        · rw [if_pos hc] at hs
          simp only [Option.some.injEq, Sum.inl.injEq, Prod.mk.injEq] at hs
          obtain ⟨rfl, rfl, rfl, rfl⟩ := hs
          exact hk H locs ls hl hP hD hS
        · rw [if_neg hc] at hs
          simp only [Option.some.injEq, Sum.inl.injEq, Prod.mk.injEq] at hs
          obtain ⟨rfl, rfl, rfl, rfl⟩ := hs
          exact hk H locs ls hl hP hD hS
    · cases hs
  | ifCond cd o =>
    obtain ⟨g1, g2⟩ := Bool.and_eq_true_iff.mp hok2
    have h1 : len = 3 := of_decide_eq_true g1
    clear g1 hok2
    subst h1
    have h2 : (pc : Int) + o = (a : Int) := of_decide_eq_true g2
    clear g2
    simp only [zstp] at hs
    split at hs
    · rename_i x1 S2
      cases cd with
      | eq =>
        simp only [zcb, decide_eq_true_eq] at hs
        refine lv_if_eq hx hb hdg h2 (fun hc => ?_) (fun hc => ?_)
        · rw [if_pos hc] at hs
          simp only [Option.some.injEq, Sum.inl.injEq, Prod.mk.injEq] at hs
          obtain ⟨rfl, rfl, rfl, rfl⟩ := hs
          exact hk H locs ls hl hP hD hS
        · rw [if_neg hc] at hs
          simp only [Option.some.injEq, Sum.inl.injEq, Prod.mk.injEq] at hs
          obtain ⟨rfl, rfl, rfl, rfl⟩ := hs
          exact hk H locs ls hl hP hD hS
      | ne =>
        simp only [zcb, decide_eq_true_eq] at hs
        refine lv_if_ne hx hb hdg h2 (fun hc => ?_) (fun hc => ?_)
        · rw [if_pos hc] at hs
          simp only [Option.some.injEq, Sum.inl.injEq, Prod.mk.injEq] at hs
          obtain ⟨rfl, rfl, rfl, rfl⟩ := hs
          exact hk H locs ls hl hP hD hS
        · rw [if_neg (fun q => q hc)] at hs
          simp only [Option.some.injEq, Sum.inl.injEq, Prod.mk.injEq] at hs
          obtain ⟨rfl, rfl, rfl, rfl⟩ := hs
          exact hk H locs ls hl hP hD hS
      | lt =>
        simp only [zcb, decide_eq_true_eq] at hs
        refine lv_if_lt hx hb hdg h2 (fun hc => ?_) (fun hc => ?_)
        · rw [if_pos hc] at hs
          simp only [Option.some.injEq, Sum.inl.injEq, Prod.mk.injEq] at hs
          obtain ⟨rfl, rfl, rfl, rfl⟩ := hs
          exact hk H locs ls hl hP hD hS
        · rw [if_neg hc] at hs
          simp only [Option.some.injEq, Sum.inl.injEq, Prod.mk.injEq] at hs
          obtain ⟨rfl, rfl, rfl, rfl⟩ := hs
          exact hk H locs ls hl hP hD hS
      | ge =>
        simp only [zcb, decide_eq_true_eq] at hs
        refine lv_if_ge hx hb hdg h2 (fun hc => ?_) (fun hc => ?_)
        · rw [if_pos hc] at hs
          simp only [Option.some.injEq, Sum.inl.injEq, Prod.mk.injEq] at hs
          obtain ⟨rfl, rfl, rfl, rfl⟩ := hs
          exact hk H locs ls hl hP hD hS
        · rw [if_neg hc] at hs
          simp only [Option.some.injEq, Sum.inl.injEq, Prod.mk.injEq] at hs
          obtain ⟨rfl, rfl, rfl, rfl⟩ := hs
          exact hk H locs ls hl hP hD hS
      | gt =>
        simp only [zcb, decide_eq_true_eq] at hs
        refine lv_if_gt hx hb hdg h2 (fun hc => ?_) (fun hc => ?_)
        · rw [if_pos hc] at hs
          simp only [Option.some.injEq, Sum.inl.injEq, Prod.mk.injEq] at hs
          obtain ⟨rfl, rfl, rfl, rfl⟩ := hs
          exact hk H locs ls hl hP hD hS
        · rw [if_neg hc] at hs
          simp only [Option.some.injEq, Sum.inl.injEq, Prod.mk.injEq] at hs
          obtain ⟨rfl, rfl, rfl, rfl⟩ := hs
          exact hk H locs ls hl hP hD hS
      | le =>
        simp only [zcb, decide_eq_true_eq] at hs
        refine lv_if_le hx hb hdg h2 (fun hc => ?_) (fun hc => ?_)
        · rw [if_pos hc] at hs
          simp only [Option.some.injEq, Sum.inl.injEq, Prod.mk.injEq] at hs
          obtain ⟨rfl, rfl, rfl, rfl⟩ := hs
          exact hk H locs ls hl hP hD hS
        · rw [if_neg hc] at hs
          simp only [Option.some.injEq, Sum.inl.injEq, Prod.mk.injEq] at hs
          obtain ⟨rfl, rfl, rfl, rfl⟩ := hs
          exact hk H locs ls hl hP hD hS
    · cases hs
  | tableswitch d lo hi os =>
    obtain ⟨g1, g2⟩ := Bool.and_eq_true_iff.mp hok2
    obtain ⟨h2, g3⟩ := Bool.and_eq_true_iff.mp g2
    obtain ⟨g4, g5⟩ := Bool.and_eq_true_iff.mp g3
    obtain ⟨g6, g7⟩ := Bool.and_eq_true_iff.mp g5
    have h1 : 0 ≤ (pc : Int) + d := of_decide_eq_true g1
    have h3 : (os.toList.length : Int) = hi - lo + 1 := of_decide_eq_true g4
    have h4 : -2147483648 ≤ lo := of_decide_eq_true g6
    have h5 : hi < 2147483648 := of_decide_eq_true g7
    clear g1 g2 g3 g4 g5 g6 g7 hok2
    simp only [zstp] at hs
    split at hs
    · rename_i x1 S2
      rw [zsw_tb pc os.toList lo _ x1 h4 (by omega)] at hs
      simp only [Option.some.injEq, Sum.inl.injEq, Prod.mk.injEq] at hs
      obtain ⟨rfl, rfl, rfl, rfl⟩ := hs
      by_cases hc : x1.toInt < lo ∨ lo + os.toList.length ≤ x1.toInt
      · rw [if_pos hc] at hk
        exact lv_tableOut hx hb hdg (by omega) (by omega) (hk H locs ls hl hP hD hS)
      · rw [if_neg hc] at hk
        have hlt : (x1.toInt - lo).toNat < os.toList.length := by omega
        have hge : os[(x1.toInt - lo).toNat]? = some (os.toList[(x1.toInt - lo).toNat]) := by
          rw [← Array.getElem?_toList]
          exact List.getElem?_eq_getElem hlt
        rw [List.getElem?_eq_getElem hlt] at hk
        have hp := of_decide_eq_true (List.all_eq_true.mp h2 _ (List.getElem_mem hlt))
        have hp : 0 ≤ (pc : Int) + os.toList[(x1.toInt - lo).toNat] := hp
        exact lv_tableIn hx hb hdg (by omega) (by omega) hge (by rw [Option.getD_some, Int.toNat_of_nonneg hp]) (hk H locs ls hl hP hD hS)
    · cases hs
  | lookupswitch d ps =>
    obtain ⟨g1, g2⟩ := Bool.and_eq_true_iff.mp hok2
    obtain ⟨h2, h3⟩ := Bool.and_eq_true_iff.mp g2
    have h1 : 0 ≤ (pc : Int) + d := of_decide_eq_true g1
    clear g1 g2 hok2
    have h4 : ∀ q ∈ ps.toList, 0 ≤ (pc : Int) + q.2 ∧ -2147483648 ≤ q.1 ∧ q.1 < 2147483648 := by
      intro q hq
      have h := List.all_eq_true.mp h2 q hq
      obtain ⟨a1, a2⟩ := Bool.and_eq_true_iff.mp h
      obtain ⟨a2, a3⟩ := Bool.and_eq_true_iff.mp a2
      exact ⟨of_decide_eq_true a1, of_decide_eq_true a2, of_decide_eq_true a3⟩
    simp only [zstp] at hs
    split at hs
    · rename_i x1 S2
      rw [zsw_lk pc ps.toList d x1 (fun q hq => (h4 q hq).2)] at hs
      simp only [Option.some.injEq, Sum.inl.injEq, Prod.mk.injEq] at hs
      obtain ⟨rfl, rfl, rfl, rfl⟩ := hs
      have hp : 0 ≤ (pc : Int) + Op.lookupswitch.offset ps.toList d x1.toInt := zlk_pos (fun q hq => (h4 q hq).1) h1
      exact lv_lookup hx hb hdg h3 rfl (by rw [Int.toNat_of_nonneg hp]) (hk H locs ls hl hP hD hS)
    · cases hs
  | getfield ix =>
    obtain ⟨g1, g2⟩ := Bool.and_eq_true_iff.mp hok2
    have h1 : len = 3 := of_decide_eq_true g1
    clear g1 hok2
    subst h1
    obtain ⟨h3, h4, h5⟩ := zhasF_ok g2
    simp only [zstp] at hs
    split at hs
    · rename_i i S2
      split at hs
      · rename_i hkd
        simp only [Option.some.injEq, Sum.inl.injEq, Prod.mk.injEq] at hs
        obtain ⟨rfl, rfl, rfl, rfl⟩ := hs
        have hlt : i < zN := zkd_lt (by rw [hkd]; exact Nat.zero_le 3)
        obtain ⟨hcl, ha⟩ := zcs_ok h5
        exact va_get (D := D) (ci := a) (C := (zcs a).1) (T := (zcs a).2.1) (N := (zcs a).2.2) hx hb hts (zuin a ha) hown hK hP i (by rw [zws_at hlt, zcell_0 hkd]) hcl b h5 (hts _ h3) (fun q hq => by rw [← h4]; exact hq) (by rw [List.getElem?_map, List.getElem?_range (zft_len h5).1]; rfl) hdg (hk H locs ls hl hP hD hS)
      · cases hs
    · cases hs
  | putfield ix =>
    obtain ⟨g1, g2⟩ := Bool.and_eq_true_iff.mp hok2
    have h1 : len = 3 := of_decide_eq_true g1
    clear g1 hok2
    subst h1
    obtain ⟨g3, g4⟩ := Bool.and_eq_true_iff.mp g2
    have h6 : ((zcs a).2.1 b).2.2.2 = false := of_decide_eq_true g4
    obtain ⟨h3, h4, h5⟩ := zhasF_ok g3
    obtain ⟨hcl, ha⟩ := zcs_ok h5
    obtain ⟨ty0, hty0⟩ := zty a ha
    simp only [zstp] at hs
    split at hs
    · rename_i x i S2
      split at hs
      · rename_i hkd
        have hlt : i < zN := zkd_lt (by rw [hkd]; exact Nat.zero_le 3)
        split at hs
        · rename_i hft
          simp only [Option.some.injEq, Sum.inl.injEq, Prod.mk.injEq] at hs
          obtain ⟨rfl, rfl, rfl, rfl⟩ := hs
          have hft0 : zft a b = 0 ∨ zft a b = 3 := by
            rcases hft with q | q
            · exact Or.inl q
            · exact Or.inr q.1
          have hval : zmv as (zgf i a b (zst X i (upd (X i) b x))) = .int x := by
            rw [zgf_i hft0, zst_at]
            show Value.int (upd (X i) b x b) = _
            rw [pk_us]
          have hd := zft_ty h5
          have hnf : narrow (match zft a b with | 0 => .int | 3 => .boolean | _ => (match ((zcs a).2.1 b).2.2.1 with | "[I" => .array .int | d => (parseFieldDescriptor d).getD .int)) (.int x) = .int x ∧ fits (match zft a b with | 0 => .int | 3 => .boolean | _ => (match ((zcs a).2.1 b).2.2.1 with | "[I" => .array .int | d => (parseFieldDescriptor d).getD .int)) (.int x) = true := by
            rcases hft with q | ⟨q, hx01⟩
            · simp only [q]
              exact ⟨rfl, rfl⟩
            · simp only [q]
              rcases hx01 with rfl | rfl <;> exact ⟨by decide, by decide⟩
          refine va_put (D := D) (ci := a) (C := (zcs a).1) (T := (zcs a).2.1) (N := (zcs a).2.2) hx hb hts (zuin a ha) ty0 hty0 (znmn a ha) hown hK hP hD hS i (by rw [zws_at hlt, zcell_0 hkd]) hcl b h5 (hts _ h3) (fun q hq => by rw [← h4]; exact hq) h6 hd hnf.1 hnf.2 (by simp; simpa using (zft_len h5).1) hdg (fun H1 locs1 hP1 hD1 hS1 => ?_)
          rw [show zmv as (Value.int x) = .int x from rfl, zfs_set x hval, ← zcell_0 (as := as) (ca := ca) (X := zst X i (upd (X i) b x)) hkd, zws_set _ hlt] at hP1 hD1
          exact hk H1 locs1 ls hl hP1 hD1 hS1
        · cases hs
      · cases hs
    · rename_i j i S2
      split at hs
      · rename_i hkd
        have hlt : i < zN := zkd_lt (by rw [hkd]; exact Nat.zero_le 3)
        split at hs
        · rename_i hft
          simp only [Option.some.injEq, Sum.inl.injEq, Prod.mk.injEq] at hs
          obtain ⟨rfl, rfl, rfl, rfl⟩ := hs
          have hjs : j < 2 ^ 31 := Nat.lt_trans hft.2 (by decide)
          have hval : zmv as (zgf i a b (zst X i (upd (X i) b (nI j)))) = .ref (as j) := by
            rw [zgf_d hft.1, zst_at]
            show Value.ref (as (upd (X i) b (nI j) b).toNatClampNeg) = _
            rw [pk_us, nI_clamp hjs]
          have hd := zft_ty h5
          have hnf : narrow (match zft a b with | 0 => .int | 3 => .boolean | _ => (match ((zcs a).2.1 b).2.2.1 with | "[I" => .array .int | d => (parseFieldDescriptor d).getD .int)) (.ref (as j)) = .ref (as j) ∧ fits (match zft a b with | 0 => .int | 3 => .boolean | _ => (match ((zcs a).2.1 b).2.2.1 with | "[I" => .array .int | d => (parseFieldDescriptor d).getD .int)) (.ref (as j)) = true := by
            have hai : ((zcs a).2.1 b).2.2.1 = "[I" := zdyn a ha b h5 hft.1
            simp only [hft.1, hai]
            exact ⟨rfl, rfl⟩
          refine va_put (D := D) (ci := a) (C := (zcs a).1) (T := (zcs a).2.1) (N := (zcs a).2.2) hx hb hts (zuin a ha) ty0 hty0 (znmn a ha) hown hK hP hD hS i (by rw [zws_at hlt, zcell_0 hkd]) hcl b h5 (hts _ h3) (fun q hq => by rw [← h4]; exact hq) h6 hd hnf.1 hnf.2 (by simp; simpa using (zft_len h5).1) hdg (fun H1 locs1 hP1 hD1 hS1 => ?_)
          rw [show zmv as (Value.ref j) = .ref (as j) from rfl, zfs_set (nI j) hval, ← zcell_0 (as := as) (ca := ca) (X := zst X i (upd (X i) b (nI j))) hkd, zws_set _ hlt] at hP1 hD1
          exact hk H1 locs1 ls hl hP1 hD1 hS1
        · cases hs
      · cases hs
    · cases hs
  | iaload =>
    have h1 : len = 1 := of_decide_eq_true hok2
    subst h1
    simp only [zstp] at hs
    split at hs
    · rename_i j i S2
      split at hs
      · rename_i hc
        simp only [Option.some.injEq, Sum.inl.injEq, Prod.mk.injEq] at hs
        obtain ⟨rfl, rfl, rfl, rfl⟩ := hs
        have hlt : i < zN := zkd_lt (by rw [hc.1]; decide)
        exact va_iald  hx hb hK hP i i (by rw [zws_at hlt, zcell_1 hc.1]) (by rw [ztys_at hlt, zet_1 hc.1]) hc.2 hdg (hk H locs ls hl hP hD hS)
      · cases hs
    · cases hs
  | baload =>
    have h1 : len = 1 := of_decide_eq_true hok2
    subst h1
    simp only [zstp] at hs
    split at hs
    · rename_i j i S2
      split at hs
      · rename_i hc
        simp only [Option.some.injEq, Sum.inl.injEq, Prod.mk.injEq] at hs
        obtain ⟨rfl, rfl, rfl, rfl⟩ := hs
        have hlt : i < zN := zkd_lt (by rw [hc.1]; decide)
        exact va_zald  hx hb hK hP i i (by rw [zws_at hlt, zcell_2 hc.1]) (by rw [ztys_at hlt, zet_2 hc.1]) hc.2 hdg (hk H locs ls hl hP hD hS)
      · cases hs
    · cases hs
  | aaload =>
    have h1 : len = 1 := of_decide_eq_true hok2
    subst h1
    simp only [zstp] at hs
    split at hs
    · rename_i j i S2
      split at hs
      · rename_i hc
        simp only [Option.some.injEq, Sum.inl.injEq, Prod.mk.injEq] at hs
        obtain ⟨rfl, rfl, rfl, rfl⟩ := hs
        have hlt : i < zN := zkd_lt (by rw [hc.1]; decide)
        exact va_aldq (f := fun j => some (as (zrf i j))) hx hb hK hP i i (by rw [zws_at hlt, zcell_3 hc.1]) (by rw [ztys_at hlt, zet_3 hc.1]) hc.2 hdg (hk H locs ls hl hP hD hS)
      · cases hs
    · cases hs
  | iastore =>
    have h1 : len = 1 := of_decide_eq_true hok2
    subst h1
    simp only [zstp] at hs
    split at hs
    · rename_i x j i S2
      split at hs
      · rename_i hc
        simp only [Option.some.injEq, Sum.inl.injEq, Prod.mk.injEq] at hs
        obtain ⟨rfl, rfl, rfl, rfl⟩ := hs
        have hlt : i < zN := zkd_lt (by rw [hc.1]; decide)
        refine va_iast hx hb hK hP hD hS i i (by rw [zws_at hlt, zcell_1 hc.1]) (by rw [ztys_at hlt, zet_1 hc.1]) hc.2 hdg (fun H1 locs1 hP1 hD1 hS1 => ?_)
        have hce : zcell as ca (zst X i (upd (X i) j.toNatClampNeg x)) i = .inl (ca i, (zkd i).2, .inl (upd (X i) j.toNatClampNeg x)) := by rw [zcell_1 hc.1, zst_at]
        rw [← hce, zws_set _ hlt] at hP1 hD1
        exact hk H1 locs1 ls hl hP1 hD1 hS1
      · cases hs
    · cases hs
  | bastore =>
    have h1 : len = 1 := of_decide_eq_true hok2
    subst h1
    simp only [zstp] at hs
    split at hs
    · rename_i x j i S2
      split at hs
      · rename_i hc
        simp only [Option.some.injEq, Sum.inl.injEq, Prod.mk.injEq] at hs
        obtain ⟨rfl, rfl, rfl, rfl⟩ := hs
        have hlt : i < zN := zkd_lt (by rw [hc.1]; decide)
        have hnx : vp_nar .boolean x = x := by
          rcases hc.2.2 with rfl | rfl <;> decide
        refine va_zast hx hb hK hP hD hS i i (by rw [zws_at hlt, zcell_2 hc.1]) (by rw [ztys_at hlt, zet_2 hc.1]) hc.2.1 hdg (fun H1 locs1 hP1 hD1 hS1 => ?_)
        rw [hnx] at hP1 hD1
        have hce : zcell as ca (zst X i (upd (X i) j.toNatClampNeg x)) i = .inl (ca i, (zkd i).2, .inl (upd (X i) j.toNatClampNeg x)) := by rw [zcell_2 hc.1, zst_at]
        rw [← hce, zws_set _ hlt] at hP1 hD1
        exact hk H1 locs1 ls hl hP1 hD1 hS1
      · cases hs
    · cases hs
  | arraylength =>
    have h1 : len = 1 := of_decide_eq_true hok2
    subst h1
    simp only [zstp] at hs
    split at hs
    · rename_i i S2
      split at hs
      · rename_i hc
        simp only [Option.some.injEq, Sum.inl.injEq, Prod.mk.injEq] at hs
        obtain ⟨rfl, rfl, rfl, rfl⟩ := hs
        have hlt : i < zN := zkd_lt (by rw [hc]; decide)
        exact va_alen (x := ((zkd i).2, .inl (X i))) (v := nI (zkd i).2) hx hb hK hP i i (by rw [zws_at hlt, zcell_1 hc]) (ztys_at hlt) rfl hdg (hk H locs ls hl hP hD hS)
      · cases hs
    · cases hs
  | invokestatic ix =>
    obtain ⟨g1, g2⟩ := Bool.and_eq_true_iff.mp hok2
    have h1 : len = 3 := of_decide_eq_true g1
    clear g1 hok2
    subst h1
    have h2 := g2
    clear g2
    simp only [zstp] at hs
    split at hs
    · rename_i ha
      rw [if_pos ha] at h2
      split at hs
      · rename_i n dp i sp j S2
        split at hs
        · rename_i hc
          simp only [Option.some.injEq, Sum.inl.injEq, Prod.mk.injEq] at hs
          obtain ⟨rfl, rfl, rfl, rfl⟩ := hs
          obtain ⟨c1, c2, c3, c4, c5, c6, c7, c8⟩ := hc
          have hlt : i < zN := zkd_lt (by rw [c1]; decide)
          have hlt2 : j < zN := zkd_lt (by rw [c2]; decide)
          refine va_copyi hx hb hmls hown (hts _ (zhasA_ok h2)) (hts _ zac1) (hts _ zac2) (hts _ zac3) hK hP hD hS j i j i (by rw [zws_at hlt2, zcell_1 c2]) (by rw [zws_at hlt, zcell_1 c1]) (by rw [ztys_at hlt2, zet_1 c2]) (by rw [ztys_at hlt, zet_1 c1]) rfl c3 c4 c5 c6 c7 (fun _ _ => rfl) hRf (Nat.le_trans (Nat.add_le_add (zsum_le as S2 c8) (show nativeFrameWords "java/lang/System" "arraycopy" 5 + 11 ≤ 18 by decide)) (Nat.le_trans (by decide) hRl)) hdg (fun H1 locs1 hP1 hD1 hS1 => ?_)
          have hce : zcell as ca (zst X i (va_cpy (X j) (X i) sp.toNatClampNeg dp.toNatClampNeg n.toNatClampNeg)) i = .inl (ca i, (zkd i).2, .inl (va_cpy (X j) (X i) sp.toNatClampNeg dp.toNatClampNeg n.toNatClampNeg)) := by rw [zcell_1 c1, zst_at]
          rw [← hce, zws_set _ hlt] at hP1 hD1
          exact hk H1 locs1 ls hl hP1 hD1 hS1
        · cases hs
      · cases hs
    · rename_i ha
      rw [if_neg ha] at h2
      split at hs
      · rename_i hb1
        rw [if_pos (Or.inl hb1)] at h2
        have h3 := zhasH_ok h2
        rw [hb1] at h3
        split at hs
        · rename_i y1 x1 S2
          split at hs
          · rename_i hc
            simp only [Option.some.injEq, Sum.inl.injEq, Prod.mk.injEq] at hs
            obtain ⟨rfl, rfl, rfl, rfl⟩ := hs
            exact va_mmax hx hb hmls hown (hts _ h3) (hts _ zma_max1) (hts _ zma_ini) (hts _ zma_max2) hRf (Nat.le_trans (Nat.add_le_add_right (zsum_le as S2 hc) 13) (Nat.le_trans (by decide) hRl)) (Nat.zero_le _) (Nat.zero_le _) hdg (hk H locs ls hl hP hD hS)
          · cases hs
        · cases hs
      split at hs
      · rename_i hb1
        rw [if_pos (Or.inr (Or.inl hb1))] at h2
        have h3 := zhasH_ok h2
        rw [hb1] at h3
        split at hs
        · rename_i y1 x1 S2
          split at hs
          · rename_i hc
            simp only [Option.some.injEq, Sum.inl.injEq, Prod.mk.injEq] at hs
            obtain ⟨rfl, rfl, rfl, rfl⟩ := hs
            exact va_mmin hx hb hmls hown (hts _ h3) (hts _ zma_min1) (hts _ zma_ini) (hts _ zma_min2) hRf (Nat.le_trans (Nat.add_le_add_right (zsum_le as S2 hc) 13) (Nat.le_trans (by decide) hRl)) (Nat.zero_le _) (Nat.zero_le _) hdg (hk H locs ls hl hP hD hS)
          · cases hs
        · cases hs
      split at hs
      · rename_i hb1
        rw [if_pos (Or.inr (Or.inr hb1))] at h2
        have h3 := zhasH_ok h2
        rw [hb1] at h3
        split at hs
        · rename_i x1 S2
          split at hs
          · rename_i hc
            simp only [Option.some.injEq, Sum.inl.injEq, Prod.mk.injEq] at hs
            obtain ⟨rfl, rfl, rfl, rfl⟩ := hs
            exact va_mabs hx hb hmls hown (hts _ h3) (hts _ zma_abs1) (hts _ zma_ini) (hts _ zma_abs2) hRf (Nat.le_trans (Nat.add_le_add_right (zsum_le as S2 hc) 13) (Nat.le_trans (by decide) hRl)) (Nat.zero_le _) (Nat.zero_le _) hdg (hk H locs ls hl hP hD hS)
          · cases hs
        · cases hs
      split at hs
      · cases hs
      · cases hs
  | invokevirtual ix =>
    simp only [zstp] at hs
    split at hs
    · split at hs
      · cases hs
      · cases hs
    · cases hs
  | ireturn =>
    simp only [zstp] at hs
    split at hs
    · split at hs
      · cases hs
      · cases hs
    · cases hs
  | return_ =>
    simp only [zstp] at hs
    split at hs
    · cases hs
    · cases hs
  | _ => cases hs
