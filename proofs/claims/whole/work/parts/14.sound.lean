/-! the induction over the fuel -/
theorem zhasM_ok {o ix a b : Nat} (h : zhasM o ix a b = true) : ∃ q ∈ zML, q.1 = ((o, ix), (a, b)) ∧ (b ≠ 1 → zMw q.1 ∈ gT) := by
  unfold zhasM at h
  obtain ⟨q, hq, hd⟩ := List.any_eq_true.mp h
  have e := of_decide_eq_true hd
  obtain ⟨h1, h2⟩ := zML_ok q hq
  refine ⟨q, hq, e, fun hb => ?_⟩
  rcases h2 with h2 | h2
  · rw [e] at h2
    exact absurd h2 hb
  · exact gT_at ⟨h1, h2⟩
theorem zA_sub {as : Nat → Nat} {s : State} {H : Heap} {locs : List Loc} (hS : va_S (zA as s.heap.size) s.heap H locs) : ∀ q, zA as H.size q → zA as s.heap.size q := by
  intro q h
  rcases h with h | h
  · exact Or.inl h
  · exact Or.inr (Nat.le_trans hS.1 h)
theorem zD_any {A : Nat → Prop} {D : va_G} {as : Nat → Nat} {ca : Nat → ClassId} {X : zM} {sz : Nat} (h : va_D A (zws as ca X)) : va_D (zA as sz) (zws as ca X) := by
  refine ⟨h.1, fun k q hk => ?_⟩
  obtain ⟨h1, rfl⟩ := zws_get hk
  exact Or.inl ⟨k, h1, rfl⟩
theorem zlist_app {as : Nat → Nat} (r : Option Value) (S : List Value) : (r.map (zmv as)).toList ++ S.map (zmv as) = (r.toList ++ S).map (zmv as) := by
  cases r <;> rfl
set_option maxHeartbeats 4000000 in
set_option maxRecDepth 100000 in
theorem zsnd_succ (n : Nat) (ih : zSnd n) : zSnd (n + 1) := by
  intro y pc L S X r h p l ev s m args below meth c D as ca C hK
  cases hf : zfetch y pc with
  | none => rw [zrun, hf] at h; cases h
  | some e =>
    rw [zrun_succ hf] at h
    obtain ⟨hok, hpc, hy⟩ := zok_of hf
    subst hpc
    have hd1 : 1 ≤ zdp y := zdp_pos y hy
    unfold zsem at h
    cases hs : zstp e L S X with
    | none => rw [hs] at h; cases h
    | some o =>
      rw [hs] at h
      match o, hs, h with
      | .inl (p1, L1, S1, X1), hs, h =>
        exact zgo1 C hK hd1 (show 30 ≤ 30 * zdp y by omega) hok hs (ih y p1 L1 S1 X1 r h p l ev s m args below meth c D as ca C hK)
      | .inr (.inl r1), hs, h =>
        cases h
        intro H locs ls hl hP hD hS
        obtain ⟨hx, hb, hr, hml, hown, hts, hlocks, hnw⟩ := C
        obtain ⟨pc, ins, len, a, b, v⟩ := e
        unfold zokB at hok
        obtain ⟨hdg0, hok2⟩ := Bool.and_eq_true_iff.mp hok
        have hdg : decode (zby y) pc = .ok (ins, len) := of_decide_eq_true hdg0
        clear hdg0 hok
        have hq : ∀ t : State, t.heap = H → s.WarmedH t.vm → zQc D as ca (zA as s.heap.size) (r.1, X) args s (.returned (r.1.map (zmv as))) t := fun t ht hW => ⟨⟨rfl, by rw [ht]; exact hP, va_K.moved hW.alike hK, hD⟩, hS.F ht⟩
        cases ins with
        | ireturn =>
          obtain ⟨g1, g2⟩ := Bool.and_eq_true_iff.mp hok2
          have h1 : len = 1 := of_decide_eq_true g1
          clear g1 hok2
          subst h1
          simp only [zstp] at hs
          split at hs
          · rename_i x hs0
            split at hs
            · rename_i hc
              simp only [Option.some.injEq, Sum.inr.injEq, Sum.inl.injEq] at hs
              subst hs
              rcases Bool.or_eq_true_iff.mp g2 with g3 | g3
              · have h3 : zret y = some .int ∧ a = 0 := of_decide_eq_true g3
                exact W.zret hx hb (by rw [hr]; exact h3.1) (vp_nar_int x) hq hS.2.2 hdg hlocks
              · have h3 : zret y = some .boolean ∧ a = 1 := of_decide_eq_true g3
                have hx01 : x = 0 ∨ x = 1 := by
                  rcases hc with q | q
                  · rw [h3.2] at q; cases q
                  · exact q
                exact W.zret hx hb (by rw [hr]; exact h3.1) (by rcases hx01 with rfl | rfl <;> decide) hq hS.2.2 hdg hlocks
            · cases hs
          · cases hs
        | return_ =>
          obtain ⟨g1, g2⟩ := Bool.and_eq_true_iff.mp hok2
          have h1 : len = 1 := of_decide_eq_true g1
          have h2 : zret y = none := of_decide_eq_true g2
          clear g1 g2 hok2
          subst h1
          simp only [zstp] at hs
          split at hs
          · simp only [Option.some.injEq, Sum.inr.injEq, Sum.inl.injEq] at hs
            subst hs
            exact W.vret hx hb (by rw [hr]; exact h2) hq hS.2.2 hdg hlocks
          · cases hs
        | _ => exact absurd hs (zstp_noret (by intro q; cases q) (by intro q; cases q))
      | .inr (.inr (y1, av, p1, S1)), hs, h =>
        simp only at h
        by_cases hcl : (zent (zmx y1) av).length = zmx y1
        · rw [if_pos hcl] at h
          cases h2 : zrun n y1 0 (zent (zmx y1) av) [] X with
          | none => rw [h2] at h; cases h
          | some r1 =>
            rw [h2] at h
            have h3 : zrun n y p1 L (r1.1.toList ++ S1) r1.2 = some r := h
            have hgo := ih y p1 L (r1.1.toList ++ S1) r1.2 r h3 p l ev s m args below meth c D as ca C hK
            have hy1 := zrun_y h2
            obtain ⟨w1, w2, w3, w4, w5, w6⟩ := zYw_y hy1
            intro H locs ls hl hP hD hS
            have hM := zmet_of ih hcl h2 l D as ca H.size
            obtain ⟨hx, hb, hr, hml, hown, hts, hlocks, hnw⟩ := C
            obtain ⟨pc, ins, len, a, b, v⟩ := e
            unfold zokB at hok
            obtain ⟨hdg0, hok2⟩ := Bool.and_eq_true_iff.mp hok
            have hdg : decode (zby y) pc = .ok (ins, len) := of_decide_eq_true hdg0
            clear hdg0 hok
            have hpar : ∀ sig, parseMethodDescriptor (znm y1).desc = some sig → znp y1 = sig.parameters.length := by
              intro sig hsig
              have := w3.2.2
              rw [hsig] at this
              exact (Option.some.inj this).symm
            have hpre : ∀ U : State, U.heap = H → s.WarmedH U.vm → zPc D as ca H.size X (av.map (zmv as)) (av.map (zmv as)).toArray U := fun U hU hW => ⟨rfl, by rw [hU], by rw [hU]; exact hP, va_K.moved hW.alike hK, zD_any (D := D) hD, zNw_warm hW hnw⟩
            have hgo2 : ∀ (t : State) (H1 : Heap) (locs1 : List Loc), t.heap = H1 → s.vm.Alike t.vm → zB D as ca (zA as H.size) r1.2 t → va_S (zA as s.heap.size) s.heap H1 locs1 → W p l ev (zrm y) s m args below meth c H1 locs1 0 0 (MQ below (zQc D as ca (zA as s.heap.size) r) args s 0 0 (zA as s.heap.size)) (F0 m p1 ls ((r1.1.map (zmv as)).toList ++ S1.map (zmv as))) := by
              intro t H1 locs1 ht hvm hB hS1
              obtain ⟨b1, b2, b3⟩ := hB
              rw [ht] at b1
              rw [zlist_app]
              exact hgo H1 locs1 ls hl b1 (zD_any (D := D) b3) hS1
            cases ins with
            | invokestatic ix =>
              obtain ⟨g1, g2⟩ := Bool.and_eq_true_iff.mp hok2
              have h1 : len = 3 := of_decide_eq_true g1
              clear g1 hok2
              subst h1
              simp only [zstp] at hs
              split at hs
              · split at hs
                · split at hs <;> cases hs
                · cases hs
              · rename_i n1
                split at hs
                · split at hs
                  · split at hs <;> cases hs
                  · cases hs
                · rename_i n2
                  split at hs
                  · split at hs
                    · split at hs <;> cases hs
                    · cases hs
                  · rename_i n3
                    split at hs
                    · split at hs
                      · split at hs <;> cases hs
                      · cases hs
                    · rename_i n4
                      split at hs
                      · rename_i hc
                        simp only [Option.some.injEq, Sum.inr.injEq, Prod.mk.injEq] at hs
                        obtain ⟨rfl, rfl, rfl, rfl⟩ := hs
                        rw [if_neg n1, if_neg (fun q => q.elim n2 (fun q => q.elim n3 n4))] at g2
                        obtain ⟨g3, g4⟩ := Bool.and_eq_true_iff.mp g2
                        obtain ⟨g4, g5⟩ := Bool.and_eq_true_iff.mp g4
                        obtain ⟨g5, g6⟩ := Bool.and_eq_true_iff.mp g5
                        have e1 : b = znp a := of_decide_eq_true g4
                        have e2 : zdp a < zdp y := of_decide_eq_true g5
                        have e3 : zrc a = 99 := of_decide_eq_true g6
                        have hst : Cond.static (znm a) ∈ gT := by
                          rcases w2 with q | q
                          · exact q.2
                          · exact absurd e3 q.1
                        have hlen : ((List.take b S).reverse.map (zmv as)).length = znp a := by simp; rw [e1] at hc ⊢; omega
                        have hstk : S.map (zmv as) = ((List.take b S).reverse.map (zmv as)).reverse ++ (List.drop b S).map (zmv as) := by
                          rw [← List.map_reverse, List.reverse_reverse, ← List.map_append, List.take_append_drop]
                        have hloc : 8 + (zmx a + 11) + (zrm a).locals ≤ (zrm y).locals := by
                          show 8 + (zmx a + 11) + 30 * zdp a ≤ 30 * zdp y
                          omega
                        rcases Bool.or_eq_true_iff.mp g3 with g7 | g7
                        · obtain ⟨q, hq, he, hw⟩ := zhasM_ok g7
                          have hlink := hw (by decide)
                          rw [he] at hlink
                          have hrun := va_runS (R := zrm y) (locs := locs) (cells := 0) (slots := 0) (As := (List.take b S).reverse.map (zmv as)) (rest := (List.drop b S).map (zmv as)) (g := F0 m pc ls (S.map (zmv as))) (n := znp a) (index := ix) (below := below) (meth := meth) (e := ev) ⟨hx, hb, hml, hown, hts⟩ hM ⟨⟨rfl, rfl, e2, hloc, fun w hw a1 U hW => zwl_words hy1 hts hW w hw, List.mem_cons_self, hts _ (zcode_in hy1), hts _ w1, ⟨w3.1, w3.2.1⟩, hpar, hts _ hlink⟩, hts _ hst⟩ ⟨zPc_blind D as ca H.size X _, hpre⟩ rfl hlen hl.1 hstk (lv_room (zsum_le as _ hc.2)) hdg ⟨Nat.zero_le _, Nat.zero_le _⟩
                          exact zcallK hrun hS (fun q _ hq => zA_sub hS q hq) (zA_sub hS) hgo2
                        · obtain ⟨q, hq, he, -⟩ := zhasM_ok g7
                          have hlink := hnw q hq (by rw [he])
                          rw [he] at hlink
                          have hrun := va_runSN (R := zrm y) (locs := locs) (cells := 0) (slots := 0) (As := (List.take b S).reverse.map (zmv as)) (rest := (List.drop b S).map (zmv as)) (g := F0 m pc ls (S.map (zmv as))) (n := znp a) (index := ix) (below := below) (meth := meth) (e := ev) (host := RX9) ⟨hx, hb, hml, hown, hts⟩ hM ⟨⟨⟨rfl, rfl, e2, hloc, fun w hw a1 U hW => zwl_words hy1 hts hW w hw, List.mem_cons_self⟩, hts _ (zcode_in hy1), hts _ w1, ⟨w3.1, w3.2.1⟩, hpar, va_Nw.use rfl hlink⟩, hts _ hst, trivial⟩ ⟨zPc_blind D as ca H.size X _, hpre⟩ rfl hlen hl.1 hstk (lv_room (zsum_le as _ hc.2)) hdg ⟨Nat.zero_le _, Nat.zero_le _⟩
                          exact zcallK hrun hS (fun q _ hq => zA_sub hS q hq) (zA_sub hS) hgo2
                      · cases hs
            | invokevirtual ix =>
              obtain ⟨g1, g2⟩ := Bool.and_eq_true_iff.mp hok2
              have h1 : len = 3 := of_decide_eq_true g1
              clear g1 hok2
              subst h1
              simp only [zstp] at hs
              split at hs
              · rename_i i S2 hS2
                split at hs
                · rename_i hc
                  simp only [Option.some.injEq, Sum.inr.injEq, Prod.mk.injEq] at hs
                  obtain ⟨rfl, rfl, rfl, rfl⟩ := hs
                  obtain ⟨g3, g4⟩ := Bool.and_eq_true_iff.mp g2
                  obtain ⟨g4, g5⟩ := Bool.and_eq_true_iff.mp g4
                  obtain ⟨g5, g6⟩ := Bool.and_eq_true_iff.mp g5
                  obtain ⟨g6, g7⟩ := Bool.and_eq_true_iff.mp g6
                  have e1 : b = znp a := of_decide_eq_true g4
                  have e2 : zdp a < zdp y := of_decide_eq_true g5
                  have e3 : v = .retAddr (zrc a) := of_decide_eq_true g6
                  have e4 : zrc a ≠ 99 := of_decide_eq_true g7
                  have hkd : zkd i = (0, zrc a) := by
                    have q : v = .retAddr (zkd i).2 := hc.1
                    rw [e3] at q
                    exact Prod.ext hc.2.1 (Value.retAddr.inj q).symm
                  have hlt : i < zN := zkd_lt (by rw [hkd]; exact Nat.zero_le 3)
                  obtain ⟨ws1, ws2⟩ : Cond.instanceMethod (znm a) ∈ gT ∧ Cond.selects (zcs (zrc a)).1 (znm a) (znm a) ∈ gT := by
                    rcases w2 with q | q
                    · exact absurd q.1 e4
                    · exact q.2
                  have hbl : b ≤ S.length := by
                    have := congrArg List.length hS2
                    rw [List.length_drop, List.length_cons] at this
                    omega
                  have hlen : ((List.take b S).reverse.map (zmv as)).length = znp a := by simp; rw [e1] at hbl ⊢; omega
                  have hstk : S.map (zmv as) = ((List.take b S).reverse.map (zmv as)).reverse ++ .ref (as i) :: S2.map (zmv as) := by
                    rw [← List.map_reverse, List.reverse_reverse]
                    rw [show (Value.ref (as i) :: S2.map (zmv as)) = (Value.ref i :: S2).map (zmv as) from rfl, ← hS2, ← List.map_append, List.take_append_drop]
                  have hloc : 8 + (zmx a + 11) + (zrm a).locals ≤ (zrm y).locals := by
                    show 8 + (zmx a + 11) + 30 * zdp a ≤ 30 * zdp y
                    omega
                  obtain ⟨q, hq, he, hw⟩ := zhasM_ok g3
                  have hlink := hw (by decide)
                  rw [he] at hlink
                  have hcls : vwCl[zrc a]? = some (zcs (zrc a)) := zcls_of hkd
                  have hrun := va_runV (R := zrm y) (locs := locs) (cells := 0) (slots := 0) (As := (List.take b S).reverse.map (zmv as)) (rest := S2.map (zmv as)) (g := F0 m pc ls (S.map (zmv as))) (n := znp a) (index := ix) (below := below) (meth := meth) (e := ev) (C := (zcs (zrc a)).1) (b := as i) ⟨hx, hb, hml, hown, hts⟩ hM ⟨⟨rfl, rfl, e2, hloc, fun w hw a1 U hW => zwl_words hy1 hts hW w hw, List.mem_cons_self, hts _ (zcode_in hy1), hts _ w1, ⟨w3.1, w3.2.1⟩, hpar, hts _ hlink⟩, hts _ ws1, hts _ ws2⟩ ⟨zPc_blind D as ca H.size X _, va_recv hK hP hcls (q0 := i) (by rw [zws_at hlt, zcell_0 hkd]), hpre⟩ rfl hlen hl.1 hstk (lv_room (zsum_le as _ hc.2.2)) hdg ⟨Nat.zero_le _, Nat.zero_le _⟩
                  exact zcallK hrun hS (fun q _ hq => zA_sub hS q hq) (zA_sub hS) hgo2
                · cases hs
              · cases hs
            | _ => exact absurd hs (zstp_nocall (by intro ix q; cases q) (by intro ix q; cases q))
        · rw [if_neg hcl] at h
          cases h
theorem zsnd : ∀ n, zSnd n := by
  intro n
  induction n with
  | zero => intro y pc L S X r h; cases h
  | succ n ih => exact zsnd_succ n ih
/-- A CALL OF THE SMALL MACHINE IS A CONTRACT OF THE MACHINE -/
theorem zmet {y : Nat} {av : List Value} {X : zM} {Q : Option Value → zM → Prop} (h : zcl y av X Q) : ∃ r : zR, Q r.1 r.2 ∧ ∀ (l : Launch) (D : va_G) (as : Nat → Nat) (ca : Nat → ClassId) (sz : Nat), Met l (znm y) (zwl y) (zrm y) (zPc D as ca sz X (av.map (zmv as))) (zQc D as ca (zA as sz) r) 0 0 (zA as sz) := by
  obtain ⟨hl, n, r, h1, hQ⟩ := h
  exact ⟨r, hQ, fun l D as ca sz => zmet_of (zsnd n) hl h1 l D as ca sz⟩
