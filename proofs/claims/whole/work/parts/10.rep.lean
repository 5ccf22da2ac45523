/-! how the small machine's state stands in the machine's heap -/
def zmv (as : Nat → Nat) (v : Value) : Value := match v with
  | .ref i => .ref (as i)
  | v => v
def zcell (as : Nat → Nat) (ca : Nat → ClassId) (X : zM) (i : Nat) : va_E := match (zkd i).1 with
  | 0 => .inr ((zkd i).2, (List.range (zftL.getD (zkd i).2 []).length).map fun k => zmv as (zgf i (zkd i).2 k X))
  | 3 => .inl (ca i, (zkd i).2, .inr (.inr (.inr (.inr fun j => some (as (zrf i j))))))
  | _ => .inl (ca i, (zkd i).2, .inl (X i))
def zws (as : Nat → Nat) (ca : Nat → ClassId) (X : zM) : va_W := (List.range zN).map fun i => (as i, zcell as ca X i)
def zet (i : Nat) : FieldType := match (zkd i).1 with
  | 2 => .boolean
  | 3 => .object RX7
  | _ => .int
def ztys (ca : Nat → ClassId) : List (ClassId × FieldType) := (List.range zN).map fun i => (ca i, zet i)
def zA (as : Nat → Nat) (sz : Nat) : Nat → Prop := fun q => (∃ i, i < zN ∧ q = as i) ∨ sz ≤ q
theorem zkd_lt {i : Nat} (h : (zkd i).1 ≤ 3) : i < zN := by
  unfold zkd at h
  unfold zN
  split at h
  · omega
  · split at h
    · omega
    · exact absurd h (by decide)
theorem zws_at {as : Nat → Nat} {ca : Nat → ClassId} {X : zM} {i : Nat} (h : i < zN) : (zws as ca X)[i]? = some (as i, zcell as ca X i) := by
  simp [zws, h]
theorem ztys_at {ca : Nat → ClassId} {i : Nat} (h : i < zN) : (ztys ca)[i]? = some (ca i, zet i) := by
  simp [ztys, h]
theorem zws_get {as : Nat → Nat} {ca : Nat → ClassId} {X : zM} {k : Nat} {q : Nat × va_E} (h : (zws as ca X)[k]? = some q) : k < zN ∧ q = (as k, zcell as ca X k) := by
  unfold zws at h
  rw [List.getElem?_map] at h
  by_cases hk : k < zN
  · rw [List.getElem?_range hk] at h
    cases h
    exact ⟨hk, rfl⟩
  · rw [List.getElem?_eq_none (by simp; omega)] at h
    cases h
theorem zgf_congr {X X1 : zM} {i c k : Nat} (h : X1 i k = X i k) : zgf i c k X1 = zgf i c k X := by
  unfold zgf; rw [h]
theorem zcell_congr {as : Nat → Nat} {ca : Nat → ClassId} {X X1 : zM} {i : Nat} (h : X1 i = X i) : zcell as ca X1 i = zcell as ca X i := by
  unfold zcell
  rw [h]
  have : ∀ k, zgf i (zkd i).2 k X1 = zgf i (zkd i).2 k X := fun k => zgf_congr (by rw [h])
  simp only [this]
theorem zst_at (X : zM) (a : Nat) (f : Nat → Int32) : zst X a f a = f := by unfold zst; rw [if_pos rfl]
theorem zst_ne (X : zM) {a i : Nat} (f : Nat → Int32) (h : i ≠ a) : zst X a f i = X i := by unfold zst; rw [if_neg h]
theorem zws_set {as : Nat → Nat} {ca : Nat → ClassId} {X : zM} {i : Nat} (f : Nat → Int32) (hi : i < zN) : (zws as ca X).set i (as i, zcell as ca (zst X i f) i) = zws as ca (zst X i f) := by
  apply List.ext_getElem?
  intro j
  by_cases hj : j < zN
  · rw [zws_at hj]
    by_cases hji : i = j
    · subst hji
      rw [List.getElem?_set_self (by simp [zws]; exact hi)]
    · rw [List.getElem?_set_ne hji, zws_at hj, zcell_congr (zst_ne X f (fun q => hji q.symm))]
  · rw [List.getElem?_eq_none (by simp [zws]; omega), List.getElem?_eq_none (by simp [zws]; omega)]
theorem zcell_0 {as : Nat → Nat} {ca : Nat → ClassId} {X : zM} {i c : Nat} (h : zkd i = (0, c)) : zcell as ca X i = .inr (c, (List.range (zftL.getD c []).length).map fun k => zmv as (zgf i c k X)) := by
  unfold zcell; simp only [h]
theorem zcell_1 {as : Nat → Nat} {ca : Nat → ClassId} {X : zM} {i : Nat} (h : (zkd i).1 = 1) : zcell as ca X i = .inl (ca i, (zkd i).2, .inl (X i)) := by
  unfold zcell; simp only [h]
theorem zcell_2 {as : Nat → Nat} {ca : Nat → ClassId} {X : zM} {i : Nat} (h : (zkd i).1 = 2) : zcell as ca X i = .inl (ca i, (zkd i).2, .inl (X i)) := by
  unfold zcell; simp only [h]
theorem zcell_3 {as : Nat → Nat} {ca : Nat → ClassId} {X : zM} {i : Nat} (h : (zkd i).1 = 3) : zcell as ca X i = .inl (ca i, (zkd i).2, .inr (.inr (.inr (.inr fun j => some (as (zrf i j)))))) := by
  unfold zcell; simp only [h]
theorem zet_1 {i : Nat} (h : (zkd i).1 = 1) : zet i = .int := by unfold zet; simp only [h]
theorem zet_2 {i : Nat} (h : (zkd i).1 = 2) : zet i = .boolean := by unfold zet; simp only [h]
theorem zet_3 {i : Nat} (h : (zkd i).1 = 3) : zet i = .object RX7 := by unfold zet; simp only [h]
/-- locals -/
def zlv (as : Nat → Nat) (ls : Array Slot) (n : Nat) (L : List Value) : Prop := ls.size = n ∧ L.length = n ∧ lv_wf ls ∧ ∀ (j : Nat) (w : Value), L[j]? = some w → w = zU ∨ (w.category = 2 ∧ L[j + 1]? ≠ some zU) ∨ ls[j]? = some (.val (zmv as w))
theorem zlv_i {as : Nat → Nat} {ls : Array Slot} {n a : Nat} {L : List Value} {x : Int32} (h : zlv as ls n L) (ha : L[a]? = some (.int x)) : ls[a]? = some (.val (.int x)) := by
  rcases h.2.2.2 a _ ha with h | h | h
  · cases h
  · exact absurd h.1 (by simp [Value.category])
  · exact h
theorem zlv_r {as : Nat → Nat} {ls : Array Slot} {n a : Nat} {L : List Value} {x : Nat} (h : zlv as ls n L) (ha : L[a]? = some (.ref x)) : ls[a]? = some (.val (.ref (as x))) := by
  rcases h.2.2.2 a _ ha with h | h | h
  · cases h
  · exact absurd h.1 (by simp [Value.category])
  · exact h
theorem zlv_l {as : Nat → Nat} {ls : Array Slot} {n a : Nat} {L : List Value} {x : Int64} (h : zlv as ls n L) (ha : L[a]? = some (.long x)) (hb : L[a + 1]? = some zU) : ls[a]? = some (.val (.long x)) := by
  rcases h.2.2.2 a _ ha with h | h | h
  · cases h
  · exact absurd hb h.2
  · exact h
theorem zlv_list {as : Nat → Nat} {ls : Array Slot} {n : Nat} {L : List Value} (h : zlv as ls n L) : ∃ lv : List (Nat × Value), lv_has ls n lv ∧ ∀ (j : Nat) (w : Value), L[j]? = some w → w = zU ∨ (w.category = 2 ∧ L[j + 1]? ≠ some zU) ∨ (j, zmv as w) ∈ lv := by
  classical
  refine ⟨(List.range n).filterMap (fun j => match L[j]? with | some w => if ls[j]? = some (.val (zmv as w)) then some (j, zmv as w) else none | none => none), ⟨h.1, h.2.2.1, fun q hq => ?_⟩, fun j w hj => ?_⟩
  · obtain ⟨j, -, hj⟩ := List.mem_filterMap.mp hq
    cases hL : L[j]? with
    | none => rw [hL] at hj; cases hj
    | some w =>
      rw [hL] at hj
      simp only at hj
      split at hj
      · cases hj; assumption
      · cases hj
  · rcases h.2.2.2 j w hj with h1 | h1 | h1
    · exact Or.inl h1
    · exact Or.inr (Or.inl h1)
    · refine Or.inr (Or.inr (List.mem_filterMap.mpr ⟨j, List.mem_range.mpr ?_, ?_⟩))
      · have := (List.getElem?_eq_some_iff.mp hj).1
        have := h.2.1
        omega
      · rw [hj]
        simp only
        rw [if_pos h1]
theorem zmv_cat (as : Nat → Nat) (v : Value) : (zmv as v).category = v.category := by cases v <;> rfl
theorem zlv_set1 {as : Nat → Nat} {ls ls1 : Array Slot} {n i : Nat} {L : List Value} {v : Value} {lv : List (Nat × Value)} (h : zlv as ls n L) (hlv : ∀ (j : Nat) (w : Value), L[j]? = some w → w = zU ∨ (w.category = 2 ∧ L[j + 1]? ≠ some zU) ∨ (j, zmv as w) ∈ lv) (hv : v ≠ zU)
    (h1 : lv_has ls1 n ((i, zmv as v) :: lv.filter (fun q => !(q.1 == i) && !(q.1 + 1 == i && q.2.category == 2)))) : zlv as ls1 n (L.set i v) := by
  refine ⟨h1.1, by rw [List.length_set]; exact h.2.1, h1.2.1, fun j w hj => ?_⟩
  by_cases hji : i = j
  · subst hji
    by_cases hlt : i < L.length
    · rw [List.getElem?_set_self hlt] at hj
      cases hj
      exact Or.inr (Or.inr (h1.2.2 (i, zmv as v) List.mem_cons_self))
    · rw [List.getElem?_eq_none (by rw [List.length_set]; omega)] at hj
      cases hj
  · rw [List.getElem?_set_ne hji] at hj
    have hne : ∀ k : Nat, L[k]? ≠ some zU → (L.set i v)[k]? ≠ some zU := by
      intro k hk
      by_cases hki : i = k
      · subst hki
        by_cases hlt : i < L.length
        · rw [List.getElem?_set_self hlt]
          intro q
          exact hv (Option.some.inj q)
        · rw [List.getElem?_eq_none (by rw [List.length_set]; omega)]
          intro q
          cases q
      · rw [List.getElem?_set_ne hki]
        exact hk
    rcases hlv j w hj with q | q | q
    · exact Or.inl q
    · exact Or.inr (Or.inl ⟨q.1, hne _ q.2⟩)
    · by_cases hc : j + 1 = i ∧ w.category = 2
      · refine Or.inr (Or.inl ⟨hc.2, ?_⟩)
        rw [hc.1]
        by_cases hlt : i < L.length
        · rw [List.getElem?_set_self hlt]
          intro q
          exact hv (Option.some.inj q)
        · rw [List.getElem?_eq_none (by rw [List.length_set]; omega)]
          intro q
          cases q
      · refine Or.inr (Or.inr (h1.2.2 (j, zmv as w) (List.mem_cons_of_mem _ (List.mem_filter.mpr ⟨q, ?_⟩))))
        have e1 : (j == i) = false := by simp; omega
        rw [zmv_cat]
        simp only [e1, Bool.not_false, Bool.true_and]
        simp only [Bool.not_eq_true', Bool.and_eq_false_iff, beq_eq_false_iff_ne, ne_eq]
        by_cases h2 : j + 1 = i
        · exact Or.inr (fun q => hc ⟨h2, q⟩)
        · exact Or.inl h2
theorem zlv_set2 {as : Nat → Nat} {ls ls1 : Array Slot} {n i : Nat} {L : List Value} {x : Int64} {lv : List (Nat × Value)} (h : zlv as ls n L) (hi : i + 1 < L.length) (hlv : ∀ (j : Nat) (w : Value), L[j]? = some w → w = zU ∨ (w.category = 2 ∧ L[j + 1]? ≠ some zU) ∨ (j, zmv as w) ∈ lv)
    (h1 : lv_has ls1 n ((i, .long x) :: lv.filter (fun q => !(q.1 == i) && (!(q.1 == i + 1) && !(q.1 + 1 == i && q.2.category == 2))))) : zlv as ls1 n ((L.set i (.long x)).set (i + 1) zU) := by
  refine ⟨h1.1, by rw [List.length_set, List.length_set]; exact h.2.1, h1.2.1, fun j w hj => ?_⟩
  by_cases hj1 : i + 1 = j
  · subst hj1
    rw [List.getElem?_set_self (by rw [List.length_set]; exact hi)] at hj
    cases hj
    exact Or.inl rfl
  · rw [List.getElem?_set_ne hj1] at hj
    by_cases hji : i = j
    · subst hji
      rw [List.getElem?_set_self (by omega)] at hj
      cases hj
      exact Or.inr (Or.inr (h1.2.2 (i, .long x) List.mem_cons_self))
    · rw [List.getElem?_set_ne hji] at hj
      rcases hlv j w hj with q | q | q
      · exact Or.inl q
      · refine Or.inr (Or.inl ⟨q.1, ?_⟩)
        rw [List.getElem?_set_ne (by omega)]
        by_cases hki : i = j + 1
        · rw [← hki, List.getElem?_set_self (by omega)]
          intro z
          cases z
        · rw [List.getElem?_set_ne hki]
          exact q.2
      · by_cases hc : j + 1 = i ∧ w.category = 2
        · refine Or.inr (Or.inl ⟨hc.2, ?_⟩)
          rw [hc.1, List.getElem?_set_ne (by omega), List.getElem?_set_self (by omega)]
          intro z
          cases z
        · refine Or.inr (Or.inr (h1.2.2 (j, zmv as w) (List.mem_cons_of_mem _ (List.mem_filter.mpr ⟨q, ?_⟩))))
          have e1 : (j == i) = false := by simp; omega
          have e2 : (j == i + 1) = false := by simp; omega
          rw [zmv_cat]
          simp only [e1, e2, Bool.not_false, Bool.true_and]
          simp only [Bool.not_eq_true', Bool.and_eq_false_iff, beq_eq_false_iff_ne, ne_eq]
          by_cases h2 : j + 1 = i
          · exact Or.inr (fun q => hc ⟨h2, q⟩)
          · exact Or.inl h2
/-- a field is written -/
theorem zfs_set {as : Nat → Nat} {X : zM} {i c k : Nat} {v : Value} (x : Int32) (hv : zmv as (zgf i c k (zst X i (upd (X i) k x))) = v) : ((List.range (zftL.getD c []).length).map fun k => zmv as (zgf i c k X)).set k v = (List.range (zftL.getD c []).length).map fun k1 => zmv as (zgf i c k1 (zst X i (upd (X i) k x))) := by
  apply List.ext_getElem?
  intro j
  by_cases hj : j < (zftL.getD c []).length
  · by_cases hkj : k = j
    · subst hkj
      rw [List.getElem?_set_self (by simp; simpa using hj), List.getElem?_map, List.getElem?_range hj]
      simp only [Option.map_some]
      rw [hv]
    · rw [List.getElem?_set_ne hkj, List.getElem?_map, List.getElem?_map, List.getElem?_range hj]
      simp only [Option.map_some]
      rw [zgf_congr (X1 := zst X i (upd (X i) k x)) (X := X)]
      rw [zst_at]
      exact if_neg (fun q => hkj q.symm)
  · rw [List.getElem?_eq_none (by simp; simpa using hj), List.getElem?_eq_none (by simp; simpa using hj)]
