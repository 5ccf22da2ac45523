set_option maxHeartbeats 4000000 in
theorem zstp_noret {pc : Nat} {ins : Instr} {len a b : Nat} {v : Value} {L S : List Value} {X : zM} {r : zR} (h1 : ins ≠ .ireturn) (h2 : ins ≠ .return_) : zstp (pc, ins, len, a, b, v) L S X ≠ some (.inr (.inl r)) := by
  intro hs
  cases ins with
  | ireturn => exact h1 rfl
  | return_ => exact h2 rfl
  | _ => first | (cases hs; done) | (simp only [zstp] at hs; repeat' (first | (cases hs; done) | split at hs))
set_option maxHeartbeats 4000000 in
theorem zstp_nocall {pc : Nat} {ins : Instr} {len a b : Nat} {v : Value} {L S : List Value} {X : zM} {q : Nat × List Value × Nat × List Value} (h1 : ∀ ix, ins ≠ .invokestatic ix) (h2 : ∀ ix, ins ≠ .invokevirtual ix) : zstp (pc, ins, len, a, b, v) L S X ≠ some (.inr (.inr q)) := by
  intro hs
  cases ins with
  | invokestatic ix => exact h1 ix rfl
  | invokevirtual ix => exact h2 ix rfl
  | _ => first | (cases hs; done) | (simp only [zstp] at hs; repeat' (first | (cases hs; done) | split at hs))
theorem zcls_of {i c : Nat} (h : zkd i = (0, c)) : vwCl[c]? = some (zcs c) := by
  have hc : c < 11 := by
    have hx : (List.range 321).all (fun i => decide ((zkd i).1 = 0 → (zkd i).2 < 11)) = true := by decide +kernel
    have hlt : i < 321 := zkd_lt (by rw [h]; exact Nat.zero_le 3)
    have := of_decide_eq_true (List.all_eq_true.mp hx i (List.mem_range.mpr hlt)) (by rw [h])
    rw [h] at this
    exact this
  match c, hc with
  | 0, _ => rfl
  | 1, _ => rfl
  | 2, _ => rfl
  | 3, _ => rfl
  | 4, _ => rfl
  | 5, _ => rfl
  | 6, _ => rfl
  | 7, _ => rfl
  | 8, _ => rfl
  | 9, _ => rfl
  | 10, _ => rfl
  | n + 11, h => exact absurd h (by omega)
