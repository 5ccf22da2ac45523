/-! THE SMALL MACHINE: cells by number, ints by cell and place; one instruction, a run with fuel -/
def zN : Nat := 321
def zkdL : List (Nat × Nat) := [(0,9),(0,5),(1,240),(0,0),(1,12),(1,7),(1,7),(1,5),(1,5),(0,0),(1,12),(1,7),(1,7),(1,5),(1,5),(0,6),(0,2),(1,60),(1,60),(0,8),(1,84),(1,12),(1,12),(1,7),(1,7),(1,10),(1,568),(1,568),(0,4),(1,6),(1,6),(1,20),(1,20),(1,10),(0,1),(3,30),(0,3),(3,2),(1,2),(0,10),(1,3128),(2,2),(1,24),(1,14),(1,14),(1,10),(1,10),(1,240),(1,14),(1,14),(1,84),(1,568),(1,568),(1,6),(1,6),(1,20),(1,20)]
def zstL : List (Nat × Nat) := [(0,7),(1,7),(1,7),(1,7),(1,5),(1,20),(1,20),(1,20)]
/-- what a cell is: (0, class), (1, length) ints, (2, length) booleans, (3, length) States; from 57 on the States, eight cells each -/
def zkd (i : Nat) : Nat × Nat := if i < 57 then zkdL.getD i (9,0) else if i < 321 then zstL.getD ((i - 57) % 8) (9,0) else (9,0)
def zrfL : List (List Nat) := [[1,3,9,57,15,16,19,28,34,36],[2],[],[0,0,0,0,0,4,5,6,7,8],[],[],[],[],[],[0,0,0,0,0,10,11,12,13,14],[],[],[],[],[],[9,57],[9,57,15,17,18],[],[],[9,57,15,20,21,22,23,24,0,25],[],[],[],[],[],[],[],[],[9,57,15,29,30,0,31,32,0,33],[],[],[],[],[],[35],[],[37,38],[],[],[40,41,42,43,44,45,46,0,0,0,0,0,0,0,0,0,47,0,0,0,0,0,0,48,49,50,51,52,53,54,0,55,56]]
/-- the cell that a place refers to, for good -/
def zrf (i k : Nat) : Nat := if i < 57 then (if i = 35 then 65 + 8 * k else if i = 37 then 305 + 8 * k else (zrfL.getD i []).getD k 0) else if k < 8 then i + (k - 3) else i + (k - 5)
/-- fields: 0 int, 1 a cell for good, 2 a cell that changes, 3 boolean -/
def zftL : List (List Nat) := [[0,0,0,0,3,1,1,1,1,1],[1,0,0],[1,1,1,1,1,0,0],[1,1,0],[1,1,1,1,1,0,1,1,0,1],[1,0,0,0,0],[1,1],[0,0,0,0,1,1,1,1,0,0,1,1,1],[1,1,1,1,1,1,1,1,0,1,2,2],[1,1,1,1,1,1,1,1,1,1,0],[1,1,1,1,1,1,1,0,0,0,0,0,0,0,0,3,1,0,0,0,0,0,0,1,1,1,1,1,1,1,0,1,1,0]]
def zft (c k : Nat) : Nat := (zftL.getD c []).getD k 9
def zst (X : zM) (a : Nat) (f : Nat → Int32) : zM := fun i => if i = a then f else X i
def zgf (i c k : Nat) (X : zM) : Value := match zft c k with
  | 1 => .ref (zrf i k)
  | 2 => .ref (X i k).toNatClampNeg
  | _ => .int (X i k)
def zcb (c : Jvm.ClassFile.Cond) (x y : Int32) : Bool := match c with
  | .eq => decide (x = y)
  | .ne => decide (¬ x = y)
  | .lt => decide (x < y)
  | .ge => decide (y ≤ x)
  | .gt => decide (y < x)
  | .le => decide (x ≤ y)
def zent (n : Nat) (as : List Value) : List Value :=
  (as.flatMap fun v => if v.category = 2 then [v, zU] else [v]) ++ List.replicate (n - (as.flatMap fun v => if v.category = 2 then [v, zU] else [v]).length) zU
def zsw : List (Int32 × Nat) → Nat → Int32 → Nat
  | [], d, _ => d
  | q :: r, d, x => if x = q.1 then q.2 else zsw r d x
def ztb (pc : Nat) (lo : Int) : List Int → List (Int32 × Nat)
  | [] => []
  | o :: r => (Int32.ofInt lo, ((pc : Int) + o).toNat) :: ztb pc (lo + 1) r
def zlk (pc : Nat) : List (Int × Int) → List (Int32 × Nat)
  | [] => []
  | o :: r => (Int32.ofInt o.1, ((pc : Int) + o.2).toNat) :: zlk pc r
/-- what an instruction comes to: on at a place; an end; a call (method, arguments, place behind, stack behind) -/
abbrev zO : Type := (Nat × List Value × List Value × zM) ⊕ (zR ⊕ (Nat × List Value × Nat × List Value))
def zstp (e : zE) (L S : List Value) (X : zM) : Option zO :=
  match e.2.1 with
  | .iconst _ => some (.inl (e.1 + e.2.2.1, L, e.2.2.2.2.2 :: S, X))
  | .bipush _ => some (.inl (e.1 + e.2.2.1, L, e.2.2.2.2.2 :: S, X))
  | .sipush _ => some (.inl (e.1 + e.2.2.1, L, e.2.2.2.2.2 :: S, X))
  | .ldc _ => some (.inl (e.1 + e.2.2.1, L, e.2.2.2.2.2 :: S, X))
  | .ldc_w _ => some (.inl (e.1 + e.2.2.1, L, e.2.2.2.2.2 :: S, X))
  | .lconst _ => some (.inl (e.1 + e.2.2.1, L, e.2.2.2.2.2 :: S, X))
  | .ldc2_w _ => some (.inl (e.1 + e.2.2.1, L, e.2.2.2.2.2 :: S, X))
  | .iload_n _ => (match L[e.2.2.2.1]? with | some (.int x) => some (.inl (e.1 + e.2.2.1, L, .int x :: S, X)) | _ => none)
  | .iload _ => (match L[e.2.2.2.1]? with | some (.int x) => some (.inl (e.1 + e.2.2.1, L, .int x :: S, X)) | _ => none)
  | .aload_n _ => (match L[e.2.2.2.1]? with | some (.ref x) => some (.inl (e.1 + e.2.2.1, L, .ref x :: S, X)) | _ => none)
  | .lload_n _ => (match L[e.2.2.2.1]? with | some (.long x) => (match L[e.2.2.2.1 + 1]? with | some (.retAddr 0) => some (.inl (e.1 + e.2.2.1, L, .long x :: S, X)) | _ => none) | _ => none)
  | .lload _ => (match L[e.2.2.2.1]? with | some (.long x) => (match L[e.2.2.2.1 + 1]? with | some (.retAddr 0) => some (.inl (e.1 + e.2.2.1, L, .long x :: S, X)) | _ => none) | _ => none)
  | .istore_n _ => (match S with | .int x :: S => if e.2.2.2.1 < L.length then some (.inl (e.1 + e.2.2.1, (L.set e.2.2.2.1 (.int x)), S, X)) else none | _ => none)
  | .istore _ => (match S with | .int x :: S => if e.2.2.2.1 < L.length then some (.inl (e.1 + e.2.2.1, (L.set e.2.2.2.1 (.int x)), S, X)) else none | _ => none)
  | .astore_n _ => (match S with | .ref x :: S => if e.2.2.2.1 < L.length then some (.inl (e.1 + e.2.2.1, (L.set e.2.2.2.1 (.ref x)), S, X)) else none | _ => none)
  | .lstore_n _ => (match S with | .long x :: S => if e.2.2.2.1 + 1 < L.length then some (.inl (e.1 + e.2.2.1, ((L.set e.2.2.2.1 (.long x)).set (e.2.2.2.1 + 1) zU), S, X)) else none | _ => none)
  | .iinc _ _ => (match L[e.2.2.2.1]? with | some (.int x) => (match e.2.2.2.2.2 with | .int w => some (.inl (e.1 + e.2.2.1, (L.set e.2.2.2.1 (.int (x + w))), S, X)) | _ => none) | _ => none)
  | .iadd => (match S with | .int y :: .int x :: S => some (.inl (e.1 + e.2.2.1, L, (.int (x + y) :: S), X)) | _ => none)
  | .isub => (match S with | .int y :: .int x :: S => some (.inl (e.1 + e.2.2.1, L, (.int (x - y) :: S), X)) | _ => none)
  | .imul => (match S with | .int y :: .int x :: S => some (.inl (e.1 + e.2.2.1, L, (.int (x * y) :: S), X)) | _ => none)
  | .iand => (match S with | .int y :: .int x :: S => some (.inl (e.1 + e.2.2.1, L, (.int (x &&& y) :: S), X)) | _ => none)
  | .ior => (match S with | .int y :: .int x :: S => some (.inl (e.1 + e.2.2.1, L, (.int (x ||| y) :: S), X)) | _ => none)
  | .ixor => (match S with | .int y :: .int x :: S => some (.inl (e.1 + e.2.2.1, L, (.int (x ^^^ y) :: S), X)) | _ => none)
  | .idiv => (match S with | .int y :: .int x :: S => if y = 0 then none else some (.inl (e.1 + e.2.2.1, L, (.int (x / y) :: S), X)) | _ => none)
  | .irem => (match S with | .int y :: .int x :: S => if y = 0 then none else some (.inl (e.1 + e.2.2.1, L, (.int (x - x / y * y) :: S), X)) | _ => none)
  | .ineg => (match S with | .int x :: S => some (.inl (e.1 + e.2.2.1, L, (.int (-x) :: S), X)) | _ => none)
  | .ishl => (match S with | .int y :: .int x :: S => some (.inl (e.1 + e.2.2.1, L, (.int (x <<< (y &&& 31)) :: S), X)) | _ => none)
  | .ishr => (match S with | .int y :: .int x :: S => some (.inl (e.1 + e.2.2.1, L, (.int (x >>> (y &&& 31)) :: S), X)) | _ => none)
  | .iushr => (match S with | .int y :: .int x :: S => some (.inl (e.1 + e.2.2.1, L, (.int ((x.toUInt32 >>> (y.toUInt32 &&& Int32.toUInt32 31)).toInt32) :: S), X)) | _ => none)
  | .ladd => (match S with | .long y :: .long x :: S => some (.inl (e.1 + e.2.2.1, L, (.long (x + y) :: S), X)) | _ => none)
  | .lmul => (match S with | .long y :: .long x :: S => some (.inl (e.1 + e.2.2.1, L, (.long (x * y) :: S), X)) | _ => none)
  | .ldiv => (match S with | .long y :: .long x :: S => if y = 0 then none else some (.inl (e.1 + e.2.2.1, L, (.long (x / y) :: S), X)) | _ => none)
  | .lrem => (match S with | .long y :: .long x :: S => if y = 0 then none else some (.inl (e.1 + e.2.2.1, L, (.long (x - x / y * y) :: S), X)) | _ => none)
  | .lcmp => (match S with | .long y :: .long x :: S => some (.inl (e.1 + e.2.2.1, L, (.int (lg_cmp x y) :: S), X)) | _ => none)
  | .i2l => (match S with | .int x :: S => some (.inl (e.1 + e.2.2.1, L, .long x.toInt64 :: S, X)) | _ => none)
  | .l2i => (match S with | .long x :: S => some (.inl (e.1 + e.2.2.1, L, .int x.toInt32 :: S, X)) | _ => none)
  | .dup => (match S with | .int x :: S => some (.inl (e.1 + e.2.2.1, L, .int x :: .int x :: S, X)) | .ref x :: S => some (.inl (e.1 + e.2.2.1, L, .ref x :: .ref x :: S, X)) | _ => none)
  | .dup2 => (match S with | .int y :: .ref x :: S => some (.inl (e.1 + e.2.2.1, L, .int y :: .ref x :: .int y :: .ref x :: S, X)) | _ => none)
  | .goto _ => some (.inl (e.2.2.2.1, L, S, X))
  | .if_icmp c _ => (match S with | .int y :: .int x :: S => if zcb c x y = true then some (.inl (e.2.2.2.1, L, S, X)) else some (.inl (e.1 + e.2.2.1, L, S, X)) | _ => none)
  | .ifCond c _ => (match S with | .int x :: S => if zcb c x 0 = true then some (.inl (e.2.2.2.1, L, S, X)) else some (.inl (e.1 + e.2.2.1, L, S, X)) | _ => none)
  | .tableswitch d lo _ os => (match S with | .int x :: S => some (.inl ((zsw (ztb e.1 lo os.toList) (((e.1 : Int) + d).toNat) x), L, S, X)) | _ => none)
  | .lookupswitch d ps => (match S with | .int x :: S => some (.inl ((zsw (zlk e.1 ps.toList) (((e.1 : Int) + d).toNat) x), L, S, X)) | _ => none)
  | .getfield _ => (match S with | .ref i :: S => if zkd i = (0, e.2.2.2.1) then some (.inl (e.1 + e.2.2.1, L, zgf i e.2.2.2.1 e.2.2.2.2.1 X :: S, X)) else none | _ => none)
  | .putfield _ => (match S with
    | .int x :: .ref i :: S => if zkd i = (0, e.2.2.2.1) then (if zft e.2.2.2.1 e.2.2.2.2.1 = 0 ∨ (zft e.2.2.2.1 e.2.2.2.2.1 = 3 ∧ (x = 0 ∨ x = 1)) then some (.inl (e.1 + e.2.2.1, L, S, (zst X i (upd (X i) e.2.2.2.2.1 x)))) else none) else none
    | .ref j :: .ref i :: S => if zkd i = (0, e.2.2.2.1) then (if zft e.2.2.2.1 e.2.2.2.2.1 = 2 ∧ j < zN then some (.inl (e.1 + e.2.2.1, L, S, (zst X i (upd (X i) e.2.2.2.2.1 (nI j))))) else none) else none
    | _ => none)
  | .iaload => (match S with | .int j :: .ref i :: S => if (zkd i).1 = 1 ∧ ¬ (j < 0 ∨ (zkd i).2 ≤ j.toNatClampNeg) then some (.inl (e.1 + e.2.2.1, L, (.int (X i j.toNatClampNeg) :: S), X)) else none | _ => none)
  | .baload => (match S with | .int j :: .ref i :: S => if (zkd i).1 = 2 ∧ ¬ (j < 0 ∨ (zkd i).2 ≤ j.toNatClampNeg) then some (.inl (e.1 + e.2.2.1, L, (.int (X i j.toNatClampNeg) :: S), X)) else none | _ => none)
  | .iastore => (match S with | .int x :: .int j :: .ref i :: S => if (zkd i).1 = 1 ∧ ¬ (j < 0 ∨ (zkd i).2 ≤ j.toNatClampNeg) then some (.inl (e.1 + e.2.2.1, L, S, (zst X i (upd (X i) j.toNatClampNeg x)))) else none | _ => none)
  | .bastore => (match S with | .int x :: .int j :: .ref i :: S => if (zkd i).1 = 2 ∧ ¬ (j < 0 ∨ (zkd i).2 ≤ j.toNatClampNeg) ∧ (x = 0 ∨ x = 1) then some (.inl (e.1 + e.2.2.1, L, S, (zst X i (upd (X i) j.toNatClampNeg x)))) else none | _ => none)
  | .aaload => (match S with | .int j :: .ref i :: S => if (zkd i).1 = 3 ∧ ¬ (j < 0 ∨ (zkd i).2 ≤ j.toNatClampNeg) then some (.inl (e.1 + e.2.2.1, L, (.ref (zrf i j.toNatClampNeg) :: S), X)) else none | _ => none)
  | .arraylength => (match S with | .ref i :: S => if (zkd i).1 = 1 then some (.inl (e.1 + e.2.2.1, L, (.int (nI (zkd i).2) :: S), X)) else none | _ => none)
  | .invokestatic _ => if e.2.2.2.1 = 9999 then (match S with
      | .int n :: .int dp :: .ref i :: .int sp :: .ref j :: S => if (zkd i).1 = 1 ∧ (zkd j).1 = 1 ∧ ¬ sp < 0 ∧ ¬ dp < 0 ∧ ¬ n < 0 ∧ sp.toNatClampNeg + n.toNatClampNeg ≤ (zkd j).2 ∧ dp.toNatClampNeg + n.toNatClampNeg ≤ (zkd i).2 ∧ S.length ≤ 4 then some (.inl (e.1 + e.2.2.1, L, S, (zst X i (va_cpy (X j) (X i) sp.toNatClampNeg dp.toNatClampNeg n.toNatClampNeg)))) else none
      | _ => none)
    else if e.2.2.2.1 = 9001 then (match S with | .int y :: .int x :: S => if S.length ≤ 4 then some (.inl (e.1 + e.2.2.1, L, .int (if x < y then y else x) :: S, X)) else none | _ => none)
    else if e.2.2.2.1 = 9002 then (match S with | .int y :: .int x :: S => if S.length ≤ 4 then some (.inl (e.1 + e.2.2.1, L, .int (if y < x then y else x) :: S, X)) else none | _ => none)
    else if e.2.2.2.1 = 9003 then (match S with | .int x :: S => if S.length ≤ 4 then some (.inl (e.1 + e.2.2.1, L, .int (if 0 ≤ x then x else 0 - x) :: S, X)) else none | _ => none)
    else if e.2.2.2.2.1 ≤ S.length ∧ (S.drop e.2.2.2.2.1).length ≤ 4 then some (.inr (.inr (e.2.2.2.1, (S.take e.2.2.2.2.1).reverse, e.1 + e.2.2.1, S.drop e.2.2.2.2.1))) else none
  | .invokevirtual _ => (match S.drop e.2.2.2.2.1 with
      | .ref i :: S1 => if e.2.2.2.2.2 = .retAddr (zkd i).2 ∧ (zkd i).1 = 0 ∧ S1.length ≤ 4 then some (.inr (.inr (e.2.2.2.1, (.ref i :: (S.take e.2.2.2.2.1).reverse), e.1 + e.2.2.1, S1))) else none
      | _ => none)
  | .ireturn => (match S with | [.int x] => if e.2.2.2.1 = 0 ∨ x = 0 ∨ x = 1 then some (.inr (.inl (some (.int x), X))) else none | _ => none)
  | .return_ => (match S with | [] => some (.inr (.inl (none, X))) | _ => none)
  | _ => none
def zsem (k : Nat → List Value → List Value → zM → Option zR) (cl : Nat → List Value → zM → Option zR) (e : zE) (L S : List Value) (X : zM) : Option zR :=
  match zstp e L S X with
  | none => none
  | some (.inl q) => k q.1 q.2.1 q.2.2.1 q.2.2.2
  | some (.inr (.inl r)) => some r
  | some (.inr (.inr q)) => (cl q.1 q.2.1 X).bind (fun r => k q.2.2.1 L (r.1.toList ++ q.2.2.2) r.2)
def zfetch (y pc : Nat) : Option zE := (zct.getD y []).find? (fun e => Nat.beq e.1 pc)
def zmx (y : Nat) : Nat := match zmi[y]? with | some q => q.2.2.1 | none => 0
def zrun : Nat → Nat → Nat → List Value → List Value → zM → Option zR
  | 0, _, _, _, _, _ => none
  | n + 1, y, pc, L, S, X => match zfetch y pc with
    | none => none
    | some e => zsem (zrun n y) (fun y1 as X1 => if (zent (zmx y1) as).length = zmx y1 then zrun n y1 0 (zent (zmx y1) as) [] X1 else none) e L S X
def zev (y pc : Nat) (L S : List Value) (X : zM) (Q : Option Value → zM → Prop) : Prop := ∃ (n : Nat) (r : zR), zrun n y pc L S X = some r ∧ Q r.1 r.2
def zcl (y : Nat) (as : List Value) (X : zM) (Q : Option Value → zM → Prop) : Prop := (zent (zmx y) as).length = zmx y ∧ zev y 0 (zent (zmx y) as) [] X Q
