/-! the law's methods: an interpreter of their own (ints, longs, doubles, the script; a call of the class is what qzC says) -/
abbrev qyMT : Type := MethodName × ByteArray × Nat × Option FieldType × Nat
def qyM : List qyMT := [(yL_low, cL_low, 2, some .int, 2), (yL_look, cL_look, 5, some .long, 1), (yL_holds, cL_holds, 14, some .boolean, 1), (yL_would, cL_would, 16, some .boolean, 2), (yL_bolt, cL_bolt, 7, some .boolean, 2), (yL_cuts, cL_cuts, 7, some .boolean, 2), (yL_reads, cL_reads, 13, some .boolean, 2), (yL_acts, cL_acts, 13, some .boolean, 3), (yL_lot, cL_lot, 2, some .int, 2), (yL_law, cL_law, 13, some .boolean, 1)]
def qyMd (mi : Nat) : qyMT := qyM.getD mi (yL_low, cL_low, 2, some .int, 2)
/-- places of the law's class: calls of the class, calls of the law's own -/
def qyCl : List (Nat × Nat) := [(13, 39), (19, 36), (22, 37), (26, 38), (32, 40), (35, 46), (42, 41), (46, 43), (49, 42), (52, 44), (56, 45), (59, 32), (62, 31), (76, 33), (79, 34), (82, 35), (85, 25), (88, 27), (91, 26), (94, 28), (97, 29), (100, 30), (114, 47), (117, 49), (120, 48)]
def qyLl : List (Nat × Nat) := [(39, 0), (65, 4), (69, 5), (72, 1), (103, 6), (107, 2), (111, 3), (123, 8), (127, 7)]
def qyFind (l : List (Nat × Nat)) (a : Nat) : Option Nat := match l with
  | [] => none
  | e :: l => if e.1 = a then some e.2 else qyFind l a
theorem qyFind_in : ∀ {l : List (Nat × Nat)} {a x : Nat}, qyFind l a = some x → (a, x) ∈ l
  | [], _, _, h => by cases h
  | e :: l, a, x, h => by
    unfold qyFind at h
    split at h
    · rename_i hc
      cases h
      obtain ⟨e1, e2⟩ := e
      cases hc
      exact List.mem_cons_self
    · exact List.mem_cons_of_mem _ (qyFind_in h)
/-- what a step comes to: on in the method; a call of the class; a call of the law's own; rate(); an answer -/
abbrev qyA : Type := (Nat × List Value × List Value) ⊕ ((Nat × List Value × List Value) ⊕ ((Nat × List Value × List Value) ⊕ (List Value ⊕ Value)))
/-- the script: its length, its ints -/
abbrev qyE : Type := Nat × (Nat → Int32)
def qyGo (pc : Nat) (ls st : List Value) : Option qyA := some (.inl (pc, ls, st))
def qyBr (b : Bool) (pc : Nat) (off : Int) (ls st : List Value) : Option qyA := if 0 ≤ (pc : Int) + off then (if b then qyGo (qzTg pc off) ls st else qyGo (pc + 3) ls st) else none
/-- the methods that hold longs -/
def qyLg (mi : Nat) : Bool := decide (mi = 1) || (decide (mi = 6) || decide (mi = 9))
def qyPv (ls : List Value) (i : Nat) : Bool := match i with
  | 0 => true
  | i + 1 => (match ls[i]? with
    | some v => v.category == 1
    | none => true)
def qySz (st : List Value) : Nat := (st.map fun v => v.category).sum
def qyPush (v : Value) (len w pc : Nat) (ls st : List Value) : Option qyA := if len = w then qyGo (pc + w) ls (v :: st) else none
def qyIload (i len w pc : Nat) (ls st : List Value) : Option qyA := if len = w then (match ls[i]? with
  | some (.int x) => qyGo (pc + w) ls (.int x :: st)
  | _ => none) else none
def qyLload (i len w pc : Nat) (ls st : List Value) : Option qyA := if len = w then (match ls[i]? with
  | some (.long x) => qyGo (pc + w) ls (.long x :: st)
  | _ => none) else none
def qyAload (i len w pc : Nat) (ls st : List Value) : Option qyA := if len = w then (match ls[i]? with
  | some (.ref x) => qyGo (pc + w) ls (.ref x :: st)
  | _ => none) else none
def qyIstore (mi i len w pc : Nat) (ls st : List Value) : Option qyA := if len = w ∧ i < ls.length ∧ (qyLg mi = true → qyPv ls i = true) then (match st with
  | .int x :: st => qyGo (pc + w) (ls.set i (.int x)) st
  | _ => none) else none
def qyAstore (mi i len w pc : Nat) (ls st : List Value) : Option qyA := if len = w ∧ i < ls.length ∧ (qyLg mi = true → qyPv ls i = true) then (match st with
  | .ref x :: st => qyGo (pc + w) (ls.set i (.ref x)) st
  | _ => none) else none
def qyLstore (mi i len w pc : Nat) (ls st : List Value) : Option qyA := if len = w ∧ i + 1 < ls.length ∧ qyLg mi = true ∧ qyPv ls i = true then (match st with
  | .long x :: st => qyGo (pc + w) ((ls.set i (.long x)).set (i + 1) (.float 0)) st
  | _ => none) else none
def qyBin (f : Int32 → Int32 → Int32) (len pc : Nat) (ls st : List Value) : Option qyA := if len = 1 then (match st with
  | .int y :: .int x :: st => qyGo (pc + 1) ls (.int (f x y) :: st)
  | _ => none) else none
def qyBinD (f : Int32 → Int32 → Int32) (len pc : Nat) (ls st : List Value) : Option qyA := if len = 1 then (match st with
  | .int y :: .int x :: st => if y = 0 then none else qyGo (pc + 1) ls (.int (f x y) :: st)
  | _ => none) else none
def qyBinL (f : Int64 → Int64 → Int64) (len pc : Nat) (ls st : List Value) : Option qyA := if len = 1 then (match st with
  | .long y :: .long x :: st => qyGo (pc + 1) ls (.long (f x y) :: st)
  | _ => none) else none
def qyLcmp (len pc : Nat) (ls st : List Value) : Option qyA := if len = 1 then (match st with
  | .long y :: .long x :: st => qyGo (pc + 1) ls (.int (lg_cmp x y) :: st)
  | _ => none) else none
def qyI2l (len pc : Nat) (ls st : List Value) : Option qyA := if len = 1 then (match st with
  | .int x :: st => qyGo (pc + 1) ls (.long x.toInt64 :: st)
  | _ => none) else none
def qyI2d (len pc : Nat) (ls st : List Value) : Option qyA := if len = 1 then (match st with
  | .int x :: st => qyGo (pc + 1) ls (.double (FP.i2d x) :: st)
  | _ => none) else none
def qyDdiv (len pc : Nat) (ls st : List Value) : Option qyA := if len = 1 then (match st with
  | .double y :: .double x :: st => if FP.ddiv x y &&& 0x7fffffffffffffff ≤ 0x7ff0000000000000 then qyGo (pc + 1) ls (.double (FP.ddiv x y) :: st) else none
  | _ => none) else none
def qyDcmp (op : CmpOp) (len pc : Nat) (ls st : List Value) : Option qyA := if len = 1 then (match st with
  | .double y :: .double x :: st => qyGo (pc + 1) ls (.int (Op.cmpValue (FP.dcmp x y) op) :: st)
  | _ => none) else none
def qyIinc (mi i : Nat) (n : Int) (len pc : Nat) (ls st : List Value) : Option qyA := if len = 3 ∧ (qyLg mi = true → qyPv ls i = true) then (match ls[i]? with
  | some (.int x) => qyGo (pc + 3) (ls.set i (.int (x + Int32.ofInt n))) st
  | _ => none) else none
def qyIf1 (c : ClassFile.Cond) (off : Int) (len pc : Nat) (ls st : List Value) : Option qyA := if len = 3 then (match st with
  | .int x :: st => qyBr (qzC1 c x) pc off ls st
  | _ => none) else none
def qyIf2 (c : ClassFile.Cond) (off : Int) (len pc : Nat) (ls st : List Value) : Option qyA := if len = 3 then (match st with
  | .int y :: .int x :: st => qyBr (qzC2 c x y) pc off ls st
  | _ => none) else none
def qyGoto (off : Int) (len pc : Nat) (ls st : List Value) : Option qyA := if len = 3 ∧ 0 ≤ (pc : Int) + off then qyGo (qzTg pc off) ls st else none
def qyLdc (idx len pc : Nat) (ls st : List Value) : Option qyA := if len = 2 then (if idx = 8 then qyGo (pc + 2) ls (.int 2147483647 :: st) else if idx = 7 then qyGo (pc + 2) ls (.int (-1008671379) :: st) else none) else none
def qyLdc2 (idx len pc : Nat) (ls st : List Value) : Option qyA := if len = 3 then (if idx = 9 then qyGo (pc + 3) ls (.long 397 :: st) else if idx = 11 then qyGo (pc + 3) ls (.long 31 :: st) else none) else none
def qyAlen (E : qyE) (len pc : Nat) (ls st : List Value) : Option qyA := if len = 1 then (match st with
  | .ref a :: st => if a = 1004 then qyGo (pc + 1) ls (.int (Int32.ofNat E.1) :: st) else none
  | _ => none) else none
def qyIald (E : qyE) (len pc : Nat) (ls st : List Value) : Option qyA := if len = 1 then (match st with
  | .int i :: .ref a :: st => if a = 1004 ∧ qzIn i E.1 = true then qyGo (pc + 1) ls (.int (E.2 i.toNatClampNeg) :: st) else none
  | _ => none) else none
def qyInt (v : Value) : Bool := match v with
  | .int _ => true
  | _ => false
def qyVirt (idx len : Nat) (st : List Value) : Option qyA := if len = 3 then (match qyFind qyCl idx with
  | some mj => if mj = 46 then (match st with
      | .ref b :: rest => if b = 0 ∧ qySz rest ≤ 8 then some (.inr (.inr (.inr (.inl rest)))) else none
      | _ => none)
    else if (qzMd mj).2.2.2.2.2.1 ≤ st.length ∧ (st.take (qzMd mj).2.2.2.2.2.1).all qyInt = true then (match st.drop (qzMd mj).2.2.2.2.2.1 with
      | .ref b :: rest => if b = 0 ∧ qySz rest ≤ 8 then some (.inr (.inl (mj, .ref b :: (st.take (qzMd mj).2.2.2.2.2.1).reverse, rest))) else none
      | _ => none) else none
  | none => none) else none
def qyStat (idx len : Nat) (st : List Value) : Option qyA := if len = 3 then (match qyFind qyLl idx with
  | some mq => if (qyMd mq).2.2.2.2 ≤ st.length ∧ (st.take (qyMd mq).2.2.2.2).all (fun v => v.category == 1) = true ∧ qySz (st.drop (qyMd mq).2.2.2.2) ≤ 8 then some (.inr (.inr (.inl (mq, (st.take (qyMd mq).2.2.2.2).reverse, st.drop (qyMd mq).2.2.2.2)))) else none
  | none => none) else none
def qyRet (mi len : Nat) (st : List Value) : Option qyA := if len = 1 then (match st with
  | [.int v] => (match (qyMd mi).2.2.2.1 with
    | some ty => if narrow ty (.int v) = .int v then some (.inr (.inr (.inr (.inr (.int v))))) else none
    | none => none)
  | _ => none) else none
def qyLret (mi len : Nat) (st : List Value) : Option qyA := if len = 1 ∧ (qyMd mi).2.2.2.1 = some .long then (match st with
  | [.long v] => some (.inr (.inr (.inr (.inr (.long v)))))
  | _ => none) else none
def qyI (E : qyE) (mi pc : Nat) (ins : Instr) (len : Nat) (ls st : List Value) : Option qyA := match ins with
  | .iconst n => qyPush (.int (Int32.ofInt n)) len 1 pc ls st
  | .bipush n => qyPush (.int (Int8.ofInt n).toInt32) len 2 pc ls st
  | .sipush n => qyPush (.int (Int16.ofInt n).toInt32) len 3 pc ls st
  | .dconst n => if n = 0 then qyPush (.double FP.dconst0) len 1 pc ls st else none
  | .iload_n k => qyIload k len 1 pc ls st
  | .iload k => qyIload k len 2 pc ls st
  | .lload_n k => qyLload k len 1 pc ls st
  | .lload k => qyLload k len 2 pc ls st
  | .aload_n k => qyAload k len 1 pc ls st
  | .istore_n k => qyIstore mi k len 1 pc ls st
  | .istore k => qyIstore mi k len 2 pc ls st
  | .astore_n k => qyAstore mi k len 1 pc ls st
  | .lstore_n k => qyLstore mi k len 1 pc ls st
  | .lstore k => qyLstore mi k len 2 pc ls st
  | .iadd => qyBin (fun x y => x + y) len pc ls st
  | .isub => qyBin (fun x y => x - y) len pc ls st
  | .imul => qyBin (fun x y => x * y) len pc ls st
  | .iand => qyBin (fun x y => x &&& y) len pc ls st
  | .ishr => qyBin (fun x y => x >>> (y &&& 31)) len pc ls st
  | .idiv => qyBinD (fun x y => x / y) len pc ls st
  | .irem => qyBinD (fun x y => x - x / y * y) len pc ls st
  | .ladd => qyBinL (fun x y => x + y) len pc ls st
  | .lmul => qyBinL (fun x y => x * y) len pc ls st
  | .lcmp => qyLcmp len pc ls st
  | .i2l => qyI2l len pc ls st
  | .i2d => qyI2d len pc ls st
  | .ddiv => qyDdiv len pc ls st
  | .dcmp op => qyDcmp op len pc ls st
  | .iinc i n => qyIinc mi i n len pc ls st
  | .ifCond c off => qyIf1 c off len pc ls st
  | .if_icmp c off => qyIf2 c off len pc ls st
  | .goto off => qyGoto off len pc ls st
  | .ldc idx => qyLdc idx len pc ls st
  | .ldc2_w idx => qyLdc2 idx len pc ls st
  | .arraylength => qyAlen E len pc ls st
  | .iaload => qyIald E len pc ls st
  | .invokevirtual idx => qyVirt idx len st
  | .invokestatic idx => qyStat idx len st
  | .ireturn => qyRet mi len st
  | .lreturn => qyLret mi len st
  | _ => none
def qyStep (E : qyE) (mi pc : Nat) (ls st : List Value) : Option qyA := match decode (qyMd mi).2.1 pc with
  | .ok (ins, len) => qyI E mi pc ins len ls st
  | .error _ => none
def qyLoc (mi : Nat) (as : List Value) : List Value := as ++ List.replicate ((qyMd mi).2.2.1 - as.length) (.float 0)
/-- rate(), by what the sums of the coats are -/
def qyRtP (hp : qzH) (x : UInt64) : Prop := ∃ (pa : Nat → Nat) (h : Nat → Nat → Int32) (a0 a1 w0 w1 : Int32), hp = (60, qzRr pa, h) ∧ qzC 5 12 [.ref 1, .ref 5, .int (nI 0)] hp = some (some (.int a0), hp) ∧ qzC 5 12 [.ref 1, .ref 5, .int (nI 1)] hp = some (some (.int a1), hp) ∧ qzC 5 12 [.ref 1, .ref 6, .int (nI 0)] hp = some (some (.int w0), hp) ∧ qzC 5 12 [.ref 1, .ref 6, .int (nI 1)] hp = some (some (.int w1), hp) ∧
  ((¬ 0 < a0 + a1 ∧ x = FP.dconst0) ∨ (0 < a0 + a1 ∧ x = FP.ddiv (FP.i2d (w0 + w1)) (FP.i2d (a0 + a1)) ∧ vf_n64 x))
theorem qyRtP_u {hp : qzH} {x y : UInt64} (h1 : qyRtP hp x) (h2 : qyRtP hp y) : x = y := by
  obtain ⟨pa, h, a0, a1, w0, w1, -, c0, c1, c2, c3, hx⟩ := h1
  obtain ⟨pa', h', b0, b1, v0, v1, -, d0, d1, d2, d3, hy⟩ := h2
  rw [c0] at d0; cases d0
  rw [c1] at d1; cases d1
  rw [c2] at d2; cases d2
  rw [c3] at d3; cases d3
  rcases hx with ⟨q, rfl⟩ | ⟨q, rfl, -⟩ <;> rcases hy with ⟨q', rfl⟩ | ⟨q', rfl, -⟩
  · rfl
  · exact absurd q' q
  · exact absurd q q'
  · rfl
noncomputable def qyRt (hp : qzH) : Option UInt64 := @dite _ (∃ x, qyRtP hp x) (Classical.propDecidable _) (fun h => some (Classical.choose h)) (fun _ => none)
theorem qyRt_some {hp : qzH} {x : UInt64} (h : qyRt hp = some x) : qyRtP hp x := by
  unfold qyRt at h
  split at h
  · rename_i hx
    cases h
    exact Classical.choose_spec hx
  · cases h
theorem qyRt_of {hp : qzH} {x : UInt64} (h : qyRtP hp x) : qyRt hp = some x := by
  unfold qyRt
  split
  · rename_i hx
    exact congrArg some (qyRtP_u (Classical.choose_spec hx) h)
  · rename_i hx
    exact absurd ⟨x, h⟩ hx
/-- the run: fuel, depth of the law's own calls, method, place, locals, stack, heap -/
noncomputable def qyX (E : qyE) : Nat → Nat → Nat → Nat → List Value → List Value → qzH → Option (Value × qzH)
  | 0, _, _, _, _, _, _ => none
  | f + 1, k, mi, pc, ls, st, hp => match qyStep E mi pc ls st with
    | none => none
    | some (.inl (pc', ls', st')) => qyX E f k mi pc' ls' st' hp
    | some (.inr (.inl (mj, as, rest))) => (match qzC 60 mj as hp with
      | none => none
      | some (v, hp1) => if hp1.1 = hp.1 then qyX E f k mi (pc + 3) ls (v.toList ++ rest) hp1 else none)
    | some (.inr (.inr (.inl (mq, as, rest)))) => (match k with
      | 0 => none
      | k' + 1 => match qyX E f k' mq 0 (qyLoc mq as) [] hp with
        | none => none
        | some (v, hp1) => qyX E f (k' + 1) mi (pc + 3) ls (v :: rest) hp1)
    | some (.inr (.inr (.inr (.inl rest)))) => (match qyRt hp with
      | none => none
      | some x => qyX E f k mi (pc + 3) ls (.double x :: rest) hp)
    | some (.inr (.inr (.inr (.inr v)))) => some (v, hp)
