/-! THE INTERPRETER: the bytecode over a small heap (objects by number, in the order in which they are made); later parts speak of it alone. -/
abbrev qzH : Type := Nat × (Nat → Nat → Option Nat) × (Nat → Nat → Int32)
def qzUp {α : Type} (f : Nat → Nat → α) (i k : Nat) (v : α) : Nat → Nat → α := fun a b => if a = i ∧ b = k then v else f a b
def qzUr {α : Type} (f : Nat → Nat → α) (i : Nat) (g : Nat → α) : Nat → Nat → α := fun a b => if a = i then g b else f a b
def qzRef (ci k : Nat) : Bool := match qzTy ci k with
  | .int => false
  | .boolean => false
  | _ => true
/-- what a step comes to: on in the method, a call, an answer -/
abbrev qzA : Type := (Nat × List Value × List Value × qzH) ⊕ ((Nat × List Value × List Value) ⊕ Option Value)
def qzGo (pc : Nat) (ls st : List Value) (hp : qzH) : Option qzA := some (.inl (pc, ls, st, hp))
def qzTg (pc : Nat) (off : Int) : Nat := ((pc : Int) + off).toNat
def qzBr (b : Bool) (pc : Nat) (off : Int) (ls st : List Value) (hp : qzH) : Option qzA := if 0 ≤ (pc : Int) + off then (if b then qzGo (qzTg pc off) ls st hp else qzGo (pc + 3) ls st hp) else none
def qzC1 (c : ClassFile.Cond) (x : Int32) : Bool := match c with
  | .eq => decide (x = 0)
  | .ne => decide (¬ x = 0)
  | .lt => decide (x < 0)
  | .ge => decide (0 ≤ x)
  | .gt => decide (0 < x)
  | .le => decide (x ≤ 0)
def qzC2 (c : ClassFile.Cond) (x y : Int32) : Bool := match c with
  | .eq => decide (x = y)
  | .ne => decide (¬ x = y)
  | .lt => decide (x < y)
  | .ge => decide (y ≤ x)
  | .gt => decide (y < x)
  | .le => decide (x ≤ y)
/-- the statics' contents: LOWEST_VALUES, HIGHEST_VALUES, FIRST_VALUES are the objects 1000, 1001, 1002; the text is 1003 -/
def qzSv (i : Nat) (k : Nat) : Int32 := match i, k with
  | 0, 0 => 1
  | 0, _ => 0
  | 1, 0 => 5
  | 1, _ => 9
  | 2, 0 => 4
  | 2, 1 => 3
  | _, _ => 2
def qzCh (k : Nat) : Int32 := Int32.ofNat (97 + k % 3)
def qzIload (i len w pc : Nat) (ls st : List Value) (hp : qzH) : Option qzA := if len = w then (match ls[i]? with
  | some (.int x) => qzGo (pc + w) ls (.int x :: st) hp
  | _ => none) else none
def qzAload (i len w pc : Nat) (ls st : List Value) (hp : qzH) : Option qzA := if len = w then (match ls[i]? with
  | some (.ref x) => qzGo (pc + w) ls (.ref x :: st) hp
  | some .null => qzGo (pc + w) ls (.null :: st) hp
  | _ => none) else none
def qzIstore (i len w pc : Nat) (ls st : List Value) (hp : qzH) : Option qzA := if len = w ∧ i < ls.length then (match st with
  | .int x :: st => qzGo (pc + w) (ls.set i (.int x)) st hp
  | _ => none) else none
def qzAstore (i len w pc : Nat) (ls st : List Value) (hp : qzH) : Option qzA := if len = w ∧ i < ls.length then (match st with
  | .ref x :: st => qzGo (pc + w) (ls.set i (.ref x)) st hp
  | .null :: st => qzGo (pc + w) (ls.set i .null) st hp
  | _ => none) else none
def qzBin (f : Int32 → Int32 → Int32) (len pc : Nat) (ls st : List Value) (hp : qzH) : Option qzA := if len = 1 then (match st with
  | .int y :: .int x :: st => qzGo (pc + 1) ls (.int (f x y) :: st) hp
  | _ => none) else none
def qzBinD (f : Int32 → Int32 → Int32) (len pc : Nat) (ls st : List Value) (hp : qzH) : Option qzA := if len = 1 then (match st with
  | .int y :: .int x :: st => if y = 0 then none else qzGo (pc + 1) ls (.int (f x y) :: st) hp
  | _ => none) else none
/-- an array's length, as the kinds have it -/
def qzLen (a : Nat) : Nat := if 1000 ≤ a then 3 else (qzk a).2
def qzArr (kd a n : Nat) : Bool := decide (a < n) && decide ((qzk a).1 = kd)
/-- an index within -/
def qzIn (i : Int32) (n : Nat) : Bool := !(decide (i < 0) || decide (n ≤ i.toNatClampNeg))
def qzIald (len pc : Nat) (ls st : List Value) (hp : qzH) : Option qzA := if len = 1 then (match st with
  | .int i :: .ref a :: st => if qzArr 4 a hp.1 then (if qzIn i (qzk a).2 then qzGo (pc + 1) ls (.int (hp.2.2 a i.toNatClampNeg) :: st) hp else none)
      else if 1000 ≤ a ∧ a < 1003 then (if qzIn i 3 then qzGo (pc + 1) ls (.int (qzSv (a - 1000) i.toNatClampNeg) :: st) hp else none) else none
  | _ => none) else none
def qzCald (len pc : Nat) (ls st : List Value) (hp : qzH) : Option qzA := if len = 1 then (match st with
  | .int i :: .ref a :: st => if qzArr 5 a hp.1 then (if qzIn i (qzk a).2 then qzGo (pc + 1) ls (.int (hp.2.2 a i.toNatClampNeg) :: st) hp else none) else none
  | _ => none) else none
def qzAald (len pc : Nat) (ls st : List Value) (hp : qzH) : Option qzA := if len = 1 then (match st with
  | .int i :: .ref a :: st => if qzArr 6 a hp.1 then (if qzIn i (qzk a).2 then qzGo (pc + 1) ls (va_rf (hp.2.1 a i.toNatClampNeg) :: st) hp else none) else none
  | _ => none) else none
def qzIast (len pc : Nat) (ls st : List Value) (hp : qzH) : Option qzA := if len = 1 then (match st with
  | .int x :: .int i :: .ref a :: st => if qzArr 4 a hp.1 then (if qzIn i (qzk a).2 then qzGo (pc + 1) ls st (hp.1, hp.2.1, qzUp hp.2.2 a i.toNatClampNeg x) else none) else none
  | _ => none) else none
def qzCast (len pc : Nat) (ls st : List Value) (hp : qzH) : Option qzA := if len = 1 then (match st with
  | .int x :: .int i :: .ref a :: st => if qzArr 5 a hp.1 then (if qzIn i (qzk a).2 then qzGo (pc + 1) ls st (hp.1, hp.2.1, qzUp hp.2.2 a i.toNatClampNeg (vp_nar .char x)) else none) else none
  | _ => none) else none
def qzAast (len pc : Nat) (ls st : List Value) (hp : qzH) : Option qzA := if len = 1 then (match st with
  | .ref v :: .int i :: .ref a :: st => if qzArr 6 a hp.1 ∧ qzArr 0 v hp.1 then (if qzIn i (qzk a).2 then qzGo (pc + 1) ls st (hp.1, qzUp hp.2.1 a i.toNatClampNeg (some v), hp.2.2) else none) else none
  | _ => none) else none
def qzAlen (len pc : Nat) (ls st : List Value) (hp : qzH) : Option qzA := if len = 1 then (match st with
  | .ref a :: st => if qzArr 4 a hp.1 ∨ qzArr 5 a hp.1 ∨ qzArr 6 a hp.1 then qzGo (pc + 1) ls (.int (Int32.ofNat (qzk a).2) :: st) hp
      else if 1000 ≤ a ∧ a < 1003 then qzGo (pc + 1) ls (.int 3 :: st) hp else none
  | _ => none) else none
def qzGetf (oc idx len pc : Nat) (ls st : List Value) (hp : qzH) : Option qzA := if len = 3 then (match st with
  | .ref a :: st => (match qzFind qzFl oc idx with
    | some (ci, k) => if qzArr ci a hp.1 ∧ ci < 4 then (if qzRef ci k then qzGo (pc + 3) ls (va_rf (hp.2.1 a k) :: st) hp else qzGo (pc + 3) ls (.int (hp.2.2 a k) :: st) hp) else none
    | none => none)
  | _ => none) else none
def qzPutf (mi oc idx len pc : Nat) (ls st : List Value) (hp : qzH) : Option qzA := if len = 3 then (match st with
  | v :: .ref a :: st => (match qzFind qzFl oc idx with
    | some (ci, k) => if qzArr ci a hp.1 ∧ ci < 4 then (match v with
        | .int x => if qzRef ci k then none else if (qzTs ci k).2.2.2 then none else if narrow (qzTy ci k) (.int x) = .int x ∧ fits (qzTy ci k) (.int x) = true then qzGo (pc + 3) ls st (hp.1, hp.2.1, qzUp hp.2.2 a k x) else none
        | .ref b => if qzRef ci k ∧ (qzTs ci k).2.2.2 = true ∧ (qzMd mi).2.2.2.2.1 = 2 ∧ ci = oc ∧ b < hp.1 then qzGo (pc + 3) ls st (hp.1, qzUp hp.2.1 a k (some b), hp.2.2) else none
        | _ => none) else none
    | none => none)
  | _ => none) else none
def qzGets (oc idx len pc : Nat) (ls st : List Value) (hp : qzH) : Option qzA := if len = 3 then
  (if oc = 2 ∧ idx = 68 then qzGo (pc + 3) ls (.ref 1000 :: st) hp else if oc = 2 ∧ idx = 76 then qzGo (pc + 3) ls (.ref 1001 :: st) hp else if oc = 0 ∧ idx = 51 then qzGo (pc + 3) ls (.ref 1002 :: st) hp else none) else none
def qzLdc (oc idx len pc : Nat) (ls st : List Value) (hp : qzH) : Option qzA := if len = 2 then
  (if (oc = 1 ∧ idx = 40) ∨ (oc = 2 ∧ idx = 227) then qzGo (pc + 2) ls (.int (-1000000) :: st) hp else if oc = 0 ∧ idx = 30 then qzGo (pc + 2) ls (.ref 1003 :: st) hp else none) else none
def qzNew (oc idx len pc : Nat) (ls st : List Value) (hp : qzH) : Option qzA := if len = 3 then
  (match (if oc = 2 ∧ idx = 7 then some 0 else if oc = 2 ∧ idx = 30 then some 1 else none) with
  | some ci => if qzk hp.1 = (ci, qzNf ci) ∧ hp.1 < 67 then qzGo (pc + 3) ls (.ref hp.1 :: st) (hp.1 + 1, qzUr hp.2.1 hp.1 (fun _ => none), qzUr hp.2.2 hp.1 (fun _ => 0)) else none
  | none => none) else none
def qzNewa (kd len w pc : Nat) (ls st : List Value) (hp : qzH) : Option qzA := if len = w then (match st with
  | .int x :: st => if x < 0 then none else if qzk hp.1 = (kd, x.toNatClampNeg) ∧ hp.1 < 67 then qzGo (pc + w) ls (.ref hp.1 :: st) (hp.1 + 1, qzUr hp.2.1 hp.1 (fun _ => none), qzUr hp.2.2 hp.1 (fun _ => 0)) else none
  | _ => none) else none
def qzTsw (d lo hi : Int) (offs : Array Int) (pc : Nat) (ls st : List Value) (hp : qzH) : Option qzA := match st with
  | .int x :: st => if x.toInt < lo ∨ hi < x.toInt then (if 0 ≤ (pc : Int) + d then qzGo (qzTg pc d) ls st hp else none)
      else (match offs[(x.toInt - lo).toNat]? with
      | some o => if 0 ≤ (pc : Int) + o then qzGo (qzTg pc o) ls st hp else none
      | none => none)
  | _ => none
def qzCall (kd : Nat) (oc idx len : Nat) (st : List Value) (hp : qzH) : Option qzA := if len = 3 then (match qzFind qzCl oc idx with
  | some (mj, nest) => if (qzMd mj).2.2.2.2.1 = kd ∧ mj < 149 ∧ (kd = 1 → nest = false) then
      (if kd = 0 then (if (qzMd mj).2.2.2.2.2.1 ≤ st.length ∧ (st.drop (qzMd mj).2.2.2.2.2.1).length ≤ 8 then some (.inr (.inl (mj, (st.take (qzMd mj).2.2.2.2.2.1).reverse, st.drop (qzMd mj).2.2.2.2.2.1))) else none)
      else (match st.drop (qzMd mj).2.2.2.2.2.1 with
        | .ref b :: rest => if qzArr (qzMd mj).2.2.2.2.2.2 b hp.1 ∧ rest.length ≤ 8 ∧ (qzMd mj).2.2.2.2.2.1 ≤ st.length then some (.inr (.inl (mj, .ref b :: (st.take (qzMd mj).2.2.2.2.2.1).reverse, rest))) else none
        | _ => none)) else none
  | none => none) else none
/-- the JDK's: Math.min, Math.max, System.arraycopy -/
def qzStat (oc idx len pc : Nat) (ls st : List Value) (hp : qzH) : Option qzA :=
  if (oc = 0 ∧ idx = 75) ∨ (oc = 2 ∧ idx = 272) then (if len = 3 then (match st with
    | .int y :: .int x :: st => if st.length ≤ 8 then qzGo (pc + 3) ls (.int (if y < x then y else x) :: st) hp else none
    | _ => none) else none)
  else if oc = 2 ∧ idx = 277 then (if len = 3 then (match st with
    | .int y :: .int x :: st => if st.length ≤ 8 then qzGo (pc + 3) ls (.int (if x < y then y else x) :: st) hp else none
    | _ => none) else none)
  else if (oc = 0 ∧ idx = 66) ∨ (oc = 1 ∧ idx = 28) then (if len = 3 then (match st with
    | .int n :: .int dp :: .ref a :: .int sp :: .ref b :: st =>
      if qzArr 4 a hp.1 ∧ qzArr 4 b hp.1 ∧ ¬ sp < 0 ∧ ¬ dp < 0 ∧ ¬ n < 0 ∧ sp.toNatClampNeg + n.toNatClampNeg ≤ (qzk b).2 ∧ dp.toNatClampNeg + n.toNatClampNeg ≤ (qzk a).2 ∧ st.length ≤ 8 then
        qzGo (pc + 3) ls st (hp.1, hp.2.1, qzUr hp.2.2 a (va_cpy (hp.2.2 b) (hp.2.2 a) sp.toNatClampNeg dp.toNatClampNeg n.toNatClampNeg)) else none
    | _ => none) else none)
  else qzCall 0 oc idx len st hp
def qzSpec (oc idx len pc : Nat) (ls st : List Value) (hp : qzH) : Option qzA :=
  if (oc = 0 ∧ idx = 3) ∨ (oc = 1 ∧ idx = 3) ∨ (oc = 2 ∧ idx = 1) ∨ (oc = 3 ∧ idx = 1) then (if len = 3 then (match st with
    | .ref _ :: st => if st.length ≤ 8 then qzGo (pc + 3) ls st hp else none
    | _ => none) else none)
  else qzCall 2 oc idx len st hp
/-- the text's length and its signs -/
def qzVirt (oc idx len pc : Nat) (ls st : List Value) (hp : qzH) : Option qzA :=
  if oc = 0 ∧ idx = 32 then (if len = 3 then (match st with
    | .ref a :: st => if a = 1003 ∧ st.length ≤ 8 then qzGo (pc + 3) ls (.int 12 :: st) hp else none
    | _ => none) else none)
  else if oc = 0 ∧ idx = 62 then (if len = 3 then (match st with
    | .int i :: .ref a :: st => if a = 1003 ∧ qzIn i 12 ∧ st.length ≤ 8 then qzGo (pc + 3) ls (.int (qzCh i.toNatClampNeg) :: st) hp else none
    | _ => none) else none)
  else qzCall 1 oc idx len st hp
def qzRet (mi len : Nat) (st : List Value) : Option qzA := if len = 1 then (match st with
  | [.int v] => (match (qzMd mi).2.2.2.1 with
    | some ty => if narrow ty (.int v) = .int v then some (.inr (.inr (some (.int v)))) else none
    | none => none)
  | _ => none) else none
def qzAret (mi len : Nat) (st : List Value) : Option qzA := if len = 1 then (match (qzMd mi).2.2.2.1 with
  | some (.object _) => (match st with
    | [.ref v] => some (.inr (.inr (some (.ref v))))
    | [.null] => some (.inr (.inr (some .null)))
    | _ => none)
  | _ => none) else none
def qzVret (mi len : Nat) (st : List Value) : Option qzA := if len = 1 then (match (qzMd mi).2.2.2.1 with
  | none => (match st with
    | [] => some (.inr (.inr none))
    | _ => none)
  | some _ => none) else none
def qzPop (len pc : Nat) (ls st : List Value) (hp : qzH) : Option qzA := if len = 1 then (match st with
  | _ :: st => qzGo (pc + 1) ls st hp
  | _ => none) else none
def qzDup (len pc : Nat) (ls st : List Value) (hp : qzH) : Option qzA := if len = 1 then (match st with
  | v :: st => qzGo (pc + 1) ls (v :: v :: st) hp
  | _ => none) else none
def qzDup2 (len pc : Nat) (ls st : List Value) (hp : qzH) : Option qzA := if len = 1 then (match st with
  | v :: w :: st => qzGo (pc + 1) ls (v :: w :: v :: w :: st) hp
  | _ => none) else none
def qzPush (v : Value) (len w pc : Nat) (ls st : List Value) (hp : qzH) : Option qzA := if len = w then qzGo (pc + w) ls (v :: st) hp else none
def qzI2c (len pc : Nat) (ls st : List Value) (hp : qzH) : Option qzA := if len = 1 then (match st with
  | .int x :: st => qzGo (pc + 1) ls (.int (x.toUInt32 % 65536).toInt32 :: st) hp
  | _ => none) else none
def qzIinc (i : Nat) (n : Int) (len pc : Nat) (ls st : List Value) (hp : qzH) : Option qzA := if len = 3 then (match ls[i]? with
  | some (.int x) => qzGo (pc + 3) (ls.set i (.int (x + Int32.ofInt n))) st hp
  | _ => none) else none
def qzIf1 (c : ClassFile.Cond) (off : Int) (len pc : Nat) (ls st : List Value) (hp : qzH) : Option qzA := if len = 3 then (match st with
  | .int x :: st => qzBr (qzC1 c x) pc off ls st hp
  | _ => none) else none
def qzIf2 (c : ClassFile.Cond) (off : Int) (len pc : Nat) (ls st : List Value) (hp : qzH) : Option qzA := if len = 3 then (match st with
  | .int y :: .int x :: st => qzBr (qzC2 c x y) pc off ls st hp
  | _ => none) else none
def qzIfN (wh : Bool) (off : Int) (len pc : Nat) (ls st : List Value) (hp : qzH) : Option qzA := if len = 3 then (match st with
  | .ref _ :: st => qzBr (!wh) pc off ls st hp
  | .null :: st => qzBr wh pc off ls st hp
  | _ => none) else none
def qzGoto (off : Int) (len pc : Nat) (ls st : List Value) (hp : qzH) : Option qzA := if len = 3 ∧ 0 ≤ (pc : Int) + off then qzGo (qzTg pc off) ls st hp else none
def qzI (mi pc : Nat) (ins : Instr) (len : Nat) (ls st : List Value) (hp : qzH) : Option qzA := match ins with
  | .iconst n => qzPush (.int (Int32.ofInt n)) len 1 pc ls st hp
  | .bipush n => qzPush (.int (Int8.ofInt n).toInt32) len 2 pc ls st hp
  | .sipush n => qzPush (.int (Int16.ofInt n).toInt32) len 3 pc ls st hp
  | .aconst_null => qzPush .null len 1 pc ls st hp
  | .iload_n k => qzIload k len 1 pc ls st hp
  | .iload k => qzIload k len 2 pc ls st hp
  | .aload_n k => qzAload k len 1 pc ls st hp
  | .aload k => qzAload k len 2 pc ls st hp
  | .istore_n k => qzIstore k len 1 pc ls st hp
  | .istore k => qzIstore k len 2 pc ls st hp
  | .astore_n k => qzAstore k len 1 pc ls st hp
  | .astore k => qzAstore k len 2 pc ls st hp
  | .iadd => qzBin (fun x y => x + y) len pc ls st hp
  | .isub => qzBin (fun x y => x - y) len pc ls st hp
  | .imul => qzBin (fun x y => x * y) len pc ls st hp
  | .iand => qzBin (fun x y => x &&& y) len pc ls st hp
  | .ior => qzBin (fun x y => x ||| y) len pc ls st hp
  | .ishl => qzBin (fun x y => x <<< (y &&& 31)) len pc ls st hp
  | .ishr => qzBin (fun x y => x >>> (y &&& 31)) len pc ls st hp
  | .idiv => qzBinD (fun x y => x / y) len pc ls st hp
  | .irem => qzBinD (fun x y => x - x / y * y) len pc ls st hp
  | .i2c => qzI2c len pc ls st hp
  | .iinc i n => qzIinc i n len pc ls st hp
  | .dup => qzDup len pc ls st hp
  | .dup2 => qzDup2 len pc ls st hp
  | .pop => qzPop len pc ls st hp
  | .ifCond c off => qzIf1 c off len pc ls st hp
  | .if_icmp c off => qzIf2 c off len pc ls st hp
  | .ifnull off => qzIfN true off len pc ls st hp
  | .ifnonnull off => qzIfN false off len pc ls st hp
  | .goto off => qzGoto off len pc ls st hp
  | .tableswitch d lo hi offs => qzTsw d lo hi offs pc ls st hp
  | .iaload => qzIald len pc ls st hp
  | .caload => qzCald len pc ls st hp
  | .aaload => qzAald len pc ls st hp
  | .iastore => qzIast len pc ls st hp
  | .castore => qzCast len pc ls st hp
  | .aastore => qzAast len pc ls st hp
  | .arraylength => qzAlen len pc ls st hp
  | .getfield idx => qzGetf (qzMd mi).2.2.2.2.2.2 idx len pc ls st hp
  | .putfield idx => qzPutf mi (qzMd mi).2.2.2.2.2.2 idx len pc ls st hp
  | .getstatic idx => qzGets (qzMd mi).2.2.2.2.2.2 idx len pc ls st hp
  | .ldc idx => qzLdc (qzMd mi).2.2.2.2.2.2 idx len pc ls st hp
  | .new idx => qzNew (qzMd mi).2.2.2.2.2.2 idx len pc ls st hp
  | .newarray .int => qzNewa 4 len 2 pc ls st hp
  | .newarray .char => qzNewa 5 len 2 pc ls st hp
  | .anewarray idx => if (qzMd mi).2.2.2.2.2.2 = 2 ∧ idx = 7 then qzNewa 6 len 3 pc ls st hp else none
  | .invokestatic idx => qzStat (qzMd mi).2.2.2.2.2.2 idx len pc ls st hp
  | .invokespecial idx => qzSpec (qzMd mi).2.2.2.2.2.2 idx len pc ls st hp
  | .invokevirtual idx => qzVirt (qzMd mi).2.2.2.2.2.2 idx len pc ls st hp
  | .ireturn => qzRet mi len st
  | .areturn => qzAret mi len st
  | .return_ => qzVret mi len st
  | _ => none
def qzStep (mi pc : Nat) (ls st : List Value) (hp : qzH) : Option qzA := match decode (qzMd mi).2.1 pc with
  | .ok (ins, len) => qzI mi pc ins len ls st hp
  | .error _ => none
def qzLoc (mi : Nat) (as : List Value) : List Value := as ++ List.replicate ((qzMd mi).2.2.1 - as.length) (.float 0)
/-- the run: fuel, depth of calls, method, place, locals, stack, heap -/
def qzX : Nat → Nat → Nat → Nat → List Value → List Value → qzH → Option (Option Value × qzH)
  | 0, _, _, _, _, _, _ => none
  | f + 1, d, mi, pc, ls, st, hp => match qzStep mi pc ls st hp with
    | none => none
    | some (.inl (pc', ls', st', hp')) => qzX f d mi pc' ls' st' hp'
    | some (.inr (.inr v)) => some (v, hp)
    | some (.inr (.inl (mj, as, rest))) => match d with
      | 0 => none
      | d' + 1 => match qzX f d' mj 0 (qzLoc mj as) [] hp with
        | none => none
        | some (v, hp1) => qzX f (d' + 1) mi (pc + 3) ls (v.toList ++ rest) hp1
