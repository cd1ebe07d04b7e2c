/-! what holds at a place of a method: the fixed part, and the part that moves -/
def qzA0 (z0 : Nat) : Nat → Prop := fun q => z0 ≤ q
def qzTys (G : qzGT) : List (ClassId × FieldType) := [(G.1, .int), (G.2.1, .char), (G.2.2, .object RX0)]
def qzNw (s : State) : Prop := (∀ q ∈ qzNst, va_Nw (.methodLinkNest (qzRs q.1) q.2.1 q.2.2.1 q.2.2.2) s) ∧ va_Nw (.fieldLinkNest RX0 51 "BoltTailors" "FIRST_VALUES" "[I" "BoltTailors") s ∧ va_AO RX0 s
def qzTxt : List Int32 := [97, 98, 99, 97, 98, 99, 97, 98, 99, 97, 98, 99]
/-- what is there from before: the three rows of numbers, the text -/
def qzSt (z0 : Nat) (S : Nat → Nat) (s : State) (H : Heap) : Prop :=
  va_Z "BoltTailors" "LOWEST_VALUES" "[I" (.ref (S 0)) (qzA0 z0) s H ∧ va_Z "BoltTailors" "HIGHEST_VALUES" "[I" (.ref (S 1)) (qzA0 z0) s H ∧ va_Z "BoltTailors" "FIRST_VALUES" "[I" (.ref (S 2)) (qzA0 z0) s H ∧
  (∀ i, i < 3 → va_X (S i) 3 (qzSv i) s H ∧ S i < z0) ∧ vk_R RX0 30 "abcabcabcabc" (S 3) s ∧
  (∃ adV : Nat → Nat, vk_S 1 [12] [qzTxt] (fun _ => S 3) adV (qzA0 z0) s H) ∧ va_Z "java/lang/String" "COMPACT_STRINGS" "Z" (.int 1) (qzA0 z0) s H ∧ va_Zq "jdk/internal/util/Preconditions" "SIOOBE_FORMATTER" "Ljava/util/function/BiFunction;" (qzA0 z0) s H
theorem qzNw.warm {s U : State} (hW : s.WarmedH U.vm) (h : qzNw s) : qzNw U := ⟨fun q hq => va_Nw.warmM hW (h.1 q hq), va_Nw.warmF hW h.2.1, va_AO.moved hW.alike h.2.2⟩
theorem qzNw.same {s U : State} (hv : s.vm = U.vm) (h : qzNw s) : qzNw U := ⟨fun q hq => va_Nw.same rfl hv (h.1 q hq), va_Nw.same rfl hv h.2.1, va_AO.moved (by rw [hv]; exact Vm.Alike.refl U.vm) h.2.2⟩
theorem qzSt.warm {z0 : Nat} {S : Nat → Nat} {s U : State} {H : Heap} (hW : s.WarmedH U.vm) (h : qzSt z0 S s H) : qzSt z0 S U H := by
  obtain ⟨h1, h2, h3, h4, h5, ⟨adV, h6⟩, h7, h8⟩ := h
  exact ⟨va_Z.moved hW.alike h1, va_Z.moved hW.alike h2, va_Z.moved hW.alike h3, fun i hi => ⟨va_X.moved hW.alike (h4 i hi).1, (h4 i hi).2⟩, vk_R.warm hW h5, ⟨adV, vk_S.moved hW.alike h6⟩, va_Z.moved hW.alike h7, va_Zq.moved hW.alike h8⟩
theorem qzSt.same {z0 : Nat} {S : Nat → Nat} {s U : State} {H : Heap} (hv : U.vm = s.vm) (h : qzSt z0 S s H) : qzSt z0 S U H := by
  obtain ⟨h1, h2, h3, h4, h5, ⟨adV, h6⟩, h7, h8⟩ := h
  have ha : s.vm.Alike U.vm := by rw [hv]; exact Vm.Alike.refl s.vm
  exact ⟨va_Z.moved ha h1, va_Z.moved ha h2, va_Z.moved ha h3, fun i hi => ⟨va_X.moved ha (h4 i hi).1, (h4 i hi).2⟩, vk_R.same hv h5, ⟨adV, vk_S.moved ha h6⟩, va_Z.moved ha h7, va_Zq.moved ha h8⟩
theorem qzSt.kept {z0 : Nat} {S : Nat → Nat} {s : State} {H H1 : Heap} (h : qzSt z0 S s H) (hz : z0 ≤ H.size) (hq : ∀ a : Nat, a < H.size → ¬ qzA0 z0 a → H1[a]? = H[a]?) : qzSt z0 S s H1 := by
  obtain ⟨h1, h2, h3, h4, h5, ⟨adV, h6⟩, h7, h8⟩ := h
  exact ⟨h1.kept hq, h2.kept hq, h3.kept hq, fun i hi => ⟨(h4 i hi).1.kept (hq _ (Nat.lt_of_lt_of_le (h4 i hi).2 hz) (fun q => Nat.lt_irrefl _ (Nat.lt_of_lt_of_le (h4 i hi).2 q))), (h4 i hi).2⟩, h5, ⟨adV, h6.kept hq⟩, h7.kept hq, h8.kept hq⟩
/-- the fixed part -/
def qzFx (p : Program) (G : qzGT) (D : va_G) (z0 : Nat) (S : Nat → Nat) (s : State) (m : MethodId) (args : Array Value) (meth : Method) (c : Code) (mi : Nat) : Prop :=
  p.tables.exec = Jvm.exec ∧ c.code = (qzMd mi).2.1 ∧ c.maxLocals = (qzMd mi).2.2.1 ∧ meth.sig.returnType = (qzMd mi).2.2.2.1 ∧ s.vm.findClass (qzMd mi).1.cls = some m.cls ∧ (∀ w ∈ qzWs, w.before args s = true) ∧ meth.locks = false ∧ meth.name = (qzMd mi).1.name ∧
  va_K D vwCl (qzTys G) s ∧ qzNw s ∧ qzSt z0 S s s.heap ∧ z0 ≤ s.heap.size ∧ mi < 149
/-- the part that moves -/
def qzCx (G : qzGT) (D : va_G) (z0 : Nat) (S : Nat → Nat) (s : State) (mi : Nat) (ad : Nat → Nat) (lsS : Array Slot) (H : Heap) (locs : List Loc) (ls st : List Value) (hp : qzH) : Prop :=
  qzLs ad hp.1 (qzMd mi).2.2.1 lsS ls ∧ (∀ v ∈ st, qzOk hp.1 v) ∧ qzWf hp ∧ (∀ i, ad (1000 + i) = S i) ∧ hp.1 < 1000 ∧ va_P D vwCl (qzW G ad hp) H ∧ va_D (qzA0 z0) (qzW G ad hp) ∧ va_S (qzA0 z0) s.heap H locs
theorem qzCx.st {G : qzGT} {D : va_G} {z0 : Nat} {S : Nat → Nat} {s : State} {mi : Nat} {ad : Nat → Nat} {lsS : Array Slot} {H : Heap} {locs : List Loc} {ls st st' : List Value} {hp : qzH} (C : qzCx G D z0 S s mi ad lsS H locs ls st hp) (h : ∀ v ∈ st', qzOk hp.1 v) : qzCx G D z0 S s mi ad lsS H locs ls st' hp := ⟨C.1, h, C.2.2⟩
theorem qzCx.cells {G : qzGT} {D : va_G} {z0 : Nat} {S : Nat → Nat} {s : State} {mi : Nat} {ad : Nat → Nat} {lsS : Array Slot} {H H1 : Heap} {locs locs1 : List Loc} {ls st st' : List Value} {hp hp' : qzH} (C : qzCx G D z0 S s mi ad lsS H locs ls st hp) (hn : hp'.1 = hp.1) (h : ∀ v ∈ st', qzOk hp.1 v) (hw : qzWf hp')
    (hP : va_P D vwCl (qzW G ad hp') H1) (hD : va_D (qzA0 z0) (qzW G ad hp')) (hS : va_S (qzA0 z0) s.heap H1 locs1) : qzCx G D z0 S s mi ad lsS H1 locs1 ls st' hp' := by
  obtain ⟨c1, c2, c3, c4, c5, c6, c7, c8⟩ := C
  exact ⟨by rw [hn]; exact c1, by rw [hn]; exact h, hw, c4, by rw [hn]; exact c5, hP, hD, hS⟩
section QZ
variable {p : Program} {l : Launch} {e : Env} {R : Room} {s : State} {m : MethodId} {args : Array Value} {below : List Frame} {meth : Method} {c : Code} {Q : State → Prop} {G : qzGT} {D : va_G} {z0 : Nat} {S : Nat → Nat} {mi pc n0 : Nat} {ad : Nat → Nat} {lsS : Array Slot} {H : Heap} {locs : List Loc} {ls st ls' st' : List Value} {hp hp' : qzH} {pc' len : Nat}
/-- the goal at a place -/
abbrev qzG (p : Program) (l : Launch) (e : Env) (R : Room) (s : State) (m : MethodId) (args : Array Value) (below : List Frame) (meth : Method) (c : Code) (Q : State → Prop) (n0 pc : Nat) (ad : Nat → Nat) (lsS : Array Slot) (H : Heap) (locs : List Loc) (st : List Value) (n : Nat) : Prop :=
  W p l e R s m args below meth c H locs (n - n0) (qzSl n - qzSl n0) Q (F0 m pc lsS (st.map (qzR ad)))
/-- how it goes on -/
def qzKK (p : Program) (l : Launch) (e : Env) (R : Room) (s : State) (m : MethodId) (args : Array Value) (below : List Frame) (meth : Method) (c : Code) (Q : State → Prop) (G : qzGT) (D : va_G) (z0 : Nat) (S : Nat → Nat) (mi n0 : Nat) (n : Nat) (ad : Nat → Nat) (pc' : Nat) (ls' st' : List Value) (hp' : qzH) : Prop :=
  ∀ (ad' : Nat → Nat) (lsS' : Array Slot) (H' : Heap) (locs' : List Loc), qzAg n ad ad' → qzCx G D z0 S s mi ad' lsS' H' locs' ls' st' hp' → qzG p l e R s m args below meth c Q n0 pc' ad' lsS' H' locs' st' hp'.1
theorem qzKK.same (kk : qzKK p l e R s m args below meth c Q G D z0 S mi n0 hp.1 ad pc' ls st' hp) (C : qzCx G D z0 S s mi ad lsS H locs ls st hp) (h : ∀ v ∈ st', qzOk hp.1 v) : qzG p l e R s m args below meth c Q n0 pc' ad lsS H locs st' hp.1 :=
  kk ad lsS H locs qzAg.rf (C.st h)
/-- a store into a local -/
theorem qzKK.store {i : Nat} {x : Value} (kk : qzKK p l e R s m args below meth c Q G D z0 S mi n0 hp.1 ad pc' (ls.set i x) st' hp) (C : qzCx G D z0 S s mi ad lsS H locs ls st hp) (hx : qzOk hp.1 x) (h : ∀ v ∈ st', qzOk hp.1 v) {lv : List (Nat × Value)} (h2 : ∀ (j : Nat) (v : Value), ls[j]? = some v → v ≠ .float 0 → (j, qzR ad v) ∈ lv) {lsS' : Array Slot}
    (h' : lv_has lsS' (qzMd mi).2.2.1 ((i, qzR ad x) :: lv.filter (fun q => !(q.1 == i) && !(q.1 + 1 == i && q.2.category == 2)))) : qzG p l e R s m args below meth c Q n0 pc' ad lsS' H locs st' hp.1 :=
  kk ad lsS' H locs qzAg.rf ⟨qzLs.set C.1.1 C.1.2.1 h2 hx h', h, C.2.2⟩
end QZ
