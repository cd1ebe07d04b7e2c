/-! what a step says when it goes on -/
theorem qzGo_inj {pc pc' : Nat} {ls ls' st st' : List Value} {hp hp' : qzH} (h : qzGo pc ls st hp = (some (.inl (pc', ls', st', hp')) : Option qzA)) : pc' = pc ∧ ls' = ls ∧ st' = st ∧ hp' = hp := by
  unfold qzGo at h
  simp only [Option.some.injEq, Sum.inl.injEq, Prod.mk.injEq] at h
  exact ⟨h.1.symm, h.2.1.symm, h.2.2.1.symm, h.2.2.2.symm⟩
theorem qz_no {a : qzA} (h : (none : Option qzA) = some a) : False := by cases h
theorem qzPush_inv {pc pc' len : Nat} {ls ls' st st' : List Value} {hp hp' : qzH} {v : Value} {w : Nat} (h : qzPush v len w pc ls st hp = (some (.inl (pc', ls', st', hp')) : Option qzA)) : len = w ∧ pc' = pc + w ∧ ls' = ls ∧ st' = v :: st ∧ hp' = hp := by
  unfold qzPush at h
  split at h
  · exact ⟨by assumption, qzGo_inj h⟩
  · exact (qz_no h).elim
theorem qzIload_inv {pc pc' len : Nat} {ls ls' st st' : List Value} {hp hp' : qzH} {i w : Nat} (h : qzIload i len w pc ls st hp = (some (.inl (pc', ls', st', hp')) : Option qzA)) : len = w ∧ ∃ x, ls[i]? = some (.int x) ∧ pc' = pc + w ∧ ls' = ls ∧ st' = .int x :: st ∧ hp' = hp := by
  unfold qzIload at h
  split at h
  · split at h
    · exact ⟨by assumption, _, by assumption, qzGo_inj h⟩
    · exact (qz_no h).elim
  · exact (qz_no h).elim
theorem qzAload_inv {pc pc' len : Nat} {ls ls' st st' : List Value} {hp hp' : qzH} {i w : Nat} (h : qzAload i len w pc ls st hp = (some (.inl (pc', ls', st', hp')) : Option qzA)) : len = w ∧ ((∃ x, ls[i]? = some (.ref x) ∧ pc' = pc + w ∧ ls' = ls ∧ st' = .ref x :: st ∧ hp' = hp) ∨ (ls[i]? = some .null ∧ pc' = pc + w ∧ ls' = ls ∧ st' = .null :: st ∧ hp' = hp)) := by
  unfold qzAload at h
  split at h
  · split at h
    · exact ⟨by assumption, Or.inl ⟨_, by assumption, qzGo_inj h⟩⟩
    · exact ⟨by assumption, Or.inr ⟨by assumption, qzGo_inj h⟩⟩
    · exact (qz_no h).elim
  · exact (qz_no h).elim
theorem qzIstore_inv {pc pc' len : Nat} {ls ls' st st' : List Value} {hp hp' : qzH} {i w : Nat} (h : qzIstore i len w pc ls st hp = (some (.inl (pc', ls', st', hp')) : Option qzA)) : len = w ∧ i < ls.length ∧ ∃ x st1, st = .int x :: st1 ∧ pc' = pc + w ∧ ls' = ls.set i (.int x) ∧ st' = st1 ∧ hp' = hp := by
  unfold qzIstore at h
  split at h
  · rename_i hc
    split at h
    · exact ⟨hc.1, hc.2, _, _, rfl, qzGo_inj h⟩
    · exact (qz_no h).elim
  · exact (qz_no h).elim
theorem qzAstore_inv {pc pc' len : Nat} {ls ls' st st' : List Value} {hp hp' : qzH} {i w : Nat} (h : qzAstore i len w pc ls st hp = (some (.inl (pc', ls', st', hp')) : Option qzA)) : len = w ∧ i < ls.length ∧ ((∃ x st1, st = .ref x :: st1 ∧ pc' = pc + w ∧ ls' = ls.set i (.ref x) ∧ st' = st1 ∧ hp' = hp) ∨ (∃ st1, st = .null :: st1 ∧ pc' = pc + w ∧ ls' = ls.set i .null ∧ st' = st1 ∧ hp' = hp)) := by
  unfold qzAstore at h
  split at h
  · rename_i hc
    split at h
    · exact ⟨hc.1, hc.2, Or.inl ⟨_, _, rfl, qzGo_inj h⟩⟩
    · exact ⟨hc.1, hc.2, Or.inr ⟨_, rfl, qzGo_inj h⟩⟩
    · exact (qz_no h).elim
  · exact (qz_no h).elim
theorem qzBin_inv {pc pc' len : Nat} {ls ls' st st' : List Value} {hp hp' : qzH} {f : Int32 → Int32 → Int32} (h : qzBin f len pc ls st hp = (some (.inl (pc', ls', st', hp')) : Option qzA)) : len = 1 ∧ ∃ x y st1, st = .int y :: .int x :: st1 ∧ pc' = pc + 1 ∧ ls' = ls ∧ st' = .int (f x y) :: st1 ∧ hp' = hp := by
  unfold qzBin at h
  split at h
  · split at h
    · exact ⟨by assumption, _, _, _, rfl, qzGo_inj h⟩
    · exact (qz_no h).elim
  · exact (qz_no h).elim
theorem qzBinD_inv {pc pc' len : Nat} {ls ls' st st' : List Value} {hp hp' : qzH} {f : Int32 → Int32 → Int32} (h : qzBinD f len pc ls st hp = (some (.inl (pc', ls', st', hp')) : Option qzA)) : len = 1 ∧ ∃ x y st1, st = .int y :: .int x :: st1 ∧ ¬ y = 0 ∧ pc' = pc + 1 ∧ ls' = ls ∧ st' = .int (f x y) :: st1 ∧ hp' = hp := by
  unfold qzBinD at h
  split at h
  · split at h
    · split at h
      · exact (qz_no h).elim
      · exact ⟨by assumption, _, _, _, rfl, by assumption, qzGo_inj h⟩
    · exact (qz_no h).elim
  · exact (qz_no h).elim
theorem qzI2c_inv {pc pc' len : Nat} {ls ls' st st' : List Value} {hp hp' : qzH}  (h : qzI2c len pc ls st hp = (some (.inl (pc', ls', st', hp')) : Option qzA)) : len = 1 ∧ ∃ x st1, st = .int x :: st1 ∧ pc' = pc + 1 ∧ ls' = ls ∧ st' = .int (x.toUInt32 % 65536).toInt32 :: st1 ∧ hp' = hp := by
  unfold qzI2c at h
  split at h
  · split at h
    · exact ⟨by assumption, _, _, rfl, qzGo_inj h⟩
    · exact (qz_no h).elim
  · exact (qz_no h).elim
theorem qzIinc_inv {pc pc' len : Nat} {ls ls' st st' : List Value} {hp hp' : qzH} {i : Nat} {n : Int} (h : qzIinc i n len pc ls st hp = (some (.inl (pc', ls', st', hp')) : Option qzA)) : len = 3 ∧ ∃ x, ls[i]? = some (.int x) ∧ pc' = pc + 3 ∧ ls' = ls.set i (.int (x + Int32.ofInt n)) ∧ st' = st ∧ hp' = hp := by
  unfold qzIinc at h
  split at h
  · split at h
    · exact ⟨by assumption, _, by assumption, qzGo_inj h⟩
    · exact (qz_no h).elim
  · exact (qz_no h).elim
theorem qzPop_inv {pc pc' len : Nat} {ls ls' st st' : List Value} {hp hp' : qzH}  (h : qzPop len pc ls st hp = (some (.inl (pc', ls', st', hp')) : Option qzA)) : len = 1 ∧ ∃ v st1, st = v :: st1 ∧ pc' = pc + 1 ∧ ls' = ls ∧ st' = st1 ∧ hp' = hp := by
  unfold qzPop at h
  split at h
  · split at h
    · exact ⟨by assumption, _, _, rfl, qzGo_inj h⟩
    · exact (qz_no h).elim
  · exact (qz_no h).elim
theorem qzDup_inv {pc pc' len : Nat} {ls ls' st st' : List Value} {hp hp' : qzH}  (h : qzDup len pc ls st hp = (some (.inl (pc', ls', st', hp')) : Option qzA)) : len = 1 ∧ ∃ v st1, st = v :: st1 ∧ pc' = pc + 1 ∧ ls' = ls ∧ st' = v :: v :: st1 ∧ hp' = hp := by
  unfold qzDup at h
  split at h
  · split at h
    · exact ⟨by assumption, _, _, rfl, qzGo_inj h⟩
    · exact (qz_no h).elim
  · exact (qz_no h).elim
theorem qzDup2_inv {pc pc' len : Nat} {ls ls' st st' : List Value} {hp hp' : qzH}  (h : qzDup2 len pc ls st hp = (some (.inl (pc', ls', st', hp')) : Option qzA)) : len = 1 ∧ ∃ v w st1, st = v :: w :: st1 ∧ pc' = pc + 1 ∧ ls' = ls ∧ st' = v :: w :: v :: w :: st1 ∧ hp' = hp := by
  unfold qzDup2 at h
  split at h
  · split at h
    · exact ⟨by assumption, _, _, _, rfl, qzGo_inj h⟩
    · exact (qz_no h).elim
  · exact (qz_no h).elim
theorem qzBr_inv {pc pc' : Nat} {ls ls' st st' : List Value} {hp hp' : qzH} {b : Bool} {off : Int} (h : qzBr b pc off ls st hp = (some (.inl (pc', ls', st', hp')) : Option qzA)) : ((pc : Int) + off = (qzTg pc off : Nat)) ∧ ((b = true ∧ pc' = qzTg pc off) ∨ (b = false ∧ pc' = pc + 3)) ∧ ls' = ls ∧ st' = st ∧ hp' = hp := by
  unfold qzBr at h
  split at h
  · rename_i h0
    refine ⟨by unfold qzTg; omega, ?_⟩
    cases b with
    | true =>
      obtain ⟨a1, a2⟩ := qzGo_inj (by simpa using h)
      exact ⟨Or.inl ⟨rfl, a1⟩, a2⟩
    | false =>
      obtain ⟨a1, a2⟩ := qzGo_inj (by simpa using h)
      exact ⟨Or.inr ⟨rfl, a1⟩, a2⟩
  · exact (qz_no h).elim
theorem qzIf1_inv {pc pc' len : Nat} {ls ls' st st' : List Value} {hp hp' : qzH} {k : ClassFile.Cond} {off : Int} (h : qzIf1 k off len pc ls st hp = (some (.inl (pc', ls', st', hp')) : Option qzA)) : len = 3 ∧ ∃ x st1, st = .int x :: st1 ∧ qzBr (qzC1 k x) pc off ls st1 hp = (some (.inl (pc', ls', st', hp')) : Option qzA) := by
  unfold qzIf1 at h
  split at h
  · split at h
    · exact ⟨by assumption, _, _, rfl, h⟩
    · exact (qz_no h).elim
  · exact (qz_no h).elim
theorem qzIf2_inv {pc pc' len : Nat} {ls ls' st st' : List Value} {hp hp' : qzH} {k : ClassFile.Cond} {off : Int} (h : qzIf2 k off len pc ls st hp = (some (.inl (pc', ls', st', hp')) : Option qzA)) : len = 3 ∧ ∃ x y st1, st = .int y :: .int x :: st1 ∧ qzBr (qzC2 k x y) pc off ls st1 hp = (some (.inl (pc', ls', st', hp')) : Option qzA) := by
  unfold qzIf2 at h
  split at h
  · split at h
    · exact ⟨by assumption, _, _, _, rfl, h⟩
    · exact (qz_no h).elim
  · exact (qz_no h).elim
theorem qzIfN_inv {pc pc' len : Nat} {ls ls' st st' : List Value} {hp hp' : qzH} {k : Bool} {off : Int} (h : qzIfN k off len pc ls st hp = (some (.inl (pc', ls', st', hp')) : Option qzA)) : len = 3 ∧ ((∃ x st1, st = .ref x :: st1 ∧ qzBr (!k) pc off ls st1 hp = (some (.inl (pc', ls', st', hp')) : Option qzA)) ∨ (∃ st1, st = .null :: st1 ∧ qzBr k pc off ls st1 hp = (some (.inl (pc', ls', st', hp')) : Option qzA))) := by
  unfold qzIfN at h
  split at h
  · split at h
    · exact ⟨by assumption, Or.inl ⟨_, _, rfl, h⟩⟩
    · exact ⟨by assumption, Or.inr ⟨_, rfl, h⟩⟩
    · exact (qz_no h).elim
  · exact (qz_no h).elim
theorem qzGoto_inv {pc pc' len : Nat} {ls ls' st st' : List Value} {hp hp' : qzH} {off : Int} (h : qzGoto off len pc ls st hp = (some (.inl (pc', ls', st', hp')) : Option qzA)) : len = 3 ∧ ((pc : Int) + off = (qzTg pc off : Nat)) ∧ pc' = qzTg pc off ∧ ls' = ls ∧ st' = st ∧ hp' = hp := by
  unfold qzGoto at h
  split at h
  · rename_i hc
    exact ⟨hc.1, by unfold qzTg; omega, qzGo_inj h⟩
  · exact (qz_no h).elim
theorem qzTsw_inv {pc pc' : Nat} {ls ls' st st' : List Value} {hp hp' : qzH} {d lo hi : Int} {offs : Array Int} (h : qzTsw d lo hi offs pc ls st hp = (some (.inl (pc', ls', st', hp')) : Option qzA)) : ∃ x st1, st = .int x :: st1 ∧ (((x.toInt < lo ∨ hi < x.toInt) ∧ (pc : Int) + d = (qzTg pc d : Nat) ∧ pc' = qzTg pc d ∧ ls' = ls ∧ st' = st1 ∧ hp' = hp) ∨ (¬ (x.toInt < lo ∨ hi < x.toInt) ∧ ∃ o, offs[(x.toInt - lo).toNat]? = some o ∧ (pc : Int) + o = (qzTg pc o : Nat) ∧ pc' = qzTg pc o ∧ ls' = ls ∧ st' = st1 ∧ hp' = hp)) := by
  unfold qzTsw at h
  split at h
  · split at h
    · rename_i hc
      split at h
      · exact ⟨_, _, rfl, Or.inl ⟨hc, by unfold qzTg; omega, qzGo_inj h⟩⟩
      · exact (qz_no h).elim
    · rename_i hc
      split at h
      · rename_i o ho
        split at h
        · exact ⟨_, _, rfl, Or.inr ⟨hc, o, ho, by unfold qzTg; omega, qzGo_inj h⟩⟩
        · exact (qz_no h).elim
      · exact (qz_no h).elim
  · exact (qz_no h).elim
section QZ1
variable {p : Program} {l : Launch} {e : Env} {R : Room} {s : State} {m : MethodId} {args : Array Value} {below : List Frame} {meth : Method} {c : Code} {Q : State → Prop} {G : qzGT} {D : va_G} {z0 : Nat} {S : Nat → Nat} {mi pc n0 : Nat} {ad : Nat → Nat} {lsS : Array Slot} {H : Heap} {locs : List Loc} {ls st ls' st' : List Value} {hp hp' : qzH} {pc' len : Nat}
theorem qz_iconst {n : Int} (F : qzFx p G D z0 S s m args meth c mi) (C : qzCx G D z0 S s mi ad lsS H locs ls st hp) (hd : decode (qzMd mi).2.1 pc = .ok (.iconst n, len)) (h : qzPush (.int (Int32.ofInt n)) len 1 pc ls st hp = (some (.inl (pc', ls', st', hp')) : Option qzA))
    (kk : qzKK p l e R s m args below meth c Q G D z0 S mi n0 hp.1 ad pc' ls' st' hp') : qzG p l e R s m args below meth c Q n0 pc ad lsS H locs st hp.1 := by
  obtain ⟨rfl, rfl, rfl, rfl, rfl⟩ := qzPush_inv h
  exact lv_iconst F.1 F.2.1 hd rfl (kk.same C (List.forall_mem_cons.mpr ⟨trivial, C.2.1⟩))
theorem qz_bipush {n : Int} (F : qzFx p G D z0 S s m args meth c mi) (C : qzCx G D z0 S s mi ad lsS H locs ls st hp) (hd : decode (qzMd mi).2.1 pc = .ok (.bipush n, len)) (h : qzPush (.int (Int8.ofInt n).toInt32) len 2 pc ls st hp = (some (.inl (pc', ls', st', hp')) : Option qzA))
    (kk : qzKK p l e R s m args below meth c Q G D z0 S mi n0 hp.1 ad pc' ls' st' hp') : qzG p l e R s m args below meth c Q n0 pc ad lsS H locs st hp.1 := by
  obtain ⟨rfl, rfl, rfl, rfl, rfl⟩ := qzPush_inv h
  exact lv_bipush F.1 F.2.1 hd rfl (kk.same C (List.forall_mem_cons.mpr ⟨trivial, C.2.1⟩))
theorem qz_sipush {n : Int} (F : qzFx p G D z0 S s m args meth c mi) (C : qzCx G D z0 S s mi ad lsS H locs ls st hp) (hd : decode (qzMd mi).2.1 pc = .ok (.sipush n, len)) (h : qzPush (.int (Int16.ofInt n).toInt32) len 3 pc ls st hp = (some (.inl (pc', ls', st', hp')) : Option qzA))
    (kk : qzKK p l e R s m args below meth c Q G D z0 S mi n0 hp.1 ad pc' ls' st' hp') : qzG p l e R s m args below meth c Q n0 pc ad lsS H locs st hp.1 := by
  obtain ⟨rfl, rfl, rfl, rfl, rfl⟩ := qzPush_inv h
  exact lv_sipush F.1 F.2.1 hd rfl (kk.same C (List.forall_mem_cons.mpr ⟨trivial, C.2.1⟩))
theorem qz_aconst_null  (F : qzFx p G D z0 S s m args meth c mi) (C : qzCx G D z0 S s mi ad lsS H locs ls st hp) (hd : decode (qzMd mi).2.1 pc = .ok (.aconst_null, len)) (h : qzPush (.null) len 1 pc ls st hp = (some (.inl (pc', ls', st', hp')) : Option qzA))
    (kk : qzKK p l e R s m args below meth c Q G D z0 S mi n0 hp.1 ad pc' ls' st' hp') : qzG p l e R s m args below meth c Q n0 pc ad lsS H locs st hp.1 := by
  obtain ⟨rfl, rfl, rfl, rfl, rfl⟩ := qzPush_inv h
  exact lv_null F.1 F.2.1 hd (kk.same C (List.forall_mem_cons.mpr ⟨trivial, C.2.1⟩))
theorem qz_iload_n {k : Fin 4} (F : qzFx p G D z0 S s m args meth c mi) (C : qzCx G D z0 S s mi ad lsS H locs ls st hp) (hd : decode (qzMd mi).2.1 pc = .ok (.iload_n k, len)) (h : qzIload k len 1 pc ls st hp = (some (.inl (pc', ls', st', hp')) : Option qzA))
    (kk : qzKK p l e R s m args below meth c Q G D z0 S mi n0 hp.1 ad pc' ls' st' hp') : qzG p l e R s m args below meth c Q n0 pc ad lsS H locs st hp.1 := by
  obtain ⟨rfl, x, hl, rfl, rfl, rfl, rfl⟩ := qzIload_inv h
  exact lv_iload_n F.1 F.2.1 hd rfl (C.1.get hl (by intro q; cases q)) (kk.same C (List.forall_mem_cons.mpr ⟨trivial, C.2.1⟩))
theorem qz_iload {k : Nat} (F : qzFx p G D z0 S s m args meth c mi) (C : qzCx G D z0 S s mi ad lsS H locs ls st hp) (hd : decode (qzMd mi).2.1 pc = .ok (.iload k, len)) (h : qzIload k len 2 pc ls st hp = (some (.inl (pc', ls', st', hp')) : Option qzA))
    (kk : qzKK p l e R s m args below meth c Q G D z0 S mi n0 hp.1 ad pc' ls' st' hp') : qzG p l e R s m args below meth c Q n0 pc ad lsS H locs st hp.1 := by
  obtain ⟨rfl, x, hl, rfl, rfl, rfl, rfl⟩ := qzIload_inv h
  exact lv_iload F.1 F.2.1 hd (C.1.get hl (by intro q; cases q)) (kk.same C (List.forall_mem_cons.mpr ⟨trivial, C.2.1⟩))
theorem qz_aload_n {k : Fin 4} (F : qzFx p G D z0 S s m args meth c mi) (C : qzCx G D z0 S s mi ad lsS H locs ls st hp) (hd : decode (qzMd mi).2.1 pc = .ok (.aload_n k, len)) (h : qzAload k len 1 pc ls st hp = (some (.inl (pc', ls', st', hp')) : Option qzA))
    (kk : qzKK p l e R s m args below meth c Q G D z0 S mi n0 hp.1 ad pc' ls' st' hp') : qzG p l e R s m args below meth c Q n0 pc ad lsS H locs st hp.1 := by
  obtain ⟨rfl, ⟨x, hl, rfl, rfl, rfl, rfl⟩ | ⟨hl, rfl, rfl, rfl, rfl⟩⟩ := qzAload_inv h
  · exact lv_aload_n F.1 F.2.1 hd rfl (C.1.get hl (by intro q; cases q)) (kk.same C (List.forall_mem_cons.mpr ⟨C.1.ok hl (by intro q; cases q), C.2.1⟩))
  · exact lv_aload_nN F.1 F.2.1 hd rfl (C.1.get hl (by intro q; cases q)) (kk.same C (List.forall_mem_cons.mpr ⟨trivial, C.2.1⟩))
theorem qz_aload {k : Nat} (F : qzFx p G D z0 S s m args meth c mi) (C : qzCx G D z0 S s mi ad lsS H locs ls st hp) (hd : decode (qzMd mi).2.1 pc = .ok (.aload k, len)) (h : qzAload k len 2 pc ls st hp = (some (.inl (pc', ls', st', hp')) : Option qzA))
    (kk : qzKK p l e R s m args below meth c Q G D z0 S mi n0 hp.1 ad pc' ls' st' hp') : qzG p l e R s m args below meth c Q n0 pc ad lsS H locs st hp.1 := by
  obtain ⟨rfl, ⟨x, hl, rfl, rfl, rfl, rfl⟩ | ⟨hl, rfl, rfl, rfl, rfl⟩⟩ := qzAload_inv h
  · exact lv_aload F.1 F.2.1 hd (C.1.get hl (by intro q; cases q)) (kk.same C (List.forall_mem_cons.mpr ⟨C.1.ok hl (by intro q; cases q), C.2.1⟩))
  · exact lv_aloadN F.1 F.2.1 hd (C.1.get hl (by intro q; cases q)) (kk.same C (List.forall_mem_cons.mpr ⟨trivial, C.2.1⟩))
theorem qz_istore_n {k : Fin 4} (F : qzFx p G D z0 S s m args meth c mi) (C : qzCx G D z0 S s mi ad lsS H locs ls st hp) (hd : decode (qzMd mi).2.1 pc = .ok (.istore_n k, len)) (h : qzIstore k len 1 pc ls st hp = (some (.inl (pc', ls', st', hp')) : Option qzA))
    (kk : qzKK p l e R s m args below meth c Q G D z0 S mi n0 hp.1 ad pc' ls' st' hp') : qzG p l e R s m args below meth c Q n0 pc ad lsS H locs st hp.1 := by
  obtain ⟨rfl, hi, x, st1, rfl, rfl, rfl, rfl, rfl⟩ := qzIstore_inv h
  obtain ⟨lv, h1, h2⟩ := C.1.2.2
  exact lv_istore_n F.1 F.2.1 hd rfl h1 (by rw [← C.1.1]; exact hi) rfl (fun lsS' h' => kk.store C trivial (List.forall_mem_cons.mp C.2.1).2 h2 h')
theorem qz_istore {k : Nat} (F : qzFx p G D z0 S s m args meth c mi) (C : qzCx G D z0 S s mi ad lsS H locs ls st hp) (hd : decode (qzMd mi).2.1 pc = .ok (.istore k, len)) (h : qzIstore k len 2 pc ls st hp = (some (.inl (pc', ls', st', hp')) : Option qzA))
    (kk : qzKK p l e R s m args below meth c Q G D z0 S mi n0 hp.1 ad pc' ls' st' hp') : qzG p l e R s m args below meth c Q n0 pc ad lsS H locs st hp.1 := by
  obtain ⟨rfl, hi, x, st1, rfl, rfl, rfl, rfl, rfl⟩ := qzIstore_inv h
  obtain ⟨lv, h1, h2⟩ := C.1.2.2
  exact lv_istore F.1 F.2.1 hd h1 (by rw [← C.1.1]; exact hi) rfl (fun lsS' h' => kk.store C trivial (List.forall_mem_cons.mp C.2.1).2 h2 h')
theorem qz_astore_n {k : Fin 4} (F : qzFx p G D z0 S s m args meth c mi) (C : qzCx G D z0 S s mi ad lsS H locs ls st hp) (hd : decode (qzMd mi).2.1 pc = .ok (.astore_n k, len)) (h : qzAstore k len 1 pc ls st hp = (some (.inl (pc', ls', st', hp')) : Option qzA))
    (kk : qzKK p l e R s m args below meth c Q G D z0 S mi n0 hp.1 ad pc' ls' st' hp') : qzG p l e R s m args below meth c Q n0 pc ad lsS H locs st hp.1 := by
  obtain ⟨rfl, hi, ⟨x, st1, rfl, rfl, rfl, rfl, rfl⟩ | ⟨st1, rfl, rfl, rfl, rfl, rfl⟩⟩ := qzAstore_inv h
  · obtain ⟨lv, h1, h2⟩ := C.1.2.2
    exact lv_astore_n F.1 F.2.1 hd rfl h1 (by rw [← C.1.1]; exact hi) rfl (fun lsS' h' => kk.store C (List.forall_mem_cons.mp C.2.1).1 (List.forall_mem_cons.mp C.2.1).2 h2 h')
  · obtain ⟨lv, h1, h2⟩ := C.1.2.2
    exact lv_astore_nN F.1 F.2.1 hd rfl h1 (by rw [← C.1.1]; exact hi) rfl (fun lsS' h' => kk.store C trivial (List.forall_mem_cons.mp C.2.1).2 h2 h')
theorem qz_astore {k : Nat} (F : qzFx p G D z0 S s m args meth c mi) (C : qzCx G D z0 S s mi ad lsS H locs ls st hp) (hd : decode (qzMd mi).2.1 pc = .ok (.astore k, len)) (h : qzAstore k len 2 pc ls st hp = (some (.inl (pc', ls', st', hp')) : Option qzA))
    (kk : qzKK p l e R s m args below meth c Q G D z0 S mi n0 hp.1 ad pc' ls' st' hp') : qzG p l e R s m args below meth c Q n0 pc ad lsS H locs st hp.1 := by
  obtain ⟨rfl, hi, ⟨x, st1, rfl, rfl, rfl, rfl, rfl⟩ | ⟨st1, rfl, rfl, rfl, rfl, rfl⟩⟩ := qzAstore_inv h
  · obtain ⟨lv, h1, h2⟩ := C.1.2.2
    exact lv_astore F.1 F.2.1 hd h1 (by rw [← C.1.1]; exact hi) rfl (fun lsS' h' => kk.store C (List.forall_mem_cons.mp C.2.1).1 (List.forall_mem_cons.mp C.2.1).2 h2 h')
  · obtain ⟨lv, h1, h2⟩ := C.1.2.2
    exact lv_astoreN F.1 F.2.1 hd h1 (by rw [← C.1.1]; exact hi) rfl (fun lsS' h' => kk.store C trivial (List.forall_mem_cons.mp C.2.1).2 h2 h')
theorem qz_iadd  (F : qzFx p G D z0 S s m args meth c mi) (C : qzCx G D z0 S s mi ad lsS H locs ls st hp) (hd : decode (qzMd mi).2.1 pc = .ok (.iadd, len)) (h : qzBin (fun x y => x + y) len pc ls st hp = (some (.inl (pc', ls', st', hp')) : Option qzA))
    (kk : qzKK p l e R s m args below meth c Q G D z0 S mi n0 hp.1 ad pc' ls' st' hp') : qzG p l e R s m args below meth c Q n0 pc ad lsS H locs st hp.1 := by
  obtain ⟨rfl, x, y, st1, rfl, rfl, rfl, rfl, rfl⟩ := qzBin_inv h
  exact lv_iadd F.1 F.2.1 hd (kk.same C (List.forall_mem_cons.mpr ⟨trivial, (List.forall_mem_cons.mp (List.forall_mem_cons.mp C.2.1).2).2⟩))
theorem qz_isub  (F : qzFx p G D z0 S s m args meth c mi) (C : qzCx G D z0 S s mi ad lsS H locs ls st hp) (hd : decode (qzMd mi).2.1 pc = .ok (.isub, len)) (h : qzBin (fun x y => x - y) len pc ls st hp = (some (.inl (pc', ls', st', hp')) : Option qzA))
    (kk : qzKK p l e R s m args below meth c Q G D z0 S mi n0 hp.1 ad pc' ls' st' hp') : qzG p l e R s m args below meth c Q n0 pc ad lsS H locs st hp.1 := by
  obtain ⟨rfl, x, y, st1, rfl, rfl, rfl, rfl, rfl⟩ := qzBin_inv h
  exact lv_isub F.1 F.2.1 hd (kk.same C (List.forall_mem_cons.mpr ⟨trivial, (List.forall_mem_cons.mp (List.forall_mem_cons.mp C.2.1).2).2⟩))
theorem qz_imul  (F : qzFx p G D z0 S s m args meth c mi) (C : qzCx G D z0 S s mi ad lsS H locs ls st hp) (hd : decode (qzMd mi).2.1 pc = .ok (.imul, len)) (h : qzBin (fun x y => x * y) len pc ls st hp = (some (.inl (pc', ls', st', hp')) : Option qzA))
    (kk : qzKK p l e R s m args below meth c Q G D z0 S mi n0 hp.1 ad pc' ls' st' hp') : qzG p l e R s m args below meth c Q n0 pc ad lsS H locs st hp.1 := by
  obtain ⟨rfl, x, y, st1, rfl, rfl, rfl, rfl, rfl⟩ := qzBin_inv h
  exact lv_imul F.1 F.2.1 hd (kk.same C (List.forall_mem_cons.mpr ⟨trivial, (List.forall_mem_cons.mp (List.forall_mem_cons.mp C.2.1).2).2⟩))
theorem qz_iand  (F : qzFx p G D z0 S s m args meth c mi) (C : qzCx G D z0 S s mi ad lsS H locs ls st hp) (hd : decode (qzMd mi).2.1 pc = .ok (.iand, len)) (h : qzBin (fun x y => x &&& y) len pc ls st hp = (some (.inl (pc', ls', st', hp')) : Option qzA))
    (kk : qzKK p l e R s m args below meth c Q G D z0 S mi n0 hp.1 ad pc' ls' st' hp') : qzG p l e R s m args below meth c Q n0 pc ad lsS H locs st hp.1 := by
  obtain ⟨rfl, x, y, st1, rfl, rfl, rfl, rfl, rfl⟩ := qzBin_inv h
  exact lv_iand F.1 F.2.1 hd (kk.same C (List.forall_mem_cons.mpr ⟨trivial, (List.forall_mem_cons.mp (List.forall_mem_cons.mp C.2.1).2).2⟩))
theorem qz_ior  (F : qzFx p G D z0 S s m args meth c mi) (C : qzCx G D z0 S s mi ad lsS H locs ls st hp) (hd : decode (qzMd mi).2.1 pc = .ok (.ior, len)) (h : qzBin (fun x y => x ||| y) len pc ls st hp = (some (.inl (pc', ls', st', hp')) : Option qzA))
    (kk : qzKK p l e R s m args below meth c Q G D z0 S mi n0 hp.1 ad pc' ls' st' hp') : qzG p l e R s m args below meth c Q n0 pc ad lsS H locs st hp.1 := by
  obtain ⟨rfl, x, y, st1, rfl, rfl, rfl, rfl, rfl⟩ := qzBin_inv h
  exact lv_ior F.1 F.2.1 hd (kk.same C (List.forall_mem_cons.mpr ⟨trivial, (List.forall_mem_cons.mp (List.forall_mem_cons.mp C.2.1).2).2⟩))
theorem qz_ishl  (F : qzFx p G D z0 S s m args meth c mi) (C : qzCx G D z0 S s mi ad lsS H locs ls st hp) (hd : decode (qzMd mi).2.1 pc = .ok (.ishl, len)) (h : qzBin (fun x y => x <<< (y &&& 31)) len pc ls st hp = (some (.inl (pc', ls', st', hp')) : Option qzA))
    (kk : qzKK p l e R s m args below meth c Q G D z0 S mi n0 hp.1 ad pc' ls' st' hp') : qzG p l e R s m args below meth c Q n0 pc ad lsS H locs st hp.1 := by
  obtain ⟨rfl, x, y, st1, rfl, rfl, rfl, rfl, rfl⟩ := qzBin_inv h
  exact lv_ishl F.1 F.2.1 hd (kk.same C (List.forall_mem_cons.mpr ⟨trivial, (List.forall_mem_cons.mp (List.forall_mem_cons.mp C.2.1).2).2⟩))
theorem qz_ishr  (F : qzFx p G D z0 S s m args meth c mi) (C : qzCx G D z0 S s mi ad lsS H locs ls st hp) (hd : decode (qzMd mi).2.1 pc = .ok (.ishr, len)) (h : qzBin (fun x y => x >>> (y &&& 31)) len pc ls st hp = (some (.inl (pc', ls', st', hp')) : Option qzA))
    (kk : qzKK p l e R s m args below meth c Q G D z0 S mi n0 hp.1 ad pc' ls' st' hp') : qzG p l e R s m args below meth c Q n0 pc ad lsS H locs st hp.1 := by
  obtain ⟨rfl, x, y, st1, rfl, rfl, rfl, rfl, rfl⟩ := qzBin_inv h
  exact lv_ishr F.1 F.2.1 hd (kk.same C (List.forall_mem_cons.mpr ⟨trivial, (List.forall_mem_cons.mp (List.forall_mem_cons.mp C.2.1).2).2⟩))
theorem qz_idiv  (F : qzFx p G D z0 S s m args meth c mi) (C : qzCx G D z0 S s mi ad lsS H locs ls st hp) (hd : decode (qzMd mi).2.1 pc = .ok (.idiv, len)) (h : qzBinD (fun x y => x / y) len pc ls st hp = (some (.inl (pc', ls', st', hp')) : Option qzA))
    (kk : qzKK p l e R s m args below meth c Q G D z0 S mi n0 hp.1 ad pc' ls' st' hp') : qzG p l e R s m args below meth c Q n0 pc ad lsS H locs st hp.1 := by
  obtain ⟨rfl, x, y, st1, rfl, hy, rfl, rfl, rfl, rfl⟩ := qzBinD_inv h
  exact lv_idiv F.1 F.2.1 hd hy (kk.same C (List.forall_mem_cons.mpr ⟨trivial, (List.forall_mem_cons.mp (List.forall_mem_cons.mp C.2.1).2).2⟩))
theorem qz_irem  (F : qzFx p G D z0 S s m args meth c mi) (C : qzCx G D z0 S s mi ad lsS H locs ls st hp) (hd : decode (qzMd mi).2.1 pc = .ok (.irem, len)) (h : qzBinD (fun x y => x - x / y * y) len pc ls st hp = (some (.inl (pc', ls', st', hp')) : Option qzA))
    (kk : qzKK p l e R s m args below meth c Q G D z0 S mi n0 hp.1 ad pc' ls' st' hp') : qzG p l e R s m args below meth c Q n0 pc ad lsS H locs st hp.1 := by
  obtain ⟨rfl, x, y, st1, rfl, hy, rfl, rfl, rfl, rfl⟩ := qzBinD_inv h
  exact lv_irem F.1 F.2.1 hd hy (kk.same C (List.forall_mem_cons.mpr ⟨trivial, (List.forall_mem_cons.mp (List.forall_mem_cons.mp C.2.1).2).2⟩))
theorem qz_i2c  (F : qzFx p G D z0 S s m args meth c mi) (C : qzCx G D z0 S s mi ad lsS H locs ls st hp) (hd : decode (qzMd mi).2.1 pc = .ok (.i2c, len)) (h : qzI2c len pc ls st hp = (some (.inl (pc', ls', st', hp')) : Option qzA))
    (kk : qzKK p l e R s m args below meth c Q G D z0 S mi n0 hp.1 ad pc' ls' st' hp') : qzG p l e R s m args below meth c Q n0 pc ad lsS H locs st hp.1 := by
  obtain ⟨rfl, x, st1, rfl, rfl, rfl, rfl, rfl⟩ := qzI2c_inv h
  exact lv_i2c F.1 F.2.1 hd rfl (kk.same C (List.forall_mem_cons.mpr ⟨trivial, (List.forall_mem_cons.mp C.2.1).2⟩))
theorem qz_iinc {i : Nat} {n : Int} (F : qzFx p G D z0 S s m args meth c mi) (C : qzCx G D z0 S s mi ad lsS H locs ls st hp) (hd : decode (qzMd mi).2.1 pc = .ok (.iinc i n, len)) (h : qzIinc i n len pc ls st hp = (some (.inl (pc', ls', st', hp')) : Option qzA))
    (kk : qzKK p l e R s m args below meth c Q G D z0 S mi n0 hp.1 ad pc' ls' st' hp') : qzG p l e R s m args below meth c Q n0 pc ad lsS H locs st hp.1 := by
  obtain ⟨rfl, x, hl, rfl, rfl, rfl, rfl⟩ := qzIinc_inv h
  obtain ⟨lv, h1, h2⟩ := C.1.2.2
  obtain ⟨k, hk⟩ := List.getElem?_of_mem (h2 i (.int x) hl (by intro q; cases q))
  exact lv_iinc F.1 F.2.1 hd h1 hk rfl (by rw [← C.1.1]; exact (List.getElem?_eq_some_iff.mp hl).1) rfl (fun lsS' h' => kk.store C trivial C.2.1 h2 h')
theorem qz_pop  (F : qzFx p G D z0 S s m args meth c mi) (C : qzCx G D z0 S s mi ad lsS H locs ls st hp) (hd : decode (qzMd mi).2.1 pc = .ok (.pop, len)) (h : qzPop len pc ls st hp = (some (.inl (pc', ls', st', hp')) : Option qzA))
    (kk : qzKK p l e R s m args below meth c Q G D z0 S mi n0 hp.1 ad pc' ls' st' hp') : qzG p l e R s m args below meth c Q n0 pc ad lsS H locs st hp.1 := by
  obtain ⟨rfl, v, st1, rfl, rfl, rfl, rfl, rfl⟩ := qzPop_inv h
  exact lv_pop F.1 F.2.1 hd (List.forall_mem_cons.mp C.2.1).1.cat (kk.same C (List.forall_mem_cons.mp C.2.1).2)
theorem qz_dup  (F : qzFx p G D z0 S s m args meth c mi) (C : qzCx G D z0 S s mi ad lsS H locs ls st hp) (hd : decode (qzMd mi).2.1 pc = .ok (.dup, len)) (h : qzDup len pc ls st hp = (some (.inl (pc', ls', st', hp')) : Option qzA))
    (kk : qzKK p l e R s m args below meth c Q G D z0 S mi n0 hp.1 ad pc' ls' st' hp') : qzG p l e R s m args below meth c Q n0 pc ad lsS H locs st hp.1 := by
  obtain ⟨rfl, v, st1, rfl, rfl, rfl, rfl, rfl⟩ := qzDup_inv h
  exact lv_dup F.1 F.2.1 hd (List.forall_mem_cons.mp C.2.1).1.cat (kk.same C (List.forall_mem_cons.mpr ⟨(List.forall_mem_cons.mp C.2.1).1, C.2.1⟩))
theorem qz_dup2  (F : qzFx p G D z0 S s m args meth c mi) (C : qzCx G D z0 S s mi ad lsS H locs ls st hp) (hd : decode (qzMd mi).2.1 pc = .ok (.dup2, len)) (h : qzDup2 len pc ls st hp = (some (.inl (pc', ls', st', hp')) : Option qzA))
    (kk : qzKK p l e R s m args below meth c Q G D z0 S mi n0 hp.1 ad pc' ls' st' hp') : qzG p l e R s m args below meth c Q n0 pc ad lsS H locs st hp.1 := by
  obtain ⟨rfl, v, w, st1, rfl, rfl, rfl, rfl, rfl⟩ := qzDup2_inv h
  have hv := (List.forall_mem_cons.mp C.2.1).1
  have hw := (List.forall_mem_cons.mp (List.forall_mem_cons.mp C.2.1).2).1
  exact lv_dup2_11 F.1 F.2.1 hd hv.cat hw.cat (kk.same C (List.forall_mem_cons.mpr ⟨hv, List.forall_mem_cons.mpr ⟨hw, C.2.1⟩⟩))
theorem qz_if_eq {off : Int} (F : qzFx p G D z0 S s m args meth c mi) (C : qzCx G D z0 S s mi ad lsS H locs ls st hp) (hd : decode (qzMd mi).2.1 pc = .ok (.ifCond .eq off, len)) (h : qzIf1 .eq off len pc ls st hp = (some (.inl (pc', ls', st', hp')) : Option qzA))
    (kk : qzKK p l e R s m args below meth c Q G D z0 S mi n0 hp.1 ad pc' ls' st' hp') : qzG p l e R s m args below meth c Q n0 pc ad lsS H locs st hp.1 := by
  obtain ⟨rfl, x, st1, rfl, hb⟩ := qzIf1_inv h
  obtain ⟨ht, hc, rfl, rfl, rfl⟩ := qzBr_inv hb
  refine lv_if_eq F.1 F.2.1 hd ht (fun hx => ?_) (fun hx => ?_)
  · rcases hc with ⟨hq, rfl⟩ | ⟨hq, rfl⟩
    · exact kk.same C (List.forall_mem_cons.mp C.2.1).2
    · simp [qzC1, hx] at hq
  · rcases hc with ⟨hq, rfl⟩ | ⟨hq, rfl⟩
    · simp [qzC1, hx] at hq
    · exact kk.same C (List.forall_mem_cons.mp C.2.1).2
theorem qz_icmp_eq {off : Int} (F : qzFx p G D z0 S s m args meth c mi) (C : qzCx G D z0 S s mi ad lsS H locs ls st hp) (hd : decode (qzMd mi).2.1 pc = .ok (.if_icmp .eq off, len)) (h : qzIf2 .eq off len pc ls st hp = (some (.inl (pc', ls', st', hp')) : Option qzA))
    (kk : qzKK p l e R s m args below meth c Q G D z0 S mi n0 hp.1 ad pc' ls' st' hp') : qzG p l e R s m args below meth c Q n0 pc ad lsS H locs st hp.1 := by
  obtain ⟨rfl, x, y, st1, rfl, hb⟩ := qzIf2_inv h
  obtain ⟨ht, hc, rfl, rfl, rfl⟩ := qzBr_inv hb
  have ho := (List.forall_mem_cons.mp (List.forall_mem_cons.mp C.2.1).2).2
  refine lv_icmp_eq F.1 F.2.1 hd ht (fun hx => ?_) (fun hx => ?_)
  · rcases hc with ⟨hq, rfl⟩ | ⟨hq, rfl⟩
    · exact kk.same C ho
    · simp only [qzC2, decide_eq_false_iff_not] at hq
      exact (hq hx).elim
  · rcases hc with ⟨hq, rfl⟩ | ⟨hq, rfl⟩
    · simp only [qzC2, decide_eq_true_eq] at hq
      exact (hx hq).elim
    · exact kk.same C ho
theorem qz_if_ne {off : Int} (F : qzFx p G D z0 S s m args meth c mi) (C : qzCx G D z0 S s mi ad lsS H locs ls st hp) (hd : decode (qzMd mi).2.1 pc = .ok (.ifCond .ne off, len)) (h : qzIf1 .ne off len pc ls st hp = (some (.inl (pc', ls', st', hp')) : Option qzA))
    (kk : qzKK p l e R s m args below meth c Q G D z0 S mi n0 hp.1 ad pc' ls' st' hp') : qzG p l e R s m args below meth c Q n0 pc ad lsS H locs st hp.1 := by
  obtain ⟨rfl, x, st1, rfl, hb⟩ := qzIf1_inv h
  obtain ⟨ht, hc, rfl, rfl, rfl⟩ := qzBr_inv hb
  refine lv_if_ne F.1 F.2.1 hd ht (fun hx => ?_) (fun hx => ?_)
  · rcases hc with ⟨hq, rfl⟩ | ⟨hq, rfl⟩
    · exact kk.same C (List.forall_mem_cons.mp C.2.1).2
    · simp [qzC1, hx] at hq
  · rcases hc with ⟨hq, rfl⟩ | ⟨hq, rfl⟩
    · simp [qzC1, hx] at hq
    · exact kk.same C (List.forall_mem_cons.mp C.2.1).2
theorem qz_icmp_ne {off : Int} (F : qzFx p G D z0 S s m args meth c mi) (C : qzCx G D z0 S s mi ad lsS H locs ls st hp) (hd : decode (qzMd mi).2.1 pc = .ok (.if_icmp .ne off, len)) (h : qzIf2 .ne off len pc ls st hp = (some (.inl (pc', ls', st', hp')) : Option qzA))
    (kk : qzKK p l e R s m args below meth c Q G D z0 S mi n0 hp.1 ad pc' ls' st' hp') : qzG p l e R s m args below meth c Q n0 pc ad lsS H locs st hp.1 := by
  obtain ⟨rfl, x, y, st1, rfl, hb⟩ := qzIf2_inv h
  obtain ⟨ht, hc, rfl, rfl, rfl⟩ := qzBr_inv hb
  have ho := (List.forall_mem_cons.mp (List.forall_mem_cons.mp C.2.1).2).2
  refine lv_icmp_ne F.1 F.2.1 hd ht (fun hx => ?_) (fun hx => ?_)
  · rcases hc with ⟨hq, rfl⟩ | ⟨hq, rfl⟩
    · exact kk.same C ho
    · simp only [qzC2, decide_eq_false_iff_not] at hq
      exact (hq hx).elim
  · rcases hc with ⟨hq, rfl⟩ | ⟨hq, rfl⟩
    · simp only [qzC2, decide_eq_true_eq] at hq
      exact (hq hx).elim
    · exact kk.same C ho
theorem qz_if_lt {off : Int} (F : qzFx p G D z0 S s m args meth c mi) (C : qzCx G D z0 S s mi ad lsS H locs ls st hp) (hd : decode (qzMd mi).2.1 pc = .ok (.ifCond .lt off, len)) (h : qzIf1 .lt off len pc ls st hp = (some (.inl (pc', ls', st', hp')) : Option qzA))
    (kk : qzKK p l e R s m args below meth c Q G D z0 S mi n0 hp.1 ad pc' ls' st' hp') : qzG p l e R s m args below meth c Q n0 pc ad lsS H locs st hp.1 := by
  obtain ⟨rfl, x, st1, rfl, hb⟩ := qzIf1_inv h
  obtain ⟨ht, hc, rfl, rfl, rfl⟩ := qzBr_inv hb
  refine lv_if_lt F.1 F.2.1 hd ht (fun hx => ?_) (fun hx => ?_)
  · rcases hc with ⟨hq, rfl⟩ | ⟨hq, rfl⟩
    · exact kk.same C (List.forall_mem_cons.mp C.2.1).2
    · simp [qzC1, hx] at hq
  · rcases hc with ⟨hq, rfl⟩ | ⟨hq, rfl⟩
    · simp [qzC1, hx] at hq
    · exact kk.same C (List.forall_mem_cons.mp C.2.1).2
theorem qz_icmp_lt {off : Int} (F : qzFx p G D z0 S s m args meth c mi) (C : qzCx G D z0 S s mi ad lsS H locs ls st hp) (hd : decode (qzMd mi).2.1 pc = .ok (.if_icmp .lt off, len)) (h : qzIf2 .lt off len pc ls st hp = (some (.inl (pc', ls', st', hp')) : Option qzA))
    (kk : qzKK p l e R s m args below meth c Q G D z0 S mi n0 hp.1 ad pc' ls' st' hp') : qzG p l e R s m args below meth c Q n0 pc ad lsS H locs st hp.1 := by
  obtain ⟨rfl, x, y, st1, rfl, hb⟩ := qzIf2_inv h
  obtain ⟨ht, hc, rfl, rfl, rfl⟩ := qzBr_inv hb
  have ho := (List.forall_mem_cons.mp (List.forall_mem_cons.mp C.2.1).2).2
  refine lv_icmp_lt F.1 F.2.1 hd ht (fun hx => ?_) (fun hx => ?_)
  · rcases hc with ⟨hq, rfl⟩ | ⟨hq, rfl⟩
    · exact kk.same C ho
    · simp only [qzC2, decide_eq_false_iff_not] at hq
      exact (hq hx).elim
  · rcases hc with ⟨hq, rfl⟩ | ⟨hq, rfl⟩
    · simp only [qzC2, decide_eq_true_eq] at hq
      exact (hx hq).elim
    · exact kk.same C ho
theorem qz_if_ge {off : Int} (F : qzFx p G D z0 S s m args meth c mi) (C : qzCx G D z0 S s mi ad lsS H locs ls st hp) (hd : decode (qzMd mi).2.1 pc = .ok (.ifCond .ge off, len)) (h : qzIf1 .ge off len pc ls st hp = (some (.inl (pc', ls', st', hp')) : Option qzA))
    (kk : qzKK p l e R s m args below meth c Q G D z0 S mi n0 hp.1 ad pc' ls' st' hp') : qzG p l e R s m args below meth c Q n0 pc ad lsS H locs st hp.1 := by
  obtain ⟨rfl, x, st1, rfl, hb⟩ := qzIf1_inv h
  obtain ⟨ht, hc, rfl, rfl, rfl⟩ := qzBr_inv hb
  refine lv_if_ge F.1 F.2.1 hd ht (fun hx => ?_) (fun hx => ?_)
  · rcases hc with ⟨hq, rfl⟩ | ⟨hq, rfl⟩
    · exact kk.same C (List.forall_mem_cons.mp C.2.1).2
    · simp [qzC1, hx] at hq
  · rcases hc with ⟨hq, rfl⟩ | ⟨hq, rfl⟩
    · simp [qzC1, hx] at hq
    · exact kk.same C (List.forall_mem_cons.mp C.2.1).2
theorem qz_icmp_ge {off : Int} (F : qzFx p G D z0 S s m args meth c mi) (C : qzCx G D z0 S s mi ad lsS H locs ls st hp) (hd : decode (qzMd mi).2.1 pc = .ok (.if_icmp .ge off, len)) (h : qzIf2 .ge off len pc ls st hp = (some (.inl (pc', ls', st', hp')) : Option qzA))
    (kk : qzKK p l e R s m args below meth c Q G D z0 S mi n0 hp.1 ad pc' ls' st' hp') : qzG p l e R s m args below meth c Q n0 pc ad lsS H locs st hp.1 := by
  obtain ⟨rfl, x, y, st1, rfl, hb⟩ := qzIf2_inv h
  obtain ⟨ht, hc, rfl, rfl, rfl⟩ := qzBr_inv hb
  have ho := (List.forall_mem_cons.mp (List.forall_mem_cons.mp C.2.1).2).2
  refine lv_icmp_ge F.1 F.2.1 hd ht (fun hx => ?_) (fun hx => ?_)
  · rcases hc with ⟨hq, rfl⟩ | ⟨hq, rfl⟩
    · exact kk.same C ho
    · simp only [qzC2, decide_eq_false_iff_not] at hq
      exact (hq hx).elim
  · rcases hc with ⟨hq, rfl⟩ | ⟨hq, rfl⟩
    · simp only [qzC2, decide_eq_true_eq] at hq
      exact (hx hq).elim
    · exact kk.same C ho
theorem qz_if_gt {off : Int} (F : qzFx p G D z0 S s m args meth c mi) (C : qzCx G D z0 S s mi ad lsS H locs ls st hp) (hd : decode (qzMd mi).2.1 pc = .ok (.ifCond .gt off, len)) (h : qzIf1 .gt off len pc ls st hp = (some (.inl (pc', ls', st', hp')) : Option qzA))
    (kk : qzKK p l e R s m args below meth c Q G D z0 S mi n0 hp.1 ad pc' ls' st' hp') : qzG p l e R s m args below meth c Q n0 pc ad lsS H locs st hp.1 := by
  obtain ⟨rfl, x, st1, rfl, hb⟩ := qzIf1_inv h
  obtain ⟨ht, hc, rfl, rfl, rfl⟩ := qzBr_inv hb
  refine lv_if_gt F.1 F.2.1 hd ht (fun hx => ?_) (fun hx => ?_)
  · rcases hc with ⟨hq, rfl⟩ | ⟨hq, rfl⟩
    · exact kk.same C (List.forall_mem_cons.mp C.2.1).2
    · simp [qzC1, hx] at hq
  · rcases hc with ⟨hq, rfl⟩ | ⟨hq, rfl⟩
    · simp [qzC1, hx] at hq
    · exact kk.same C (List.forall_mem_cons.mp C.2.1).2
theorem qz_icmp_gt {off : Int} (F : qzFx p G D z0 S s m args meth c mi) (C : qzCx G D z0 S s mi ad lsS H locs ls st hp) (hd : decode (qzMd mi).2.1 pc = .ok (.if_icmp .gt off, len)) (h : qzIf2 .gt off len pc ls st hp = (some (.inl (pc', ls', st', hp')) : Option qzA))
    (kk : qzKK p l e R s m args below meth c Q G D z0 S mi n0 hp.1 ad pc' ls' st' hp') : qzG p l e R s m args below meth c Q n0 pc ad lsS H locs st hp.1 := by
  obtain ⟨rfl, x, y, st1, rfl, hb⟩ := qzIf2_inv h
  obtain ⟨ht, hc, rfl, rfl, rfl⟩ := qzBr_inv hb
  have ho := (List.forall_mem_cons.mp (List.forall_mem_cons.mp C.2.1).2).2
  refine lv_icmp_gt F.1 F.2.1 hd ht (fun hx => ?_) (fun hx => ?_)
  · rcases hc with ⟨hq, rfl⟩ | ⟨hq, rfl⟩
    · exact kk.same C ho
    · simp only [qzC2, decide_eq_false_iff_not] at hq
      exact (hq hx).elim
  · rcases hc with ⟨hq, rfl⟩ | ⟨hq, rfl⟩
    · simp only [qzC2, decide_eq_true_eq] at hq
      exact (hx hq).elim
    · exact kk.same C ho
theorem qz_if_le {off : Int} (F : qzFx p G D z0 S s m args meth c mi) (C : qzCx G D z0 S s mi ad lsS H locs ls st hp) (hd : decode (qzMd mi).2.1 pc = .ok (.ifCond .le off, len)) (h : qzIf1 .le off len pc ls st hp = (some (.inl (pc', ls', st', hp')) : Option qzA))
    (kk : qzKK p l e R s m args below meth c Q G D z0 S mi n0 hp.1 ad pc' ls' st' hp') : qzG p l e R s m args below meth c Q n0 pc ad lsS H locs st hp.1 := by
  obtain ⟨rfl, x, st1, rfl, hb⟩ := qzIf1_inv h
  obtain ⟨ht, hc, rfl, rfl, rfl⟩ := qzBr_inv hb
  refine lv_if_le F.1 F.2.1 hd ht (fun hx => ?_) (fun hx => ?_)
  · rcases hc with ⟨hq, rfl⟩ | ⟨hq, rfl⟩
    · exact kk.same C (List.forall_mem_cons.mp C.2.1).2
    · simp [qzC1, hx] at hq
  · rcases hc with ⟨hq, rfl⟩ | ⟨hq, rfl⟩
    · simp [qzC1, hx] at hq
    · exact kk.same C (List.forall_mem_cons.mp C.2.1).2
theorem qz_icmp_le {off : Int} (F : qzFx p G D z0 S s m args meth c mi) (C : qzCx G D z0 S s mi ad lsS H locs ls st hp) (hd : decode (qzMd mi).2.1 pc = .ok (.if_icmp .le off, len)) (h : qzIf2 .le off len pc ls st hp = (some (.inl (pc', ls', st', hp')) : Option qzA))
    (kk : qzKK p l e R s m args below meth c Q G D z0 S mi n0 hp.1 ad pc' ls' st' hp') : qzG p l e R s m args below meth c Q n0 pc ad lsS H locs st hp.1 := by
  obtain ⟨rfl, x, y, st1, rfl, hb⟩ := qzIf2_inv h
  obtain ⟨ht, hc, rfl, rfl, rfl⟩ := qzBr_inv hb
  have ho := (List.forall_mem_cons.mp (List.forall_mem_cons.mp C.2.1).2).2
  refine lv_icmp_le F.1 F.2.1 hd ht (fun hx => ?_) (fun hx => ?_)
  · rcases hc with ⟨hq, rfl⟩ | ⟨hq, rfl⟩
    · exact kk.same C ho
    · simp only [qzC2, decide_eq_false_iff_not] at hq
      exact (hq hx).elim
  · rcases hc with ⟨hq, rfl⟩ | ⟨hq, rfl⟩
    · simp only [qzC2, decide_eq_true_eq] at hq
      exact (hx hq).elim
    · exact kk.same C ho
theorem qz_ifnull {off : Int} (F : qzFx p G D z0 S s m args meth c mi) (C : qzCx G D z0 S s mi ad lsS H locs ls st hp) (hd : decode (qzMd mi).2.1 pc = .ok (.ifnull off, len)) (h : qzIfN true off len pc ls st hp = (some (.inl (pc', ls', st', hp')) : Option qzA))
    (kk : qzKK p l e R s m args below meth c Q G D z0 S mi n0 hp.1 ad pc' ls' st' hp') : qzG p l e R s m args below meth c Q n0 pc ad lsS H locs st hp.1 := by
  obtain ⟨rfl, ⟨x, st1, rfl, hb⟩ | ⟨st1, rfl, hb⟩⟩ := qzIfN_inv h
  · obtain ⟨ht, hc, rfl, rfl, rfl⟩ := qzBr_inv hb
    rcases hc with ⟨hq, -⟩ | ⟨-, rfl⟩
    · cases hq
    · exact lv_ifnull F.1 F.2.1 hd (kk.same C (List.forall_mem_cons.mp C.2.1).2)
  · obtain ⟨ht, hc, rfl, rfl, rfl⟩ := qzBr_inv hb
    rcases hc with ⟨-, rfl⟩ | ⟨hq, -⟩
    · exact lv_ifnullN F.1 F.2.1 hd ht (kk.same C (List.forall_mem_cons.mp C.2.1).2)
    · cases hq
theorem qz_ifnonnull {off : Int} (F : qzFx p G D z0 S s m args meth c mi) (C : qzCx G D z0 S s mi ad lsS H locs ls st hp) (hd : decode (qzMd mi).2.1 pc = .ok (.ifnonnull off, len)) (h : qzIfN false off len pc ls st hp = (some (.inl (pc', ls', st', hp')) : Option qzA))
    (kk : qzKK p l e R s m args below meth c Q G D z0 S mi n0 hp.1 ad pc' ls' st' hp') : qzG p l e R s m args below meth c Q n0 pc ad lsS H locs st hp.1 := by
  obtain ⟨rfl, ⟨x, st1, rfl, hb⟩ | ⟨st1, rfl, hb⟩⟩ := qzIfN_inv h
  · obtain ⟨ht, hc, rfl, rfl, rfl⟩ := qzBr_inv hb
    rcases hc with ⟨-, rfl⟩ | ⟨hq, -⟩
    · exact lv_ifnonnull F.1 F.2.1 hd ht (kk.same C (List.forall_mem_cons.mp C.2.1).2)
    · cases hq
  · obtain ⟨ht, hc, rfl, rfl, rfl⟩ := qzBr_inv hb
    rcases hc with ⟨hq, -⟩ | ⟨-, rfl⟩
    · cases hq
    · exact lv_ifnonnullN F.1 F.2.1 hd (kk.same C (List.forall_mem_cons.mp C.2.1).2)
theorem qz_goto {off : Int} (F : qzFx p G D z0 S s m args meth c mi) (C : qzCx G D z0 S s mi ad lsS H locs ls st hp) (hd : decode (qzMd mi).2.1 pc = .ok (.goto off, len)) (h : qzGoto off len pc ls st hp = (some (.inl (pc', ls', st', hp')) : Option qzA))
    (kk : qzKK p l e R s m args below meth c Q G D z0 S mi n0 hp.1 ad pc' ls' st' hp') : qzG p l e R s m args below meth c Q n0 pc ad lsS H locs st hp.1 := by
  obtain ⟨rfl, ht, rfl, rfl, rfl, rfl⟩ := qzGoto_inv h
  exact lv_goto F.1 F.2.1 hd ht (kk.same C C.2.1)
theorem qz_tableswitch {d lo hi : Int} {offs : Array Int} (F : qzFx p G D z0 S s m args meth c mi) (C : qzCx G D z0 S s mi ad lsS H locs ls st hp) (hd : decode (qzMd mi).2.1 pc = .ok (.tableswitch d lo hi offs, len)) (h : qzTsw d lo hi offs pc ls st hp = (some (.inl (pc', ls', st', hp')) : Option qzA))
    (kk : qzKK p l e R s m args below meth c Q G D z0 S mi n0 hp.1 ad pc' ls' st' hp') : qzG p l e R s m args below meth c Q n0 pc ad lsS H locs st hp.1 := by
  obtain ⟨x, st1, rfl, ⟨hc, ht, rfl, rfl, rfl, rfl⟩ | ⟨hc, o, ho, ht, rfl, rfl, rfl, rfl⟩⟩ := qzTsw_inv h
  · exact lv_tableOut F.1 F.2.1 hd hc ht (kk.same C (List.forall_mem_cons.mp C.2.1).2)
  · exact lv_tableIn F.1 F.2.1 hd (fun q => hc (Or.inl q)) (fun q => hc (Or.inr q)) ho ht (kk.same C (List.forall_mem_cons.mp C.2.1).2)
end QZ1
