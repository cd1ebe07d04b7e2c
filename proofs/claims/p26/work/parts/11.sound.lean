/-! what a step can come to; the heap grows only -/
def qzLeft (n : Nat) (r : qzA) : Prop := ∃ q : Nat × List Value × List Value × qzH, r = .inl q ∧ n ≤ q.2.2.2.1
theorem qzGo_l {pc : Nat} {ls st : List Value} {hp : qzH} {r : qzA} (h : qzGo pc ls st hp = some r) {n : Nat} (hn : n ≤ hp.1) : qzLeft n r := by
  unfold qzGo at h
  cases h
  exact ⟨_, rfl, hn⟩
theorem qzPush_l {pc len : Nat} {ls st : List Value} {hp : qzH} {r : qzA} {v0 : Value} {w : Nat} (h : qzPush v0 len w pc ls st hp = some r) : qzLeft hp.1 r := by
  unfold qzPush at h
  repeat' split at h
  all_goals first | exact (qz_no h).elim | exact qzGo_l h (Nat.le_refl _) | exact qzGo_l h (Nat.le_succ _)
theorem qzIload_l {pc len : Nat} {ls st : List Value} {hp : qzH} {r : qzA} {i w : Nat} (h : qzIload i len w pc ls st hp = some r) : qzLeft hp.1 r := by
  unfold qzIload at h
  repeat' split at h
  all_goals first | exact (qz_no h).elim | exact qzGo_l h (Nat.le_refl _) | exact qzGo_l h (Nat.le_succ _)
theorem qzAload_l {pc len : Nat} {ls st : List Value} {hp : qzH} {r : qzA} {i w : Nat} (h : qzAload i len w pc ls st hp = some r) : qzLeft hp.1 r := by
  unfold qzAload at h
  repeat' split at h
  all_goals first | exact (qz_no h).elim | exact qzGo_l h (Nat.le_refl _) | exact qzGo_l h (Nat.le_succ _)
theorem qzIstore_l {pc len : Nat} {ls st : List Value} {hp : qzH} {r : qzA} {i w : Nat} (h : qzIstore i len w pc ls st hp = some r) : qzLeft hp.1 r := by
  unfold qzIstore at h
  repeat' split at h
  all_goals first | exact (qz_no h).elim | exact qzGo_l h (Nat.le_refl _) | exact qzGo_l h (Nat.le_succ _)
theorem qzAstore_l {pc len : Nat} {ls st : List Value} {hp : qzH} {r : qzA} {i w : Nat} (h : qzAstore i len w pc ls st hp = some r) : qzLeft hp.1 r := by
  unfold qzAstore at h
  repeat' split at h
  all_goals first | exact (qz_no h).elim | exact qzGo_l h (Nat.le_refl _) | exact qzGo_l h (Nat.le_succ _)
theorem qzBin_l {pc len : Nat} {ls st : List Value} {hp : qzH} {r : qzA} {f : Int32 → Int32 → Int32} (h : qzBin f len pc ls st hp = some r) : qzLeft hp.1 r := by
  unfold qzBin at h
  repeat' split at h
  all_goals first | exact (qz_no h).elim | exact qzGo_l h (Nat.le_refl _) | exact qzGo_l h (Nat.le_succ _)
theorem qzBinD_l {pc len : Nat} {ls st : List Value} {hp : qzH} {r : qzA} {f : Int32 → Int32 → Int32} (h : qzBinD f len pc ls st hp = some r) : qzLeft hp.1 r := by
  unfold qzBinD at h
  repeat' split at h
  all_goals first | exact (qz_no h).elim | exact qzGo_l h (Nat.le_refl _) | exact qzGo_l h (Nat.le_succ _)
theorem qzI2c_l {pc len : Nat} {ls st : List Value} {hp : qzH} {r : qzA}  (h : qzI2c len pc ls st hp = some r) : qzLeft hp.1 r := by
  unfold qzI2c at h
  repeat' split at h
  all_goals first | exact (qz_no h).elim | exact qzGo_l h (Nat.le_refl _) | exact qzGo_l h (Nat.le_succ _)
theorem qzIinc_l {pc len : Nat} {ls st : List Value} {hp : qzH} {r : qzA} {i : Nat} {n : Int} (h : qzIinc i n len pc ls st hp = some r) : qzLeft hp.1 r := by
  unfold qzIinc at h
  repeat' split at h
  all_goals first | exact (qz_no h).elim | exact qzGo_l h (Nat.le_refl _) | exact qzGo_l h (Nat.le_succ _)
theorem qzDup_l {pc len : Nat} {ls st : List Value} {hp : qzH} {r : qzA}  (h : qzDup len pc ls st hp = some r) : qzLeft hp.1 r := by
  unfold qzDup at h
  repeat' split at h
  all_goals first | exact (qz_no h).elim | exact qzGo_l h (Nat.le_refl _) | exact qzGo_l h (Nat.le_succ _)
theorem qzDup2_l {pc len : Nat} {ls st : List Value} {hp : qzH} {r : qzA}  (h : qzDup2 len pc ls st hp = some r) : qzLeft hp.1 r := by
  unfold qzDup2 at h
  repeat' split at h
  all_goals first | exact (qz_no h).elim | exact qzGo_l h (Nat.le_refl _) | exact qzGo_l h (Nat.le_succ _)
theorem qzPop_l {pc len : Nat} {ls st : List Value} {hp : qzH} {r : qzA}  (h : qzPop len pc ls st hp = some r) : qzLeft hp.1 r := by
  unfold qzPop at h
  repeat' split at h
  all_goals first | exact (qz_no h).elim | exact qzGo_l h (Nat.le_refl _) | exact qzGo_l h (Nat.le_succ _)
theorem qzBr_l {pc : Nat} {ls st : List Value} {hp : qzH} {r : qzA} {b : Bool} {off : Int} (h : qzBr b pc off ls st hp = some r) : qzLeft hp.1 r := by
  unfold qzBr at h
  repeat' split at h
  all_goals first | exact (qz_no h).elim | exact qzGo_l h (Nat.le_refl _) | exact qzGo_l h (Nat.le_succ _)
theorem qzIf1_l {pc len : Nat} {ls st : List Value} {hp : qzH} {r : qzA} {k : ClassFile.Cond} {off : Int} (h : qzIf1 k off len pc ls st hp = some r) : qzLeft hp.1 r := by
  unfold qzIf1 at h
  repeat' split at h
  all_goals first | exact (qz_no h).elim | exact qzBr_l h
theorem qzIf2_l {pc len : Nat} {ls st : List Value} {hp : qzH} {r : qzA} {k : ClassFile.Cond} {off : Int} (h : qzIf2 k off len pc ls st hp = some r) : qzLeft hp.1 r := by
  unfold qzIf2 at h
  repeat' split at h
  all_goals first | exact (qz_no h).elim | exact qzBr_l h
theorem qzIfN_l {pc len : Nat} {ls st : List Value} {hp : qzH} {r : qzA} {k : Bool} {off : Int} (h : qzIfN k off len pc ls st hp = some r) : qzLeft hp.1 r := by
  unfold qzIfN at h
  repeat' split at h
  all_goals first | exact (qz_no h).elim | exact qzBr_l h
theorem qzGoto_l {pc len : Nat} {ls st : List Value} {hp : qzH} {r : qzA} {off : Int} (h : qzGoto off len pc ls st hp = some r) : qzLeft hp.1 r := by
  unfold qzGoto at h
  repeat' split at h
  all_goals first | exact (qz_no h).elim | exact qzGo_l h (Nat.le_refl _) | exact qzGo_l h (Nat.le_succ _)
theorem qzTsw_l {pc : Nat} {ls st : List Value} {hp : qzH} {r : qzA} {d lo hi : Int} {offs : Array Int} (h : qzTsw d lo hi offs pc ls st hp = some r) : qzLeft hp.1 r := by
  unfold qzTsw at h
  repeat' split at h
  all_goals first | exact (qz_no h).elim | exact qzGo_l h (Nat.le_refl _) | exact qzGo_l h (Nat.le_succ _)
theorem qzIald_l {pc len : Nat} {ls st : List Value} {hp : qzH} {r : qzA}  (h : qzIald len pc ls st hp = some r) : qzLeft hp.1 r := by
  unfold qzIald at h
  repeat' split at h
  all_goals first | exact (qz_no h).elim | exact qzGo_l h (Nat.le_refl _) | exact qzGo_l h (Nat.le_succ _)
theorem qzCald_l {pc len : Nat} {ls st : List Value} {hp : qzH} {r : qzA}  (h : qzCald len pc ls st hp = some r) : qzLeft hp.1 r := by
  unfold qzCald at h
  repeat' split at h
  all_goals first | exact (qz_no h).elim | exact qzGo_l h (Nat.le_refl _) | exact qzGo_l h (Nat.le_succ _)
theorem qzAald_l {pc len : Nat} {ls st : List Value} {hp : qzH} {r : qzA}  (h : qzAald len pc ls st hp = some r) : qzLeft hp.1 r := by
  unfold qzAald at h
  repeat' split at h
  all_goals first | exact (qz_no h).elim | exact qzGo_l h (Nat.le_refl _) | exact qzGo_l h (Nat.le_succ _)
theorem qzIast_l {pc len : Nat} {ls st : List Value} {hp : qzH} {r : qzA}  (h : qzIast len pc ls st hp = some r) : qzLeft hp.1 r := by
  unfold qzIast at h
  repeat' split at h
  all_goals first | exact (qz_no h).elim | exact qzGo_l h (Nat.le_refl _) | exact qzGo_l h (Nat.le_succ _)
theorem qzCast_l {pc len : Nat} {ls st : List Value} {hp : qzH} {r : qzA}  (h : qzCast len pc ls st hp = some r) : qzLeft hp.1 r := by
  unfold qzCast at h
  repeat' split at h
  all_goals first | exact (qz_no h).elim | exact qzGo_l h (Nat.le_refl _) | exact qzGo_l h (Nat.le_succ _)
theorem qzAast_l {pc len : Nat} {ls st : List Value} {hp : qzH} {r : qzA}  (h : qzAast len pc ls st hp = some r) : qzLeft hp.1 r := by
  unfold qzAast at h
  repeat' split at h
  all_goals first | exact (qz_no h).elim | exact qzGo_l h (Nat.le_refl _) | exact qzGo_l h (Nat.le_succ _)
theorem qzAlen_l {pc len : Nat} {ls st : List Value} {hp : qzH} {r : qzA}  (h : qzAlen len pc ls st hp = some r) : qzLeft hp.1 r := by
  unfold qzAlen at h
  repeat' split at h
  all_goals first | exact (qz_no h).elim | exact qzGo_l h (Nat.le_refl _) | exact qzGo_l h (Nat.le_succ _)
theorem qzGetf_l {pc len : Nat} {ls st : List Value} {hp : qzH} {r : qzA} {oc idx : Nat} (h : qzGetf oc idx len pc ls st hp = some r) : qzLeft hp.1 r := by
  unfold qzGetf at h
  repeat' split at h
  all_goals first | exact (qz_no h).elim | exact qzGo_l h (Nat.le_refl _) | exact qzGo_l h (Nat.le_succ _)
theorem qzPutf_l {pc len : Nat} {ls st : List Value} {hp : qzH} {r : qzA} {mi oc idx : Nat} (h : qzPutf mi oc idx len pc ls st hp = some r) : qzLeft hp.1 r := by
  unfold qzPutf at h
  repeat' split at h
  all_goals first | exact (qz_no h).elim | exact qzGo_l h (Nat.le_refl _) | exact qzGo_l h (Nat.le_succ _)
theorem qzGets_l {pc len : Nat} {ls st : List Value} {hp : qzH} {r : qzA} {oc idx : Nat} (h : qzGets oc idx len pc ls st hp = some r) : qzLeft hp.1 r := by
  unfold qzGets at h
  repeat' split at h
  all_goals first | exact (qz_no h).elim | exact qzGo_l h (Nat.le_refl _) | exact qzGo_l h (Nat.le_succ _)
theorem qzLdc_l {pc len : Nat} {ls st : List Value} {hp : qzH} {r : qzA} {oc idx : Nat} (h : qzLdc oc idx len pc ls st hp = some r) : qzLeft hp.1 r := by
  unfold qzLdc at h
  repeat' split at h
  all_goals first | exact (qz_no h).elim | exact qzGo_l h (Nat.le_refl _) | exact qzGo_l h (Nat.le_succ _)
theorem qzNew_l {pc len : Nat} {ls st : List Value} {hp : qzH} {r : qzA} {oc idx : Nat} (h : qzNew oc idx len pc ls st hp = some r) : qzLeft hp.1 r := by
  unfold qzNew at h
  repeat' split at h
  all_goals first | exact (qz_no h).elim | exact qzGo_l h (Nat.le_refl _) | exact qzGo_l h (Nat.le_succ _)
theorem qzNewa_l {pc len : Nat} {ls st : List Value} {hp : qzH} {r : qzA} {kd w : Nat} (h : qzNewa kd len w pc ls st hp = some r) : qzLeft hp.1 r := by
  unfold qzNewa at h
  repeat' split at h
  all_goals first | exact (qz_no h).elim | exact qzGo_l h (Nat.le_refl _) | exact qzGo_l h (Nat.le_succ _)
theorem qzCall_r {kd oc idx len : Nat} {st : List Value} {hp : qzH} {r : qzA} (h : qzCall kd oc idx len st hp = some r) : ∃ q, r = .inr (.inl q) := by
  unfold qzCall at h
  repeat' split at h
  all_goals first | exact (qz_no h).elim | (cases h; exact ⟨_, rfl⟩)
theorem qzStat_r {oc idx len pc : Nat} {ls st : List Value} {hp : qzH} {r : qzA} (h : qzStat oc idx len pc ls st hp = some r) : qzLeft hp.1 r ∨ qzCall 0 oc idx len st hp = some r := by
  unfold qzStat at h
  repeat' split at h
  all_goals first | exact (qz_no h).elim | exact Or.inl (qzGo_l h (Nat.le_refl _)) | exact Or.inr h
theorem qzSpec_r {oc idx len pc : Nat} {ls st : List Value} {hp : qzH} {r : qzA} (h : qzSpec oc idx len pc ls st hp = some r) : qzLeft hp.1 r ∨ qzCall 2 oc idx len st hp = some r := by
  unfold qzSpec at h
  repeat' split at h
  all_goals first | exact (qz_no h).elim | exact Or.inl (qzGo_l h (Nat.le_refl _)) | exact Or.inr h
theorem qzVirt_r {oc idx len pc : Nat} {ls st : List Value} {hp : qzH} {r : qzA} (h : qzVirt oc idx len pc ls st hp = some r) : qzLeft hp.1 r ∨ qzCall 1 oc idx len st hp = some r := by
  unfold qzVirt at h
  repeat' split at h
  all_goals first | exact (qz_no h).elim | exact Or.inl (qzGo_l h (Nat.le_refl _)) | exact Or.inr h
theorem qzRet_r {mi len : Nat} {st : List Value} {r : qzA} (h : qzRet mi len st = some r) : ∃ v, r = .inr (.inr v) := by
  unfold qzRet at h
  repeat' split at h
  all_goals first | exact (qz_no h).elim | (cases h; exact ⟨_, rfl⟩)
theorem qzAret_r {mi len : Nat} {st : List Value} {r : qzA} (h : qzAret mi len st = some r) : ∃ v, r = .inr (.inr v) := by
  unfold qzAret at h
  repeat' split at h
  all_goals first | exact (qz_no h).elim | (cases h; exact ⟨_, rfl⟩)
theorem qzVret_r {mi len : Nat} {st : List Value} {r : qzA} (h : qzVret mi len st = some r) : ∃ v, r = .inr (.inr v) := by
  unfold qzVret at h
  repeat' split at h
  all_goals first | exact (qz_no h).elim | (cases h; exact ⟨_, rfl⟩)
theorem qzLeft.no2 {n : Nat} {q : (Nat × List Value × List Value) ⊕ Option Value} (h : qzLeft n (.inr q)) : False := by
  obtain ⟨x, hx, -⟩ := h
  cases hx
/-- which kinds of end a step has -/
theorem qzI_r {mi pc len : Nat} {ins : Instr} {ls st : List Value} {hp : qzH} {r : qzA} (h : qzI mi pc ins len ls st hp = some r) : qzLeft hp.1 r ∨ (∃ q, r = .inr (.inl q) ∧ ((∃ idx, ins = .invokestatic idx ∧ qzCall 0 (qzMd mi).2.2.2.2.2.2 idx len st hp = some r) ∨ (∃ idx, ins = .invokespecial idx ∧ qzCall 2 (qzMd mi).2.2.2.2.2.2 idx len st hp = some r) ∨ (∃ idx, ins = .invokevirtual idx ∧ qzCall 1 (qzMd mi).2.2.2.2.2.2 idx len st hp = some r))) ∨ (∃ v, r = .inr (.inr v) ∧ ((ins = .ireturn ∧ qzRet mi len st = some r) ∨ (ins = .areturn ∧ qzAret mi len st = some r) ∨ (ins = .return_ ∧ qzVret mi len st = some r))) := by
  cases ins with
  | iconst n => exact Or.inl (qzPush_l h)
  | bipush n => exact Or.inl (qzPush_l h)
  | sipush n => exact Or.inl (qzPush_l h)
  | aconst_null => exact Or.inl (qzPush_l h)
  | iload_n k => exact Or.inl (qzIload_l h)
  | iload k => exact Or.inl (qzIload_l h)
  | aload_n k => exact Or.inl (qzAload_l h)
  | aload k => exact Or.inl (qzAload_l h)
  | istore_n k => exact Or.inl (qzIstore_l h)
  | istore k => exact Or.inl (qzIstore_l h)
  | astore_n k => exact Or.inl (qzAstore_l h)
  | astore k => exact Or.inl (qzAstore_l h)
  | iadd => exact Or.inl (qzBin_l h)
  | isub => exact Or.inl (qzBin_l h)
  | imul => exact Or.inl (qzBin_l h)
  | iand => exact Or.inl (qzBin_l h)
  | ior => exact Or.inl (qzBin_l h)
  | ishl => exact Or.inl (qzBin_l h)
  | ishr => exact Or.inl (qzBin_l h)
  | idiv => exact Or.inl (qzBinD_l h)
  | irem => exact Or.inl (qzBinD_l h)
  | i2c => exact Or.inl (qzI2c_l h)
  | iinc i n => exact Or.inl (qzIinc_l h)
  | dup => exact Or.inl (qzDup_l h)
  | dup2 => exact Or.inl (qzDup2_l h)
  | pop => exact Or.inl (qzPop_l h)
  | ifnull off => exact Or.inl (qzIfN_l h)
  | ifnonnull off => exact Or.inl (qzIfN_l h)
  | goto off => exact Or.inl (qzGoto_l h)
  | tableswitch d lo hi offs => exact Or.inl (qzTsw_l h)
  | iaload => exact Or.inl (qzIald_l h)
  | caload => exact Or.inl (qzCald_l h)
  | aaload => exact Or.inl (qzAald_l h)
  | iastore => exact Or.inl (qzIast_l h)
  | castore => exact Or.inl (qzCast_l h)
  | aastore => exact Or.inl (qzAast_l h)
  | arraylength => exact Or.inl (qzAlen_l h)
  | getfield idx => exact Or.inl (qzGetf_l h)
  | putfield idx => exact Or.inl (qzPutf_l h)
  | getstatic idx => exact Or.inl (qzGets_l h)
  | ldc idx => exact Or.inl (qzLdc_l h)
  | new idx => exact Or.inl (qzNew_l h)
  | ifCond k off => exact Or.inl (qzIf1_l h)
  | if_icmp k off => exact Or.inl (qzIf2_l h)
  | newarray t => cases t with
    | int => exact Or.inl (qzNewa_l h)
    | char => exact Or.inl (qzNewa_l h)
    | _ => exact (qz_no h).elim
  | anewarray idx =>
    have h1 : (if (qzMd mi).2.2.2.2.2.2 = 2 ∧ idx = 7 then qzNewa 6 len 3 pc ls st hp else none) = some r := h
    split at h1
    · exact Or.inl (qzNewa_l h1)
    · exact (qz_no h1).elim
  | invokestatic idx =>
    rcases qzStat_r h with h1 | h1
    · exact Or.inl h1
    · obtain ⟨q, rfl⟩ := qzCall_r h1
      exact Or.inr (Or.inl ⟨q, rfl, Or.inl ⟨idx, rfl, h1⟩⟩)
  | invokespecial idx =>
    rcases qzSpec_r h with h1 | h1
    · exact Or.inl h1
    · obtain ⟨q, rfl⟩ := qzCall_r h1
      exact Or.inr (Or.inl ⟨q, rfl, Or.inr (Or.inl ⟨idx, rfl, h1⟩)⟩)
  | invokevirtual idx =>
    rcases qzVirt_r h with h1 | h1
    · exact Or.inl h1
    · obtain ⟨q, rfl⟩ := qzCall_r h1
      exact Or.inr (Or.inl ⟨q, rfl, Or.inr (Or.inr ⟨idx, rfl, h1⟩)⟩)
  | ireturn =>
    obtain ⟨v, rfl⟩ := qzRet_r h
    exact Or.inr (Or.inr ⟨v, rfl, Or.inl ⟨rfl, h⟩⟩)
  | areturn =>
    obtain ⟨v, rfl⟩ := qzAret_r h
    exact Or.inr (Or.inr ⟨v, rfl, Or.inr (Or.inl ⟨rfl, h⟩)⟩)
  | return_ =>
    obtain ⟨v, rfl⟩ := qzVret_r h
    exact Or.inr (Or.inr ⟨v, rfl, Or.inr (Or.inr ⟨rfl, h⟩)⟩)
  | _ => exact (qz_no h).elim
section QZ6
variable {p : Program} {l : Launch} {e : Env} {R : Room} {s : State} {m : MethodId} {args : Array Value} {below : List Frame} {meth : Method} {c : Code} {Q : State → Prop} {G : qzGT} {D : va_G} {z0 : Nat} {S : Nat → Nat} {mi pc n0 : Nat} {ad : Nat → Nat} {lsS : Array Slot} {H : Heap} {locs : List Loc} {ls st ls' st' : List Value} {hp hp' : qzH} {pc' len : Nat}
theorem qz_go {ins : Instr} (hTx : qzTx l) (F : qzFx p G D z0 S s m args meth c mi) (C : qzCx G D z0 S s mi ad lsS H locs ls st hp) (hd : decode (qzMd mi).2.1 pc = .ok (ins, len)) (h : qzI mi pc ins len ls st hp = (some (.inl (pc', ls', st', hp')) : Option qzA)) (hR : qzRo R n0 hp.1 hp'.1)
    (kk : qzKK p l e R s m args below meth c Q G D z0 S mi n0 hp.1 ad pc' ls' st' hp') : qzG p l e R s m args below meth c Q n0 pc ad lsS H locs st hp.1 := by
  cases ins with
  | iconst n => exact qz_iconst F C hd h kk
  | bipush n => exact qz_bipush F C hd h kk
  | sipush n => exact qz_sipush F C hd h kk
  | aconst_null => exact qz_aconst_null F C hd h kk
  | iload_n k => exact qz_iload_n F C hd h kk
  | iload k => exact qz_iload F C hd h kk
  | aload_n k => exact qz_aload_n F C hd h kk
  | aload k => exact qz_aload F C hd h kk
  | istore_n k => exact qz_istore_n F C hd h kk
  | istore k => exact qz_istore F C hd h kk
  | astore_n k => exact qz_astore_n F C hd h kk
  | astore k => exact qz_astore F C hd h kk
  | iadd => exact qz_iadd F C hd h kk
  | isub => exact qz_isub F C hd h kk
  | imul => exact qz_imul F C hd h kk
  | iand => exact qz_iand F C hd h kk
  | ior => exact qz_ior F C hd h kk
  | ishl => exact qz_ishl F C hd h kk
  | ishr => exact qz_ishr F C hd h kk
  | idiv => exact qz_idiv F C hd h kk
  | irem => exact qz_irem F C hd h kk
  | i2c => exact qz_i2c F C hd h kk
  | iinc i n => exact qz_iinc F C hd h kk
  | dup => exact qz_dup F C hd h kk
  | dup2 => exact qz_dup2 F C hd h kk
  | pop => exact qz_pop F C hd h kk
  | ifnull off => exact qz_ifnull F C hd h kk
  | ifnonnull off => exact qz_ifnonnull F C hd h kk
  | goto off => exact qz_goto F C hd h kk
  | tableswitch d lo hi offs => exact qz_tableswitch F C hd h kk
  | iaload => exact qz_iaload F C hd h kk
  | caload => exact qz_caload F C hd h kk
  | aaload => exact qz_aaload F C hd h kk
  | iastore => exact qz_iastore F C hd h kk
  | castore => exact qz_castore F C hd h kk
  | aastore => exact qz_aastore F C hd h kk
  | arraylength => exact qz_alen F C hd h kk
  | getfield idx => exact qz_getfield F C hd h kk
  | putfield idx => exact qz_putfield F C hd h kk
  | getstatic idx => exact qz_getstatic F C hd h kk
  | ldc idx => exact qz_ldc F C hd h kk
  | new idx => exact qz_new F C hd h hR kk
  | ifCond k off => cases k with
    | eq => exact qz_if_eq F C hd h kk
    | ne => exact qz_if_ne F C hd h kk
    | lt => exact qz_if_lt F C hd h kk
    | ge => exact qz_if_ge F C hd h kk
    | gt => exact qz_if_gt F C hd h kk
    | le => exact qz_if_le F C hd h kk
  | if_icmp k off => cases k with
    | eq => exact qz_icmp_eq F C hd h kk
    | ne => exact qz_icmp_ne F C hd h kk
    | lt => exact qz_icmp_lt F C hd h kk
    | ge => exact qz_icmp_ge F C hd h kk
    | gt => exact qz_icmp_gt F C hd h kk
    | le => exact qz_icmp_le F C hd h kk
  | newarray t => cases t with
    | int => exact qz_newarrayI F C hd h hR kk
    | char => exact qz_newarrayC F C hd h hR kk
    | _ => exact (qz_no h).elim
  | anewarray idx => exact qz_anewarray F C hd h hR kk
  | invokestatic idx => exact qz_stat F C hd h hR kk
  | invokespecial idx => exact qz_spec F C hd h hR kk
  | invokevirtual idx => exact qz_virt hTx F C hd h hR kk
  | ireturn => obtain ⟨v, hv⟩ := qzRet_r h; cases hv
  | areturn => obtain ⟨v, hv⟩ := qzAret_r h; cases hv
  | return_ => obtain ⟨v, hv⟩ := qzVret_r h; cases hv
  | _ => exact (qz_no h).elim
/-- an answer -/
theorem qz_end {ins : Instr} {nn : Nat} {ad0 : Nat → Nat} {v : Option Value} (F : qzFx p G D z0 S s m args meth c mi) (C : qzCx G D z0 S s mi ad lsS H locs ls st hp) (hag : qzAg nn ad0 ad) (hd : decode (qzMd mi).2.1 pc = .ok (ins, len)) (h : (ins = .ireturn ∧ qzRet mi len st = (some (.inr (.inr v)) : Option qzA)) ∨ (ins = .areturn ∧ qzAret mi len st = (some (.inr (.inr v)) : Option qzA)) ∨ (ins = .return_ ∧ qzVret mi len st = (some (.inr (.inr v)) : Option qzA))) (k1 k2 : Nat) :
    W p l e R s m args below meth c H locs k1 k2 (MQ below (qzPost G D z0 S ad0 nn v hp) args s k1 k2 (qzA0 z0)) (F0 m pc lsS (st.map (qzR ad))) := by
  obtain ⟨hx, hb, hml, hr, hown, hts, hlk, hnm, hK, hNw, hSt, hz, hmi⟩ := id F
  obtain ⟨c1, c2, c3, c4, c5, hP, hD, hS⟩ := id C
  have fin : ∀ (w : Option Value), (∀ x, w = some x → qzOk hp.1 x) → ∀ t : State, t.heap = H → s.WarmedH t.vm → qzPost G D z0 S ad0 nn w hp args s (.returned (w.map (qzR ad))) t := fun w hw t ht _ => ⟨⟨ad, rfl, hag, c4, c3, c5, hw, by rw [ht]; exact hP, hD⟩, hS.F ht⟩
  rcases h with ⟨rfl, h⟩ | ⟨rfl, h⟩ | ⟨rfl, h⟩
  · unfold qzRet at h
    split at h
    · rename_i hw
      subst hw
      split at h
      · split at h
        · rename_i ty hty
          split at h
          · rename_i hn
            cases h
            exact W.zret hx hb (hr.trans hty) hn (fin (some (.int _)) (fun x hx => by cases hx; trivial)) hS.2.2 hd hlk
          · exact (qz_no h).elim
        · exact (qz_no h).elim
      · exact (qz_no h).elim
    · exact (qz_no h).elim
  · unfold qzAret at h
    split at h
    · rename_i hw
      subst hw
      split at h
      · rename_i C0 hty
        split at h
        · rename_i a
          cases h
          exact W.aret hx hb (hr.trans hty) (Or.inl ⟨_, rfl⟩) (Or.inr ⟨_, rfl⟩) (fin (some (.ref a)) (fun x hx => by cases hx; exact (List.forall_mem_cons.mp C.2.1).1)) hS.2.2 hd hlk
        · cases h
          exact W.aret hx hb (hr.trans hty) (Or.inl ⟨_, rfl⟩) (Or.inl rfl) (fin (some .null) (fun x hx => by cases hx; trivial)) hS.2.2 hd hlk
        · exact (qz_no h).elim
      · exact (qz_no h).elim
    · exact (qz_no h).elim
  · unfold qzVret at h
    split at h
    · rename_i hw
      subst hw
      split at h
      · rename_i hty
        split at h
        · cases h
          exact W.vret hx hb (hr.trans hty) (fin none (fun x hx => by cases hx)) hS.2.2 hd hlk
        · exact (qz_no h).elim
      · exact (qz_no h).elim
    · exact (qz_no h).elim
end QZ6
/-- a contract out of the walk of its body -/
theorem qz_met {l : Launch} {G : qzGT} {D : va_G} {z0 : Nat} {S : Nat → Nat} {ad : Nat → Nat} {d mj : Nat} {as : List Value} {hp : qzH} {v : Option Value} {hp1 : qzH} (hmj : mj < 149) (has : ∀ v ∈ as, qzOk hp.1 v) (hl : as.length ≤ (qzMd mj).2.2.1) (hw : qzWf hp) (h1 : hp.1 < 1000) (hc4 : ∀ i, ad (1000 + i) = S i)
    (hW : ∀ {p : Program} {e : Env} {s : State} {m : MethodId} {args : Array Value} {below : List Frame} {meth : Method} {c : Code} {lsS : Array Slot} {H : Heap} {locs : List Loc}, qzFx p G D z0 S s m args meth c mj → qzCx G D z0 S s mj ad lsS H locs (qzLoc mj as) [] hp →
      W p l e (qzRm d (hp1.1 - hp.1) (qzSl hp1.1 - qzSl hp.1)) s m args below meth c H locs (hp.1 - hp.1) (qzSl hp.1 - qzSl hp.1) (MQ below (qzPost G D z0 S ad hp.1 v hp1) args s (hp1.1 - hp.1) (qzSl hp1.1 - qzSl hp.1) (qzA0 z0)) (F0 m 0 lsS [])) : qzMet l G D z0 S ad d mj as hp v hp1 := by
  obtain ⟨pm1, pm2, pm3, pm4, ⟨pm5, pm6, pm7⟩, pmS, pmV, pmI⟩ := qzPm_at hmj
  unfold qzMet
  refine Met.ofW (cc := (qzMd mj).2.1) (maxL := (qzMd mj).2.2.1) (ret := (qzMd mj).2.2.2.1) pm1 rfl ?_
  intro p e s m args below meth c s₁ B hml hv
  obtain ⟨rfl, hz, hP, hK, hD, hN, hS⟩ := hv
  rw [lg_entry_eq]
  have hts0 := atoms_spec B.pre
  have hts : ∀ w ∈ qzWs, w.before (as.map (qzR ad)).toArray s = true := fun w hw => hts0 w (List.mem_cons_of_mem _ hw)
  have F : qzFx p G D z0 S s m (as.map (qzR ad)).toArray meth c mj := ⟨B.exec, B.bytes, hml, B.returns, findClass_of_methodNamed B.named, hts, B.notSynchronized, (name_of_methodNamed B.named B.method).1, hK, hN, hS, hz, hmj⟩
  have g := hW (below := below) F ⟨qzLs.entry has hl, fun v hv => (List.not_mem_nil hv).elim, hw, hc4, h1, hP, hD, va_S.rf⟩ (e := e)
  rw [Nat.sub_self, Nat.sub_self] at g
  exact g
/-- A RUN OF THE INTERPRETER IS A RUN OF THE MACHINE -/
theorem qz_sound (l : Launch) (hTx : qzTx l) : ∀ (f d mi pc : Nat) (ls st : List Value) (hp : qzH) (v : Option Value) (hpF : qzH), qzX f d mi pc ls st hp = some (v, hpF) → hp.1 ≤ hpF.1 ∧
    ∀ {p : Program} {e : Env} {s : State} {m : MethodId} {args : Array Value} {below : List Frame} {meth : Method} {c : Code} {G : qzGT} {D : va_G} {z0 : Nat} {S : Nat → Nat} {n0 nn : Nat} {ad0 ad : Nat → Nat} {lsS : Array Slot} {H : Heap} {locs : List Loc}, n0 ≤ hp.1 → nn ≤ hp.1 → qzAg nn ad0 ad → qzFx p G D z0 S s m args meth c mi → qzCx G D z0 S s mi ad lsS H locs ls st hp →
      W p l e (qzRm d (hpF.1 - n0) (qzSl hpF.1 - qzSl n0)) s m args below meth c H locs (hp.1 - n0) (qzSl hp.1 - qzSl n0) (MQ below (qzPost G D z0 S ad0 nn v hpF) args s (hpF.1 - n0) (qzSl hpF.1 - qzSl n0) (qzA0 z0)) (F0 m pc lsS (st.map (qzR ad))) := by
  intro f
  induction f with
  | zero => intro d mi pc ls st hp v hpF h; cases h
  | succ f ih =>
    intro d mi pc ls st hp v hpF h
    unfold qzX at h
    split at h
    · cases h
    · rename_i pc' ls' st' hp' hs
      obtain ⟨m1, hW⟩ := ih _ _ _ _ _ _ _ _ h
      unfold qzStep at hs
      split at hs
      · rename_i ins len hd
        have hmo : hp.1 ≤ hp'.1 := by
          rcases qzI_r hs with ⟨q, hq, hn⟩ | ⟨q, hq, -⟩ | ⟨q, hq, -⟩
          · cases hq; exact hn
          · cases hq
          · cases hq
        refine ⟨Nat.le_trans hmo m1, fun {p e s m args below meth c G D z0 S n0 nn ad0 ad lsS H locs} hn0 hnn hag F C => ?_⟩
        have r1 := qzSl_mono m1
        refine qz_go hTx F C hd hs (n0 := n0) (hp' := hp') ⟨hn0, by show hp'.1 - n0 ≤ hpF.1 - n0; omega, by show qzSl hp'.1 - qzSl n0 ≤ qzSl hpF.1 - qzSl n0; omega, by show 12 ≤ d + 12; omega, by show 400 ≤ 400 + 100 * d; omega⟩ ?_
        intro ad' lsS' H' locs' hag' C'
        exact hW (Nat.le_trans hn0 hmo) (Nat.le_trans hnn hmo) (hag.tr hag' hnn) F C'
      · cases hs
    · rename_i v' hs
      cases h
      refine ⟨Nat.le_refl _, fun {p e s m args below meth c G D z0 S n0 nn ad0 ad lsS H locs} hn0 hnn hag F C => ?_⟩
      unfold qzStep at hs
      split at hs
      · rename_i ins len hd
        rcases qzI_r hs with ⟨q, hq, hn⟩ | ⟨q, hq, -⟩ | ⟨q, hq, hr⟩
        · cases hq
        · cases hq
        · exact qz_end F C hag hd hr _ _
      · cases hs
    · rename_i mj as rest hs
      split at h
      · cases h
      · rename_i d'
        split at h
        · cases h
        · rename_i v1 hp1 hcal
          obtain ⟨m1, hWc⟩ := ih _ _ _ _ _ _ _ _ hcal
          obtain ⟨m2, hWr⟩ := ih _ _ _ _ _ _ _ _ h
          refine ⟨Nat.le_trans m1 m2, fun {p e s m args below meth c G D z0 S n0 nn ad0 ad lsS H locs} hn0 hnn hag F C => ?_⟩
          unfold qzStep at hs
          split at hs
          · rename_i ins len hd
            have r1 := qzSl_mono m1
            have r2 := qzSl_mono m2
            have r3 := qzSl_mono hn0
            have hRc : qzRc (qzRm (d' + 1) (hpF.1 - n0) (qzSl hpF.1 - qzSl n0)) d' n0 hp.1 hp1.1 := ⟨by show d' + 13 ≤ d' + 1 + 12; omega, by show 500 + 100 * d' ≤ 400 + 100 * (d' + 1); omega, by show hp.1 - n0 + (hp1.1 - hp.1) ≤ hpF.1 - n0; omega, by show qzSl hp.1 - qzSl n0 + (qzSl hp1.1 - qzSl hp.1) ≤ qzSl hpF.1 - qzSl n0; omega, hn0, m1⟩
            have hKK : qzKK p l e (qzRm (d' + 1) (hpF.1 - n0) (qzSl hpF.1 - qzSl n0)) s m args below meth c (MQ below (qzPost G D z0 S ad0 nn v hpF) args s (hpF.1 - n0) (qzSl hpF.1 - qzSl n0) (qzA0 z0)) G D z0 S mi n0 hp.1 ad (pc + 3) ls (v1.toList ++ rest) hp1 := fun ad' lsS' H' locs' hag' C' => hWr (Nat.le_trans hn0 m1) (Nat.le_trans hnn m1) (hag.tr hag' hnn) F C'
            have hmet : mj < 149 → (∀ w ∈ as, qzOk hp.1 w) → as.length ≤ (qzMd mj).2.2.1 → qzMet l G D z0 S ad d' mj as hp v1 hp1 := fun hmj has hal => qz_met hmj has hal C.2.2.1 C.2.2.2.2.1 C.2.2.2.1 (fun F' C' => hWc (Nat.le_refl _) (Nat.le_refl _) qzAg.rf F' C')
            have hokS : ∀ kd oc idx len, qzCall kd oc idx len st hp = (some (.inr (.inl (mj, as, rest))) : Option qzA) → qzMet l G D z0 S ad d' mj as hp v1 hp1 := by
              intro kd oc idx len hc
              obtain ⟨-, -, hmj, hkd, -, hcase⟩ := qzCall_inv hc
              obtain ⟨-, -, -, -, ⟨-, pm6, -⟩, -⟩ := qzPm_at hmj
              rcases hcase with ⟨h0, hlen, hst⟩ | ⟨h0, b, as1, rfl, hab, hlen, hst⟩
              · refine hmet hmj (fun w hw => C.2.1 w (by rw [hst]; exact List.mem_append_left _ (List.mem_reverse.mpr hw))) ?_
                rw [hlen]; split at pm6 <;> omega
              · refine hmet hmj (fun w hw => C.2.1 w ?_) ?_
                · rw [hst]
                  rcases List.mem_cons.mp hw with rfl | hw
                  · exact List.mem_append_right _ List.mem_cons_self
                  · exact List.mem_append_left _ (List.mem_reverse.mpr hw)
                · rw [List.length_cons, hlen]
                  rw [hkd, if_neg h0] at pm6
                  exact pm6
            rcases qzI_r hs with ⟨q, hq, hn⟩ | ⟨q, hq, hr⟩ | ⟨q, hq, hr⟩
            · cases hq
            · rcases hr with ⟨idx, rfl, hc⟩ | ⟨idx, rfl, hc⟩ | ⟨idx, rfl, hc⟩
              · exact qz_callS F C hd hc (hokS _ _ _ _ hc) hRc hKK
              · exact qz_callI F C hd hc (hokS _ _ _ _ hc) hRc hKK
              · exact qz_callV F C hd hc (hokS _ _ _ _ hc) hRc hKK
            · cases hq
          · cases hs
/-- the contract of a run, from its first place -/
theorem qz_contract {l : Launch} (hTx : qzTx l) {f d mj : Nat} {as : List Value} {hp hp1 : qzH} {v : Option Value} (h : qzX f d mj 0 (qzLoc mj as) [] hp = some (v, hp1)) {G : qzGT} {D : va_G} {z0 : Nat} {S : Nat → Nat} {ad : Nat → Nat} (hmj : mj < 149) (has : ∀ v ∈ as, qzOk hp.1 v) (hl : as.length ≤ (qzMd mj).2.2.1) (hw : qzWf hp) (h1 : hp.1 < 1000) (hc4 : ∀ i, ad (1000 + i) = S i) : qzMet l G D z0 S ad d mj as hp v hp1 :=
  qz_met hmj has hl hw h1 hc4 (fun F' C' => (qz_sound l hTx f d mj 0 _ _ hp v hp1 h).2 (Nat.le_refl _) (Nat.le_refl _) qzAg.rf F' C')
