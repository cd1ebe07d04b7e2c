/-! the law's run without fuel, by equations -/
theorem qyX_more {E : qyE} : ∀ (f k mi pc : Nat) (ls st : List Value) (hp : qzH) (r : Value × qzH), qyX E f k mi pc ls st hp = some r → qyX E (f + 1) k mi pc ls st hp = some r := by
  intro f
  induction f with
  | zero => intro k mi pc ls st hp r h; unfold qyX at h; cases h
  | succ f ih =>
    intro k mi pc ls st hp r h
    unfold qyX at h ⊢
    split at h
    · cases h
    · exact ih _ _ _ _ _ _ _ h
    · split at h
      · cases h
      · rename_i v hp1 hc
        split at h
        · rename_i hn
          rw [if_pos hn]
          exact ih _ _ _ _ _ _ _ h
        · cases h
    · split at h
      · cases h
      · split at h
        · cases h
        · rename_i v hp1 hc
          have h1 := ih _ _ _ _ _ _ _ hc
          have h2 := ih _ _ _ _ _ _ _ h
          first | (rw [h1]; exact h2) | (dsimp only; rw [h1]; exact h2)
    · split at h
      · cases h
      · rename_i x hx
        exact ih _ _ _ _ _ _ _ h
    · exact h
theorem qyX_le {E : qyE} {f g k mi pc : Nat} {ls st : List Value} {hp : qzH} {r : Value × qzH} (h : qyX E f k mi pc ls st hp = some r) (hg : f ≤ g) : qyX E g k mi pc ls st hp = some r := by
  obtain ⟨n, rfl⟩ := Nat.exists_eq_add_of_le hg
  clear hg
  induction n with
  | zero => exact h
  | succ n ih => exact qyX_more _ _ _ _ _ _ _ _ ih
noncomputable def qyV (E : qyE) (k mi pc : Nat) (ls st : List Value) (hp : qzH) : Option (Value × qzH) :=
  @dite _ (∃ f r, qyX E f k mi pc ls st hp = some r) (Classical.propDecidable _) (fun h => some (Classical.choose (Classical.choose_spec h))) (fun _ => none)
section QYV
variable {E : qyE} {k mi pc : Nat} {ls st : List Value} {hp : qzH}
theorem qyV_some {r : Value × qzH} (h : qyV E k mi pc ls st hp = some r) : ∃ f, qyX E f k mi pc ls st hp = some r := by
  unfold qyV at h
  split at h
  · rename_i hx
    cases h
    exact ⟨_, Classical.choose_spec (Classical.choose_spec hx)⟩
  · cases h
theorem qyV_of {f : Nat} {r : Value × qzH} (h : qyX E f k mi pc ls st hp = some r) : qyV E k mi pc ls st hp = some r := by
  cases hv : qyV E k mi pc ls st hp with
  | none =>
    unfold qyV at hv
    split at hv
    · cases hv
    · rename_i hx
      exact (hx ⟨f, r, h⟩).elim
  | some r' =>
    obtain ⟨g, hg⟩ := qyV_some hv
    have h1 := qyX_le h (Nat.le_max_left f g)
    have h2 := qyX_le hg (Nat.le_max_right f g)
    exact h2.symm.trans h1
theorem qyV_ext {k' mi' pc' : Nat} {ls' st' : List Value} {hp' : qzH} (h1 : ∀ r, qyV E k mi pc ls st hp = some r → qyV E k' mi' pc' ls' st' hp' = some r) (h2 : ∀ r, qyV E k' mi' pc' ls' st' hp' = some r → qyV E k mi pc ls st hp = some r) : qyV E k mi pc ls st hp = qyV E k' mi' pc' ls' st' hp' := by
  cases e1 : qyV E k mi pc ls st hp with
  | some r => exact (h1 r e1).symm
  | none =>
    cases e2 : qyV E k' mi' pc' ls' st' hp' with
    | none => rfl
    | some r => rw [h2 r e2] at e1; cases e1
theorem qyV_go {pc' : Nat} {ls' st' : List Value} (h : qyStep E mi pc ls st = some (.inl (pc', ls', st'))) : qyV E k mi pc ls st hp = qyV E k mi pc' ls' st' hp := by
  refine qyV_ext (fun r hr => ?_) (fun r hr => ?_)
  · obtain ⟨f, hf⟩ := qyV_some hr
    cases f with
    | zero => unfold qyX at hf; cases hf
    | succ f =>
      unfold qyX at hf
      rw [h] at hf
      exact qyV_of hf
  · obtain ⟨f, hf⟩ := qyV_some hr
    refine qyV_of (f := f + 1) ?_
    unfold qyX
    rw [h]
    exact hf
theorem qyV_ret {v : Value} (h : qyStep E mi pc ls st = some (.inr (.inr (.inr (.inr v))))) : qyV E k mi pc ls st hp = some (v, hp) := by
  refine qyV_of (f := 1) ?_
  unfold qyX
  rw [h]
theorem qyV_cls {mj : Nat} {as rest : List Value} (h : qyStep E mi pc ls st = some (.inr (.inl (mj, as, rest)))) : qyV E k mi pc ls st hp = (qzC 60 mj as hp).bind (fun r => if r.2.1 = hp.1 then qyV E k mi (pc + 3) ls (r.1.toList ++ rest) r.2 else none) := by
  cases hc : qzC 60 mj as hp with
  | none =>
    show qyV E k mi pc ls st hp = none
    cases hv : qyV E k mi pc ls st hp with
    | none => rfl
    | some r =>
      obtain ⟨f, hf⟩ := qyV_some hv
      cases f with
      | zero => unfold qyX at hf; cases hf
      | succ f =>
        unfold qyX at hf
        rw [h] at hf
        dsimp only at hf
        rw [hc] at hf
        cases hf
  | some r0 =>
    obtain ⟨v0, hp0⟩ := r0
    show qyV E k mi pc ls st hp = (if hp0.1 = hp.1 then qyV E k mi (pc + 3) ls (v0.toList ++ rest) hp0 else none)
    by_cases hn : hp0.1 = hp.1
    · rw [if_pos hn]
      refine qyV_ext (fun r hr => ?_) (fun r hr => ?_)
      · obtain ⟨f, hf⟩ := qyV_some hr
        cases f with
        | zero => unfold qyX at hf; cases hf
        | succ f =>
          unfold qyX at hf
          rw [h] at hf
          dsimp only at hf
          rw [hc] at hf
          dsimp only at hf
          rw [if_pos hn] at hf
          exact qyV_of hf
      · obtain ⟨f, hf⟩ := qyV_some hr
        refine qyV_of (f := f + 1) ?_
        unfold qyX
        rw [h]
        dsimp only
        rw [hc]
        dsimp only
        rw [if_pos hn]
        exact hf
    · rw [if_neg hn]
      cases hv : qyV E k mi pc ls st hp with
      | none => rfl
      | some r =>
        obtain ⟨f, hf⟩ := qyV_some hv
        cases f with
        | zero => unfold qyX at hf; cases hf
        | succ f =>
          unfold qyX at hf
          rw [h] at hf
          dsimp only at hf
          rw [hc] at hf
          dsimp only at hf
          rw [if_neg hn] at hf
          cases hf
theorem qyV_rate {rest : List Value} (h : qyStep E mi pc ls st = some (.inr (.inr (.inr (.inl rest))))) : qyV E k mi pc ls st hp = (qyRt hp).bind (fun x => qyV E k mi (pc + 3) ls (.double x :: rest) hp) := by
  cases hc : qyRt hp with
  | none =>
    show qyV E k mi pc ls st hp = none
    cases hv : qyV E k mi pc ls st hp with
    | none => rfl
    | some r =>
      obtain ⟨f, hf⟩ := qyV_some hv
      cases f with
      | zero => unfold qyX at hf; cases hf
      | succ f =>
        unfold qyX at hf
        rw [h] at hf
        dsimp only at hf
        rw [hc] at hf
        cases hf
  | some x =>
    show qyV E k mi pc ls st hp = qyV E k mi (pc + 3) ls (.double x :: rest) hp
    refine qyV_ext (fun r hr => ?_) (fun r hr => ?_)
    · obtain ⟨f, hf⟩ := qyV_some hr
      cases f with
      | zero => unfold qyX at hf; cases hf
      | succ f =>
        unfold qyX at hf
        rw [h] at hf
        dsimp only at hf
        rw [hc] at hf
        exact qyV_of hf
    · obtain ⟨f, hf⟩ := qyV_some hr
      refine qyV_of (f := f + 1) ?_
      unfold qyX
      rw [h]
      dsimp only
      rw [hc]
      exact hf
noncomputable def qyC (E : qyE) (k mq : Nat) (as : List Value) (hp : qzH) : Option (Value × qzH) := qyV E k mq 0 (qyLoc mq as) [] hp
theorem qyV_law {mq : Nat} {as rest : List Value} (h : qyStep E mi pc ls st = some (.inr (.inr (.inl (mq, as, rest))))) : qyV E (k + 1) mi pc ls st hp = (qyC E k mq as hp).bind (fun r => qyV E (k + 1) mi (pc + 3) ls (r.1 :: rest) r.2) := by
  cases hc : qyC E k mq as hp with
  | none =>
    show qyV E (k + 1) mi pc ls st hp = none
    cases hv : qyV E (k + 1) mi pc ls st hp with
    | none => rfl
    | some r =>
      obtain ⟨f, hf⟩ := qyV_some hv
      cases f with
      | zero => unfold qyX at hf; cases hf
      | succ f =>
        unfold qyX at hf
        rw [h] at hf
        dsimp only at hf
        split at hf
        · cases hf
        · rename_i v hp1 hq
          have := qyV_of hq
          unfold qyC at hc
          rw [this] at hc
          cases hc
  | some r0 =>
    show qyV E (k + 1) mi pc ls st hp = qyV E (k + 1) mi (pc + 3) ls (r0.1 :: rest) r0.2
    obtain ⟨g, hg⟩ := qyV_some hc
    refine qyV_ext (fun r hr => ?_) (fun r hr => ?_)
    · obtain ⟨f, hf⟩ := qyV_some hr
      cases f with
      | zero => unfold qyX at hf; cases hf
      | succ f =>
        unfold qyX at hf
        rw [h] at hf
        dsimp only at hf
        split at hf
        · cases hf
        · rename_i v hp1 hq
          have e1 := qyV_of hq
          have e2 : qyV E k mq 0 (qyLoc mq as) [] hp = some r0 := hc
          rw [e1] at e2
          cases e2
          exact qyV_of hf
    · obtain ⟨f, hf⟩ := qyV_some hr
      have h1 := qyX_le hg (Nat.le_max_right f g)
      have h2 := qyX_le hf (Nat.le_max_left f g)
      refine qyV_of (f := max f g + 1) ?_
      unfold qyX
      rw [h]
      dsimp only
      rw [h1]
      exact h2
end QYV
/-! a step, by its instruction -/
section QYW
variable {E : qyE} {k mi pc len : Nat} {ls st : List Value} {hp : qzH} {cc : ByteArray}
theorem qyStep_of {ins : Instr} (hc : (qyMd mi).2.1 = cc) (hd : decode cc pc = .ok (ins, len)) : qyStep E mi pc ls st = qyI E mi pc ins len ls st := by
  unfold qyStep
  rw [hc, hd]
theorem wv_push {ins : Instr} {w pc' : Nat} {v v' : Value} (hc : (qyMd mi).2.1 = cc) (hd : decode cc pc = .ok (ins, w)) (hi : qyI E mi pc ins w ls st = qyPush v w w pc ls st) (hv : v = v') (hp' : pc + w = pc') : qyV E k mi pc ls st hp = qyV E k mi pc' ls (v' :: st) hp := by
  subst hp' hv
  exact qyV_go (by rw [qyStep_of hc hd, hi]; unfold qyPush; rw [if_pos rfl]; rfl)
theorem wv_iload {ins : Instr} {w pc' i : Nat} {x : Int32} (hc : (qyMd mi).2.1 = cc) (hd : decode cc pc = .ok (ins, w)) (hi : qyI E mi pc ins w ls st = qyIload i w w pc ls st) (hl : ls[i]? = some (.int x)) (hp' : pc + w = pc') : qyV E k mi pc ls st hp = qyV E k mi pc' ls (.int x :: st) hp := by
  subst hp'
  exact qyV_go (by rw [qyStep_of hc hd, hi]; unfold qyIload; rw [if_pos rfl, hl]; rfl)
theorem wv_lload {ins : Instr} {w pc' i : Nat} {x : Int64} (hc : (qyMd mi).2.1 = cc) (hd : decode cc pc = .ok (ins, w)) (hi : qyI E mi pc ins w ls st = qyLload i w w pc ls st) (hl : ls[i]? = some (.long x)) (hp' : pc + w = pc') : qyV E k mi pc ls st hp = qyV E k mi pc' ls (.long x :: st) hp := by
  subst hp'
  exact qyV_go (by rw [qyStep_of hc hd, hi]; unfold qyLload; rw [if_pos rfl, hl]; rfl)
theorem wv_aload {ins : Instr} {w pc' i : Nat} {x : Nat} (hc : (qyMd mi).2.1 = cc) (hd : decode cc pc = .ok (ins, w)) (hi : qyI E mi pc ins w ls st = qyAload i w w pc ls st) (hl : ls[i]? = some (.ref x)) (hp' : pc + w = pc') : qyV E k mi pc ls st hp = qyV E k mi pc' ls (.ref x :: st) hp := by
  subst hp'
  exact qyV_go (by rw [qyStep_of hc hd, hi]; unfold qyAload; rw [if_pos rfl, hl]; rfl)
theorem wv_istore {ins : Instr} {w pc' i : Nat} {x : Int32} {ls' : List Value} (hc : (qyMd mi).2.1 = cc) (hd : decode cc pc = .ok (ins, w)) (hi : qyI E mi pc ins w ls (.int x :: st) = qyIstore mi i w w pc ls (.int x :: st)) (hl : i < ls.length) (hg : qyLg mi = true → qyPv ls i = true) (hs : ls.set i (.int x) = ls') (hp' : pc + w = pc') : qyV E k mi pc ls (.int x :: st) hp = qyV E k mi pc' ls' st hp := by
  subst hp' hs
  exact qyV_go (by rw [qyStep_of hc hd, hi]; unfold qyIstore; rw [if_pos ⟨rfl, hl, hg⟩]; rfl)
theorem wv_astore {ins : Instr} {w pc' i : Nat} {x : Nat} {ls' : List Value} (hc : (qyMd mi).2.1 = cc) (hd : decode cc pc = .ok (ins, w)) (hi : qyI E mi pc ins w ls (.ref x :: st) = qyAstore mi i w w pc ls (.ref x :: st)) (hl : i < ls.length) (hg : qyLg mi = true → qyPv ls i = true) (hs : ls.set i (.ref x) = ls') (hp' : pc + w = pc') : qyV E k mi pc ls (.ref x :: st) hp = qyV E k mi pc' ls' st hp := by
  subst hp' hs
  exact qyV_go (by rw [qyStep_of hc hd, hi]; unfold qyAstore; rw [if_pos ⟨rfl, hl, hg⟩]; rfl)
theorem wv_lstore {ins : Instr} {w pc' i : Nat} {x : Int64} {ls' : List Value} (hc : (qyMd mi).2.1 = cc) (hd : decode cc pc = .ok (ins, w)) (hi : qyI E mi pc ins w ls (.long x :: st) = qyLstore mi i w w pc ls (.long x :: st)) (hl : i + 1 < ls.length) (hg : qyLg mi = true ∧ qyPv ls i = true) (hs : (ls.set i (.long x)).set (i + 1) (.float 0) = ls') (hp' : pc + w = pc') : qyV E k mi pc ls (.long x :: st) hp = qyV E k mi pc' ls' st hp := by
  subst hp' hs
  exact qyV_go (by rw [qyStep_of hc hd, hi]; unfold qyLstore; rw [if_pos ⟨rfl, hl, hg⟩]; rfl)
theorem wv_bin {ins : Instr} {pc' : Nat} {f : Int32 → Int32 → Int32} {x y : Int32} (hc : (qyMd mi).2.1 = cc) (hd : decode cc pc = .ok (ins, 1)) (hi : qyI E mi pc ins 1 ls (.int y :: .int x :: st) = qyBin f 1 pc ls (.int y :: .int x :: st)) (hp' : pc + 1 = pc') : qyV E k mi pc ls (.int y :: .int x :: st) hp = qyV E k mi pc' ls (.int (f x y) :: st) hp := by
  subst hp'
  exact qyV_go (by rw [qyStep_of hc hd, hi]; unfold qyBin; rw [if_pos rfl]; rfl)
theorem wv_binL {ins : Instr} {pc' : Nat} {f : Int64 → Int64 → Int64} {x y : Int64} (hc : (qyMd mi).2.1 = cc) (hd : decode cc pc = .ok (ins, 1)) (hi : qyI E mi pc ins 1 ls (.long y :: .long x :: st) = qyBinL f 1 pc ls (.long y :: .long x :: st)) (hp' : pc + 1 = pc') : qyV E k mi pc ls (.long y :: .long x :: st) hp = qyV E k mi pc' ls (.long (f x y) :: st) hp := by
  subst hp'
  exact qyV_go (by rw [qyStep_of hc hd, hi]; unfold qyBinL; rw [if_pos rfl]; rfl)
theorem wv_binD {ins : Instr} {pc' : Nat} {f : Int32 → Int32 → Int32} {x y : Int32} (hc : (qyMd mi).2.1 = cc) (hd : decode cc pc = .ok (ins, 1)) (hi : qyI E mi pc ins 1 ls (.int y :: .int x :: st) = qyBinD f 1 pc ls (.int y :: .int x :: st)) (hp' : pc + 1 = pc') (hy : ¬ y = 0) : qyV E k mi pc ls (.int y :: .int x :: st) hp = qyV E k mi pc' ls (.int (f x y) :: st) hp := by
  subst hp'
  exact qyV_go (by rw [qyStep_of hc hd, hi]; unfold qyBinD; rw [if_pos rfl]; dsimp only; rw [if_neg hy]; rfl)
theorem wv_lcmp {pc' : Nat} {x y : Int64} (hc : (qyMd mi).2.1 = cc) (hd : decode cc pc = .ok (.lcmp, 1)) (hp' : pc + 1 = pc') : qyV E k mi pc ls (.long y :: .long x :: st) hp = qyV E k mi pc' ls (.int (lg_cmp x y) :: st) hp := by
  subst hp'
  exact qyV_go (by rw [qyStep_of hc hd]; show qyLcmp 1 pc ls (.long y :: .long x :: st) = _; unfold qyLcmp; rw [if_pos rfl]; rfl)
theorem wv_i2l {pc' : Nat} {x : Int32} (hc : (qyMd mi).2.1 = cc) (hd : decode cc pc = .ok (.i2l, 1)) (hp' : pc + 1 = pc') : qyV E k mi pc ls (.int x :: st) hp = qyV E k mi pc' ls (.long x.toInt64 :: st) hp := by
  subst hp'
  exact qyV_go (by rw [qyStep_of hc hd]; show qyI2l 1 pc ls (.int x :: st) = _; unfold qyI2l; rw [if_pos rfl]; rfl)
theorem wv_i2d {pc' : Nat} {x : Int32} (hc : (qyMd mi).2.1 = cc) (hd : decode cc pc = .ok (.i2d, 1)) (hp' : pc + 1 = pc') : qyV E k mi pc ls (.int x :: st) hp = qyV E k mi pc' ls (.double (FP.i2d x) :: st) hp := by
  subst hp'
  exact qyV_go (by rw [qyStep_of hc hd]; show qyI2d 1 pc ls (.int x :: st) = _; unfold qyI2d; rw [if_pos rfl]; rfl)
theorem wv_ddiv {pc' : Nat} {x y : UInt64} (hc : (qyMd mi).2.1 = cc) (hd : decode cc pc = .ok (.ddiv, 1)) (hp' : pc + 1 = pc') (hy : vf_n64 (FP.ddiv x y)) : qyV E k mi pc ls (.double y :: .double x :: st) hp = qyV E k mi pc' ls (.double (FP.ddiv x y) :: st) hp := by
  subst hp'
  unfold vf_n64 at hy
  exact qyV_go (by rw [qyStep_of hc hd]; show qyDdiv 1 pc ls (.double y :: .double x :: st) = _; unfold qyDdiv; rw [if_pos rfl]; dsimp only; rw [if_pos hy]; rfl)
theorem wv_dcmp {pc' : Nat} {x y : UInt64} {op : CmpOp} (hc : (qyMd mi).2.1 = cc) (hd : decode cc pc = .ok (.dcmp op, 1)) (hp' : pc + 1 = pc') : qyV E k mi pc ls (.double y :: .double x :: st) hp = qyV E k mi pc' ls (.int (Op.cmpValue (FP.dcmp x y) op) :: st) hp := by
  subst hp'
  exact qyV_go (by rw [qyStep_of hc hd]; show qyDcmp op 1 pc ls (.double y :: .double x :: st) = _; unfold qyDcmp; rw [if_pos rfl]; rfl)
theorem wv_iinc {pc' i : Nat} {n : Int} {z x : Int32} {ls' : List Value} (hc : (qyMd mi).2.1 = cc) (hd : decode cc pc = .ok (.iinc i n, 3)) (hl : ls[i]? = some (.int x)) (hg : qyLg mi = true → qyPv ls i = true) (hk : Int32.ofInt n = z) (hs : ls.set i (.int (x + z)) = ls') (hp' : pc + 3 = pc') : qyV E k mi pc ls st hp = qyV E k mi pc' ls' st hp := by
  subst hp' hk hs
  exact qyV_go (by rw [qyStep_of hc hd]; show qyIinc mi i n 3 pc ls st = _; unfold qyIinc; rw [if_pos ⟨rfl, hg⟩, hl]; rfl)
theorem qyBr_t {b : Bool} {off : Int} {tg : Nat} (ht : (pc : Int) + off = (tg : Int)) (hb : b = true) : qyBr b pc off ls st = qyGo tg ls st := by
  unfold qyBr
  rw [if_pos (by omega), if_pos hb]
  have : qzTg pc off = tg := by unfold qzTg; omega
  rw [this]
theorem qyBr_f {b : Bool} {off : Int} {tg : Nat} (ht : (pc : Int) + off = (tg : Int)) (hb : ¬ b = true) : qyBr b pc off ls st = qyGo (pc + 3) ls st := by
  unfold qyBr
  rw [if_pos (by omega), if_neg hb]
theorem wv_if1 {c : ClassFile.Cond} {off : Int} {tg pc' : Nat} {x : Int32} {P : Prop} [Decidable P] (hc : (qyMd mi).2.1 = cc) (hd : decode cc pc = .ok (.ifCond c off, 3)) (hP : qzC1 c x = decide P) (ht : (pc : Int) + off = (tg : Int)) (hp' : pc + 3 = pc') : qyV E k mi pc ls (.int x :: st) hp = if P then qyV E k mi tg ls st hp else qyV E k mi pc' ls st hp := by
  subst hp'
  split
  · rename_i h
    exact qyV_go (by rw [qyStep_of hc hd]; show qyIf1 c off 3 pc ls (.int x :: st) = _; unfold qyIf1; rw [if_pos rfl]; exact qyBr_t ht (by rw [hP]; simpa using h))
  · rename_i h
    exact qyV_go (by rw [qyStep_of hc hd]; show qyIf1 c off 3 pc ls (.int x :: st) = _; unfold qyIf1; rw [if_pos rfl]; exact qyBr_f ht (by rw [hP]; simpa using h))
theorem wv_if2 {c : ClassFile.Cond} {off : Int} {tg pc' : Nat} {x y : Int32} {P : Prop} [Decidable P] (hc : (qyMd mi).2.1 = cc) (hd : decode cc pc = .ok (.if_icmp c off, 3)) (hP : qzC2 c x y = decide P) (ht : (pc : Int) + off = (tg : Int)) (hp' : pc + 3 = pc') : qyV E k mi pc ls (.int y :: .int x :: st) hp = if P then qyV E k mi tg ls st hp else qyV E k mi pc' ls st hp := by
  subst hp'
  split
  · rename_i h
    exact qyV_go (by rw [qyStep_of hc hd]; show qyIf2 c off 3 pc ls (.int y :: .int x :: st) = _; unfold qyIf2; rw [if_pos rfl]; exact qyBr_t ht (by rw [hP]; simpa using h))
  · rename_i h
    exact qyV_go (by rw [qyStep_of hc hd]; show qyIf2 c off 3 pc ls (.int y :: .int x :: st) = _; unfold qyIf2; rw [if_pos rfl]; exact qyBr_f ht (by rw [hP]; simpa using h))
theorem wv_goto {off : Int} {tg : Nat} (hc : (qyMd mi).2.1 = cc) (hd : decode cc pc = .ok (.goto off, 3)) (ht : (pc : Int) + off = (tg : Int)) : qyV E k mi pc ls st hp = qyV E k mi tg ls st hp :=
  qyV_go (by
    rw [qyStep_of hc hd]
    show qyGoto off 3 pc ls st = _
    unfold qyGoto
    rw [if_pos ⟨rfl, by omega⟩]
    have : qzTg pc off = tg := by unfold qzTg; omega
    rw [this]; rfl)
theorem wv_ldc {idx pc' : Nat} {v : Int32} (hc : (qyMd mi).2.1 = cc) (hd : decode cc pc = .ok (.ldc idx, 2)) (hv : (idx = 8 ∧ v = 2147483647) ∨ (idx = 7 ∧ v = -1008671379)) (hp' : pc + 2 = pc') : qyV E k mi pc ls st hp = qyV E k mi pc' ls (.int v :: st) hp := by
  subst hp'
  refine qyV_go ?_
  rw [qyStep_of hc hd]
  show qyLdc idx 2 pc ls st = _
  unfold qyLdc
  rcases hv with ⟨rfl, rfl⟩ | ⟨rfl, rfl⟩ <;> rfl
theorem wv_ldc2 {idx pc' : Nat} {v : Int64} (hc : (qyMd mi).2.1 = cc) (hd : decode cc pc = .ok (.ldc2_w idx, 3)) (hv : (idx = 9 ∧ v = 397) ∨ (idx = 11 ∧ v = 31)) (hp' : pc + 3 = pc') : qyV E k mi pc ls st hp = qyV E k mi pc' ls (.long v :: st) hp := by
  subst hp'
  refine qyV_go ?_
  rw [qyStep_of hc hd]
  show qyLdc2 idx 3 pc ls st = _
  unfold qyLdc2
  rcases hv with ⟨rfl, rfl⟩ | ⟨rfl, rfl⟩ <;> rfl
theorem wv_alen {pc' : Nat} (hc : (qyMd mi).2.1 = cc) (hd : decode cc pc = .ok (.arraylength, 1)) (hp' : pc + 1 = pc') : qyV E k mi pc ls (.ref 1004 :: st) hp = qyV E k mi pc' ls (.int (Int32.ofNat E.1) :: st) hp := by
  subst hp'
  exact qyV_go (by rw [qyStep_of hc hd]; rfl)
theorem wv_iald {pc' : Nat} {i : Int32} (hc : (qyMd mi).2.1 = cc) (hd : decode cc pc = .ok (.iaload, 1)) (hp' : pc + 1 = pc') (hi : qzIn i E.1 = true) : qyV E k mi pc ls (.int i :: .ref 1004 :: st) hp = qyV E k mi pc' ls (.int (E.2 i.toNatClampNeg) :: st) hp := by
  subst hp'
  exact qyV_go (by rw [qyStep_of hc hd]; show qyIald E 1 pc ls (.int i :: .ref 1004 :: st) = _; unfold qyIald; rw [if_pos rfl]; dsimp only; rw [if_pos ⟨rfl, hi⟩]; rfl)
theorem wv_iret {v : Int32} {ty : FieldType} (hc : (qyMd mi).2.1 = cc) (hd : decode cc pc = .ok (.ireturn, 1)) (hr : (qyMd mi).2.2.2.1 = some ty) (hn : narrow ty (.int v) = .int v) : qyV E k mi pc ls [.int v] hp = some (.int v, hp) :=
  qyV_ret (by rw [qyStep_of hc hd]; show qyRet mi 1 [.int v] = _; unfold qyRet; rw [if_pos rfl]; dsimp only; rw [hr]; dsimp only; rw [if_pos hn])
theorem wv_lret {v : Int64} (hc : (qyMd mi).2.1 = cc) (hd : decode cc pc = .ok (.lreturn, 1)) (hr : (qyMd mi).2.2.2.1 = some .long) : qyV E k mi pc ls [.long v] hp = some (.long v, hp) :=
  qyV_ret (by rw [qyStep_of hc hd]; show qyLret mi 1 [.long v] = _; unfold qyLret; rw [if_pos ⟨rfl, hr⟩])
/-- a call of the class: as1 its ints -/
theorem wv_cls {idx mj n : Nat} {as1 : List Value} (hc : (qyMd mi).2.1 = cc) (hd : decode cc pc = .ok (.invokevirtual idx, 3)) (hf : qyFind qyCl idx = some mj) (h46 : ¬ mj = 46) (hn : (qzMd mj).2.2.2.2.2.1 = n) (hl : as1.length = n) (hi : as1.all qyInt = true) (h8 : qySz st ≤ 8) : qyV E k mi pc ls (as1.reverse ++ .ref 0 :: st) hp = (qzC 60 mj (.ref 0 :: as1) hp).bind (fun r => if r.2.1 = hp.1 then qyV E k mi (pc + 3) ls (r.1.toList ++ st) r.2 else none) := by
  refine qyV_cls ?_
  rw [qyStep_of hc hd]
  show qyVirt idx 3 (as1.reverse ++ .ref 0 :: st) = _
  have e1 : (as1.reverse ++ .ref 0 :: st).take n = as1.reverse := by rw [List.take_append_of_le_length (by rw [List.length_reverse]; omega), List.take_of_length_le (by rw [List.length_reverse]; omega)]
  have e2 : (as1.reverse ++ .ref 0 :: st).drop n = .ref 0 :: st := by
    have := List.drop_append_of_le_length (l₁ := as1.reverse) (l₂ := .ref 0 :: st) (i := n) (by rw [List.length_reverse]; omega)
    rw [this, List.drop_of_length_le (by rw [List.length_reverse]; omega), List.nil_append]
  unfold qyVirt
  rw [if_pos rfl, hf]
  dsimp only
  rw [if_neg h46, hn, e1, e2, if_pos ⟨by rw [List.length_append, List.length_reverse]; omega, by rw [List.all_reverse]; exact hi⟩]
  dsimp only
  rw [if_pos ⟨rfl, h8⟩, List.reverse_reverse]
theorem wv_rate (hc : (qyMd mi).2.1 = cc) (hd : decode cc pc = .ok (.invokevirtual 35, 3)) (h8 : qySz st ≤ 8) : qyV E k mi pc ls (.ref 0 :: st) hp = (qyRt hp).bind (fun x => qyV E k mi (pc + 3) ls (.double x :: st) hp) := by
  refine qyV_rate ?_
  rw [qyStep_of hc hd]
  show qyVirt 35 3 (.ref 0 :: st) = _
  unfold qyVirt
  rw [if_pos rfl, show qyFind qyCl 35 = some 46 from rfl]
  dsimp only
  rw [if_pos rfl, if_pos ⟨rfl, h8⟩]
theorem wv_law {idx mq n : Nat} {as : List Value} (hc : (qyMd mi).2.1 = cc) (hd : decode cc pc = .ok (.invokestatic idx, 3)) (hf : qyFind qyLl idx = some mq) (hn : (qyMd mq).2.2.2.2 = n) (hl : as.length = n) (hi : as.all (fun v => v.category == 1) = true) (h8 : qySz st ≤ 8) : qyV E (k + 1) mi pc ls (as.reverse ++ st) hp = (qyC E k mq as hp).bind (fun r => qyV E (k + 1) mi (pc + 3) ls (r.1 :: st) r.2) := by
  refine qyV_law ?_
  rw [qyStep_of hc hd]
  show qyStat idx 3 (as.reverse ++ st) = _
  have e1 : (as.reverse ++ st).take n = as.reverse := by rw [List.take_append_of_le_length (by rw [List.length_reverse]; omega), List.take_of_length_le (by rw [List.length_reverse]; omega)]
  have e2 : (as.reverse ++ st).drop n = st := by
    have := List.drop_append_of_le_length (l₁ := as.reverse) (l₂ := st) (i := n) (by rw [List.length_reverse]; omega)
    rw [this, List.drop_of_length_le (by rw [List.length_reverse]; omega), List.nil_append]
  unfold qyStat
  rw [if_pos rfl, hf]
  dsimp only
  rw [hn, e1, e2, if_pos ⟨by rw [List.length_append, List.length_reverse]; omega, by rw [List.all_reverse]; exact hi, h8⟩, List.reverse_reverse]
end QYW
