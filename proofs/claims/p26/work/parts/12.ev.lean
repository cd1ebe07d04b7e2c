/-! the run without fuel, by equations -/
theorem qzX_more : ∀ (f d mi pc : Nat) (ls st : List Value) (hp : qzH) (r : Option Value × qzH), qzX f d mi pc ls st hp = some r → qzX (f + 1) d mi pc ls st hp = some r := by
  intro f
  induction f with
  | zero => intro d mi pc ls st hp r h; cases h
  | succ f ih =>
    intro d mi pc ls st hp r h
    unfold qzX at h ⊢
    split at h
    · cases h
    · rename_i pc' ls' st' hp' hs
      exact ih _ _ _ _ _ _ _ h
    · exact h
    · rename_i mj as rest hs
      split at h
      · cases h
      · rename_i d'
        split at h
        · cases h
        · rename_i v hp1 hc
          have h1 := ih _ _ _ _ _ _ _ hc
          have h2 := ih _ _ _ _ _ _ _ h
          rw [h1]
          exact h2
theorem qzX_le {f g d mi pc : Nat} {ls st : List Value} {hp : qzH} {r : Option Value × qzH} (h : qzX f d mi pc ls st hp = some r) (hg : f ≤ g) : qzX g d mi pc ls st hp = some r := by
  obtain ⟨k, rfl⟩ := Nat.exists_eq_add_of_le hg
  clear hg
  induction k with
  | zero => exact h
  | succ k ih => exact qzX_more _ _ _ _ _ _ _ _ ih
noncomputable def qzV (d mi pc : Nat) (ls st : List Value) (hp : qzH) : Option (Option Value × qzH) :=
  @dite _ (∃ f r, qzX f d mi pc ls st hp = some r) (Classical.propDecidable _) (fun h => some (Classical.choose (Classical.choose_spec h))) (fun _ => none)
theorem qzV_some {d mi pc : Nat} {ls st : List Value} {hp : qzH} {r : Option Value × qzH} (h : qzV d mi pc ls st hp = some r) : ∃ f, qzX f d mi pc ls st hp = some r := by
  unfold qzV at h
  split at h
  · rename_i hx
    cases h
    exact ⟨_, Classical.choose_spec (Classical.choose_spec hx)⟩
  · cases h
theorem qzV_of {f d mi pc : Nat} {ls st : List Value} {hp : qzH} {r : Option Value × qzH} (h : qzX f d mi pc ls st hp = some r) : qzV d mi pc ls st hp = some r := by
  cases hv : qzV d mi pc ls st hp with
  | none =>
    unfold qzV at hv
    split at hv
    · cases hv
    · rename_i hx
      exact (hx ⟨f, r, h⟩).elim
  | some r' =>
    obtain ⟨g, hg⟩ := qzV_some hv
    have h1 := qzX_le h (Nat.le_max_left f g)
    have h2 := qzX_le hg (Nat.le_max_right f g)
    exact h2.symm.trans h1
theorem qzV_ext {d mi pc d' mi' pc' : Nat} {ls st ls' st' : List Value} {hp hp' : qzH} (h1 : ∀ r, qzV d mi pc ls st hp = some r → qzV d' mi' pc' ls' st' hp' = some r) (h2 : ∀ r, qzV d' mi' pc' ls' st' hp' = some r → qzV d mi pc ls st hp = some r) : qzV d mi pc ls st hp = qzV d' mi' pc' ls' st' hp' := by
  cases e1 : qzV d mi pc ls st hp with
  | some r => exact (h1 r e1).symm
  | none =>
    cases e2 : qzV d' mi' pc' ls' st' hp' with
    | none => rfl
    | some r => rw [h2 r e2] at e1; cases e1
theorem qzV_go {d mi pc pc' : Nat} {ls st ls' st' : List Value} {hp hp' : qzH} (h : qzStep mi pc ls st hp = some (.inl (pc', ls', st', hp'))) : qzV d mi pc ls st hp = qzV d mi pc' ls' st' hp' := by
  refine qzV_ext (fun r hr => ?_) (fun r hr => ?_)
  · obtain ⟨f, hf⟩ := qzV_some hr
    cases f with
    | zero => cases hf
    | succ f =>
      unfold qzX at hf
      rw [h] at hf
      exact qzV_of hf
  · obtain ⟨f, hf⟩ := qzV_some hr
    refine qzV_of (f := f + 1) ?_
    unfold qzX
    rw [h]
    exact hf
theorem qzV_ret {d mi pc : Nat} {ls st : List Value} {hp : qzH} {v : Option Value} (h : qzStep mi pc ls st hp = some (.inr (.inr v))) : qzV d mi pc ls st hp = some (v, hp) := by
  refine qzV_of (f := 1) ?_
  unfold qzX
  rw [h]
noncomputable def qzC (d mj : Nat) (as : List Value) (hp : qzH) : Option (Option Value × qzH) := qzV d mj 0 (qzLoc mj as) [] hp
theorem qzV_call {d mi pc mj : Nat} {ls st as rest : List Value} {hp : qzH} (h : qzStep mi pc ls st hp = some (.inr (.inl (mj, as, rest)))) : qzV (d + 1) mi pc ls st hp = (qzC d mj as hp).bind (fun r => qzV (d + 1) mi (pc + 3) ls (r.1.toList ++ rest) r.2) := by
  cases hc : qzC d mj as hp with
  | none =>
    show qzV (d + 1) mi pc ls st hp = none
    cases hv : qzV (d + 1) mi pc ls st hp with
    | none => rfl
    | some r =>
      obtain ⟨f, hf⟩ := qzV_some hv
      cases f with
      | zero => cases hf
      | succ f =>
        unfold qzX at hf
        rw [h] at hf
        dsimp only at hf
        split at hf
        · cases hf
        · rename_i v hp1 hq
          have := qzV_of hq
          unfold qzC at hc
          rw [this] at hc
          cases hc
  | some r0 =>
    show qzV (d + 1) mi pc ls st hp = qzV (d + 1) mi (pc + 3) ls (r0.1.toList ++ rest) r0.2
    obtain ⟨g, hg⟩ := qzV_some hc
    refine qzV_ext (fun r hr => ?_) (fun r hr => ?_)
    · obtain ⟨f, hf⟩ := qzV_some hr
      cases f with
      | zero => cases hf
      | succ f =>
        unfold qzX at hf
        rw [h] at hf
        dsimp only at hf
        split at hf
        · cases hf
        · rename_i v hp1 hq
          have e1 := qzV_of hq
          have e2 : qzV d mj 0 (qzLoc mj as) [] hp = some r0 := hc
          rw [e1] at e2
          cases e2
          exact qzV_of hf
    · obtain ⟨f, hf⟩ := qzV_some hr
      have h1 := qzX_le hg (Nat.le_max_right f g)
      have h2 := qzX_le hf (Nat.le_max_left f g)
      refine qzV_of (f := max f g + 1) ?_
      unfold qzX
      rw [h]
      dsimp only
      rw [h1]
      exact h2
/-- the contract of a call that the equations tell -/
theorem qzC_met {l : Launch} (hTx : qzTx l) {d mj : Nat} {as : List Value} {hp hp1 : qzH} {v : Option Value} (h : qzC d mj as hp = some (v, hp1)) {G : qzGT} {D : va_G} {z0 : Nat} {S : Nat → Nat} {ad : Nat → Nat} (hmj : mj < 149) (has : ∀ v ∈ as, qzOk hp.1 v) (hl : as.length ≤ (qzMd mj).2.2.1) (hw : qzWf hp) (h1 : hp.1 < 1000) (hc4 : ∀ i, ad (1000 + i) = S i) : qzMet l G D z0 S ad d mj as hp v hp1 := by
  obtain ⟨f, hf⟩ := qzV_some h
  exact qz_contract hTx hf hmj has hl hw h1 hc4
/-! a step, by its instruction -/
section QV
variable {d mi pc len : Nat} {ls st : List Value} {hp : qzH} {cc : ByteArray}
theorem qzStep_of {ins : Instr} (hc : (qzMd mi).2.1 = cc) (hd : decode cc pc = .ok (ins, len)) : qzStep mi pc ls st hp = qzI mi pc ins len ls st hp := by
  unfold qzStep
  rw [hc, hd]
theorem qv_push {ins : Instr} {w pc' : Nat} {v : Value} (hc : (qzMd mi).2.1 = cc) (hd : decode cc pc = .ok (ins, w)) (hi : qzI mi pc ins w ls st hp = qzPush v w w pc ls st hp) (hp' : pc + w = pc') : qzV d mi pc ls st hp = qzV d mi pc' ls (v :: st) hp := by
  subst hp'
  exact qzV_go (by rw [qzStep_of hc hd, hi]; unfold qzPush; rw [if_pos rfl]; rfl)
theorem qv_iload {ins : Instr} {w pc' i : Nat} {x : Int32} (hc : (qzMd mi).2.1 = cc) (hd : decode cc pc = .ok (ins, w)) (hi : qzI mi pc ins w ls st hp = qzIload i w w pc ls st hp) (hl : ls[i]? = some (.int x)) (hp' : pc + w = pc') : qzV d mi pc ls st hp = qzV d mi pc' ls (.int x :: st) hp := by
  subst hp'
  exact qzV_go (by rw [qzStep_of hc hd, hi]; unfold qzIload; rw [if_pos rfl, hl]; rfl)
theorem qv_aload {ins : Instr} {w pc' i : Nat} {x : Nat} (hc : (qzMd mi).2.1 = cc) (hd : decode cc pc = .ok (ins, w)) (hi : qzI mi pc ins w ls st hp = qzAload i w w pc ls st hp) (hl : ls[i]? = some (.ref x)) (hp' : pc + w = pc') : qzV d mi pc ls st hp = qzV d mi pc' ls (.ref x :: st) hp := by
  subst hp'
  exact qzV_go (by rw [qzStep_of hc hd, hi]; unfold qzAload; rw [if_pos rfl, hl]; rfl)
theorem qv_aloadN {ins : Instr} {w pc' i : Nat} (hc : (qzMd mi).2.1 = cc) (hd : decode cc pc = .ok (ins, w)) (hi : qzI mi pc ins w ls st hp = qzAload i w w pc ls st hp) (hl : ls[i]? = some .null) (hp' : pc + w = pc') : qzV d mi pc ls st hp = qzV d mi pc' ls (.null :: st) hp := by
  subst hp'
  exact qzV_go (by rw [qzStep_of hc hd, hi]; unfold qzAload; rw [if_pos rfl, hl]; rfl)
theorem qv_istore {ins : Instr} {w pc' i : Nat} {x : Int32} {ls' : List Value} (hc : (qzMd mi).2.1 = cc) (hd : decode cc pc = .ok (ins, w)) (hi : qzI mi pc ins w ls (.int x :: st) hp = qzIstore i w w pc ls (.int x :: st) hp) (hl : i < ls.length) (hs : ls.set i (.int x) = ls') (hp' : pc + w = pc') : qzV d mi pc ls (.int x :: st) hp = qzV d mi pc' ls' st hp := by
  subst hp' hs
  exact qzV_go (by rw [qzStep_of hc hd, hi]; unfold qzIstore; rw [if_pos ⟨rfl, hl⟩]; rfl)
theorem qv_astore {ins : Instr} {w pc' i : Nat} {x : Nat} {ls' : List Value} (hc : (qzMd mi).2.1 = cc) (hd : decode cc pc = .ok (ins, w)) (hi : qzI mi pc ins w ls (.ref x :: st) hp = qzAstore i w w pc ls (.ref x :: st) hp) (hl : i < ls.length) (hs : ls.set i (.ref x) = ls') (hp' : pc + w = pc') : qzV d mi pc ls (.ref x :: st) hp = qzV d mi pc' ls' st hp := by
  subst hp' hs
  exact qzV_go (by rw [qzStep_of hc hd, hi]; unfold qzAstore; rw [if_pos ⟨rfl, hl⟩]; rfl)
theorem qv_astoreN {ins : Instr} {w pc' i : Nat} {ls' : List Value} (hc : (qzMd mi).2.1 = cc) (hd : decode cc pc = .ok (ins, w)) (hi : qzI mi pc ins w ls (.null :: st) hp = qzAstore i w w pc ls (.null :: st) hp) (hl : i < ls.length) (hs : ls.set i .null = ls') (hp' : pc + w = pc') : qzV d mi pc ls (.null :: st) hp = qzV d mi pc' ls' st hp := by
  subst hp' hs
  exact qzV_go (by rw [qzStep_of hc hd, hi]; unfold qzAstore; rw [if_pos ⟨rfl, hl⟩]; rfl)
theorem qv_bin {ins : Instr} {pc' : Nat} {f : Int32 → Int32 → Int32} {x y : Int32} (hc : (qzMd mi).2.1 = cc) (hd : decode cc pc = .ok (ins, 1)) (hi : qzI mi pc ins 1 ls (.int y :: .int x :: st) hp = qzBin f 1 pc ls (.int y :: .int x :: st) hp) (hp' : pc + 1 = pc') : qzV d mi pc ls (.int y :: .int x :: st) hp = qzV d mi pc' ls (.int (f x y) :: st) hp := by
  subst hp'
  exact qzV_go (by rw [qzStep_of hc hd, hi]; unfold qzBin; rw [if_pos rfl]; rfl)
theorem qv_binD {ins : Instr} {pc' : Nat} {f : Int32 → Int32 → Int32} {x y : Int32} (hc : (qzMd mi).2.1 = cc) (hd : decode cc pc = .ok (ins, 1)) (hi : qzI mi pc ins 1 ls (.int y :: .int x :: st) hp = qzBinD f 1 pc ls (.int y :: .int x :: st) hp) (hp' : pc + 1 = pc') (hy : ¬ y = 0) : qzV d mi pc ls (.int y :: .int x :: st) hp = qzV d mi pc' ls (.int (f x y) :: st) hp := by
  subst hp'
  exact qzV_go (by rw [qzStep_of hc hd, hi]; unfold qzBinD; rw [if_pos rfl]; dsimp only; rw [if_neg hy]; rfl)
theorem qv_i2c {pc' : Nat} {x : Int32} (hc : (qzMd mi).2.1 = cc) (hd : decode cc pc = .ok (.i2c, 1)) (hp' : pc + 1 = pc') : qzV d mi pc ls (.int x :: st) hp = qzV d mi pc' ls (.int (x.toUInt32 % 65536).toInt32 :: st) hp := by
  subst hp'
  exact qzV_go (by rw [qzStep_of hc hd]; show qzI2c 1 pc ls (.int x :: st) hp = _; unfold qzI2c; rw [if_pos rfl]; rfl)
theorem qv_iinc {pc' i : Nat} {n : Int} {k x : Int32} {ls' : List Value} (hc : (qzMd mi).2.1 = cc) (hd : decode cc pc = .ok (.iinc i n, 3)) (hl : ls[i]? = some (.int x)) (hk : Int32.ofInt n = k) (hs : ls.set i (.int (x + k)) = ls') (hp' : pc + 3 = pc') : qzV d mi pc ls st hp = qzV d mi pc' ls' st hp := by
  subst hp' hk hs
  exact qzV_go (by rw [qzStep_of hc hd]; show qzIinc i n 3 pc ls st hp = _; unfold qzIinc; rw [if_pos rfl, hl]; rfl)
theorem qv_dup {pc' : Nat} {v : Value} (hc : (qzMd mi).2.1 = cc) (hd : decode cc pc = .ok (.dup, 1)) (hp' : pc + 1 = pc') : qzV d mi pc ls (v :: st) hp = qzV d mi pc' ls (v :: v :: st) hp := by
  subst hp'
  exact qzV_go (by rw [qzStep_of hc hd]; show qzDup 1 pc ls (v :: st) hp = _; unfold qzDup; rw [if_pos rfl]; rfl)
theorem qv_dup2 {pc' : Nat} {v w : Value} (hc : (qzMd mi).2.1 = cc) (hd : decode cc pc = .ok (.dup2, 1)) (hp' : pc + 1 = pc') : qzV d mi pc ls (v :: w :: st) hp = qzV d mi pc' ls (v :: w :: v :: w :: st) hp := by
  subst hp'
  exact qzV_go (by rw [qzStep_of hc hd]; show qzDup2 1 pc ls (v :: w :: st) hp = _; unfold qzDup2; rw [if_pos rfl]; rfl)
theorem qv_pop {pc' : Nat} {v : Value} (hc : (qzMd mi).2.1 = cc) (hd : decode cc pc = .ok (.pop, 1)) (hp' : pc + 1 = pc') : qzV d mi pc ls (v :: st) hp = qzV d mi pc' ls st hp := by
  subst hp'
  exact qzV_go (by rw [qzStep_of hc hd]; show qzPop 1 pc ls (v :: st) hp = _; unfold qzPop; rw [if_pos rfl]; rfl)
theorem qzBr_t {b : Bool} {off : Int} {tg : Nat} (ht : (pc : Int) + off = (tg : Int)) (hb : b = true) : qzBr b pc off ls st hp = qzGo tg ls st hp := by
  unfold qzBr
  rw [if_pos (by omega), if_pos hb]
  have : qzTg pc off = tg := by unfold qzTg; omega
  rw [this]
theorem qzBr_f {b : Bool} {off : Int} {tg : Nat} (ht : (pc : Int) + off = (tg : Int)) (hb : ¬ b = true) : qzBr b pc off ls st hp = qzGo (pc + 3) ls st hp := by
  unfold qzBr
  rw [if_pos (by omega), if_neg hb]
theorem qv_if1 {k : ClassFile.Cond} {off : Int} {tg pc' : Nat} {x : Int32} {P : Prop} [Decidable P] (hc : (qzMd mi).2.1 = cc) (hd : decode cc pc = .ok (.ifCond k off, 3)) (hP : qzC1 k x = decide P) (ht : (pc : Int) + off = (tg : Int)) (hp' : pc + 3 = pc') : qzV d mi pc ls (.int x :: st) hp = if P then qzV d mi tg ls st hp else qzV d mi pc' ls st hp := by
  subst hp'
  split
  · rename_i h
    exact qzV_go (by rw [qzStep_of hc hd]; show qzIf1 k off 3 pc ls (.int x :: st) hp = _; unfold qzIf1; rw [if_pos rfl]; exact qzBr_t ht (by rw [hP]; simpa using h))
  · rename_i h
    exact qzV_go (by rw [qzStep_of hc hd]; show qzIf1 k off 3 pc ls (.int x :: st) hp = _; unfold qzIf1; rw [if_pos rfl]; exact qzBr_f ht (by rw [hP]; simpa using h))
theorem qv_if2 {k : ClassFile.Cond} {off : Int} {tg pc' : Nat} {x y : Int32} {P : Prop} [Decidable P] (hc : (qzMd mi).2.1 = cc) (hd : decode cc pc = .ok (.if_icmp k off, 3)) (hP : qzC2 k x y = decide P) (ht : (pc : Int) + off = (tg : Int)) (hp' : pc + 3 = pc') : qzV d mi pc ls (.int y :: .int x :: st) hp = if P then qzV d mi tg ls st hp else qzV d mi pc' ls st hp := by
  subst hp'
  split
  · rename_i h
    exact qzV_go (by rw [qzStep_of hc hd]; show qzIf2 k off 3 pc ls (.int y :: .int x :: st) hp = _; unfold qzIf2; rw [if_pos rfl]; exact qzBr_t ht (by rw [hP]; simpa using h))
  · rename_i h
    exact qzV_go (by rw [qzStep_of hc hd]; show qzIf2 k off 3 pc ls (.int y :: .int x :: st) hp = _; unfold qzIf2; rw [if_pos rfl]; exact qzBr_f ht (by rw [hP]; simpa using h))
theorem qv_goto {off : Int} {tg : Nat} (hc : (qzMd mi).2.1 = cc) (hd : decode cc pc = .ok (.goto off, 3)) (ht : (pc : Int) + off = (tg : Int)) : qzV d mi pc ls st hp = qzV d mi tg ls st hp :=
  qzV_go (by
    rw [qzStep_of hc hd]
    show qzGoto off 3 pc ls st hp = _
    unfold qzGoto
    rw [if_pos ⟨rfl, by omega⟩]
    have : qzTg pc off = tg := by unfold qzTg; omega
    rw [this]; rfl)
theorem qv_ifnullR {off : Int} {pc' : Nat} {x : Nat} (hc : (qzMd mi).2.1 = cc) (hd : decode cc pc = .ok (.ifnull off, 3)) (ht : 0 ≤ (pc : Int) + off) (hp' : pc + 3 = pc') : qzV d mi pc ls (.ref x :: st) hp = qzV d mi pc' ls st hp := by
  subst hp'
  exact qzV_go (by rw [qzStep_of hc hd]; show qzIfN true off 3 pc ls (.ref x :: st) hp = _; unfold qzIfN; rw [if_pos rfl]; show qzBr false pc off ls st hp = _; unfold qzBr; rw [if_pos ht]; rfl)
theorem qv_ifnullN {off : Int} {tg : Nat} (hc : (qzMd mi).2.1 = cc) (hd : decode cc pc = .ok (.ifnull off, 3)) (ht : (pc : Int) + off = (tg : Int)) : qzV d mi pc ls (.null :: st) hp = qzV d mi tg ls st hp :=
  qzV_go (by rw [qzStep_of hc hd]; show qzIfN true off 3 pc ls (.null :: st) hp = _; unfold qzIfN; rw [if_pos rfl]; exact qzBr_t ht rfl)
theorem qv_ifnonnullR {off : Int} {tg : Nat} {x : Nat} (hc : (qzMd mi).2.1 = cc) (hd : decode cc pc = .ok (.ifnonnull off, 3)) (ht : (pc : Int) + off = (tg : Int)) : qzV d mi pc ls (.ref x :: st) hp = qzV d mi tg ls st hp :=
  qzV_go (by rw [qzStep_of hc hd]; show qzIfN false off 3 pc ls (.ref x :: st) hp = _; unfold qzIfN; rw [if_pos rfl]; exact qzBr_t ht rfl)
theorem qv_ifnonnullN {off : Int} {pc' : Nat} (hc : (qzMd mi).2.1 = cc) (hd : decode cc pc = .ok (.ifnonnull off, 3)) (ht : 0 ≤ (pc : Int) + off) (hp' : pc + 3 = pc') : qzV d mi pc ls (.null :: st) hp = qzV d mi pc' ls st hp := by
  subst hp'
  exact qzV_go (by rw [qzStep_of hc hd]; show qzIfN false off 3 pc ls (.null :: st) hp = _; unfold qzIfN; rw [if_pos rfl]; show qzBr false pc off ls st hp = _; unfold qzBr; rw [if_pos ht]; rfl)
theorem qv_tsw {dd lo hi : Int} {offs : Array Int} {x : Int32} {tg : Nat} (hc : (qzMd mi).2.1 = cc) (hd : decode cc pc = .ok (.tableswitch dd lo hi offs, len)) (ht : (if x.toInt < lo ∨ hi < x.toInt then some dd else offs[(x.toInt - lo).toNat]?) = some ((tg : Int) - (pc : Int))) : qzV d mi pc ls (.int x :: st) hp = qzV d mi tg ls st hp := by
  refine qzV_go ?_
  rw [qzStep_of hc hd]
  show qzTsw dd lo hi offs pc ls (.int x :: st) hp = _
  unfold qzTsw
  dsimp only
  have e : ∀ o : Int, o = (tg : Int) - (pc : Int) → (if 0 ≤ (pc : Int) + o then qzGo (qzTg pc o) ls st hp else none) = some (.inl (tg, ls, st, hp)) := by
    intro o ho
    rw [if_pos (by omega)]
    have : qzTg pc o = tg := by unfold qzTg; omega
    rw [this]; rfl
  split at ht
  · rename_i hx
    rw [if_pos hx]
    exact e dd (Option.some.inj ht)
  · rename_i hx
    rw [if_neg hx, ht]
    exact e _ rfl
theorem qv_iald {pc' a : Nat} {i : Int32} (hc : (qzMd mi).2.1 = cc) (hd : decode cc pc = .ok (.iaload, 1)) (hp' : pc + 1 = pc') (ha : qzArr 4 a hp.1 = true) (hi : qzIn i (qzk a).2 = true) : qzV d mi pc ls (.int i :: .ref a :: st) hp = qzV d mi pc' ls (.int (hp.2.2 a i.toNatClampNeg) :: st) hp := by
  subst hp'
  exact qzV_go (by rw [qzStep_of hc hd]; show qzIald 1 pc ls (.int i :: .ref a :: st) hp = _; unfold qzIald; rw [if_pos rfl]; dsimp only; rw [if_pos ha, if_pos hi]; rfl)
theorem qv_ialdS {pc' a : Nat} {i : Int32} (hc : (qzMd mi).2.1 = cc) (hd : decode cc pc = .ok (.iaload, 1)) (hp' : pc + 1 = pc') (hn : hp.1 ≤ 1000) (ha : 1000 ≤ a ∧ a < 1003) (hi : qzIn i 3 = true) : qzV d mi pc ls (.int i :: .ref a :: st) hp = qzV d mi pc' ls (.int (qzSv (a - 1000) i.toNatClampNeg) :: st) hp := by
  subst hp'
  have h0 : ¬ qzArr 4 a hp.1 = true := fun q => by
    have := (qzArr_ok q).1
    omega
  exact qzV_go (by rw [qzStep_of hc hd]; show qzIald 1 pc ls (.int i :: .ref a :: st) hp = _; unfold qzIald; rw [if_pos rfl]; dsimp only; rw [if_neg h0, if_pos ha, if_pos hi]; rfl)
theorem qv_cald {pc' a : Nat} {i : Int32} (hc : (qzMd mi).2.1 = cc) (hd : decode cc pc = .ok (.caload, 1)) (hp' : pc + 1 = pc') (ha : qzArr 5 a hp.1 = true) (hi : qzIn i (qzk a).2 = true) : qzV d mi pc ls (.int i :: .ref a :: st) hp = qzV d mi pc' ls (.int (hp.2.2 a i.toNatClampNeg) :: st) hp := by
  subst hp'
  exact qzV_go (by rw [qzStep_of hc hd]; show qzCald 1 pc ls (.int i :: .ref a :: st) hp = _; unfold qzCald; rw [if_pos rfl]; dsimp only; rw [if_pos ha, if_pos hi]; rfl)
theorem qv_aald {pc' a : Nat} {i : Int32} (hc : (qzMd mi).2.1 = cc) (hd : decode cc pc = .ok (.aaload, 1)) (hp' : pc + 1 = pc') (ha : qzArr 6 a hp.1 = true) (hi : qzIn i (qzk a).2 = true) : qzV d mi pc ls (.int i :: .ref a :: st) hp = qzV d mi pc' ls (va_rf (hp.2.1 a i.toNatClampNeg) :: st) hp := by
  subst hp'
  exact qzV_go (by rw [qzStep_of hc hd]; show qzAald 1 pc ls (.int i :: .ref a :: st) hp = _; unfold qzAald; rw [if_pos rfl]; dsimp only; rw [if_pos ha, if_pos hi]; rfl)
theorem qv_iast {pc' a : Nat} {i x : Int32} (hc : (qzMd mi).2.1 = cc) (hd : decode cc pc = .ok (.iastore, 1)) (hp' : pc + 1 = pc') (ha : qzArr 4 a hp.1 = true) (hi : qzIn i (qzk a).2 = true) : qzV d mi pc ls (.int x :: .int i :: .ref a :: st) hp = qzV d mi pc' ls st (hp.1, hp.2.1, qzUp hp.2.2 a i.toNatClampNeg x) := by
  subst hp'
  exact qzV_go (by rw [qzStep_of hc hd]; show qzIast 1 pc ls (.int x :: .int i :: .ref a :: st) hp = _; unfold qzIast; rw [if_pos rfl]; dsimp only; rw [if_pos ha, if_pos hi]; rfl)
theorem qv_cast {pc' a : Nat} {i x : Int32} (hc : (qzMd mi).2.1 = cc) (hd : decode cc pc = .ok (.castore, 1)) (hp' : pc + 1 = pc') (ha : qzArr 5 a hp.1 = true) (hi : qzIn i (qzk a).2 = true) : qzV d mi pc ls (.int x :: .int i :: .ref a :: st) hp = qzV d mi pc' ls st (hp.1, hp.2.1, qzUp hp.2.2 a i.toNatClampNeg (vp_nar .char x)) := by
  subst hp'
  exact qzV_go (by rw [qzStep_of hc hd]; show qzCast 1 pc ls (.int x :: .int i :: .ref a :: st) hp = _; unfold qzCast; rw [if_pos rfl]; dsimp only; rw [if_pos ha, if_pos hi]; rfl)
theorem qv_aast {pc' a v : Nat} {i : Int32} (hc : (qzMd mi).2.1 = cc) (hd : decode cc pc = .ok (.aastore, 1)) (hp' : pc + 1 = pc') (ha : qzArr 6 a hp.1 = true) (hv : qzArr 0 v hp.1 = true) (hi : qzIn i (qzk a).2 = true) : qzV d mi pc ls (.ref v :: .int i :: .ref a :: st) hp = qzV d mi pc' ls st (hp.1, qzUp hp.2.1 a i.toNatClampNeg (some v), hp.2.2) := by
  subst hp'
  exact qzV_go (by rw [qzStep_of hc hd]; show qzAast 1 pc ls (.ref v :: .int i :: .ref a :: st) hp = _; unfold qzAast; rw [if_pos rfl]; dsimp only; rw [if_pos ⟨ha, hv⟩, if_pos hi]; rfl)
theorem qv_alen {pc' a : Nat} (hc : (qzMd mi).2.1 = cc) (hd : decode cc pc = .ok (.arraylength, 1)) (hp' : pc + 1 = pc') (ha : qzArr 4 a hp.1 = true ∨ qzArr 5 a hp.1 = true ∨ qzArr 6 a hp.1 = true) : qzV d mi pc ls (.ref a :: st) hp = qzV d mi pc' ls (.int (Int32.ofNat (qzk a).2) :: st) hp := by
  subst hp'
  exact qzV_go (by rw [qzStep_of hc hd]; show qzAlen 1 pc ls (.ref a :: st) hp = _; unfold qzAlen; rw [if_pos rfl]; dsimp only; rw [if_pos ha]; rfl)
theorem qv_alenS {pc' a : Nat} (hc : (qzMd mi).2.1 = cc) (hd : decode cc pc = .ok (.arraylength, 1)) (hp' : pc + 1 = pc') (hn : hp.1 ≤ 1000) (ha : 1000 ≤ a ∧ a < 1003) : qzV d mi pc ls (.ref a :: st) hp = qzV d mi pc' ls (.int 3 :: st) hp := by
  subst hp'
  have h0 : ∀ k, ¬ qzArr k a hp.1 = true := fun k q => by
    have := (qzArr_ok q).1
    omega
  exact qzV_go (by rw [qzStep_of hc hd]; show qzAlen 1 pc ls (.ref a :: st) hp = _; unfold qzAlen; rw [if_pos rfl]; dsimp only; rw [if_neg (fun q => q.elim (h0 4) (fun q => q.elim (h0 5) (h0 6))), if_pos ha]; rfl)
theorem qv_getI {pc' a idx oc ci k : Nat} (hc : (qzMd mi).2.1 = cc) (hd : decode cc pc = .ok (.getfield idx, 3)) (hoc : (qzMd mi).2.2.2.2.2.2 = oc) (hf : qzFind qzFl oc idx = some (ci, k)) (h4 : ci < 4 ∧ qzRef ci k = false) (hp' : pc + 3 = pc') (ha : qzArr ci a hp.1 = true) : qzV d mi pc ls (.ref a :: st) hp = qzV d mi pc' ls (.int (hp.2.2 a k) :: st) hp := by
  subst hp' hoc
  exact qzV_go (by rw [qzStep_of hc hd]; show qzGetf _ idx 3 pc ls (.ref a :: st) hp = _; unfold qzGetf; rw [if_pos rfl]; dsimp only; rw [hf]; dsimp only; rw [if_pos ⟨ha, h4.1⟩, h4.2]; rfl)
theorem qv_getR {pc' a idx oc ci k : Nat} (hc : (qzMd mi).2.1 = cc) (hd : decode cc pc = .ok (.getfield idx, 3)) (hoc : (qzMd mi).2.2.2.2.2.2 = oc) (hf : qzFind qzFl oc idx = some (ci, k)) (h4 : ci < 4 ∧ qzRef ci k = true) (hp' : pc + 3 = pc') (ha : qzArr ci a hp.1 = true) : qzV d mi pc ls (.ref a :: st) hp = qzV d mi pc' ls (va_rf (hp.2.1 a k) :: st) hp := by
  subst hp' hoc
  exact qzV_go (by rw [qzStep_of hc hd]; show qzGetf _ idx 3 pc ls (.ref a :: st) hp = _; unfold qzGetf; rw [if_pos rfl]; dsimp only; rw [hf]; dsimp only; rw [if_pos ⟨ha, h4.1⟩, h4.2]; rfl)
theorem qv_putI {pc' a idx oc ci k : Nat} {x : Int32} (hc : (qzMd mi).2.1 = cc) (hd : decode cc pc = .ok (.putfield idx, 3)) (hoc : (qzMd mi).2.2.2.2.2.2 = oc) (hf : qzFind qzFl oc idx = some (ci, k)) (h4 : ci < 4 ∧ qzRef ci k = false ∧ (qzTs ci k).2.2.2 = false) (hp' : pc + 3 = pc') (ha : qzArr ci a hp.1 = true) (hn : narrow (qzTy ci k) (.int x) = .int x ∧ fits (qzTy ci k) (.int x) = true) : qzV d mi pc ls (.int x :: .ref a :: st) hp = qzV d mi pc' ls st (hp.1, hp.2.1, qzUp hp.2.2 a k x) := by
  subst hp' hoc
  exact qzV_go (by rw [qzStep_of hc hd]; show qzPutf mi _ idx 3 pc ls (.int x :: .ref a :: st) hp = _; unfold qzPutf; rw [if_pos rfl]; dsimp only; rw [hf]; dsimp only; rw [if_pos ⟨ha, h4.1⟩, h4.2.1, h4.2.2, if_neg (by decide), if_neg (by decide), if_pos hn]; rfl)
theorem qv_gets {pc' idx oc a : Nat} (hc : (qzMd mi).2.1 = cc) (hd : decode cc pc = .ok (.getstatic idx, 3)) (hoc : (qzMd mi).2.2.2.2.2.2 = oc) (hg : qzGets oc idx 3 pc ls st hp = qzGo (pc + 3) ls (.ref a :: st) hp) (hp' : pc + 3 = pc') : qzV d mi pc ls st hp = qzV d mi pc' ls (.ref a :: st) hp := by
  subst hp' hoc
  exact qzV_go (by rw [qzStep_of hc hd]; exact hg)
theorem qv_ldc {pc' idx oc : Nat} {x : Int32} (hc : (qzMd mi).2.1 = cc) (hd : decode cc pc = .ok (.ldc idx, 2)) (hoc : (qzMd mi).2.2.2.2.2.2 = oc) (hg : qzLdc oc idx 2 pc ls st hp = qzGo (pc + 2) ls (.int x :: st) hp) (hp' : pc + 2 = pc') : qzV d mi pc ls st hp = qzV d mi pc' ls (.int x :: st) hp := by
  subst hp' hoc
  exact qzV_go (by rw [qzStep_of hc hd]; exact hg)
theorem qv_min {pc' idx oc : Nat} {x y : Int32} (hc : (qzMd mi).2.1 = cc) (hd : decode cc pc = .ok (.invokestatic idx, 3)) (hoc : (qzMd mi).2.2.2.2.2.2 = oc) (ho : (oc = 0 ∧ idx = 75) ∨ (oc = 2 ∧ idx = 272)) (hp' : pc + 3 = pc') (h8 : st.length ≤ 8) : qzV d mi pc ls (.int y :: .int x :: st) hp = qzV d mi pc' ls (.int (if y < x then y else x) :: st) hp := by
  subst hp' hoc
  exact qzV_go (by rw [qzStep_of hc hd]; show qzStat _ idx 3 pc ls (.int y :: .int x :: st) hp = _; unfold qzStat; rw [if_pos ho, if_pos rfl]; dsimp only; rw [if_pos h8]; rfl)
theorem qv_max {pc' idx oc : Nat} {x y : Int32} (hc : (qzMd mi).2.1 = cc) (hd : decode cc pc = .ok (.invokestatic idx, 3)) (hoc : (qzMd mi).2.2.2.2.2.2 = oc) (ho : oc = 2 ∧ idx = 277) (hp' : pc + 3 = pc') (h8 : st.length ≤ 8) : qzV d mi pc ls (.int y :: .int x :: st) hp = qzV d mi pc' ls (.int (if x < y then y else x) :: st) hp := by
  subst hp' hoc
  exact qzV_go (by rw [qzStep_of hc hd]; show qzStat _ idx 3 pc ls (.int y :: .int x :: st) hp = _; unfold qzStat; rw [if_neg (by omega), if_pos ho, if_pos rfl]; dsimp only; rw [if_pos h8]; rfl)
theorem qv_copy {pc' idx oc a b : Nat} {n dp sp : Int32} (hc : (qzMd mi).2.1 = cc) (hd : decode cc pc = .ok (.invokestatic idx, 3)) (hoc : (qzMd mi).2.2.2.2.2.2 = oc) (ho : (oc = 0 ∧ idx = 66) ∨ (oc = 1 ∧ idx = 28)) (hp' : pc + 3 = pc') (h8 : qzArr 4 a hp.1 = true ∧ qzArr 4 b hp.1 = true ∧ ¬ sp < 0 ∧ ¬ dp < 0 ∧ ¬ n < 0 ∧ sp.toNatClampNeg + n.toNatClampNeg ≤ (qzk b).2 ∧ dp.toNatClampNeg + n.toNatClampNeg ≤ (qzk a).2 ∧ st.length ≤ 8) : qzV d mi pc ls (.int n :: .int dp :: .ref a :: .int sp :: .ref b :: st) hp = qzV d mi pc' ls st (hp.1, hp.2.1, qzUr hp.2.2 a (va_cpy (hp.2.2 b) (hp.2.2 a) sp.toNatClampNeg dp.toNatClampNeg n.toNatClampNeg)) := by
  subst hp' hoc
  exact qzV_go (by rw [qzStep_of hc hd]; show qzStat _ idx 3 pc ls (.int n :: .int dp :: .ref a :: .int sp :: .ref b :: st) hp = _; unfold qzStat; rw [if_neg (by omega), if_neg (by omega), if_pos ho, if_pos rfl]; dsimp only; rw [if_pos h8]; rfl)
theorem qv_calls {pc' idx oc mj n : Nat} {nest : Bool} {as rest : List Value} (hc : (qzMd mi).2.1 = cc) (hd : decode cc pc = .ok (.invokestatic idx, 3)) (hoc : (qzMd mi).2.2.2.2.2.2 = oc) (ho : ¬ ((oc = 0 ∧ idx = 75) ∨ (oc = 2 ∧ idx = 272)) ∧ ¬ (oc = 2 ∧ idx = 277) ∧ ¬ ((oc = 0 ∧ idx = 66) ∨ (oc = 1 ∧ idx = 28))) (hf : qzFind qzCl oc idx = some (mj, nest)) (hm : (qzMd mj).2.2.2.2.1 = 0 ∧ mj < 149 ∧ (qzMd mj).2.2.2.2.2.1 = n) (hp' : pc + 3 = pc') (hst : st.take n = as.reverse ∧ st.drop n = rest ∧ n ≤ st.length) (h8 : rest.length ≤ 8) : qzV (d + 1) mi pc ls st hp = (qzC d mj as hp).bind (fun r => qzV (d + 1) mi pc' ls (r.1.toList ++ rest) r.2) := by
  subst hp' hoc
  obtain ⟨h1, h2, h3⟩ := hst
  obtain ⟨m1, m2, m3⟩ := hm
  exact qzV_call (by rw [qzStep_of hc hd]; show qzStat _ idx 3 pc ls st hp = _; unfold qzStat; rw [if_neg ho.1, if_neg ho.2.1, if_neg ho.2.2]; unfold qzCall; rw [if_pos rfl, hf]; dsimp only; rw [if_pos ⟨m1, m2, fun q => by cases q⟩, if_pos rfl, m3, h1, h2, if_pos ⟨h3, h8⟩, List.reverse_reverse])
theorem qv_callv {pc' idx oc mj n b : Nat} {as rest : List Value} (hc : (qzMd mi).2.1 = cc) (hd : decode cc pc = .ok (.invokevirtual idx, 3)) (hoc : (qzMd mi).2.2.2.2.2.2 = oc) (ho : ¬ (oc = 0 ∧ idx = 32) ∧ ¬ (oc = 0 ∧ idx = 62)) (hf : qzFind qzCl oc idx = some (mj, false)) (hm : (qzMd mj).2.2.2.2.1 = 1 ∧ mj < 149 ∧ (qzMd mj).2.2.2.2.2.1 = n) (hp' : pc + 3 = pc') (hst : st.take n = as.reverse ∧ st.drop n = .ref b :: rest ∧ n ≤ st.length) (h8 : rest.length ≤ 8) (hb : qzArr (qzMd mj).2.2.2.2.2.2 b hp.1 = true) : qzV (d + 1) mi pc ls st hp = (qzC d mj (.ref b :: as) hp).bind (fun r => qzV (d + 1) mi pc' ls (r.1.toList ++ rest) r.2) := by
  subst hp' hoc
  obtain ⟨h1, h2, h3⟩ := hst
  obtain ⟨m1, m2, m3⟩ := hm
  exact qzV_call (by rw [qzStep_of hc hd]; show qzVirt _ idx 3 pc ls st hp = _; unfold qzVirt; rw [if_neg ho.1, if_neg ho.2]; unfold qzCall; rw [if_pos rfl, hf]; dsimp only; rw [if_pos ⟨m1, m2, fun _ => rfl⟩, if_neg (by decide), m3, h1, h2]; dsimp only; rw [if_pos ⟨hb, h8, h3⟩, List.reverse_reverse])
theorem qv_iret {ty : FieldType} {v : Int32} (hc : (qzMd mi).2.1 = cc) (hd : decode cc pc = .ok (.ireturn, 1)) (hr : (qzMd mi).2.2.2.1 = some ty) (hn : narrow ty (.int v) = .int v) : qzV d mi pc ls [.int v] hp = some (some (.int v), hp) :=
  qzV_ret (by rw [qzStep_of hc hd]; show qzRet mi 1 [.int v] = _; unfold qzRet; rw [if_pos rfl]; dsimp only; rw [hr]; dsimp only; rw [if_pos hn])
theorem qv_aret {C0 : String} {a : Nat} (hc : (qzMd mi).2.1 = cc) (hd : decode cc pc = .ok (.areturn, 1)) (hr : (qzMd mi).2.2.2.1 = some (.object C0)) : qzV d mi pc ls [.ref a] hp = some (some (.ref a), hp) :=
  qzV_ret (by rw [qzStep_of hc hd]; show qzAret mi 1 [.ref a] = _; unfold qzAret; rw [if_pos rfl, hr])
theorem qv_aretN {C0 : String} (hc : (qzMd mi).2.1 = cc) (hd : decode cc pc = .ok (.areturn, 1)) (hr : (qzMd mi).2.2.2.1 = some (.object C0)) : qzV d mi pc ls [.null] hp = some (some .null, hp) :=
  qzV_ret (by rw [qzStep_of hc hd]; show qzAret mi 1 [.null] = _; unfold qzAret; rw [if_pos rfl, hr])
theorem qv_vret (hc : (qzMd mi).2.1 = cc) (hd : decode cc pc = .ok (.return_, 1)) (hr : (qzMd mi).2.2.2.1 = none) : qzV d mi pc ls [] hp = some (none, hp) :=
  qzV_ret (by rw [qzStep_of hc hd]; show qzVret mi 1 [] = _; unfold qzVret; rw [if_pos rfl, hr])
end QV
