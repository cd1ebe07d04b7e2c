/-! a run of the law's interpreter is a run of the machine: the steps -/
/-- the fixed part of a frame of the law's class -/
def qyF (p : Program) (s : State) (m : MethodId) (args : Array Value) (c : Code) (G : qzGT) (D : va_G) (z0 : Nat) (S : Nat → Nat) (E : qyE) (mi : Nat) : Prop :=
  p.tables.exec = Jvm.exec ∧ c.code = (qyMd mi).2.1 ∧ c.maxLocals = (qyMd mi).2.2.1 ∧ s.vm.findClass RL = some m.cls ∧ (∀ w ∈ qzWs, w.before args s = true) ∧ va_K D vwCl (qzTys G) s ∧ qzNw s ∧ qzSt z0 S s s.heap ∧ z0 ≤ s.heap.size ∧ va_X (S 4) E.1 E.2 s s.heap ∧ S 4 < z0
/-- the moving part -/
def lgC (G : qzGT) (D : va_G) (z0 : Nat) (S : Nat → Nat) (s : State) (ad : Nat → Nat) (H : Heap) (locs : List Loc) (hp : qzH) : Prop :=
  qzWf hp ∧ (∀ i, ad (1000 + i) = S i) ∧ hp.1 < 1000 ∧ va_P D vwCl (qzW G ad hp) H ∧ va_D (qzA0 z0) (qzW G ad hp) ∧ va_S (qzA0 z0) s.heap H locs
/-- the locals -/
def qyLs (ad : Nat → Nat) (mi : Nat) (lsS : Array Slot) (ls : List Value) : Prop := ls.length = (qyMd mi).2.2.1 ∧ (qyLg mi = false → ∀ v ∈ ls, v.category = 1) ∧ ∃ lv, lv_has lsS (qyMd mi).2.2.1 lv ∧ ∀ (j : Nat) (v : Value), ls[j]? = some v → v ≠ .float 0 → (j, qzR ad v) ∈ lv
theorem qzR_cat {ad : Nat → Nat} {v : Value} : (qzR ad v).category = v.category := by cases v <;> rfl
theorem qySz_map {ad : Nat → Nat} {st : List Value} : ((st.map (qzR ad)).map fun v => v.category).sum = qySz st := by
  unfold qySz
  rw [List.map_map]
  congr 1
  apply List.map_congr_left
  intro v _
  exact qzR_cat
theorem qyLs.get {ad : Nat → Nat} {mi : Nat} {lsS : Array Slot} {ls : List Value} (h : qyLs ad mi lsS ls) {j : Nat} {v : Value} (hj : ls[j]? = some v) (hv : v ≠ .float 0) : lsS[j]? = some (.val (qzR ad v)) := by
  obtain ⟨-, -, lv, h1, h2⟩ := h
  exact h1.2.2 _ (h2 j v hj hv)
theorem qyLs.size {ad : Nat → Nat} {mi : Nat} {lsS : Array Slot} {ls : List Value} (h : qyLs ad mi lsS ls) : lsS.size = (qyMd mi).2.2.1 := by
  obtain ⟨-, -, lv, h1, -⟩ := h
  exact h1.1
theorem qyPv_at {ls : List Value} {i j : Nat} {v : Value} (h : qyPv ls i = true) (hj : ls[j]? = some v) (e : j + 1 = i) : v.category = 1 := by
  subst e
  unfold qyPv at h
  dsimp only at h
  rw [hj] at h
  exact eq_of_beq h
theorem qyLs.set1 {ad : Nat → Nat} {mi : Nat} {ls : List Value} {lv : List (Nat × Value)} (hlen : ls.length = (qyMd mi).2.2.1) (hcat : qyLg mi = false → ∀ v ∈ ls, v.category = 1) (h2 : ∀ (j : Nat) (v : Value), ls[j]? = some v → v ≠ .float 0 → (j, qzR ad v) ∈ lv) {i : Nat} {x : Value} (hx : x.category = 1) (hpv : qyLg mi = true → qyPv ls i = true) {lsS' : Array Slot}
    (h' : lv_has lsS' (qyMd mi).2.2.1 ((i, qzR ad x) :: lv.filter (fun q => !(q.1 == i) && !(q.1 + 1 == i && q.2.category == 2)))) : qyLs ad mi lsS' (ls.set i x) := by
  refine ⟨by rw [List.length_set]; exact hlen, fun hg v hv => ?_, _, h', fun j v hj hv => ?_⟩
  · rcases List.mem_or_eq_of_mem_set hv with q | q
    · exact hcat hg v q
    · rw [q]; exact hx
  · by_cases hji : j = i
    · subst hji
      have hl : j < ls.length := by
        have := (List.getElem?_eq_some_iff.mp hj).1
        rwa [List.length_set] at this
      rw [List.getElem?_set_self hl] at hj
      cases hj
      exact List.mem_cons_self
    · rw [List.getElem?_set_ne (Ne.symm hji)] at hj
      refine List.mem_cons_of_mem _ (List.mem_filter.mpr ⟨h2 j v hj hv, ?_⟩)
      by_cases hn : j + 1 = i
      · have hc : (qzR ad v).category = 1 := by
          rw [qzR_cat]
          cases hg : qyLg mi with
          | false => exact hcat hg v (List.mem_of_getElem? hj)
          | true => exact qyPv_at (hpv hg) hj hn
        simp [hji, hc]
      · simp [hji, hn]
theorem qyLs.set2 {ad : Nat → Nat} {mi : Nat} {ls : List Value} {lv : List (Nat × Value)} (hlen : ls.length = (qyMd mi).2.2.1) (hg : qyLg mi = true) (h2 : ∀ (j : Nat) (v : Value), ls[j]? = some v → v ≠ .float 0 → (j, qzR ad v) ∈ lv) {i : Nat} {x : Value} (hpv : qyPv ls i = true) {lsS' : Array Slot}
    (h' : lv_has lsS' (qyMd mi).2.2.1 ((i, qzR ad x) :: lv.filter (fun q => !(q.1 == i) && (!(q.1 == i + 1) && !(q.1 + 1 == i && q.2.category == 2))))) : qyLs ad mi lsS' ((ls.set i x).set (i + 1) (.float 0)) := by
  refine ⟨by rw [List.length_set, List.length_set]; exact hlen, (fun z => by rw [hg] at z; cases z), _, h', fun j v hj hv => ?_⟩
  have hl : j < ls.length := by
    have := (List.getElem?_eq_some_iff.mp hj).1
    rwa [List.length_set, List.length_set] at this
  by_cases hj1 : j = i + 1
  · subst hj1
    rw [List.getElem?_set_self (by rw [List.length_set]; exact hl)] at hj
    cases hj
    exact absurd rfl hv
  · rw [List.getElem?_set_ne (Ne.symm hj1)] at hj
    by_cases hji : j = i
    · subst hji
      rw [List.getElem?_set_self hl] at hj
      cases hj
      exact List.mem_cons_self
    · rw [List.getElem?_set_ne (Ne.symm hji)] at hj
      refine List.mem_cons_of_mem _ (List.mem_filter.mpr ⟨h2 j v hj hv, ?_⟩)
      by_cases hn : j + 1 = i
      · have hc : (qzR ad v).category = 1 := by rw [qzR_cat]; exact qyPv_at hpv hj hn
        simp [hji, hj1, hc]
      · simp [hji, hj1, hn]
theorem qyGo_inj {pc pc' : Nat} {ls ls' st st' : List Value} (h : qyGo pc ls st = (some (.inl (pc', ls', st')) : Option qyA)) : pc' = pc ∧ ls' = ls ∧ st' = st := by
  unfold qyGo at h
  simp only [Option.some.injEq, Sum.inl.injEq, Prod.mk.injEq] at h
  exact ⟨h.1.symm, h.2.1.symm, h.2.2.symm⟩
theorem qy_no {a : qyA} (h : (none : Option qyA) = some a) : False := by cases h
theorem qyBr_inv {pc pc' : Nat} {ls ls' st st' : List Value} {b : Bool} {off : Int} (h : qyBr b pc off ls st = (some (.inl (pc', ls', st')) : Option qyA)) : ((pc : Int) + off = (qzTg pc off : Nat)) ∧ ((b = true ∧ pc' = qzTg pc off) ∨ (b = false ∧ pc' = pc + 3)) ∧ ls' = ls ∧ st' = st := by
  unfold qyBr at h
  split at h
  · refine ⟨by unfold qzTg; omega, ?_⟩
    cases b with
    | true =>
      obtain ⟨a1, a2⟩ := qyGo_inj (by simpa using h)
      exact ⟨Or.inl ⟨rfl, a1⟩, a2⟩
    | false =>
      obtain ⟨a1, a2⟩ := qyGo_inj (by simpa using h)
      exact ⟨Or.inr ⟨rfl, a1⟩, a2⟩
  · exact (qy_no h).elim
section QY1
variable {p : Program} {l : Launch} {e : Env} {R : Room} {s : State} {m : MethodId} {args : Array Value} {below : List Frame} {meth : Method} {c : Code} {Q : State → Prop} {G : qzGT} {D : va_G} {z0 : Nat} {S : Nat → Nat} {E : qyE} {mi pc : Nat} {ad : Nat → Nat} {lsS : Array Slot} {H : Heap} {locs : List Loc} {ls st ls' st' : List Value} {hp hp1 : qzH} {pc' len cells slots : Nat}
theorem qy_iconst {n : Int} (F : qyF p s m args c G D z0 S E mi) (hls : qyLs ad mi lsS ls) (C : lgC G D z0 S s ad H locs hp) (hd : decode (qyMd mi).2.1 pc = .ok (.iconst n, len)) (h : qyPush (.int (Int32.ofInt n)) len 1 pc ls st = (some (.inl (pc', ls', st')) : Option qyA))
    (kk : ∀ lsS' : Array Slot, qyLs ad mi lsS' ls' → W p l e R s m args below meth c H locs cells slots Q (F0 m pc' lsS' (st'.map (qzR ad)))) : W p l e R s m args below meth c H locs cells slots Q (F0 m pc lsS (st.map (qzR ad))) := by
  unfold qyPush at h
  split at h
  · rename_i hw
    subst hw
    obtain ⟨rfl, rfl, rfl⟩ := qyGo_inj h
    exact lv_iconst F.1 F.2.1 hd rfl (kk _ hls)
  · exact (qy_no h).elim
theorem qy_bipush {n : Int} (F : qyF p s m args c G D z0 S E mi) (hls : qyLs ad mi lsS ls) (C : lgC G D z0 S s ad H locs hp) (hd : decode (qyMd mi).2.1 pc = .ok (.bipush n, len)) (h : qyPush (.int (Int8.ofInt n).toInt32) len 2 pc ls st = (some (.inl (pc', ls', st')) : Option qyA))
    (kk : ∀ lsS' : Array Slot, qyLs ad mi lsS' ls' → W p l e R s m args below meth c H locs cells slots Q (F0 m pc' lsS' (st'.map (qzR ad)))) : W p l e R s m args below meth c H locs cells slots Q (F0 m pc lsS (st.map (qzR ad))) := by
  unfold qyPush at h
  split at h
  · rename_i hw
    subst hw
    obtain ⟨rfl, rfl, rfl⟩ := qyGo_inj h
    exact lv_bipush F.1 F.2.1 hd rfl (kk _ hls)
  · exact (qy_no h).elim
theorem qy_sipush {n : Int} (F : qyF p s m args c G D z0 S E mi) (hls : qyLs ad mi lsS ls) (C : lgC G D z0 S s ad H locs hp) (hd : decode (qyMd mi).2.1 pc = .ok (.sipush n, len)) (h : qyPush (.int (Int16.ofInt n).toInt32) len 3 pc ls st = (some (.inl (pc', ls', st')) : Option qyA))
    (kk : ∀ lsS' : Array Slot, qyLs ad mi lsS' ls' → W p l e R s m args below meth c H locs cells slots Q (F0 m pc' lsS' (st'.map (qzR ad)))) : W p l e R s m args below meth c H locs cells slots Q (F0 m pc lsS (st.map (qzR ad))) := by
  unfold qyPush at h
  split at h
  · rename_i hw
    subst hw
    obtain ⟨rfl, rfl, rfl⟩ := qyGo_inj h
    exact lv_sipush F.1 F.2.1 hd rfl (kk _ hls)
  · exact (qy_no h).elim
theorem qy_dconst (F : qyF p s m args c G D z0 S E mi) (hls : qyLs ad mi lsS ls) (C : lgC G D z0 S s ad H locs hp) (hd : decode (qyMd mi).2.1 pc = .ok (.dconst 0, len)) (h : qyPush (.double FP.dconst0) len 1 pc ls st = (some (.inl (pc', ls', st')) : Option qyA))
    (kk : ∀ lsS' : Array Slot, qyLs ad mi lsS' ls' → W p l e R s m args below meth c H locs cells slots Q (F0 m pc' lsS' (st'.map (qzR ad)))) : W p l e R s m args below meth c H locs cells slots Q (F0 m pc lsS (st.map (qzR ad))) := by
  unfold qyPush at h
  split at h
  · rename_i hw
    subst hw
    obtain ⟨rfl, rfl, rfl⟩ := qyGo_inj h
    exact lv_dconst0 F.1 F.2.1 hd (kk _ hls)
  · exact (qy_no h).elim
theorem qy_iload_n {k : Fin 4} (F : qyF p s m args c G D z0 S E mi) (hls : qyLs ad mi lsS ls) (C : lgC G D z0 S s ad H locs hp) (hd : decode (qyMd mi).2.1 pc = .ok (.iload_n k, len)) (h : qyIload k len 1 pc ls st = (some (.inl (pc', ls', st')) : Option qyA))
    (kk : ∀ lsS' : Array Slot, qyLs ad mi lsS' ls' → W p l e R s m args below meth c H locs cells slots Q (F0 m pc' lsS' (st'.map (qzR ad)))) : W p l e R s m args below meth c H locs cells slots Q (F0 m pc lsS (st.map (qzR ad))) := by
  unfold qyIload at h
  split at h
  · rename_i hw
    subst hw
    split at h
    · rename_i x hl
      obtain ⟨rfl, rfl, rfl⟩ := qyGo_inj h
      exact lv_iload_n F.1 F.2.1 hd rfl (hls.get hl (by intro q; cases q)) (kk _ hls)
    · exact (qy_no h).elim
  · exact (qy_no h).elim
theorem qy_iload {k : Nat} (F : qyF p s m args c G D z0 S E mi) (hls : qyLs ad mi lsS ls) (C : lgC G D z0 S s ad H locs hp) (hd : decode (qyMd mi).2.1 pc = .ok (.iload k, len)) (h : qyIload k len 2 pc ls st = (some (.inl (pc', ls', st')) : Option qyA))
    (kk : ∀ lsS' : Array Slot, qyLs ad mi lsS' ls' → W p l e R s m args below meth c H locs cells slots Q (F0 m pc' lsS' (st'.map (qzR ad)))) : W p l e R s m args below meth c H locs cells slots Q (F0 m pc lsS (st.map (qzR ad))) := by
  unfold qyIload at h
  split at h
  · rename_i hw
    subst hw
    split at h
    · rename_i x hl
      obtain ⟨rfl, rfl, rfl⟩ := qyGo_inj h
      exact lv_iload F.1 F.2.1 hd (hls.get hl (by intro q; cases q)) (kk _ hls)
    · exact (qy_no h).elim
  · exact (qy_no h).elim
theorem qy_lload_n {k : Fin 4} (F : qyF p s m args c G D z0 S E mi) (hls : qyLs ad mi lsS ls) (C : lgC G D z0 S s ad H locs hp) (hd : decode (qyMd mi).2.1 pc = .ok (.lload_n k, len)) (h : qyLload k len 1 pc ls st = (some (.inl (pc', ls', st')) : Option qyA))
    (kk : ∀ lsS' : Array Slot, qyLs ad mi lsS' ls' → W p l e R s m args below meth c H locs cells slots Q (F0 m pc' lsS' (st'.map (qzR ad)))) : W p l e R s m args below meth c H locs cells slots Q (F0 m pc lsS (st.map (qzR ad))) := by
  unfold qyLload at h
  split at h
  · rename_i hw
    subst hw
    split at h
    · rename_i x hl
      obtain ⟨rfl, rfl, rfl⟩ := qyGo_inj h
      exact lv_lload_n F.1 F.2.1 hd rfl (hls.get hl (by intro q; cases q)) (kk _ hls)
    · exact (qy_no h).elim
  · exact (qy_no h).elim
theorem qy_lload {k : Nat} (F : qyF p s m args c G D z0 S E mi) (hls : qyLs ad mi lsS ls) (C : lgC G D z0 S s ad H locs hp) (hd : decode (qyMd mi).2.1 pc = .ok (.lload k, len)) (h : qyLload k len 2 pc ls st = (some (.inl (pc', ls', st')) : Option qyA))
    (kk : ∀ lsS' : Array Slot, qyLs ad mi lsS' ls' → W p l e R s m args below meth c H locs cells slots Q (F0 m pc' lsS' (st'.map (qzR ad)))) : W p l e R s m args below meth c H locs cells slots Q (F0 m pc lsS (st.map (qzR ad))) := by
  unfold qyLload at h
  split at h
  · rename_i hw
    subst hw
    split at h
    · rename_i x hl
      obtain ⟨rfl, rfl, rfl⟩ := qyGo_inj h
      exact lv_lload F.1 F.2.1 hd (hls.get hl (by intro q; cases q)) (kk _ hls)
    · exact (qy_no h).elim
  · exact (qy_no h).elim
theorem qy_aload_n {k : Fin 4} (F : qyF p s m args c G D z0 S E mi) (hls : qyLs ad mi lsS ls) (C : lgC G D z0 S s ad H locs hp) (hd : decode (qyMd mi).2.1 pc = .ok (.aload_n k, len)) (h : qyAload k len 1 pc ls st = (some (.inl (pc', ls', st')) : Option qyA))
    (kk : ∀ lsS' : Array Slot, qyLs ad mi lsS' ls' → W p l e R s m args below meth c H locs cells slots Q (F0 m pc' lsS' (st'.map (qzR ad)))) : W p l e R s m args below meth c H locs cells slots Q (F0 m pc lsS (st.map (qzR ad))) := by
  unfold qyAload at h
  split at h
  · rename_i hw
    subst hw
    split at h
    · rename_i x hl
      obtain ⟨rfl, rfl, rfl⟩ := qyGo_inj h
      exact lv_aload_n F.1 F.2.1 hd rfl (hls.get hl (by intro q; cases q)) (kk _ hls)
    · exact (qy_no h).elim
  · exact (qy_no h).elim
theorem qy_istore_n {k : Fin 4} (F : qyF p s m args c G D z0 S E mi) (hls : qyLs ad mi lsS ls) (C : lgC G D z0 S s ad H locs hp) (hd : decode (qyMd mi).2.1 pc = .ok (.istore_n k, len)) (h : qyIstore mi k len 1 pc ls st = (some (.inl (pc', ls', st')) : Option qyA))
    (kk : ∀ lsS' : Array Slot, qyLs ad mi lsS' ls' → W p l e R s m args below meth c H locs cells slots Q (F0 m pc' lsS' (st'.map (qzR ad)))) : W p l e R s m args below meth c H locs cells slots Q (F0 m pc lsS (st.map (qzR ad))) := by
  unfold qyIstore at h
  split at h
  · rename_i hw
    obtain ⟨rfl, hi, hpv⟩ := hw
    obtain ⟨hlen, hcat, lv, h1, h2⟩ := hls
    split at h
    · obtain ⟨rfl, rfl, rfl⟩ := qyGo_inj h
      exact lv_istore_n F.1 F.2.1 hd rfl h1 (by rw [← hlen]; exact hi) rfl (fun lsS' h' => kk lsS' (qyLs.set1 hlen hcat h2 rfl hpv h'))
    · exact (qy_no h).elim
  · exact (qy_no h).elim
theorem qy_istore {k : Nat} (F : qyF p s m args c G D z0 S E mi) (hls : qyLs ad mi lsS ls) (C : lgC G D z0 S s ad H locs hp) (hd : decode (qyMd mi).2.1 pc = .ok (.istore k, len)) (h : qyIstore mi k len 2 pc ls st = (some (.inl (pc', ls', st')) : Option qyA))
    (kk : ∀ lsS' : Array Slot, qyLs ad mi lsS' ls' → W p l e R s m args below meth c H locs cells slots Q (F0 m pc' lsS' (st'.map (qzR ad)))) : W p l e R s m args below meth c H locs cells slots Q (F0 m pc lsS (st.map (qzR ad))) := by
  unfold qyIstore at h
  split at h
  · rename_i hw
    obtain ⟨rfl, hi, hpv⟩ := hw
    obtain ⟨hlen, hcat, lv, h1, h2⟩ := hls
    split at h
    · obtain ⟨rfl, rfl, rfl⟩ := qyGo_inj h
      exact lv_istore F.1 F.2.1 hd h1 (by rw [← hlen]; exact hi) rfl (fun lsS' h' => kk lsS' (qyLs.set1 hlen hcat h2 rfl hpv h'))
    · exact (qy_no h).elim
  · exact (qy_no h).elim
theorem qy_astore_n {k : Fin 4} (F : qyF p s m args c G D z0 S E mi) (hls : qyLs ad mi lsS ls) (C : lgC G D z0 S s ad H locs hp) (hd : decode (qyMd mi).2.1 pc = .ok (.astore_n k, len)) (h : qyAstore mi k len 1 pc ls st = (some (.inl (pc', ls', st')) : Option qyA))
    (kk : ∀ lsS' : Array Slot, qyLs ad mi lsS' ls' → W p l e R s m args below meth c H locs cells slots Q (F0 m pc' lsS' (st'.map (qzR ad)))) : W p l e R s m args below meth c H locs cells slots Q (F0 m pc lsS (st.map (qzR ad))) := by
  unfold qyAstore at h
  split at h
  · rename_i hw
    obtain ⟨rfl, hi, hpv⟩ := hw
    obtain ⟨hlen, hcat, lv, h1, h2⟩ := hls
    split at h
    · obtain ⟨rfl, rfl, rfl⟩ := qyGo_inj h
      exact lv_astore_n F.1 F.2.1 hd rfl h1 (by rw [← hlen]; exact hi) rfl (fun lsS' h' => kk lsS' (qyLs.set1 hlen hcat h2 rfl hpv h'))
    · exact (qy_no h).elim
  · exact (qy_no h).elim
theorem qy_lstore_n {k : Fin 4} (F : qyF p s m args c G D z0 S E mi) (hls : qyLs ad mi lsS ls) (C : lgC G D z0 S s ad H locs hp) (hd : decode (qyMd mi).2.1 pc = .ok (.lstore_n k, len)) (h : qyLstore mi k len 1 pc ls st = (some (.inl (pc', ls', st')) : Option qyA))
    (kk : ∀ lsS' : Array Slot, qyLs ad mi lsS' ls' → W p l e R s m args below meth c H locs cells slots Q (F0 m pc' lsS' (st'.map (qzR ad)))) : W p l e R s m args below meth c H locs cells slots Q (F0 m pc lsS (st.map (qzR ad))) := by
  unfold qyLstore at h
  split at h
  · rename_i hw
    obtain ⟨rfl, hi, hg, hpv⟩ := hw
    obtain ⟨hlen, hcat, lv, h1, h2⟩ := hls
    split at h
    · obtain ⟨rfl, rfl, rfl⟩ := qyGo_inj h
      exact lv_lstore_n F.1 F.2.1 hd rfl h1 (by rw [← hlen]; exact hi) rfl (fun lsS' h' => kk lsS' (qyLs.set2 hlen hg h2 hpv h'))
    · exact (qy_no h).elim
  · exact (qy_no h).elim
theorem qy_lstore {k : Nat} (F : qyF p s m args c G D z0 S E mi) (hls : qyLs ad mi lsS ls) (C : lgC G D z0 S s ad H locs hp) (hd : decode (qyMd mi).2.1 pc = .ok (.lstore k, len)) (h : qyLstore mi k len 2 pc ls st = (some (.inl (pc', ls', st')) : Option qyA))
    (kk : ∀ lsS' : Array Slot, qyLs ad mi lsS' ls' → W p l e R s m args below meth c H locs cells slots Q (F0 m pc' lsS' (st'.map (qzR ad)))) : W p l e R s m args below meth c H locs cells slots Q (F0 m pc lsS (st.map (qzR ad))) := by
  unfold qyLstore at h
  split at h
  · rename_i hw
    obtain ⟨rfl, hi, hg, hpv⟩ := hw
    obtain ⟨hlen, hcat, lv, h1, h2⟩ := hls
    split at h
    · obtain ⟨rfl, rfl, rfl⟩ := qyGo_inj h
      exact lv_lstore F.1 F.2.1 hd h1 (by rw [← hlen]; exact hi) rfl (fun lsS' h' => kk lsS' (qyLs.set2 hlen hg h2 hpv h'))
    · exact (qy_no h).elim
  · exact (qy_no h).elim
theorem qy_iadd (F : qyF p s m args c G D z0 S E mi) (hls : qyLs ad mi lsS ls) (C : lgC G D z0 S s ad H locs hp) (hd : decode (qyMd mi).2.1 pc = .ok (.iadd, len)) (h : qyBin (fun x y => x + y) len pc ls st = (some (.inl (pc', ls', st')) : Option qyA))
    (kk : ∀ lsS' : Array Slot, qyLs ad mi lsS' ls' → W p l e R s m args below meth c H locs cells slots Q (F0 m pc' lsS' (st'.map (qzR ad)))) : W p l e R s m args below meth c H locs cells slots Q (F0 m pc lsS (st.map (qzR ad))) := by
  unfold qyBin at h
  split at h
  · rename_i hw
    subst hw
    split at h
    · obtain ⟨rfl, rfl, rfl⟩ := qyGo_inj h
      exact lv_iadd F.1 F.2.1 hd (kk _ hls)
    · exact (qy_no h).elim
  · exact (qy_no h).elim
theorem qy_isub (F : qyF p s m args c G D z0 S E mi) (hls : qyLs ad mi lsS ls) (C : lgC G D z0 S s ad H locs hp) (hd : decode (qyMd mi).2.1 pc = .ok (.isub, len)) (h : qyBin (fun x y => x - y) len pc ls st = (some (.inl (pc', ls', st')) : Option qyA))
    (kk : ∀ lsS' : Array Slot, qyLs ad mi lsS' ls' → W p l e R s m args below meth c H locs cells slots Q (F0 m pc' lsS' (st'.map (qzR ad)))) : W p l e R s m args below meth c H locs cells slots Q (F0 m pc lsS (st.map (qzR ad))) := by
  unfold qyBin at h
  split at h
  · rename_i hw
    subst hw
    split at h
    · obtain ⟨rfl, rfl, rfl⟩ := qyGo_inj h
      exact lv_isub F.1 F.2.1 hd (kk _ hls)
    · exact (qy_no h).elim
  · exact (qy_no h).elim
theorem qy_imul (F : qyF p s m args c G D z0 S E mi) (hls : qyLs ad mi lsS ls) (C : lgC G D z0 S s ad H locs hp) (hd : decode (qyMd mi).2.1 pc = .ok (.imul, len)) (h : qyBin (fun x y => x * y) len pc ls st = (some (.inl (pc', ls', st')) : Option qyA))
    (kk : ∀ lsS' : Array Slot, qyLs ad mi lsS' ls' → W p l e R s m args below meth c H locs cells slots Q (F0 m pc' lsS' (st'.map (qzR ad)))) : W p l e R s m args below meth c H locs cells slots Q (F0 m pc lsS (st.map (qzR ad))) := by
  unfold qyBin at h
  split at h
  · rename_i hw
    subst hw
    split at h
    · obtain ⟨rfl, rfl, rfl⟩ := qyGo_inj h
      exact lv_imul F.1 F.2.1 hd (kk _ hls)
    · exact (qy_no h).elim
  · exact (qy_no h).elim
theorem qy_iand (F : qyF p s m args c G D z0 S E mi) (hls : qyLs ad mi lsS ls) (C : lgC G D z0 S s ad H locs hp) (hd : decode (qyMd mi).2.1 pc = .ok (.iand, len)) (h : qyBin (fun x y => x &&& y) len pc ls st = (some (.inl (pc', ls', st')) : Option qyA))
    (kk : ∀ lsS' : Array Slot, qyLs ad mi lsS' ls' → W p l e R s m args below meth c H locs cells slots Q (F0 m pc' lsS' (st'.map (qzR ad)))) : W p l e R s m args below meth c H locs cells slots Q (F0 m pc lsS (st.map (qzR ad))) := by
  unfold qyBin at h
  split at h
  · rename_i hw
    subst hw
    split at h
    · obtain ⟨rfl, rfl, rfl⟩ := qyGo_inj h
      exact lv_iand F.1 F.2.1 hd (kk _ hls)
    · exact (qy_no h).elim
  · exact (qy_no h).elim
theorem qy_ishr (F : qyF p s m args c G D z0 S E mi) (hls : qyLs ad mi lsS ls) (C : lgC G D z0 S s ad H locs hp) (hd : decode (qyMd mi).2.1 pc = .ok (.ishr, len)) (h : qyBin (fun x y => x >>> (y &&& 31)) len pc ls st = (some (.inl (pc', ls', st')) : Option qyA))
    (kk : ∀ lsS' : Array Slot, qyLs ad mi lsS' ls' → W p l e R s m args below meth c H locs cells slots Q (F0 m pc' lsS' (st'.map (qzR ad)))) : W p l e R s m args below meth c H locs cells slots Q (F0 m pc lsS (st.map (qzR ad))) := by
  unfold qyBin at h
  split at h
  · rename_i hw
    subst hw
    split at h
    · obtain ⟨rfl, rfl, rfl⟩ := qyGo_inj h
      exact lv_ishr F.1 F.2.1 hd (kk _ hls)
    · exact (qy_no h).elim
  · exact (qy_no h).elim
theorem qy_ladd (F : qyF p s m args c G D z0 S E mi) (hls : qyLs ad mi lsS ls) (C : lgC G D z0 S s ad H locs hp) (hd : decode (qyMd mi).2.1 pc = .ok (.ladd, len)) (h : qyBinL (fun x y => x + y) len pc ls st = (some (.inl (pc', ls', st')) : Option qyA))
    (kk : ∀ lsS' : Array Slot, qyLs ad mi lsS' ls' → W p l e R s m args below meth c H locs cells slots Q (F0 m pc' lsS' (st'.map (qzR ad)))) : W p l e R s m args below meth c H locs cells slots Q (F0 m pc lsS (st.map (qzR ad))) := by
  unfold qyBinL at h
  split at h
  · rename_i hw
    subst hw
    split at h
    · obtain ⟨rfl, rfl, rfl⟩ := qyGo_inj h
      exact lv_ladd F.1 F.2.1 hd (kk _ hls)
    · exact (qy_no h).elim
  · exact (qy_no h).elim
theorem qy_lmul (F : qyF p s m args c G D z0 S E mi) (hls : qyLs ad mi lsS ls) (C : lgC G D z0 S s ad H locs hp) (hd : decode (qyMd mi).2.1 pc = .ok (.lmul, len)) (h : qyBinL (fun x y => x * y) len pc ls st = (some (.inl (pc', ls', st')) : Option qyA))
    (kk : ∀ lsS' : Array Slot, qyLs ad mi lsS' ls' → W p l e R s m args below meth c H locs cells slots Q (F0 m pc' lsS' (st'.map (qzR ad)))) : W p l e R s m args below meth c H locs cells slots Q (F0 m pc lsS (st.map (qzR ad))) := by
  unfold qyBinL at h
  split at h
  · rename_i hw
    subst hw
    split at h
    · obtain ⟨rfl, rfl, rfl⟩ := qyGo_inj h
      exact lv_lmul F.1 F.2.1 hd (kk _ hls)
    · exact (qy_no h).elim
  · exact (qy_no h).elim
theorem qy_idiv (F : qyF p s m args c G D z0 S E mi) (hls : qyLs ad mi lsS ls) (C : lgC G D z0 S s ad H locs hp) (hd : decode (qyMd mi).2.1 pc = .ok (.idiv, len)) (h : qyBinD (fun x y => x / y) len pc ls st = (some (.inl (pc', ls', st')) : Option qyA))
    (kk : ∀ lsS' : Array Slot, qyLs ad mi lsS' ls' → W p l e R s m args below meth c H locs cells slots Q (F0 m pc' lsS' (st'.map (qzR ad)))) : W p l e R s m args below meth c H locs cells slots Q (F0 m pc lsS (st.map (qzR ad))) := by
  unfold qyBinD at h
  split at h
  · rename_i hw
    subst hw
    split at h
    · split at h
      · exact (qy_no h).elim
      · rename_i hy
        obtain ⟨rfl, rfl, rfl⟩ := qyGo_inj h
        exact lv_idiv F.1 F.2.1 hd hy (kk _ hls)
    · exact (qy_no h).elim
  · exact (qy_no h).elim
theorem qy_irem (F : qyF p s m args c G D z0 S E mi) (hls : qyLs ad mi lsS ls) (C : lgC G D z0 S s ad H locs hp) (hd : decode (qyMd mi).2.1 pc = .ok (.irem, len)) (h : qyBinD (fun x y => x - x / y * y) len pc ls st = (some (.inl (pc', ls', st')) : Option qyA))
    (kk : ∀ lsS' : Array Slot, qyLs ad mi lsS' ls' → W p l e R s m args below meth c H locs cells slots Q (F0 m pc' lsS' (st'.map (qzR ad)))) : W p l e R s m args below meth c H locs cells slots Q (F0 m pc lsS (st.map (qzR ad))) := by
  unfold qyBinD at h
  split at h
  · rename_i hw
    subst hw
    split at h
    · split at h
      · exact (qy_no h).elim
      · rename_i hy
        obtain ⟨rfl, rfl, rfl⟩ := qyGo_inj h
        exact lv_irem F.1 F.2.1 hd hy (kk _ hls)
    · exact (qy_no h).elim
  · exact (qy_no h).elim
theorem qy_lcmp (F : qyF p s m args c G D z0 S E mi) (hls : qyLs ad mi lsS ls) (C : lgC G D z0 S s ad H locs hp) (hd : decode (qyMd mi).2.1 pc = .ok (.lcmp, len)) (h : qyLcmp len pc ls st = (some (.inl (pc', ls', st')) : Option qyA))
    (kk : ∀ lsS' : Array Slot, qyLs ad mi lsS' ls' → W p l e R s m args below meth c H locs cells slots Q (F0 m pc' lsS' (st'.map (qzR ad)))) : W p l e R s m args below meth c H locs cells slots Q (F0 m pc lsS (st.map (qzR ad))) := by
  unfold qyLcmp at h
  split at h
  · rename_i hw
    subst hw
    split at h
    · obtain ⟨rfl, rfl, rfl⟩ := qyGo_inj h
      exact W.lcmp F.1 F.2.1 hd (kk _ hls)
    · exact (qy_no h).elim
  · exact (qy_no h).elim
theorem qy_i2l (F : qyF p s m args c G D z0 S E mi) (hls : qyLs ad mi lsS ls) (C : lgC G D z0 S s ad H locs hp) (hd : decode (qyMd mi).2.1 pc = .ok (.i2l, len)) (h : qyI2l len pc ls st = (some (.inl (pc', ls', st')) : Option qyA))
    (kk : ∀ lsS' : Array Slot, qyLs ad mi lsS' ls' → W p l e R s m args below meth c H locs cells slots Q (F0 m pc' lsS' (st'.map (qzR ad)))) : W p l e R s m args below meth c H locs cells slots Q (F0 m pc lsS (st.map (qzR ad))) := by
  unfold qyI2l at h
  split at h
  · rename_i hw
    subst hw
    split at h
    · obtain ⟨rfl, rfl, rfl⟩ := qyGo_inj h
      exact lv_i2l F.1 F.2.1 hd rfl (kk _ hls)
    · exact (qy_no h).elim
  · exact (qy_no h).elim
theorem qy_i2d (F : qyF p s m args c G D z0 S E mi) (hls : qyLs ad mi lsS ls) (C : lgC G D z0 S s ad H locs hp) (hd : decode (qyMd mi).2.1 pc = .ok (.i2d, len)) (h : qyI2d len pc ls st = (some (.inl (pc', ls', st')) : Option qyA))
    (kk : ∀ lsS' : Array Slot, qyLs ad mi lsS' ls' → W p l e R s m args below meth c H locs cells slots Q (F0 m pc' lsS' (st'.map (qzR ad)))) : W p l e R s m args below meth c H locs cells slots Q (F0 m pc lsS (st.map (qzR ad))) := by
  unfold qyI2d at h
  split at h
  · rename_i hw
    subst hw
    split at h
    · obtain ⟨rfl, rfl, rfl⟩ := qyGo_inj h
      exact lv_i2d F.1 F.2.1 hd (kk _ hls)
    · exact (qy_no h).elim
  · exact (qy_no h).elim
theorem qy_ddiv (F : qyF p s m args c G D z0 S E mi) (hls : qyLs ad mi lsS ls) (C : lgC G D z0 S s ad H locs hp) (hd : decode (qyMd mi).2.1 pc = .ok (.ddiv, len)) (h : qyDdiv len pc ls st = (some (.inl (pc', ls', st')) : Option qyA))
    (kk : ∀ lsS' : Array Slot, qyLs ad mi lsS' ls' → W p l e R s m args below meth c H locs cells slots Q (F0 m pc' lsS' (st'.map (qzR ad)))) : W p l e R s m args below meth c H locs cells slots Q (F0 m pc lsS (st.map (qzR ad))) := by
  unfold qyDdiv at h
  split at h
  · rename_i hw
    subst hw
    split at h
    · split at h
      · rename_i hy
        obtain ⟨rfl, rfl, rfl⟩ := qyGo_inj h
        exact lv_ddiv F.1 F.2.1 hd hy (kk _ hls)
      · exact (qy_no h).elim
    · exact (qy_no h).elim
  · exact (qy_no h).elim
theorem qy_dcmp {op : CmpOp} (F : qyF p s m args c G D z0 S E mi) (hls : qyLs ad mi lsS ls) (C : lgC G D z0 S s ad H locs hp) (hd : decode (qyMd mi).2.1 pc = .ok (.dcmp op, len)) (h : qyDcmp op len pc ls st = (some (.inl (pc', ls', st')) : Option qyA))
    (kk : ∀ lsS' : Array Slot, qyLs ad mi lsS' ls' → W p l e R s m args below meth c H locs cells slots Q (F0 m pc' lsS' (st'.map (qzR ad)))) : W p l e R s m args below meth c H locs cells slots Q (F0 m pc lsS (st.map (qzR ad))) := by
  unfold qyDcmp at h
  split at h
  · rename_i hw
    subst hw
    split at h
    · obtain ⟨rfl, rfl, rfl⟩ := qyGo_inj h
      exact lv_dcmp F.1 F.2.1 hd (kk _ hls)
    · exact (qy_no h).elim
  · exact (qy_no h).elim
theorem qy_iinc {i : Nat} {n : Int} (F : qyF p s m args c G D z0 S E mi) (hls : qyLs ad mi lsS ls) (C : lgC G D z0 S s ad H locs hp) (hd : decode (qyMd mi).2.1 pc = .ok (.iinc i n, len)) (h : qyIinc mi i n len pc ls st = (some (.inl (pc', ls', st')) : Option qyA))
    (kk : ∀ lsS' : Array Slot, qyLs ad mi lsS' ls' → W p l e R s m args below meth c H locs cells slots Q (F0 m pc' lsS' (st'.map (qzR ad)))) : W p l e R s m args below meth c H locs cells slots Q (F0 m pc lsS (st.map (qzR ad))) := by
  unfold qyIinc at h
  split at h
  · rename_i hw
    obtain ⟨rfl, hpv⟩ := hw
    split at h
    · rename_i x hl
      obtain ⟨rfl, rfl, rfl⟩ := qyGo_inj h
      obtain ⟨hlen, hcat, lv, h1, h2⟩ := hls
      obtain ⟨k, hk⟩ := List.getElem?_of_mem (h2 i (.int x) hl (by intro q; cases q))
      exact lv_iinc F.1 F.2.1 hd h1 hk rfl (by rw [← hlen]; exact (List.getElem?_eq_some_iff.mp hl).1) rfl (fun lsS' h' => kk lsS' (qyLs.set1 (x := .int (x + Int32.ofInt n)) hlen hcat h2 rfl hpv h'))
    · exact (qy_no h).elim
  · exact (qy_no h).elim
theorem qy_if_eq {off : Int} (F : qyF p s m args c G D z0 S E mi) (hls : qyLs ad mi lsS ls) (C : lgC G D z0 S s ad H locs hp) (hd : decode (qyMd mi).2.1 pc = .ok (.ifCond .eq off, len)) (h : qyIf1 .eq off len pc ls st = (some (.inl (pc', ls', st')) : Option qyA))
    (kk : ∀ lsS' : Array Slot, qyLs ad mi lsS' ls' → W p l e R s m args below meth c H locs cells slots Q (F0 m pc' lsS' (st'.map (qzR ad)))) : W p l e R s m args below meth c H locs cells slots Q (F0 m pc lsS (st.map (qzR ad))) := by
  unfold qyIf1 at h
  split at h
  · rename_i hw
    subst hw
    split at h
    · obtain ⟨ht, hc, rfl, rfl⟩ := qyBr_inv h
      refine lv_if_eq F.1 F.2.1 hd ht (fun hx => ?_) (fun hx => ?_)
      · rcases hc with ⟨hq, rfl⟩ | ⟨hq, rfl⟩
        · exact kk _ hls
        · simp only [qzC1, decide_eq_false_iff_not] at hq
          first | exact (hq hx).elim | exact (hx hq).elim
      · rcases hc with ⟨hq, rfl⟩ | ⟨hq, rfl⟩
        · simp only [qzC1, decide_eq_true_eq] at hq
          first | exact (hx hq).elim | exact (hq hx).elim
        · exact kk _ hls
    · exact (qy_no h).elim
  · exact (qy_no h).elim
theorem qy_icmp_eq {off : Int} (F : qyF p s m args c G D z0 S E mi) (hls : qyLs ad mi lsS ls) (C : lgC G D z0 S s ad H locs hp) (hd : decode (qyMd mi).2.1 pc = .ok (.if_icmp .eq off, len)) (h : qyIf2 .eq off len pc ls st = (some (.inl (pc', ls', st')) : Option qyA))
    (kk : ∀ lsS' : Array Slot, qyLs ad mi lsS' ls' → W p l e R s m args below meth c H locs cells slots Q (F0 m pc' lsS' (st'.map (qzR ad)))) : W p l e R s m args below meth c H locs cells slots Q (F0 m pc lsS (st.map (qzR ad))) := by
  unfold qyIf2 at h
  split at h
  · rename_i hw
    subst hw
    split at h
    · obtain ⟨ht, hc, rfl, rfl⟩ := qyBr_inv h
      refine lv_icmp_eq F.1 F.2.1 hd ht (fun hx => ?_) (fun hx => ?_)
      · rcases hc with ⟨hq, rfl⟩ | ⟨hq, rfl⟩
        · exact kk _ hls
        · simp only [qzC2, decide_eq_false_iff_not] at hq
          first | exact (hq hx).elim | exact (hx hq).elim
      · rcases hc with ⟨hq, rfl⟩ | ⟨hq, rfl⟩
        · simp only [qzC2, decide_eq_true_eq] at hq
          first | exact (hx hq).elim | exact (hq hx).elim
        · exact kk _ hls
    · exact (qy_no h).elim
  · exact (qy_no h).elim
theorem qy_if_ne {off : Int} (F : qyF p s m args c G D z0 S E mi) (hls : qyLs ad mi lsS ls) (C : lgC G D z0 S s ad H locs hp) (hd : decode (qyMd mi).2.1 pc = .ok (.ifCond .ne off, len)) (h : qyIf1 .ne off len pc ls st = (some (.inl (pc', ls', st')) : Option qyA))
    (kk : ∀ lsS' : Array Slot, qyLs ad mi lsS' ls' → W p l e R s m args below meth c H locs cells slots Q (F0 m pc' lsS' (st'.map (qzR ad)))) : W p l e R s m args below meth c H locs cells slots Q (F0 m pc lsS (st.map (qzR ad))) := by
  unfold qyIf1 at h
  split at h
  · rename_i hw
    subst hw
    split at h
    · obtain ⟨ht, hc, rfl, rfl⟩ := qyBr_inv h
      refine lv_if_ne F.1 F.2.1 hd ht (fun hx => ?_) (fun hx => ?_)
      · rcases hc with ⟨hq, rfl⟩ | ⟨hq, rfl⟩
        · exact kk _ hls
        · simp only [qzC1, decide_eq_false_iff_not] at hq
          first | exact (hq hx).elim | exact (hx hq).elim
      · rcases hc with ⟨hq, rfl⟩ | ⟨hq, rfl⟩
        · simp only [qzC1, decide_eq_true_eq] at hq
          first | exact (hx hq).elim | exact (hq hx).elim
        · exact kk _ hls
    · exact (qy_no h).elim
  · exact (qy_no h).elim
theorem qy_icmp_ne {off : Int} (F : qyF p s m args c G D z0 S E mi) (hls : qyLs ad mi lsS ls) (C : lgC G D z0 S s ad H locs hp) (hd : decode (qyMd mi).2.1 pc = .ok (.if_icmp .ne off, len)) (h : qyIf2 .ne off len pc ls st = (some (.inl (pc', ls', st')) : Option qyA))
    (kk : ∀ lsS' : Array Slot, qyLs ad mi lsS' ls' → W p l e R s m args below meth c H locs cells slots Q (F0 m pc' lsS' (st'.map (qzR ad)))) : W p l e R s m args below meth c H locs cells slots Q (F0 m pc lsS (st.map (qzR ad))) := by
  unfold qyIf2 at h
  split at h
  · rename_i hw
    subst hw
    split at h
    · obtain ⟨ht, hc, rfl, rfl⟩ := qyBr_inv h
      refine lv_icmp_ne F.1 F.2.1 hd ht (fun hx => ?_) (fun hx => ?_)
      · rcases hc with ⟨hq, rfl⟩ | ⟨hq, rfl⟩
        · exact kk _ hls
        · simp only [qzC2, decide_eq_false_iff_not] at hq
          first | exact (hq hx).elim | exact (hx hq).elim
      · rcases hc with ⟨hq, rfl⟩ | ⟨hq, rfl⟩
        · simp only [qzC2, decide_eq_true_eq] at hq
          first | exact (hx hq).elim | exact (hq hx).elim
        · exact kk _ hls
    · exact (qy_no h).elim
  · exact (qy_no h).elim
theorem qy_if_lt {off : Int} (F : qyF p s m args c G D z0 S E mi) (hls : qyLs ad mi lsS ls) (C : lgC G D z0 S s ad H locs hp) (hd : decode (qyMd mi).2.1 pc = .ok (.ifCond .lt off, len)) (h : qyIf1 .lt off len pc ls st = (some (.inl (pc', ls', st')) : Option qyA))
    (kk : ∀ lsS' : Array Slot, qyLs ad mi lsS' ls' → W p l e R s m args below meth c H locs cells slots Q (F0 m pc' lsS' (st'.map (qzR ad)))) : W p l e R s m args below meth c H locs cells slots Q (F0 m pc lsS (st.map (qzR ad))) := by
  unfold qyIf1 at h
  split at h
  · rename_i hw
    subst hw
    split at h
    · obtain ⟨ht, hc, rfl, rfl⟩ := qyBr_inv h
      refine lv_if_lt F.1 F.2.1 hd ht (fun hx => ?_) (fun hx => ?_)
      · rcases hc with ⟨hq, rfl⟩ | ⟨hq, rfl⟩
        · exact kk _ hls
        · simp only [qzC1, decide_eq_false_iff_not] at hq
          first | exact (hq hx).elim | exact (hx hq).elim
      · rcases hc with ⟨hq, rfl⟩ | ⟨hq, rfl⟩
        · simp only [qzC1, decide_eq_true_eq] at hq
          first | exact (hx hq).elim | exact (hq hx).elim
        · exact kk _ hls
    · exact (qy_no h).elim
  · exact (qy_no h).elim
theorem qy_icmp_lt {off : Int} (F : qyF p s m args c G D z0 S E mi) (hls : qyLs ad mi lsS ls) (C : lgC G D z0 S s ad H locs hp) (hd : decode (qyMd mi).2.1 pc = .ok (.if_icmp .lt off, len)) (h : qyIf2 .lt off len pc ls st = (some (.inl (pc', ls', st')) : Option qyA))
    (kk : ∀ lsS' : Array Slot, qyLs ad mi lsS' ls' → W p l e R s m args below meth c H locs cells slots Q (F0 m pc' lsS' (st'.map (qzR ad)))) : W p l e R s m args below meth c H locs cells slots Q (F0 m pc lsS (st.map (qzR ad))) := by
  unfold qyIf2 at h
  split at h
  · rename_i hw
    subst hw
    split at h
    · obtain ⟨ht, hc, rfl, rfl⟩ := qyBr_inv h
      refine lv_icmp_lt F.1 F.2.1 hd ht (fun hx => ?_) (fun hx => ?_)
      · rcases hc with ⟨hq, rfl⟩ | ⟨hq, rfl⟩
        · exact kk _ hls
        · simp only [qzC2, decide_eq_false_iff_not] at hq
          first | exact (hq hx).elim | exact (hx hq).elim
      · rcases hc with ⟨hq, rfl⟩ | ⟨hq, rfl⟩
        · simp only [qzC2, decide_eq_true_eq] at hq
          first | exact (hx hq).elim | exact (hq hx).elim
        · exact kk _ hls
    · exact (qy_no h).elim
  · exact (qy_no h).elim
theorem qy_if_ge {off : Int} (F : qyF p s m args c G D z0 S E mi) (hls : qyLs ad mi lsS ls) (C : lgC G D z0 S s ad H locs hp) (hd : decode (qyMd mi).2.1 pc = .ok (.ifCond .ge off, len)) (h : qyIf1 .ge off len pc ls st = (some (.inl (pc', ls', st')) : Option qyA))
    (kk : ∀ lsS' : Array Slot, qyLs ad mi lsS' ls' → W p l e R s m args below meth c H locs cells slots Q (F0 m pc' lsS' (st'.map (qzR ad)))) : W p l e R s m args below meth c H locs cells slots Q (F0 m pc lsS (st.map (qzR ad))) := by
  unfold qyIf1 at h
  split at h
  · rename_i hw
    subst hw
    split at h
    · obtain ⟨ht, hc, rfl, rfl⟩ := qyBr_inv h
      refine lv_if_ge F.1 F.2.1 hd ht (fun hx => ?_) (fun hx => ?_)
      · rcases hc with ⟨hq, rfl⟩ | ⟨hq, rfl⟩
        · exact kk _ hls
        · simp only [qzC1, decide_eq_false_iff_not] at hq
          first | exact (hq hx).elim | exact (hx hq).elim
      · rcases hc with ⟨hq, rfl⟩ | ⟨hq, rfl⟩
        · simp only [qzC1, decide_eq_true_eq] at hq
          first | exact (hx hq).elim | exact (hq hx).elim
        · exact kk _ hls
    · exact (qy_no h).elim
  · exact (qy_no h).elim
theorem qy_icmp_ge {off : Int} (F : qyF p s m args c G D z0 S E mi) (hls : qyLs ad mi lsS ls) (C : lgC G D z0 S s ad H locs hp) (hd : decode (qyMd mi).2.1 pc = .ok (.if_icmp .ge off, len)) (h : qyIf2 .ge off len pc ls st = (some (.inl (pc', ls', st')) : Option qyA))
    (kk : ∀ lsS' : Array Slot, qyLs ad mi lsS' ls' → W p l e R s m args below meth c H locs cells slots Q (F0 m pc' lsS' (st'.map (qzR ad)))) : W p l e R s m args below meth c H locs cells slots Q (F0 m pc lsS (st.map (qzR ad))) := by
  unfold qyIf2 at h
  split at h
  · rename_i hw
    subst hw
    split at h
    · obtain ⟨ht, hc, rfl, rfl⟩ := qyBr_inv h
      refine lv_icmp_ge F.1 F.2.1 hd ht (fun hx => ?_) (fun hx => ?_)
      · rcases hc with ⟨hq, rfl⟩ | ⟨hq, rfl⟩
        · exact kk _ hls
        · simp only [qzC2, decide_eq_false_iff_not] at hq
          first | exact (hq hx).elim | exact (hx hq).elim
      · rcases hc with ⟨hq, rfl⟩ | ⟨hq, rfl⟩
        · simp only [qzC2, decide_eq_true_eq] at hq
          first | exact (hx hq).elim | exact (hq hx).elim
        · exact kk _ hls
    · exact (qy_no h).elim
  · exact (qy_no h).elim
theorem qy_if_gt {off : Int} (F : qyF p s m args c G D z0 S E mi) (hls : qyLs ad mi lsS ls) (C : lgC G D z0 S s ad H locs hp) (hd : decode (qyMd mi).2.1 pc = .ok (.ifCond .gt off, len)) (h : qyIf1 .gt off len pc ls st = (some (.inl (pc', ls', st')) : Option qyA))
    (kk : ∀ lsS' : Array Slot, qyLs ad mi lsS' ls' → W p l e R s m args below meth c H locs cells slots Q (F0 m pc' lsS' (st'.map (qzR ad)))) : W p l e R s m args below meth c H locs cells slots Q (F0 m pc lsS (st.map (qzR ad))) := by
  unfold qyIf1 at h
  split at h
  · rename_i hw
    subst hw
    split at h
    · obtain ⟨ht, hc, rfl, rfl⟩ := qyBr_inv h
      refine lv_if_gt F.1 F.2.1 hd ht (fun hx => ?_) (fun hx => ?_)
      · rcases hc with ⟨hq, rfl⟩ | ⟨hq, rfl⟩
        · exact kk _ hls
        · simp only [qzC1, decide_eq_false_iff_not] at hq
          first | exact (hq hx).elim | exact (hx hq).elim
      · rcases hc with ⟨hq, rfl⟩ | ⟨hq, rfl⟩
        · simp only [qzC1, decide_eq_true_eq] at hq
          first | exact (hx hq).elim | exact (hq hx).elim
        · exact kk _ hls
    · exact (qy_no h).elim
  · exact (qy_no h).elim
theorem qy_icmp_gt {off : Int} (F : qyF p s m args c G D z0 S E mi) (hls : qyLs ad mi lsS ls) (C : lgC G D z0 S s ad H locs hp) (hd : decode (qyMd mi).2.1 pc = .ok (.if_icmp .gt off, len)) (h : qyIf2 .gt off len pc ls st = (some (.inl (pc', ls', st')) : Option qyA))
    (kk : ∀ lsS' : Array Slot, qyLs ad mi lsS' ls' → W p l e R s m args below meth c H locs cells slots Q (F0 m pc' lsS' (st'.map (qzR ad)))) : W p l e R s m args below meth c H locs cells slots Q (F0 m pc lsS (st.map (qzR ad))) := by
  unfold qyIf2 at h
  split at h
  · rename_i hw
    subst hw
    split at h
    · obtain ⟨ht, hc, rfl, rfl⟩ := qyBr_inv h
      refine lv_icmp_gt F.1 F.2.1 hd ht (fun hx => ?_) (fun hx => ?_)
      · rcases hc with ⟨hq, rfl⟩ | ⟨hq, rfl⟩
        · exact kk _ hls
        · simp only [qzC2, decide_eq_false_iff_not] at hq
          first | exact (hq hx).elim | exact (hx hq).elim
      · rcases hc with ⟨hq, rfl⟩ | ⟨hq, rfl⟩
        · simp only [qzC2, decide_eq_true_eq] at hq
          first | exact (hx hq).elim | exact (hq hx).elim
        · exact kk _ hls
    · exact (qy_no h).elim
  · exact (qy_no h).elim
theorem qy_if_le {off : Int} (F : qyF p s m args c G D z0 S E mi) (hls : qyLs ad mi lsS ls) (C : lgC G D z0 S s ad H locs hp) (hd : decode (qyMd mi).2.1 pc = .ok (.ifCond .le off, len)) (h : qyIf1 .le off len pc ls st = (some (.inl (pc', ls', st')) : Option qyA))
    (kk : ∀ lsS' : Array Slot, qyLs ad mi lsS' ls' → W p l e R s m args below meth c H locs cells slots Q (F0 m pc' lsS' (st'.map (qzR ad)))) : W p l e R s m args below meth c H locs cells slots Q (F0 m pc lsS (st.map (qzR ad))) := by
  unfold qyIf1 at h
  split at h
  · rename_i hw
    subst hw
    split at h
    · obtain ⟨ht, hc, rfl, rfl⟩ := qyBr_inv h
      refine lv_if_le F.1 F.2.1 hd ht (fun hx => ?_) (fun hx => ?_)
      · rcases hc with ⟨hq, rfl⟩ | ⟨hq, rfl⟩
        · exact kk _ hls
        · simp only [qzC1, decide_eq_false_iff_not] at hq
          first | exact (hq hx).elim | exact (hx hq).elim
      · rcases hc with ⟨hq, rfl⟩ | ⟨hq, rfl⟩
        · simp only [qzC1, decide_eq_true_eq] at hq
          first | exact (hx hq).elim | exact (hq hx).elim
        · exact kk _ hls
    · exact (qy_no h).elim
  · exact (qy_no h).elim
theorem qy_icmp_le {off : Int} (F : qyF p s m args c G D z0 S E mi) (hls : qyLs ad mi lsS ls) (C : lgC G D z0 S s ad H locs hp) (hd : decode (qyMd mi).2.1 pc = .ok (.if_icmp .le off, len)) (h : qyIf2 .le off len pc ls st = (some (.inl (pc', ls', st')) : Option qyA))
    (kk : ∀ lsS' : Array Slot, qyLs ad mi lsS' ls' → W p l e R s m args below meth c H locs cells slots Q (F0 m pc' lsS' (st'.map (qzR ad)))) : W p l e R s m args below meth c H locs cells slots Q (F0 m pc lsS (st.map (qzR ad))) := by
  unfold qyIf2 at h
  split at h
  · rename_i hw
    subst hw
    split at h
    · obtain ⟨ht, hc, rfl, rfl⟩ := qyBr_inv h
      refine lv_icmp_le F.1 F.2.1 hd ht (fun hx => ?_) (fun hx => ?_)
      · rcases hc with ⟨hq, rfl⟩ | ⟨hq, rfl⟩
        · exact kk _ hls
        · simp only [qzC2, decide_eq_false_iff_not] at hq
          first | exact (hq hx).elim | exact (hx hq).elim
      · rcases hc with ⟨hq, rfl⟩ | ⟨hq, rfl⟩
        · simp only [qzC2, decide_eq_true_eq] at hq
          first | exact (hx hq).elim | exact (hq hx).elim
        · exact kk _ hls
    · exact (qy_no h).elim
  · exact (qy_no h).elim
theorem qy_goto {off : Int} (F : qyF p s m args c G D z0 S E mi) (hls : qyLs ad mi lsS ls) (C : lgC G D z0 S s ad H locs hp) (hd : decode (qyMd mi).2.1 pc = .ok (.goto off, len)) (h : qyGoto off len pc ls st = (some (.inl (pc', ls', st')) : Option qyA))
    (kk : ∀ lsS' : Array Slot, qyLs ad mi lsS' ls' → W p l e R s m args below meth c H locs cells slots Q (F0 m pc' lsS' (st'.map (qzR ad)))) : W p l e R s m args below meth c H locs cells slots Q (F0 m pc lsS (st.map (qzR ad))) := by
  unfold qyGoto at h
  split at h
  · rename_i hw
    obtain ⟨rfl, h0⟩ := hw
    obtain ⟨rfl, rfl, rfl⟩ := qyGo_inj h
    exact lv_goto (tgt := qzTg pc off) F.1 F.2.1 hd (by unfold qzTg; omega) (kk _ hls)
  · exact (qy_no h).elim
theorem qy_ldc {idx : Nat} (F : qyF p s m args c G D z0 S E mi) (hls : qyLs ad mi lsS ls) (C : lgC G D z0 S s ad H locs hp) (hd : decode (qyMd mi).2.1 pc = .ok (.ldc idx, len)) (h : qyLdc idx len pc ls st = (some (.inl (pc', ls', st')) : Option qyA))
    (kk : ∀ lsS' : Array Slot, qyLs ad mi lsS' ls' → W p l e R s m args below meth c H locs cells slots Q (F0 m pc' lsS' (st'.map (qzR ad)))) : W p l e R s m args below meth c H locs cells slots Q (F0 m pc lsS (st.map (qzR ad))) := by
  unfold qyLdc at h
  split at h
  · rename_i hw
    subst hw
    split at h
    · rename_i hc
      subst hc
      obtain ⟨rfl, rfl, rfl⟩ := qyGo_inj h
      exact lv_ldc (own := RL) F.1 F.2.1 F.2.2.2.1 (F.2.2.2.2.1 _ qys_k8) hd (kk _ hls)
    · split at h
      · rename_i hc
        subst hc
        obtain ⟨rfl, rfl, rfl⟩ := qyGo_inj h
        exact lv_ldc (own := RL) F.1 F.2.1 F.2.2.2.1 (F.2.2.2.2.1 _ qys_k7) hd (kk _ hls)
      · exact (qy_no h).elim
  · exact (qy_no h).elim
theorem qy_ldc2 {idx : Nat} (F : qyF p s m args c G D z0 S E mi) (hls : qyLs ad mi lsS ls) (C : lgC G D z0 S s ad H locs hp) (hd : decode (qyMd mi).2.1 pc = .ok (.ldc2_w idx, len)) (h : qyLdc2 idx len pc ls st = (some (.inl (pc', ls', st')) : Option qyA))
    (kk : ∀ lsS' : Array Slot, qyLs ad mi lsS' ls' → W p l e R s m args below meth c H locs cells slots Q (F0 m pc' lsS' (st'.map (qzR ad)))) : W p l e R s m args below meth c H locs cells slots Q (F0 m pc lsS (st.map (qzR ad))) := by
  unfold qyLdc2 at h
  split at h
  · rename_i hw
    subst hw
    split at h
    · rename_i hc
      subst hc
      obtain ⟨rfl, rfl, rfl⟩ := qyGo_inj h
      exact lv_ldc2 (own := RL) F.1 F.2.1 F.2.2.2.1 (F.2.2.2.2.1 _ qys_l9) hd (kk _ hls)
    · split at h
      · rename_i hc
        subst hc
        obtain ⟨rfl, rfl, rfl⟩ := qyGo_inj h
        exact lv_ldc2 (own := RL) F.1 F.2.1 F.2.2.2.1 (F.2.2.2.2.1 _ qys_l11) hd (kk _ hls)
      · exact (qy_no h).elim
  · exact (qy_no h).elim
theorem qy_alen (F : qyF p s m args c G D z0 S E mi) (hls : qyLs ad mi lsS ls) (C : lgC G D z0 S s ad H locs hp) (hd : decode (qyMd mi).2.1 pc = .ok (.arraylength, len)) (h : qyAlen E len pc ls st = (some (.inl (pc', ls', st')) : Option qyA))
    (kk : ∀ lsS' : Array Slot, qyLs ad mi lsS' ls' → W p l e R s m args below meth c H locs cells slots Q (F0 m pc' lsS' (st'.map (qzR ad)))) : W p l e R s m args below meth c H locs cells slots Q (F0 m pc lsS (st.map (qzR ad))) := by
  unfold qyAlen at h
  split at h
  · rename_i hw
    subst hw
    split at h
    · split at h
      · rename_i st1 ha
        subst ha
        obtain ⟨rfl, rfl, rfl⟩ := qyGo_inj h
        have hbz : S 4 < z0 := F.2.2.2.2.2.2.2.2.2.2
        have hz : z0 ≤ s.heap.size := F.2.2.2.2.2.2.2.2.1
        have ea : qzR ad (.ref 1004) = .ref (S 4) := congrArg Value.ref (C.2.1 4)
        rw [List.map_cons, ea]
        exact va_slen F.1 F.2.1 F.2.2.2.2.2.2.2.2.2.1 (Nat.lt_of_lt_of_le hbz hz) (Nat.not_le.mpr hbz) C.2.2.2.2.2 hd (kk _ hls)
      · exact (qy_no h).elim
    · exact (qy_no h).elim
  · exact (qy_no h).elim
theorem qy_iald (F : qyF p s m args c G D z0 S E mi) (hls : qyLs ad mi lsS ls) (C : lgC G D z0 S s ad H locs hp) (hd : decode (qyMd mi).2.1 pc = .ok (.iaload, len)) (h : qyIald E len pc ls st = (some (.inl (pc', ls', st')) : Option qyA))
    (kk : ∀ lsS' : Array Slot, qyLs ad mi lsS' ls' → W p l e R s m args below meth c H locs cells slots Q (F0 m pc' lsS' (st'.map (qzR ad)))) : W p l e R s m args below meth c H locs cells slots Q (F0 m pc lsS (st.map (qzR ad))) := by
  unfold qyIald at h
  split at h
  · rename_i hw
    subst hw
    split at h
    · split at h
      · rename_i i a st1 ha
        obtain ⟨rfl, hin⟩ := ha
        obtain ⟨rfl, rfl, rfl⟩ := qyGo_inj h
        have hbz : S 4 < z0 := F.2.2.2.2.2.2.2.2.2.2
        have hz : z0 ≤ s.heap.size := F.2.2.2.2.2.2.2.2.1
        have ea : qzR ad (.ref 1004) = .ref (S 4) := congrArg Value.ref (C.2.1 4)
        rw [List.map_cons, List.map_cons, ea]
        exact va_sld F.1 F.2.1 F.2.2.2.2.2.2.2.2.2.1 (Nat.lt_of_lt_of_le hbz hz) (Nat.not_le.mpr hbz) C.2.2.2.2.2 (qzIn_ok hin) hd (kk _ hls)
      · exact (qy_no h).elim
    · exact (qy_no h).elim
  · exact (qy_no h).elim
theorem qyVirt_l {idx : Nat} {q : Nat × List Value × List Value} (h : qyVirt idx len st = (some (.inl q) : Option qyA)) : False := by
  unfold qyVirt at h
  repeat' split at h
  all_goals cases h
theorem qyStat_l {idx : Nat} {q : Nat × List Value × List Value} (h : qyStat idx len st = (some (.inl q) : Option qyA)) : False := by
  unfold qyStat at h
  repeat' split at h
  all_goals cases h
theorem qyRet_l {q : Nat × List Value × List Value} (h : qyRet mi len st = (some (.inl q) : Option qyA)) : False := by
  unfold qyRet at h
  repeat' split at h
  all_goals cases h
theorem qyLret_l {q : Nat × List Value × List Value} (h : qyLret mi len st = (some (.inl q) : Option qyA)) : False := by
  unfold qyLret at h
  repeat' split at h
  all_goals cases h
theorem qy_go {ins : Instr} (F : qyF p s m args c G D z0 S E mi) (hls : qyLs ad mi lsS ls) (C : lgC G D z0 S s ad H locs hp) (hd : decode (qyMd mi).2.1 pc = .ok (ins, len)) (h : qyI E mi pc ins len ls st = (some (.inl (pc', ls', st')) : Option qyA))
    (kk : ∀ lsS' : Array Slot, qyLs ad mi lsS' ls' → W p l e R s m args below meth c H locs cells slots Q (F0 m pc' lsS' (st'.map (qzR ad)))) : W p l e R s m args below meth c H locs cells slots Q (F0 m pc lsS (st.map (qzR ad))) := by
  cases ins with
  | iconst n => exact qy_iconst F hls C hd h kk
  | bipush n => exact qy_bipush F hls C hd h kk
  | sipush n => exact qy_sipush F hls C hd h kk
  | iload_n k => exact qy_iload_n F hls C hd h kk
  | iload k => exact qy_iload F hls C hd h kk
  | lload_n k => exact qy_lload_n F hls C hd h kk
  | lload k => exact qy_lload F hls C hd h kk
  | aload_n k => exact qy_aload_n F hls C hd h kk
  | istore_n k => exact qy_istore_n F hls C hd h kk
  | istore k => exact qy_istore F hls C hd h kk
  | astore_n k => exact qy_astore_n F hls C hd h kk
  | lstore_n k => exact qy_lstore_n F hls C hd h kk
  | lstore k => exact qy_lstore F hls C hd h kk
  | iadd => exact qy_iadd F hls C hd h kk
  | isub => exact qy_isub F hls C hd h kk
  | imul => exact qy_imul F hls C hd h kk
  | iand => exact qy_iand F hls C hd h kk
  | ishr => exact qy_ishr F hls C hd h kk
  | idiv => exact qy_idiv F hls C hd h kk
  | irem => exact qy_irem F hls C hd h kk
  | ladd => exact qy_ladd F hls C hd h kk
  | lmul => exact qy_lmul F hls C hd h kk
  | lcmp => exact qy_lcmp F hls C hd h kk
  | i2l => exact qy_i2l F hls C hd h kk
  | i2d => exact qy_i2d F hls C hd h kk
  | ddiv => exact qy_ddiv F hls C hd h kk
  | dcmp op => exact qy_dcmp F hls C hd h kk
  | iinc i n => exact qy_iinc F hls C hd h kk
  | goto off => exact qy_goto F hls C hd h kk
  | dconst n =>
    have h1 : (if n = 0 then qyPush (.double FP.dconst0) len 1 pc ls st else none) = (some (.inl (pc', ls', st')) : Option qyA) := h
    split at h1
    · rename_i hn
      subst hn
      exact qy_dconst F hls C hd h1 kk
    · exact (qy_no h1).elim
  | ldc idx => exact qy_ldc F hls C hd h kk
  | ldc2_w idx => exact qy_ldc2 F hls C hd h kk
  | arraylength => exact qy_alen F hls C hd h kk
  | iaload => exact qy_iald F hls C hd h kk
  | ifCond k off => cases k with
    | eq => exact qy_if_eq F hls C hd h kk
    | ne => exact qy_if_ne F hls C hd h kk
    | lt => exact qy_if_lt F hls C hd h kk
    | ge => exact qy_if_ge F hls C hd h kk
    | gt => exact qy_if_gt F hls C hd h kk
    | le => exact qy_if_le F hls C hd h kk
  | if_icmp k off => cases k with
    | eq => exact qy_icmp_eq F hls C hd h kk
    | ne => exact qy_icmp_ne F hls C hd h kk
    | lt => exact qy_icmp_lt F hls C hd h kk
    | ge => exact qy_icmp_ge F hls C hd h kk
    | gt => exact qy_icmp_gt F hls C hd h kk
    | le => exact qy_icmp_le F hls C hd h kk
  | invokevirtual idx => exact (qyVirt_l h).elim
  | invokestatic idx => exact (qyStat_l h).elim
  | ireturn => exact (qyRet_l h).elim
  | lreturn => exact (qyLret_l h).elim
  | _ => exact (qy_no h).elim
end QY1
