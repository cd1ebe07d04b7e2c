theorem dX2_rate_0 : decode cX2_rate 0 = .ok (.aload_n 0, 1) := by decide +kernel
theorem dX2_rate_1 : decode cX2_rate 1 = .ok (.getfield 10, 3) := by decide +kernel
theorem dX2_rate_4 : decode cX2_rate 4 = .ok (.aload_n 0, 1) := by decide +kernel
theorem dX2_rate_5 : decode cX2_rate 5 = .ok (.getfield 10, 3) := by decide +kernel
theorem dX2_rate_8 : decode cX2_rate 8 = .ok (.getfield 133, 3) := by decide +kernel
theorem dX2_rate_11 : decode cX2_rate 11 = .ok (.iconst 0, 1) := by decide +kernel
theorem dX2_rate_12 : decode cX2_rate 12 = .ok (.invokevirtual 127, 3) := by decide +kernel
theorem dX2_rate_15 : decode cX2_rate 15 = .ok (.aload_n 0, 1) := by decide +kernel
theorem dX2_rate_16 : decode cX2_rate 16 = .ok (.getfield 10, 3) := by decide +kernel
theorem dX2_rate_19 : decode cX2_rate 19 = .ok (.aload_n 0, 1) := by decide +kernel
theorem dX2_rate_20 : decode cX2_rate 20 = .ok (.getfield 10, 3) := by decide +kernel
theorem dX2_rate_23 : decode cX2_rate 23 = .ok (.getfield 133, 3) := by decide +kernel
theorem dX2_rate_26 : decode cX2_rate 26 = .ok (.iconst 1, 1) := by decide +kernel
theorem dX2_rate_27 : decode cX2_rate 27 = .ok (.invokevirtual 127, 3) := by decide +kernel
theorem dX2_rate_30 : decode cX2_rate 30 = .ok (.iadd, 1) := by decide +kernel
theorem dX2_rate_31 : decode cX2_rate 31 = .ok (.istore_n 1, 1) := by decide +kernel
theorem dX2_rate_32 : decode cX2_rate 32 = .ok (.iload_n 1, 1) := by decide +kernel
theorem dX2_rate_33 : decode cX2_rate 33 = .ok (.ifCond .gt 5, 3) := by decide +kernel
theorem dX2_rate_36 : decode cX2_rate 36 = .ok (.dconst 0, 1) := by decide +kernel
theorem dX2_rate_37 : decode cX2_rate 37 = .ok (.dreturn, 1) := by decide +kernel
theorem dX2_rate_38 : decode cX2_rate 38 = .ok (.aload_n 0, 1) := by decide +kernel
theorem dX2_rate_39 : decode cX2_rate 39 = .ok (.getfield 10, 3) := by decide +kernel
theorem dX2_rate_42 : decode cX2_rate 42 = .ok (.aload_n 0, 1) := by decide +kernel
theorem dX2_rate_43 : decode cX2_rate 43 = .ok (.getfield 10, 3) := by decide +kernel
theorem dX2_rate_46 : decode cX2_rate 46 = .ok (.getfield 124, 3) := by decide +kernel
theorem dX2_rate_49 : decode cX2_rate 49 = .ok (.iconst 0, 1) := by decide +kernel
theorem dX2_rate_50 : decode cX2_rate 50 = .ok (.invokevirtual 127, 3) := by decide +kernel
theorem dX2_rate_53 : decode cX2_rate 53 = .ok (.aload_n 0, 1) := by decide +kernel
theorem dX2_rate_54 : decode cX2_rate 54 = .ok (.getfield 10, 3) := by decide +kernel
theorem dX2_rate_57 : decode cX2_rate 57 = .ok (.aload_n 0, 1) := by decide +kernel
theorem dX2_rate_58 : decode cX2_rate 58 = .ok (.getfield 10, 3) := by decide +kernel
theorem dX2_rate_61 : decode cX2_rate 61 = .ok (.getfield 124, 3) := by decide +kernel
theorem dX2_rate_64 : decode cX2_rate 64 = .ok (.iconst 1, 1) := by decide +kernel
theorem dX2_rate_65 : decode cX2_rate 65 = .ok (.invokevirtual 127, 3) := by decide +kernel
theorem dX2_rate_68 : decode cX2_rate 68 = .ok (.iadd, 1) := by decide +kernel
theorem dX2_rate_69 : decode cX2_rate 69 = .ok (.istore_n 2, 1) := by decide +kernel
theorem dX2_rate_70 : decode cX2_rate 70 = .ok (.iload_n 2, 1) := by decide +kernel
theorem dX2_rate_71 : decode cX2_rate 71 = .ok (.i2d, 1) := by decide +kernel
theorem dX2_rate_72 : decode cX2_rate 72 = .ok (.iload_n 1, 1) := by decide +kernel
theorem dX2_rate_73 : decode cX2_rate 73 = .ok (.i2d, 1) := by decide +kernel
theorem dX2_rate_74 : decode cX2_rate 74 = .ok (.ddiv, 1) := by decide +kernel
theorem dX2_rate_75 : decode cX2_rate 75 = .ok (.dreturn, 1) := by decide +kernel
theorem qzW_ag {G : qzGT} {ad ad' : Nat → Nat} {hp : qzH} (hw : qzWf hp) (h : qzAg hp.1 ad ad') : qzW G ad' hp = qzW G ad hp := by
  unfold qzW
  apply List.map_congr_left
  intro i hi
  rw [List.mem_range] at hi
  rw [h i (Or.inl hi), qzE_ag (n := hp.1) (fun j a ha => hw i j a ha) h]
/-! rate() of the class and of the reference -/
section RT
variable {p : Program} {l : Launch} {e : Env} {R : Room} {s : State} {m : MethodId} {args : Array Value} {below : List Frame} {meth : Method} {c : Code} {Q : State → Prop} {G : qzGT} {D : va_G} {z0 : Nat} {S : Nat → Nat} {mi pc : Nat} {ad : Nat → Nat} {lsS : Array Slot} {H : Heap} {locs : List Loc} {ls st ls' st' : List Value} {hp : qzH} {pc' len : Nat}
/-- behind a step that makes nothing new, told with the addresses from before -/
theorem qzKK.ad1 {hp' : qzH} {n0 : Nat} (hn : hp'.1 = hp.1) (c4 : ∀ i, ad (1000 + i) = S i) (hst : ∀ v ∈ st', qzOk hp.1 v)
    (kk : ∀ (lsS' : Array Slot) (H' : Heap) (locs' : List Loc), qzCx G D z0 S s mi ad lsS' H' locs' ls' st' hp' → qzG p l e R s m args below meth c Q n0 pc' ad lsS' H' locs' st' hp'.1) : qzKK p l e R s m args below meth c Q G D z0 S mi n0 hp.1 ad pc' ls' st' hp' := by
  intro ad' lsS' H' locs' ag C'
  obtain ⟨c1, c2, c3, c4', c5, cP, cD, cS⟩ := C'
  have ag1 : qzAg hp'.1 ad ad' := by rw [hn]; exact ag
  have ag' : qzAg hp'.1 ad' ad := fun i hi => (ag1 i hi).symm
  rw [qzW_ag c3 ag1] at cP cD
  have g := kk lsS' H' locs' ⟨c1.ag ag' (Nat.le_refl _), c2, c3, c4, c5, cP, cD, cS⟩
  unfold qzG at g ⊢
  have e1 : st'.map (qzR ad') = st'.map (qzR ad) := List.map_congr_left (fun v hv => qzR_ag ag (hst v hv))
  rw [e1]
  exact g
theorem rt_go {ins : Instr} (hTx : qzTx l) (F : qzFx p G D z0 S s m args meth c mi) (C : qzCx G D z0 S s mi ad lsS H locs ls st hp) (hd : decode (qzMd mi).2.1 pc = .ok (ins, len)) (h : qzI mi pc ins len ls st hp = (some (.inl (pc', ls', st', hp)) : Option qzA)) (hR : qzRo R hp.1 hp.1 hp.1) (hst : ∀ v ∈ st', qzOk hp.1 v)
    (kk : ∀ (lsS' : Array Slot) (H' : Heap) (locs' : List Loc), qzCx G D z0 S s mi ad lsS' H' locs' ls' st' hp → qzG p l e R s m args below meth c Q hp.1 pc' ad lsS' H' locs' st' hp.1) : qzG p l e R s m args below meth c Q hp.1 pc ad lsS H locs st hp.1 :=
  qz_go hTx F C hd h hR (qzKK.ad1 rfl C.2.2.2.1 hst kk)
theorem rt_call {idx mj d : Nat} {as rest : List Value} {v : Int32} (hTx : qzTx l) (F : qzFx p G D z0 S s m args meth c mi) (C : qzCx G D z0 S s mi ad lsS H locs ls st hp) (hd : decode (qzMd mi).2.1 pc = .ok (.invokevirtual idx, 3)) (h : qzCall 1 (qzMd mi).2.2.2.2.2.2 idx 3 st hp = (some (.inr (.inl (mj, as, rest))) : Option qzA)) (hq : qzC d mj as hp = some (some (.int v), hp)) (hmj : mj < 149) (has : ∀ v ∈ as, qzOk hp.1 v) (hl : as.length ≤ (qzMd mj).2.2.1) (hR : qzRc R d hp.1 hp.1 hp.1) (hrest : ∀ v ∈ rest, qzOk hp.1 v)
    (kk : ∀ (lsS' : Array Slot) (H' : Heap) (locs' : List Loc), qzCx G D z0 S s mi ad lsS' H' locs' ls (.int v :: rest) hp → qzG p l e R s m args below meth c Q hp.1 (pc + 3) ad lsS' H' locs' (.int v :: rest) hp.1) : qzG p l e R s m args below meth c Q hp.1 pc ad lsS H locs st hp.1 :=
  qz_callV F C hd h (qzC_met hTx hq hmj has hl C.2.2.1 C.2.2.2.2.1 C.2.2.2.1) hR (qzKK.ad1 (st' := .int v :: rest) rfl C.2.2.2.1 (fun u hu => by
    rcases List.mem_cons.mp hu with q | q
    · subst q; trivial
    · exact hrest u q) kk)
end RT
theorem rt_ok2 {i j : Nat} {vs : List Value} (hi : i < 60) (h : ∀ v ∈ vs, qzOk 60 v) : ∀ v ∈ (.ref i :: vs : List Value), qzOk 60 v := List.forall_mem_cons.mpr ⟨Or.inl hi, h⟩
theorem rt_nil : ∀ v ∈ ([] : List Value), qzOk 60 v := fun v hv => (List.not_mem_nil hv).elim
theorem rt_i {x : Int32} {vs : List Value} (h : ∀ v ∈ vs, qzOk 60 v) : ∀ v ∈ (.int x :: vs : List Value), qzOk 60 v := List.forall_mem_cons.mpr ⟨trivial, h⟩
theorem rt_r {i : Nat} {vs : List Value} (hi : i < 60) (h : ∀ v ∈ vs, qzOk 60 v) : ∀ v ∈ (.ref i :: vs : List Value), qzOk 60 v := List.forall_mem_cons.mpr ⟨Or.inl hi, h⟩
set_option maxHeartbeats 4000000 in
set_option maxRecDepth 100000 in
theorem rt_Y {l : Launch} (hTx : qzTx l) {G : qzGT} {D : va_G} {z0 : Nat} {S : Nat → Nat} {ad : Nat → Nat} {pa : Nat → Nat} {h : Nat → Nat → Int32} {a0 a1 w0 w1 : Int32} {x : UInt64} (c0 : qzC 5 12 [.ref 1, .ref 5, .int (nI 0)] (60, qzRr pa, h) = some (some (.int a0), (60, qzRr pa, h))) (c1 : qzC 5 12 [.ref 1, .ref 5, .int (nI 1)] (60, qzRr pa, h) = some (some (.int a1), (60, qzRr pa, h))) (c2 : qzC 5 12 [.ref 1, .ref 6, .int (nI 0)] (60, qzRr pa, h) = some (some (.int w0), (60, qzRr pa, h))) (c3 : qzC 5 12 [.ref 1, .ref 6, .int (nI 1)] (60, qzRr pa, h) = some (some (.int w1), (60, qzRr pa, h)))
    (hx0 : (¬ 0 < a0 + a1 ∧ x = FP.dconst0) ∨ (0 < a0 + a1 ∧ x = FP.ddiv (FP.i2d (w0 + w1)) (FP.i2d (a0 + a1)) ∧ vf_n64 x)) (hw : qzWf (60, qzRr pa, h)) (hc4 : ∀ i, ad (1000 + i) = S i) : Met l (qzMd 46).1 (Cond.code (qzMd 46).1 (qzMd 46).2.1 (qzMd 46).2.2.1 (qzMd 46).2.2.2.1 :: qzWs) (qzRm 6 0 0) (va_Pc [.ref (ad 0)] (qzPre G D z0 S ad (60, qzRr pa, h))) (va_Qd (fun (r : UInt64) (_ : Unit) => r = x) (fun _ t => va_P D vwCl (qzW G ad (60, qzRr pa, h)) t.heap) (qzA0 z0)) 0 0 (qzA0 z0) := by
  refine Met.ofW (cc := (qzMd 46).2.1) (maxL := (qzMd 46).2.2.1) (ret := (qzMd 46).2.2.2.1) (by decide) rfl ?_
  intro p e s m0 args below meth c s₁ B hml hv
  obtain ⟨rfl, hz, hP, hK, hD, hN, hS⟩ := hv
  rw [lg_entry_eq]
  have hts0 := atoms_spec B.pre
  have hts : ∀ w ∈ qzWs, w.before #[.ref (ad 0)] s = true := fun w hw => hts0 w (List.mem_cons_of_mem _ hw)
  have hlocks := B.notSynchronized
  have F : qzFx p G D z0 S s m0 #[.ref (ad 0)] meth c 46 := ⟨B.exec, B.bytes, hml, B.returns, findClass_of_methodNamed B.named, hts, B.notSynchronized, (name_of_methodNamed B.named B.method).1, hK, hN, hS, hz, by decide⟩
  have hx := B.exec
  have hb : c.code = cX2_rate := B.bytes
  have hr : meth.sig.returnType = some .double := B.returns
  have hRo : qzRo (headSpec (Cond.code (qzMd 46).1 (qzMd 46).2.1 (qzMd 46).2.2.1 (qzMd 46).2.2.2.1 :: qzWs) (qzRm 6 0 0)).room 60 60 60 := ⟨Nat.le_refl _, by show 60 - 60 ≤ 0; omega, by rw [Nat.sub_self]; exact Nat.zero_le _, by show 12 ≤ 6 + 12; omega, by show 400 ≤ 400 + 100 * 6; omega⟩
  have hRc : qzRc (headSpec (Cond.code (qzMd 46).1 (qzMd 46).2.1 (qzMd 46).2.2.1 (qzMd 46).2.2.2.1 :: qzWs) (qzRm 6 0 0)).room 5 60 60 60 := ⟨by show 5 + 13 ≤ 6 + 12; omega, by show 500 + 100 * 5 ≤ 400 + 100 * 6; omega, by show 60 - 60 + (60 - 60) ≤ 0; omega, by rw [Nat.sub_self]; exact Nat.zero_le _, Nat.le_refl _, Nat.le_refl _⟩
  have C : qzCx G D z0 S s 46 ad ((lg_sl ([.ref 0].map (qzR ad)) ++ List.replicate ((qzMd 46).2.2.1 - (lg_sl ([.ref 0].map (qzR ad))).length) Slot.unset).toArray) s.heap [] [.ref 0, .float 0, .float 0] [] (60, qzRr pa, h) := ⟨qzLs.entry (mi := 46) (rt_r (i := 0) (by omega) rt_nil) (by decide), rt_nil, hw, hc4, by show 60 < 1000; omega, hP, hD, va_S.rf⟩
  clear hP hD
  suffices K : ∀ (lsS : Array Slot) (H : Heap) (locs : List Loc), qzCx G D z0 S s 46 ad lsS H locs [.ref 0, .float 0, .float 0] [] (60, qzRr pa, h) → qzG p l e (headSpec (Cond.code (qzMd 46).1 (qzMd 46).2.1 (qzMd 46).2.2.1 (qzMd 46).2.2.2.1 :: qzWs) (qzRm 6 0 0)).room s m0 #[.ref (ad 0)] below meth c (MQ below (va_Qd (fun (r : UInt64) (_ : Unit) => r = x) (fun _ t => va_P D vwCl (qzW G ad (60, qzRr pa, h)) t.heap) (qzA0 z0)) #[.ref (ad 0)] s 0 0 (qzA0 z0)) 60 0 ad lsS H locs [] 60 by
    have g := K _ s.heap [] C
    unfold qzG at g
    rw [Nat.sub_self, Nat.sub_self] at g
    exact g
  clear C
  intro lsS H locs C
  refine rt_go (ins := .aload_n 0) (len := 1) (pc' := 1) (ls' := [.ref 0, .float 0, .float 0]) (st' := [.ref 0]) hTx F C (by rw [mdc_46]; exact dX2_rate_0) rfl hRo (rt_r (i := 0) (by omega) rt_nil) ?_
  intro lsS H locs C
  refine rt_go (ins := .getfield 10) (len := 3) (pc' := 4) (ls' := [.ref 0, .float 0, .float 0]) (st' := [.ref 1]) hTx F C (by rw [mdc_46]; exact dX2_rate_1) rfl hRo (rt_r (i := 1) (by omega) rt_nil) ?_
  intro lsS H locs C
  refine rt_go (ins := .aload_n 0) (len := 1) (pc' := 5) (ls' := [.ref 0, .float 0, .float 0]) (st' := [.ref 0, .ref 1]) hTx F C (by rw [mdc_46]; exact dX2_rate_4) rfl hRo (rt_r (i := 0) (by omega) (rt_r (i := 1) (by omega) rt_nil)) ?_
  intro lsS H locs C
  refine rt_go (ins := .getfield 10) (len := 3) (pc' := 8) (ls' := [.ref 0, .float 0, .float 0]) (st' := [.ref 1, .ref 1]) hTx F C (by rw [mdc_46]; exact dX2_rate_5) rfl hRo (rt_r (i := 1) (by omega) (rt_r (i := 1) (by omega) rt_nil)) ?_
  intro lsS H locs C
  refine rt_go (ins := .getfield 133) (len := 3) (pc' := 11) (ls' := [.ref 0, .float 0, .float 0]) (st' := [.ref 5, .ref 1]) hTx F C (by rw [mdc_46]; exact dX2_rate_8) rfl hRo (rt_r (i := 5) (by omega) (rt_r (i := 1) (by omega) rt_nil)) ?_
  intro lsS H locs C
  refine rt_go (ins := .iconst 0) (len := 1) (pc' := 12) (ls' := [.ref 0, .float 0, .float 0]) (st' := [.int (nI 0), .ref 5, .ref 1]) hTx F C (by rw [mdc_46]; exact dX2_rate_11) rfl hRo (rt_i (rt_r (i := 5) (by omega) (rt_r (i := 1) (by omega) rt_nil))) ?_
  intro lsS H locs C
  refine rt_call (as := [.ref 1, .ref 5, .int (nI 0)]) (rest := []) (v := a0) (mj := 12) hTx F C (by rw [mdc_46]; exact dX2_rate_12) rfl c0 (by decide) (rt_r (i := 1) (by omega) (rt_r (i := 5) (by omega) (rt_i rt_nil))) (by decide) hRc rt_nil ?_
  intro lsS H locs C
  refine rt_go (ins := .aload_n 0) (len := 1) (pc' := 16) (ls' := [.ref 0, .float 0, .float 0]) (st' := [.ref 0, .int a0]) hTx F C (by rw [mdc_46]; exact dX2_rate_15) rfl hRo (rt_r (i := 0) (by omega) (rt_i rt_nil)) ?_
  intro lsS H locs C
  refine rt_go (ins := .getfield 10) (len := 3) (pc' := 19) (ls' := [.ref 0, .float 0, .float 0]) (st' := [.ref 1, .int a0]) hTx F C (by rw [mdc_46]; exact dX2_rate_16) rfl hRo (rt_r (i := 1) (by omega) (rt_i rt_nil)) ?_
  intro lsS H locs C
  refine rt_go (ins := .aload_n 0) (len := 1) (pc' := 20) (ls' := [.ref 0, .float 0, .float 0]) (st' := [.ref 0, .ref 1, .int a0]) hTx F C (by rw [mdc_46]; exact dX2_rate_19) rfl hRo (rt_r (i := 0) (by omega) (rt_r (i := 1) (by omega) (rt_i rt_nil))) ?_
  intro lsS H locs C
  refine rt_go (ins := .getfield 10) (len := 3) (pc' := 23) (ls' := [.ref 0, .float 0, .float 0]) (st' := [.ref 1, .ref 1, .int a0]) hTx F C (by rw [mdc_46]; exact dX2_rate_20) rfl hRo (rt_r (i := 1) (by omega) (rt_r (i := 1) (by omega) (rt_i rt_nil))) ?_
  intro lsS H locs C
  refine rt_go (ins := .getfield 133) (len := 3) (pc' := 26) (ls' := [.ref 0, .float 0, .float 0]) (st' := [.ref 5, .ref 1, .int a0]) hTx F C (by rw [mdc_46]; exact dX2_rate_23) rfl hRo (rt_r (i := 5) (by omega) (rt_r (i := 1) (by omega) (rt_i rt_nil))) ?_
  intro lsS H locs C
  refine rt_go (ins := .iconst 1) (len := 1) (pc' := 27) (ls' := [.ref 0, .float 0, .float 0]) (st' := [.int (nI 1), .ref 5, .ref 1, .int a0]) hTx F C (by rw [mdc_46]; exact dX2_rate_26) rfl hRo (rt_i (rt_r (i := 5) (by omega) (rt_r (i := 1) (by omega) (rt_i rt_nil)))) ?_
  intro lsS H locs C
  refine rt_call (as := [.ref 1, .ref 5, .int (nI 1)]) (rest := [.int a0]) (v := a1) (mj := 12) hTx F C (by rw [mdc_46]; exact dX2_rate_27) rfl c1 (by decide) (rt_r (i := 1) (by omega) (rt_r (i := 5) (by omega) (rt_i rt_nil))) (by decide) hRc (rt_i rt_nil) ?_
  intro lsS H locs C
  refine rt_go (ins := .iadd) (len := 1) (pc' := 31) (ls' := [.ref 0, .float 0, .float 0]) (st' := [.int (a0 + a1)]) hTx F C (by rw [mdc_46]; exact dX2_rate_30) rfl hRo (rt_i rt_nil) ?_
  intro lsS H locs C
  refine rt_go (ins := .istore_n 1) (len := 1) (pc' := 32) (ls' := [.ref 0, .int (a0 + a1), .float 0]) (st' := []) hTx F C (by rw [mdc_46]; exact dX2_rate_31) rfl hRo rt_nil ?_
  intro lsS H locs C
  refine rt_go (ins := .iload_n 1) (len := 1) (pc' := 33) (ls' := [.ref 0, .int (a0 + a1), .float 0]) (st' := [.int (a0 + a1)]) hTx F C (by rw [mdc_46]; exact dX2_rate_32) rfl hRo (rt_i rt_nil) ?_
  intro lsS H locs C
  refine lv_if_gt (tgt := 38) hx hb dX2_rate_33 (by decide) (fun hpos => ?_) (fun hneg => ?_)
  · replace hpos : 0 < a0 + a1 := hpos
    have e1 : x = FP.ddiv (FP.i2d (w0 + w1)) (FP.i2d (a0 + a1)) ∧ vf_n64 x := by
      rcases hx0 with z | z
      · exact absurd hpos z.1
      · exact z.2
    replace C := C.st rt_nil
    refine rt_go (ins := .aload_n 0) (len := 1) (pc' := 39) (ls' := [.ref 0, .int (a0 + a1), .float 0]) (st' := [.ref 0]) hTx F C (by rw [mdc_46]; exact dX2_rate_38) rfl hRo (rt_r (i := 0) (by omega) rt_nil) ?_
    intro lsS H locs C
    refine rt_go (ins := .getfield 10) (len := 3) (pc' := 42) (ls' := [.ref 0, .int (a0 + a1), .float 0]) (st' := [.ref 1]) hTx F C (by rw [mdc_46]; exact dX2_rate_39) rfl hRo (rt_r (i := 1) (by omega) rt_nil) ?_
    intro lsS H locs C
    refine rt_go (ins := .aload_n 0) (len := 1) (pc' := 43) (ls' := [.ref 0, .int (a0 + a1), .float 0]) (st' := [.ref 0, .ref 1]) hTx F C (by rw [mdc_46]; exact dX2_rate_42) rfl hRo (rt_r (i := 0) (by omega) (rt_r (i := 1) (by omega) rt_nil)) ?_
    intro lsS H locs C
    refine rt_go (ins := .getfield 10) (len := 3) (pc' := 46) (ls' := [.ref 0, .int (a0 + a1), .float 0]) (st' := [.ref 1, .ref 1]) hTx F C (by rw [mdc_46]; exact dX2_rate_43) rfl hRo (rt_r (i := 1) (by omega) (rt_r (i := 1) (by omega) rt_nil)) ?_
    intro lsS H locs C
    refine rt_go (ins := .getfield 124) (len := 3) (pc' := 49) (ls' := [.ref 0, .int (a0 + a1), .float 0]) (st' := [.ref 6, .ref 1]) hTx F C (by rw [mdc_46]; exact dX2_rate_46) rfl hRo (rt_r (i := 6) (by omega) (rt_r (i := 1) (by omega) rt_nil)) ?_
    intro lsS H locs C
    refine rt_go (ins := .iconst 0) (len := 1) (pc' := 50) (ls' := [.ref 0, .int (a0 + a1), .float 0]) (st' := [.int (nI 0), .ref 6, .ref 1]) hTx F C (by rw [mdc_46]; exact dX2_rate_49) rfl hRo (rt_i (rt_r (i := 6) (by omega) (rt_r (i := 1) (by omega) rt_nil))) ?_
    intro lsS H locs C
    refine rt_call (as := [.ref 1, .ref 6, .int (nI 0)]) (rest := []) (v := w0) (mj := 12) hTx F C (by rw [mdc_46]; exact dX2_rate_50) rfl c2 (by decide) (rt_r (i := 1) (by omega) (rt_r (i := 6) (by omega) (rt_i rt_nil))) (by decide) hRc rt_nil ?_
    intro lsS H locs C
    refine rt_go (ins := .aload_n 0) (len := 1) (pc' := 54) (ls' := [.ref 0, .int (a0 + a1), .float 0]) (st' := [.ref 0, .int w0]) hTx F C (by rw [mdc_46]; exact dX2_rate_53) rfl hRo (rt_r (i := 0) (by omega) (rt_i rt_nil)) ?_
    intro lsS H locs C
    refine rt_go (ins := .getfield 10) (len := 3) (pc' := 57) (ls' := [.ref 0, .int (a0 + a1), .float 0]) (st' := [.ref 1, .int w0]) hTx F C (by rw [mdc_46]; exact dX2_rate_54) rfl hRo (rt_r (i := 1) (by omega) (rt_i rt_nil)) ?_
    intro lsS H locs C
    refine rt_go (ins := .aload_n 0) (len := 1) (pc' := 58) (ls' := [.ref 0, .int (a0 + a1), .float 0]) (st' := [.ref 0, .ref 1, .int w0]) hTx F C (by rw [mdc_46]; exact dX2_rate_57) rfl hRo (rt_r (i := 0) (by omega) (rt_r (i := 1) (by omega) (rt_i rt_nil))) ?_
    intro lsS H locs C
    refine rt_go (ins := .getfield 10) (len := 3) (pc' := 61) (ls' := [.ref 0, .int (a0 + a1), .float 0]) (st' := [.ref 1, .ref 1, .int w0]) hTx F C (by rw [mdc_46]; exact dX2_rate_58) rfl hRo (rt_r (i := 1) (by omega) (rt_r (i := 1) (by omega) (rt_i rt_nil))) ?_
    intro lsS H locs C
    refine rt_go (ins := .getfield 124) (len := 3) (pc' := 64) (ls' := [.ref 0, .int (a0 + a1), .float 0]) (st' := [.ref 6, .ref 1, .int w0]) hTx F C (by rw [mdc_46]; exact dX2_rate_61) rfl hRo (rt_r (i := 6) (by omega) (rt_r (i := 1) (by omega) (rt_i rt_nil))) ?_
    intro lsS H locs C
    refine rt_go (ins := .iconst 1) (len := 1) (pc' := 65) (ls' := [.ref 0, .int (a0 + a1), .float 0]) (st' := [.int (nI 1), .ref 6, .ref 1, .int w0]) hTx F C (by rw [mdc_46]; exact dX2_rate_64) rfl hRo (rt_i (rt_r (i := 6) (by omega) (rt_r (i := 1) (by omega) (rt_i rt_nil)))) ?_
    intro lsS H locs C
    refine rt_call (as := [.ref 1, .ref 6, .int (nI 1)]) (rest := [.int w0]) (v := w1) (mj := 12) hTx F C (by rw [mdc_46]; exact dX2_rate_65) rfl c3 (by decide) (rt_r (i := 1) (by omega) (rt_r (i := 6) (by omega) (rt_i rt_nil))) (by decide) hRc (rt_i rt_nil) ?_
    intro lsS H locs C
    refine rt_go (ins := .iadd) (len := 1) (pc' := 69) (ls' := [.ref 0, .int (a0 + a1), .float 0]) (st' := [.int (w0 + w1)]) hTx F C (by rw [mdc_46]; exact dX2_rate_68) rfl hRo (rt_i rt_nil) ?_
    intro lsS H locs C
    refine rt_go (ins := .istore_n 2) (len := 1) (pc' := 70) (ls' := [.ref 0, .int (a0 + a1), .int (w0 + w1)]) (st' := []) hTx F C (by rw [mdc_46]; exact dX2_rate_69) rfl hRo rt_nil ?_
    intro lsS H locs C
    refine rt_go (ins := .iload_n 2) (len := 1) (pc' := 71) (ls' := [.ref 0, .int (a0 + a1), .int (w0 + w1)]) (st' := [.int (w0 + w1)]) hTx F C (by rw [mdc_46]; exact dX2_rate_70) rfl hRo (rt_i rt_nil) ?_
    intro lsS H locs C
    refine lv_i2d hx hb dX2_rate_71 ?_
    refine lv_iload_n hx hb dX2_rate_72 rfl (C.1.get (j := 1) rfl (fun z => by cases z)) ?_
    refine lv_i2d hx hb dX2_rate_73 ?_
    have hS := C.2.2.2.2.2.2.2
    have hP := C.2.2.2.2.2.1
    refine lv_ddiv hx hb dX2_rate_74 (by rw [← e1.1]; exact e1.2) ?_
    simp only [Nat.sub_self]
    exact W.dret hx hb hr (fun t ht hW => ⟨⟨_, (), rfl, e1.1.symm, by show va_P D vwCl (qzW G ad (60, qzRr pa, h)) t.heap; rw [ht]; exact hP⟩, hS.F ht⟩) (fun q hq => hS.2.2 q hq) dX2_rate_75
  · have e1 : x = FP.dconst0 := by
      rcases hx0 with z | z
      · exact z.2
      · exact absurd z.1 hneg
    have hS := C.2.2.2.2.2.2.2
    have hP := C.2.2.2.2.2.1
    refine lv_dconst0 hx hb dX2_rate_36 ?_
    simp only [Nat.sub_self]
    exact W.dret hx hb hr (fun t ht hW => ⟨⟨_, (), rfl, e1.symm, by show va_P D vwCl (qzW G ad (60, qzRr pa, h)) t.heap; rw [ht]; exact hP⟩, hS.F ht⟩) (fun q hq => hS.2.2 q hq) dX2_rate_37
