theorem dX2_rate_0 : decode cX2_rate 0 = .ok (.aload_n 0, 1) := by decide +kernel
theorem dX2_rate_1 : decode cX2_rate 1 = .ok (.getfield 10, 3) := by decide +kernel
theorem dX2_rate_4 : decode cX2_rate 4 = .ok (.aload_n 0, 1) := by decide +kernel
theorem dX2_rate_5 : decode cX2_rate 5 = .ok (.getfield 10, 3) := by decide +kernel
theorem dX2_rate_8 : decode cX2_rate 8 = .ok (.getfield 133, 3) := by decide +kernel
theorem dX2_rate_11 : decode cX2_rate 11 = .ok (.iconst 0, 1) := by decide +kernel
theorem dX2_rate_12 : decode cX2_rate 12 = .ok (.invokevirtual 127, 3) := by decide +kernel
theorem dX2_rate_15 : decode cX2_rate 15 = .ok (.aload_n 0, 1) := by decide +kernel
theorem dX2_rate_16 : decode cX2_rate 16 = .ok (.getfield 10, 3) := by decide +kernel
theorem dX2_rate_19 : decode cX2_rate 19 = .ok (.aload_n 0, 1) := by decide +kernel
theorem dX2_rate_20 : decode cX2_rate 20 = .ok (.getfield 10, 3) := by decide +kernel
theorem dX2_rate_23 : decode cX2_rate 23 = .ok (.getfield 133, 3) := by decide +kernel
theorem dX2_rate_26 : decode cX2_rate 26 = .ok (.iconst 1, 1) := by decide +kernel
theorem dX2_rate_27 : decode cX2_rate 27 = .ok (.invokevirtual 127, 3) := by decide +kernel
theorem dX2_rate_30 : decode cX2_rate 30 = .ok (.iadd, 1) := by decide +kernel
theorem dX2_rate_31 : decode cX2_rate 31 = .ok (.istore_n 1, 1) := by decide +kernel
theorem dX2_rate_32 : decode cX2_rate 32 = .ok (.iload_n 1, 1) := by decide +kernel
theorem dX2_rate_33 : decode cX2_rate 33 = .ok (.ifCond .gt 5, 3) := by decide +kernel
theorem dX2_rate_36 : decode cX2_rate 36 = .ok (.dconst 0, 1) := by decide +kernel
theorem dX2_rate_37 : decode cX2_rate 37 = .ok (.dreturn, 1) := by decide +kernel
theorem dX2_rate_38 : decode cX2_rate 38 = .ok (.aload_n 0, 1) := by decide +kernel
theorem dX2_rate_39 : decode cX2_rate 39 = .ok (.getfield 10, 3) := by decide +kernel
theorem dX2_rate_42 : decode cX2_rate 42 = .ok (.aload_n 0, 1) := by decide +kernel
theorem dX2_rate_43 : decode cX2_rate 43 = .ok (.getfield 10, 3) := by decide +kernel
theorem dX2_rate_46 : decode cX2_rate 46 = .ok (.getfield 124, 3) := by decide +kernel
theorem dX2_rate_49 : decode cX2_rate 49 = .ok (.iconst 0, 1) := by decide +kernel
theorem dX2_rate_50 : decode cX2_rate 50 = .ok (.invokevirtual 127, 3) := by decide +kernel
theorem dX2_rate_53 : decode cX2_rate 53 = .ok (.aload_n 0, 1) := by decide +kernel
theorem dX2_rate_54 : decode cX2_rate 54 = .ok (.getfield 10, 3) := by decide +kernel
theorem dX2_rate_57 : decode cX2_rate 57 = .ok (.aload_n 0, 1) := by decide +kernel
theorem dX2_rate_58 : decode cX2_rate 58 = .ok (.getfield 10, 3) := by decide +kernel
theorem dX2_rate_61 : decode cX2_rate 61 = .ok (.getfield 124, 3) := by decide +kernel
theorem dX2_rate_64 : decode cX2_rate 64 = .ok (.iconst 1, 1) := by decide +kernel
theorem dX2_rate_65 : decode cX2_rate 65 = .ok (.invokevirtual 127, 3) := by decide +kernel
theorem dX2_rate_68 : decode cX2_rate 68 = .ok (.iadd, 1) := by decide +kernel
theorem dX2_rate_69 : decode cX2_rate 69 = .ok (.istore_n 2, 1) := by decide +kernel
theorem dX2_rate_70 : decode cX2_rate 70 = .ok (.iload_n 2, 1) := by decide +kernel
theorem dX2_rate_71 : decode cX2_rate 71 = .ok (.i2d, 1) := by decide +kernel
theorem dX2_rate_72 : decode cX2_rate 72 = .ok (.iload_n 1, 1) := by decide +kernel
theorem dX2_rate_73 : decode cX2_rate 73 = .ok (.i2d, 1) := by decide +kernel
theorem dX2_rate_74 : decode cX2_rate 74 = .ok (.ddiv, 1) := by decide +kernel
theorem dX2_rate_75 : decode cX2_rate 75 = .ok (.dreturn, 1) := by decide +kernel
theorem dX3_rate_0 : decode cX3_rate 0 = .ok (.aload_n 0, 1) := by decide +kernel
theorem dX3_rate_1 : decode cX3_rate 1 = .ok (.iconst 0, 1) := by decide +kernel
theorem dX3_rate_2 : decode cX3_rate 2 = .ok (.iconst 2, 1) := by decide +kernel
theorem dX3_rate_3 : decode cX3_rate 3 = .ok (.invokevirtual 50, 3) := by decide +kernel
theorem dX3_rate_6 : decode cX3_rate 6 = .ok (.aload_n 0, 1) := by decide +kernel
theorem dX3_rate_7 : decode cX3_rate 7 = .ok (.iconst 1, 1) := by decide +kernel
theorem dX3_rate_8 : decode cX3_rate 8 = .ok (.iconst 2, 1) := by decide +kernel
theorem dX3_rate_9 : decode cX3_rate 9 = .ok (.invokevirtual 50, 3) := by decide +kernel
theorem dX3_rate_12 : decode cX3_rate 12 = .ok (.iadd, 1) := by decide +kernel
theorem dX3_rate_13 : decode cX3_rate 13 = .ok (.istore_n 1, 1) := by decide +kernel
theorem dX3_rate_14 : decode cX3_rate 14 = .ok (.iload_n 1, 1) := by decide +kernel
theorem dX3_rate_15 : decode cX3_rate 15 = .ok (.ifCond .ne 7, 3) := by decide +kernel
theorem dX3_rate_18 : decode cX3_rate 18 = .ok (.dconst 0, 1) := by decide +kernel
theorem dX3_rate_19 : decode cX3_rate 19 = .ok (.goto 20, 3) := by decide +kernel
theorem dX3_rate_22 : decode cX3_rate 22 = .ok (.aload_n 0, 1) := by decide +kernel
theorem dX3_rate_23 : decode cX3_rate 23 = .ok (.iconst 0, 1) := by decide +kernel
theorem dX3_rate_24 : decode cX3_rate 24 = .ok (.iconst 0, 1) := by decide +kernel
theorem dX3_rate_25 : decode cX3_rate 25 = .ok (.invokevirtual 50, 3) := by decide +kernel
theorem dX3_rate_28 : decode cX3_rate 28 = .ok (.aload_n 0, 1) := by decide +kernel
theorem dX3_rate_29 : decode cX3_rate 29 = .ok (.iconst 1, 1) := by decide +kernel
theorem dX3_rate_30 : decode cX3_rate 30 = .ok (.iconst 0, 1) := by decide +kernel
theorem dX3_rate_31 : decode cX3_rate 31 = .ok (.invokevirtual 50, 3) := by decide +kernel
theorem dX3_rate_34 : decode cX3_rate 34 = .ok (.iadd, 1) := by decide +kernel
theorem dX3_rate_35 : decode cX3_rate 35 = .ok (.i2d, 1) := by decide +kernel
theorem dX3_rate_36 : decode cX3_rate 36 = .ok (.iload_n 1, 1) := by decide +kernel
theorem dX3_rate_37 : decode cX3_rate 37 = .ok (.i2d, 1) := by decide +kernel
theorem dX3_rate_38 : decode cX3_rate 38 = .ok (.ddiv, 1) := by decide +kernel
theorem dX3_rate_39 : decode cX3_rate 39 = .ok (.dreturn, 1) := by decide +kernel
/-! rate() of the class and of the reference -/
section RT
variable {p : Program} {l : Launch} {e : Env} {R : Room} {s : State} {m : MethodId} {args : Array Value} {below : List Frame} {meth : Method} {c : Code} {Q : State → Prop} {G : qzGT} {D : va_G} {z0 : Nat} {S : Nat → Nat} {mi pc : Nat} {ad : Nat → Nat} {lsS : Array Slot} {H : Heap} {locs : List Loc} {ls st ls' st' : List Value} {hp : qzH} {pc' len : Nat}
/-- behind a step that makes nothing new, told with the addresses from before -/
theorem qzKK.ad1 {hp' : qzH} {n0 : Nat} (hn : hp'.1 = hp.1) (c4 : ∀ i, ad (1000 + i) = S i) (hst : ∀ v ∈ st', qzOk hp.1 v)
    (kk : ∀ (lsS' : Array Slot) (H' : Heap) (locs' : List Loc), qzCx G D z0 S s mi ad lsS' H' locs' ls' st' hp' → qzG p l e R s m args below meth c Q n0 pc' ad lsS' H' locs' st' hp'.1) : qzKK p l e R s m args below meth c Q G D z0 S mi n0 hp.1 ad pc' ls' st' hp' := by
  intro ad' lsS' H' locs' ag C'
  obtain ⟨c1, c2, c3, c4', c5, cP, cD, cS⟩ := C'
  have ag1 : qzAg hp'.1 ad ad' := by rw [hn]; exact ag
  have ag' : qzAg hp'.1 ad' ad := fun i hi => (ag1 i hi).symm
  rw [qzW_ag c3 ag1] at cP cD
  have g := kk lsS' H' locs' ⟨c1.ag ag' (Nat.le_refl _), c2, c3, c4, c5, cP, cD, cS⟩
  unfold qzG at g ⊢
  have e1 : st'.map (qzR ad') = st'.map (qzR ad) := List.map_congr_left (fun v hv => qzR_ag ag (hst v hv))
  rw [e1]
  exact g
theorem rt_go {ins : Instr} (hTx : qzTx l) (F : qzFx p G D z0 S s m args meth c mi) (C : qzCx G D z0 S s mi ad lsS H locs ls st hp) (hd : decode (qzMd mi).2.1 pc = .ok (ins, len)) (h : qzI mi pc ins len ls st hp = (some (.inl (pc', ls', st', hp)) : Option qzA)) (hR : qzRo R hp.1 hp.1 hp.1) (hst : ∀ v ∈ st', qzOk hp.1 v)
    (kk : ∀ (lsS' : Array Slot) (H' : Heap) (locs' : List Loc), qzCx G D z0 S s mi ad lsS' H' locs' ls' st' hp → qzG p l e R s m args below meth c Q hp.1 pc' ad lsS' H' locs' st' hp.1) : qzG p l e R s m args below meth c Q hp.1 pc ad lsS H locs st hp.1 :=
  qz_go hTx F C hd h hR (qzKK.ad1 rfl C.2.2.2.1 hst kk)
theorem rt_call {idx mj d : Nat} {as rest : List Value} {v : Int32} (hTx : qzTx l) (F : qzFx p G D z0 S s m args meth c mi) (C : qzCx G D z0 S s mi ad lsS H locs ls st hp) (hd : decode (qzMd mi).2.1 pc = .ok (.invokevirtual idx, 3)) (h : qzCall 1 (qzMd mi).2.2.2.2.2.2 idx 3 st hp = (some (.inr (.inl (mj, as, rest))) : Option qzA)) (hq : qzC d mj as hp = some (some (.int v), hp)) (hmj : mj < 149) (has : ∀ v ∈ as, qzOk hp.1 v) (hl : as.length ≤ (qzMd mj).2.2.1) (hR : qzRc R d hp.1 hp.1 hp.1) (hrest : ∀ v ∈ rest, qzOk hp.1 v)
    (kk : ∀ (lsS' : Array Slot) (H' : Heap) (locs' : List Loc), qzCx G D z0 S s mi ad lsS' H' locs' ls (.int v :: rest) hp → qzG p l e R s m args below meth c Q hp.1 (pc + 3) ad lsS' H' locs' (.int v :: rest) hp.1) : qzG p l e R s m args below meth c Q hp.1 pc ad lsS H locs st hp.1 :=
  qz_callV F C hd h (qzC_met hTx hq hmj has hl C.2.2.1 C.2.2.2.2.1 C.2.2.2.1) hR (qzKK.ad1 (st' := .int v :: rest) rfl C.2.2.2.1 (fun u hu => by
    rcases List.mem_cons.mp hu with q | q
    · subst q; trivial
    · exact hrest u q) kk)
end RT
theorem rt_ok2 {i j : Nat} {vs : List Value} (hi : i < 67) (h : ∀ v ∈ vs, qzOk 67 v) : ∀ v ∈ (.ref i :: vs : List Value), qzOk 67 v := List.forall_mem_cons.mpr ⟨Or.inl hi, h⟩
theorem rt_nil : ∀ v ∈ ([] : List Value), qzOk 67 v := fun v hv => (List.not_mem_nil hv).elim
theorem rt_i {x : Int32} {vs : List Value} (h : ∀ v ∈ vs, qzOk 67 v) : ∀ v ∈ (.int x :: vs : List Value), qzOk 67 v := List.forall_mem_cons.mpr ⟨trivial, h⟩
theorem rt_r {i : Nat} {vs : List Value} (hi : i < 67) (h : ∀ v ∈ vs, qzOk 67 v) : ∀ v ∈ (.ref i :: vs : List Value), qzOk 67 v := List.forall_mem_cons.mpr ⟨Or.inl hi, h⟩
/-- what rate() comes to, as a double that may be another NaN -/
def rtD (m : Nat → Nat) : UInt64 := if m 30 + m 36 = 0 then FP.dconst0 else FP.ddiv (FP.i2d (nI (m 28 + m 34))) (FP.i2d (nI (m 30 + m 36)))
set_option maxHeartbeats 4000000 in
set_option maxRecDepth 100000 in
theorem rt_X2 {l : Launch} (hTx : qzTx l) {G : qzGT} {D : va_G} {z0 : Nat} {S : Nat → Nat} {ad : Nat → Nat} {pa : Nat → Nat} {h : Nat → Nat → Int32} {m T : Nat → Nat} {P TP : Nat → Nat → Nat} {n : Nat} {K TK : Nat → Nat} {ik : Nat} {pd : Nat → Nat} {ln : Nat} (hR : cRel h pa m T P TP n K TK ik pd ln) (hw : qzWf (67, qzRr pa, h)) (hc4 : ∀ i, ad (1000 + i) = S i) : MetD lw_cs l (qzMd 46).1 (Cond.code (qzMd 46).1 (qzMd 46).2.1 (qzMd 46).2.2.1 (qzMd 46).2.2.2.1 :: qzWs) (qzRm 6 0 0) (va_Pc [.ref (ad 0)] (qzPre G D z0 S ad (67, qzRr pa, h))) (va_Qd (fun (r : UInt64) (_ : Unit) => alike64 r (rtD m) = true) (fun _ t => va_P D vwCl (qzW G ad (67, qzRr pa, h)) t.heap) (qzA0 z0)) 0 0 (qzA0 z0) := by
  obtain ⟨⟨g6, g7, g8, g9⟩, gc, gs, gp⟩ := hR.1.1
  obtain ⟨i1, i2⟩ := hR.1.2.1
  have hzi := hR.1.2.2
  have b4 : m 4 ≤ 20 := by have := hzi.1.2; have := hzi.2.2.2.1; omega
  have bt0 : m 30 ≤ 5 * m 4 := (hzi.2.2.2.2.2.2.2.2.1 0 (by omega)).2.2.1
  have bt1 : m 36 ≤ 5 * m 4 := (hzi.2.2.2.2.2.2.2.2.1 1 (by omega)).2.2.1
  have c0 : qzC 5 12 [.ref 1, .ref 5, .int (nI 0)] (67, qzRr pa, h) = some (some (.int (nI (m 30))), (67, qzRr pa, h)) := by
    have q := gX0_sumOfCoat (d := 4) (pa := pa) (h := h) (a := 5) (Or.inl rfl : gB 1) (aG_3 (Or.inl rfl : gB 1)) g9 b4 (v := fun j => m (zQ j + 1)) (fun j hj => (gp j hj).2.1) (t := 0) (by omega)
    rw [← (i2 0 (by omega)).2.1] at q
    exact q
  have c1 : qzC 5 12 [.ref 1, .ref 5, .int (nI 1)] (67, qzRr pa, h) = some (some (.int (nI (m 36))), (67, qzRr pa, h)) := by
    have q := gX0_sumOfCoat (d := 4) (pa := pa) (h := h) (a := 5) (Or.inl rfl : gB 1) (aG_3 (Or.inl rfl : gB 1)) g9 b4 (v := fun j => m (zQ j + 1)) (fun j hj => (gp j hj).2.1) (t := 1) (by omega)
    rw [← (i2 1 (by omega)).2.1] at q
    exact q
  have c2 : qzC 5 12 [.ref 1, .ref 6, .int (nI 0)] (67, qzRr pa, h) = some (some (.int (nI (m 28))), (67, qzRr pa, h)) := by
    have q := gX0_sumOfCoat (d := 4) (pa := pa) (h := h) (a := 6) (Or.inl rfl : gB 1) (aG_4 (Or.inl rfl : gB 1)) g9 b4 (v := fun j => m (zQ j + 2)) (fun j hj => (gp j hj).2.2.1) (t := 0) (by omega)
    rw [← (i2 0 (by omega)).1] at q
    exact q
  have c3 : qzC 5 12 [.ref 1, .ref 6, .int (nI 1)] (67, qzRr pa, h) = some (some (.int (nI (m 34))), (67, qzRr pa, h)) := by
    have q := gX0_sumOfCoat (d := 4) (pa := pa) (h := h) (a := 6) (Or.inl rfl : gB 1) (aG_4 (Or.inl rfl : gB 1)) g9 b4 (v := fun j => m (zQ j + 2)) (fun j hj => (gp j hj).2.2.1) (t := 1) (by omega)
    rw [← (i2 1 (by omega)).1] at q
    exact q
  refine MetD.ofW (cc := (qzMd 46).2.1) (maxL := (qzMd 46).2.2.1) (ret := (qzMd 46).2.2.2.1) (by decide) rfl ?_
  intro p e s m0 args below meth c s₁ B hml hv hd0
  obtain ⟨rfl, hz, hP, hK, hD, hN, hS⟩ := hv
  rw [lg_entry_eq]
  have hts0 := atoms_spec B.pre
  have hts : ∀ w ∈ qzWs, w.before #[.ref (ad 0)] s = true := fun w hw => hts0 w (List.mem_cons_of_mem _ hw)
  have hlocks := B.notSynchronized
  have F : qzFx p G D z0 S (s.setDrawn s.drawn) m0 #[.ref (ad 0)] meth c 46 := ⟨B.exec, B.bytes, hml, B.returns, findClass_of_methodNamed B.named, dr_words hts _, B.notSynchronized, (name_of_methodNamed B.named B.method).1, hK, hN, hS, hz, by decide⟩
  have hx := B.exec
  have hb : c.code = cX2_rate := B.bytes
  have hr : meth.sig.returnType = some .double := B.returns
  have hRo : qzRo (headSpec (Cond.code (qzMd 46).1 (qzMd 46).2.1 (qzMd 46).2.2.1 (qzMd 46).2.2.2.1 :: qzWs) (qzRm 6 0 0)).room 67 67 67 := ⟨Nat.le_refl _, by show 67 - 67 ≤ 0; omega, by rw [Nat.sub_self]; exact Nat.zero_le _, by show 12 ≤ 6 + 12; omega, by show 400 ≤ 400 + 100 * 6; omega⟩
  have hRc : qzRc (headSpec (Cond.code (qzMd 46).1 (qzMd 46).2.1 (qzMd 46).2.2.1 (qzMd 46).2.2.2.1 :: qzWs) (qzRm 6 0 0)).room 5 67 67 67 := ⟨by show 5 + 13 ≤ 6 + 12; omega, by show 500 + 100 * 5 ≤ 400 + 100 * 6; omega, by show 67 - 67 + (67 - 67) ≤ 0; omega, by rw [Nat.sub_self]; exact Nat.zero_le _, Nat.le_refl _, Nat.le_refl _⟩
  have C : qzCx G D z0 S (s.setDrawn s.drawn) 46 ad ((lg_sl ([.ref 0].map (qzR ad)) ++ List.replicate ((qzMd 46).2.2.1 - (lg_sl ([.ref 0].map (qzR ad))).length) Slot.unset).toArray) s.heap [] [.ref 0, .float 0, .float 0] [] (67, qzRr pa, h) := ⟨qzLs.entry (mi := 46) (rt_r (i := 0) (by omega) rt_nil) (by decide), rt_nil, hw, hc4, by show 67 < 1000; omega, hP, hD, va_S.rf⟩
  clear hP hD
  suffices K : ∀ (lsS : Array Slot) (H : Heap) (locs : List Loc), qzCx G D z0 S (s.setDrawn s.drawn) 46 ad lsS H locs [.ref 0, .float 0, .float 0] [] (67, qzRr pa, h) → qzG p l e (headSpec (Cond.code (qzMd 46).1 (qzMd 46).2.1 (qzMd 46).2.2.1 (qzMd 46).2.2.2.1 :: qzWs) (qzRm 6 0 0)).room (s.setDrawn s.drawn) m0 #[.ref (ad 0)] below meth c (MQD lw_cs below (va_Qd (fun (r : UInt64) (_ : Unit) => alike64 r (rtD m) = true) (fun _ t => va_P D vwCl (qzW G ad (67, qzRr pa, h)) t.heap) (qzA0 z0)) #[.ref (ad 0)] s 0 0 (qzA0 z0)) 67 0 ad lsS H locs [] 67 by
    have g := K _ s.heap [] C
    unfold qzG at g
    rw [Nat.sub_self, Nat.sub_self] at g
    exact g
  clear C
  intro lsS H locs C
  refine rt_go (ins := .aload_n 0) (len := 1) (pc' := 1) (ls' := [.ref 0, .float 0, .float 0]) (st' := [.ref 0]) hTx F C (by rw [mdc_46]; exact dX2_rate_0) rfl hRo (rt_r (i := 0) (by omega) rt_nil) ?_
  intro lsS H locs C
  refine rt_go (ins := .getfield 10) (len := 3) (pc' := 4) (ls' := [.ref 0, .float 0, .float 0]) (st' := [.ref 1]) hTx F C (by rw [mdc_46]; exact dX2_rate_1) rfl hRo (rt_r (i := 1) (by omega) rt_nil) ?_
  intro lsS H locs C
  refine rt_go (ins := .aload_n 0) (len := 1) (pc' := 5) (ls' := [.ref 0, .float 0, .float 0]) (st' := [.ref 0, .ref 1]) hTx F C (by rw [mdc_46]; exact dX2_rate_4) rfl hRo (rt_r (i := 0) (by omega) (rt_r (i := 1) (by omega) rt_nil)) ?_
  intro lsS H locs C
  refine rt_go (ins := .getfield 10) (len := 3) (pc' := 8) (ls' := [.ref 0, .float 0, .float 0]) (st' := [.ref 1, .ref 1]) hTx F C (by rw [mdc_46]; exact dX2_rate_5) rfl hRo (rt_r (i := 1) (by omega) (rt_r (i := 1) (by omega) rt_nil)) ?_
  intro lsS H locs C
  refine rt_go (ins := .getfield 133) (len := 3) (pc' := 11) (ls' := [.ref 0, .float 0, .float 0]) (st' := [.ref 5, .ref 1]) hTx F C (by rw [mdc_46]; exact dX2_rate_8) rfl hRo (rt_r (i := 5) (by omega) (rt_r (i := 1) (by omega) rt_nil)) ?_
  intro lsS H locs C
  refine rt_go (ins := .iconst 0) (len := 1) (pc' := 12) (ls' := [.ref 0, .float 0, .float 0]) (st' := [.int (nI 0), .ref 5, .ref 1]) hTx F C (by rw [mdc_46]; exact dX2_rate_11) rfl hRo (rt_i (rt_r (i := 5) (by omega) (rt_r (i := 1) (by omega) rt_nil))) ?_
  intro lsS H locs C
  refine rt_call (as := [.ref 1, .ref 5, .int (nI 0)]) (rest := []) (v := nI (m 30)) (mj := 12) hTx F C (by rw [mdc_46]; exact dX2_rate_12) rfl c0 (by decide) (rt_r (i := 1) (by omega) (rt_r (i := 5) (by omega) (rt_i rt_nil))) (by decide) hRc rt_nil ?_
  intro lsS H locs C
  refine rt_go (ins := .aload_n 0) (len := 1) (pc' := 16) (ls' := [.ref 0, .float 0, .float 0]) (st' := [.ref 0, .int (nI (m 30))]) hTx F C (by rw [mdc_46]; exact dX2_rate_15) rfl hRo (rt_r (i := 0) (by omega) (rt_i rt_nil)) ?_
  intro lsS H locs C
  refine rt_go (ins := .getfield 10) (len := 3) (pc' := 19) (ls' := [.ref 0, .float 0, .float 0]) (st' := [.ref 1, .int (nI (m 30))]) hTx F C (by rw [mdc_46]; exact dX2_rate_16) rfl hRo (rt_r (i := 1) (by omega) (rt_i rt_nil)) ?_
  intro lsS H locs C
  refine rt_go (ins := .aload_n 0) (len := 1) (pc' := 20) (ls' := [.ref 0, .float 0, .float 0]) (st' := [.ref 0, .ref 1, .int (nI (m 30))]) hTx F C (by rw [mdc_46]; exact dX2_rate_19) rfl hRo (rt_r (i := 0) (by omega) (rt_r (i := 1) (by omega) (rt_i rt_nil))) ?_
  intro lsS H locs C
  refine rt_go (ins := .getfield 10) (len := 3) (pc' := 23) (ls' := [.ref 0, .float 0, .float 0]) (st' := [.ref 1, .ref 1, .int (nI (m 30))]) hTx F C (by rw [mdc_46]; exact dX2_rate_20) rfl hRo (rt_r (i := 1) (by omega) (rt_r (i := 1) (by omega) (rt_i rt_nil))) ?_
  intro lsS H locs C
  refine rt_go (ins := .getfield 133) (len := 3) (pc' := 26) (ls' := [.ref 0, .float 0, .float 0]) (st' := [.ref 5, .ref 1, .int (nI (m 30))]) hTx F C (by rw [mdc_46]; exact dX2_rate_23) rfl hRo (rt_r (i := 5) (by omega) (rt_r (i := 1) (by omega) (rt_i rt_nil))) ?_
  intro lsS H locs C
  refine rt_go (ins := .iconst 1) (len := 1) (pc' := 27) (ls' := [.ref 0, .float 0, .float 0]) (st' := [.int (nI 1), .ref 5, .ref 1, .int (nI (m 30))]) hTx F C (by rw [mdc_46]; exact dX2_rate_26) rfl hRo (rt_i (rt_r (i := 5) (by omega) (rt_r (i := 1) (by omega) (rt_i rt_nil)))) ?_
  intro lsS H locs C
  refine rt_call (as := [.ref 1, .ref 5, .int (nI 1)]) (rest := [.int (nI (m 30))]) (v := nI (m 36)) (mj := 12) hTx F C (by rw [mdc_46]; exact dX2_rate_27) rfl c1 (by decide) (rt_r (i := 1) (by omega) (rt_r (i := 5) (by omega) (rt_i rt_nil))) (by decide) hRc (rt_i rt_nil) ?_
  intro lsS H locs C
  refine rt_go (ins := .iadd) (len := 1) (pc' := 31) (ls' := [.ref 0, .float 0, .float 0]) (st' := [.int ((nI (m 30)) + (nI (m 36)))]) hTx F C (by rw [mdc_46]; exact dX2_rate_30) rfl hRo (rt_i rt_nil) ?_
  intro lsS H locs C
  refine rt_go (ins := .istore_n 1) (len := 1) (pc' := 32) (ls' := [.ref 0, .int ((nI (m 30)) + (nI (m 36))), .float 0]) (st' := []) hTx F C (by rw [mdc_46]; exact dX2_rate_31) rfl hRo rt_nil ?_
  intro lsS H locs C
  refine rt_go (ins := .iload_n 1) (len := 1) (pc' := 33) (ls' := [.ref 0, .int ((nI (m 30)) + (nI (m 36))), .float 0]) (st' := [.int ((nI (m 30)) + (nI (m 36)))]) hTx F C (by rw [mdc_46]; exact dX2_rate_32) rfl hRo (rt_i rt_nil) ?_
  intro lsS H locs C
  have hs : nI (m 30) + nI (m 36) = nI (m 30 + m 36) := nI_add _ _
  refine lv_if_gt (tgt := 38) hx hb dX2_rate_33 (by decide) (fun hpos => ?_) (fun hneg => ?_)
  · have hne : ¬ m 30 + m 36 = 0 := by
      intro z
      replace hpos : 0 < nI (m 30) + nI (m 36) := hpos
      rw [hs, z] at hpos
      exact absurd hpos (by decide)
    replace C := C.st rt_nil
    refine rt_go (ins := .aload_n 0) (len := 1) (pc' := 39) (ls' := [.ref 0, .int ((nI (m 30)) + (nI (m 36))), .float 0]) (st' := [.ref 0]) hTx F C (by rw [mdc_46]; exact dX2_rate_38) rfl hRo (rt_r (i := 0) (by omega) rt_nil) ?_
    intro lsS H locs C
    refine rt_go (ins := .getfield 10) (len := 3) (pc' := 42) (ls' := [.ref 0, .int ((nI (m 30)) + (nI (m 36))), .float 0]) (st' := [.ref 1]) hTx F C (by rw [mdc_46]; exact dX2_rate_39) rfl hRo (rt_r (i := 1) (by omega) rt_nil) ?_
    intro lsS H locs C
    refine rt_go (ins := .aload_n 0) (len := 1) (pc' := 43) (ls' := [.ref 0, .int ((nI (m 30)) + (nI (m 36))), .float 0]) (st' := [.ref 0, .ref 1]) hTx F C (by rw [mdc_46]; exact dX2_rate_42) rfl hRo (rt_r (i := 0) (by omega) (rt_r (i := 1) (by omega) rt_nil)) ?_
    intro lsS H locs C
    refine rt_go (ins := .getfield 10) (len := 3) (pc' := 46) (ls' := [.ref 0, .int ((nI (m 30)) + (nI (m 36))), .float 0]) (st' := [.ref 1, .ref 1]) hTx F C (by rw [mdc_46]; exact dX2_rate_43) rfl hRo (rt_r (i := 1) (by omega) (rt_r (i := 1) (by omega) rt_nil)) ?_
    intro lsS H locs C
    refine rt_go (ins := .getfield 124) (len := 3) (pc' := 49) (ls' := [.ref 0, .int ((nI (m 30)) + (nI (m 36))), .float 0]) (st' := [.ref 6, .ref 1]) hTx F C (by rw [mdc_46]; exact dX2_rate_46) rfl hRo (rt_r (i := 6) (by omega) (rt_r (i := 1) (by omega) rt_nil)) ?_
    intro lsS H locs C
    refine rt_go (ins := .iconst 0) (len := 1) (pc' := 50) (ls' := [.ref 0, .int ((nI (m 30)) + (nI (m 36))), .float 0]) (st' := [.int (nI 0), .ref 6, .ref 1]) hTx F C (by rw [mdc_46]; exact dX2_rate_49) rfl hRo (rt_i (rt_r (i := 6) (by omega) (rt_r (i := 1) (by omega) rt_nil))) ?_
    intro lsS H locs C
    refine rt_call (as := [.ref 1, .ref 6, .int (nI 0)]) (rest := []) (v := nI (m 28)) (mj := 12) hTx F C (by rw [mdc_46]; exact dX2_rate_50) rfl c2 (by decide) (rt_r (i := 1) (by omega) (rt_r (i := 6) (by omega) (rt_i rt_nil))) (by decide) hRc rt_nil ?_
    intro lsS H locs C
    refine rt_go (ins := .aload_n 0) (len := 1) (pc' := 54) (ls' := [.ref 0, .int ((nI (m 30)) + (nI (m 36))), .float 0]) (st' := [.ref 0, .int (nI (m 28))]) hTx F C (by rw [mdc_46]; exact dX2_rate_53) rfl hRo (rt_r (i := 0) (by omega) (rt_i rt_nil)) ?_
    intro lsS H locs C
    refine rt_go (ins := .getfield 10) (len := 3) (pc' := 57) (ls' := [.ref 0, .int ((nI (m 30)) + (nI (m 36))), .float 0]) (st' := [.ref 1, .int (nI (m 28))]) hTx F C (by rw [mdc_46]; exact dX2_rate_54) rfl hRo (rt_r (i := 1) (by omega) (rt_i rt_nil)) ?_
    intro lsS H locs C
    refine rt_go (ins := .aload_n 0) (len := 1) (pc' := 58) (ls' := [.ref 0, .int ((nI (m 30)) + (nI (m 36))), .float 0]) (st' := [.ref 0, .ref 1, .int (nI (m 28))]) hTx F C (by rw [mdc_46]; exact dX2_rate_57) rfl hRo (rt_r (i := 0) (by omega) (rt_r (i := 1) (by omega) (rt_i rt_nil))) ?_
    intro lsS H locs C
    refine rt_go (ins := .getfield 10) (len := 3) (pc' := 61) (ls' := [.ref 0, .int ((nI (m 30)) + (nI (m 36))), .float 0]) (st' := [.ref 1, .ref 1, .int (nI (m 28))]) hTx F C (by rw [mdc_46]; exact dX2_rate_58) rfl hRo (rt_r (i := 1) (by omega) (rt_r (i := 1) (by omega) (rt_i rt_nil))) ?_
    intro lsS H locs C
    refine rt_go (ins := .getfield 124) (len := 3) (pc' := 64) (ls' := [.ref 0, .int ((nI (m 30)) + (nI (m 36))), .float 0]) (st' := [.ref 6, .ref 1, .int (nI (m 28))]) hTx F C (by rw [mdc_46]; exact dX2_rate_61) rfl hRo (rt_r (i := 6) (by omega) (rt_r (i := 1) (by omega) (rt_i rt_nil))) ?_
    intro lsS H locs C
    refine rt_go (ins := .iconst 1) (len := 1) (pc' := 65) (ls' := [.ref 0, .int ((nI (m 30)) + (nI (m 36))), .float 0]) (st' := [.int (nI 1), .ref 6, .ref 1, .int (nI (m 28))]) hTx F C (by rw [mdc_46]; exact dX2_rate_64) rfl hRo (rt_i (rt_r (i := 6) (by omega) (rt_r (i := 1) (by omega) (rt_i rt_nil)))) ?_
    intro lsS H locs C
    refine rt_call (as := [.ref 1, .ref 6, .int (nI 1)]) (rest := [.int (nI (m 28))]) (v := nI (m 34)) (mj := 12) hTx F C (by rw [mdc_46]; exact dX2_rate_65) rfl c3 (by decide) (rt_r (i := 1) (by omega) (rt_r (i := 6) (by omega) (rt_i rt_nil))) (by decide) hRc (rt_i rt_nil) ?_
    intro lsS H locs C
    refine rt_go (ins := .iadd) (len := 1) (pc' := 69) (ls' := [.ref 0, .int ((nI (m 30)) + (nI (m 36))), .float 0]) (st' := [.int ((nI (m 28)) + (nI (m 34)))]) hTx F C (by rw [mdc_46]; exact dX2_rate_68) rfl hRo (rt_i rt_nil) ?_
    intro lsS H locs C
    refine rt_go (ins := .istore_n 2) (len := 1) (pc' := 70) (ls' := [.ref 0, .int ((nI (m 30)) + (nI (m 36))), .int ((nI (m 28)) + (nI (m 34)))]) (st' := []) hTx F C (by rw [mdc_46]; exact dX2_rate_69) rfl hRo rt_nil ?_
    intro lsS H locs C
    refine rt_go (ins := .iload_n 2) (len := 1) (pc' := 71) (ls' := [.ref 0, .int ((nI (m 30)) + (nI (m 36))), .int ((nI (m 28)) + (nI (m 34)))]) (st' := [.int ((nI (m 28)) + (nI (m 34)))]) hTx F C (by rw [mdc_46]; exact dX2_rate_70) rfl hRo (rt_i rt_nil) ?_
    intro lsS H locs C
    refine lv_i2d hx hb dX2_rate_71 ?_
    refine lv_iload_n hx hb dX2_rate_72 rfl (C.1.get (j := 1) rfl (fun z => by cases z)) ?_
    refine lv_i2d hx hb dX2_rate_73 ?_
    have e1 : rtD m = FP.ddiv (FP.i2d (nI (m 28) + nI (m 34))) (FP.i2d (nI (m 30) + nI (m 36))) := by
      unfold rtD
      rw [if_neg hne, nI_add, nI_add]
    have hS := C.2.2.2.2.2.2.2
    have hP := C.2.2.2.2.2.1
    refine lv_ddiv_any hd0 lw_bits hx hb dX2_rate_74 (fun r d1 hal hd1 => ?_)
    refine W.endD hd1 ?_
    simp only [Nat.sub_self]
    exact W.dret hx hb hr (fun t ht hW => ⟨⟨r, (), rfl, by rw [e1]; exact hal, by show va_P D vwCl (qzW G ad (67, qzRr pa, h)) t.heap; rw [ht]; exact hP⟩, hS.F ht⟩) (fun q hq => hS.2.2 q hq) dX2_rate_75
  · have he : m 30 + m 36 = 0 := by
      apply Classical.byContradiction
      intro z
      apply hneg
      show 0 < nI (m 30) + nI (m 36)
      rw [hs]
      show nI 0 < nI (m 30 + m 36)
      rw [nI_lt' (by omega) (by omega)]
      omega
    have e1 : rtD m = FP.dconst0 := by
      unfold rtD
      rw [if_pos he]
    have hS := C.2.2.2.2.2.2.2
    have hP := C.2.2.2.2.2.1
    refine lv_dconst0 hx hb dX2_rate_36 ?_
    refine W.endD hd0 ?_
    simp only [Nat.sub_self]
    exact W.dret hx hb hr (fun t ht hW => ⟨⟨FP.dconst0, (), rfl, by rw [e1]; exact alike64_refl _, by show va_P D vwCl (qzW G ad (67, qzRr pa, h)) t.heap; rw [ht]; exact hP⟩, hS.F ht⟩) (fun q hq => hS.2.2 q hq) dX2_rate_37
set_option maxHeartbeats 4000000 in
set_option maxRecDepth 100000 in
theorem rt_X3 {l : Launch} (hTx : qzTx l) {G : qzGT} {D : va_G} {z0 : Nat} {S : Nat → Nat} {ad : Nat → Nat} {pa : Nat → Nat} {h : Nat → Nat → Int32} {m : Nat → Nat} {P : Nat → Nat → Nat} {n : Nat} {K : Nat → Nat} {ik : Nat} {pd : Nat → Nat} {ln : Nat} (hR : zRel h m P n K ik pd ln) (hw : qzWf (67, qzRr pa, h)) (hc4 : ∀ i, ad (1000 + i) = S i) : MetD lw_cs l (qzMd 144).1 (Cond.code (qzMd 144).1 (qzMd 144).2.1 (qzMd 144).2.2.1 (qzMd 144).2.2.2.1 :: qzWs) (qzRm 6 0 0) (va_Pc [.ref (ad 60)] (qzPre G D z0 S ad (67, qzRr pa, h))) (va_Qd (fun (r : UInt64) (_ : Unit) => alike64 r (rtD m) = true) (fun _ t => va_P D vwCl (qzW G ad (67, qzRr pa, h)) t.heap) (qzA0 z0)) 0 0 (qzA0 z0) := by
  have hzi := hR.2.1
  have b4 : m 4 ≤ 20 := by have := hzi.1.2; have := hzi.2.2.2.1; omega
  have bt0 : m 30 ≤ 5 * m 4 := (hzi.2.2.2.2.2.2.2.2.1 0 (by omega)).2.2.1
  have bt1 : m 36 ≤ 5 * m 4 := (hzi.2.2.2.2.2.2.2.2.1 1 (by omega)).2.2.1
  have c0 : qzC 5 91 [.ref 60, .int (nI 0), .int (nI 2)] (67, qzRr pa, h) = some (some (.int (nI (m 30))), (67, qzRr pa, h)) := sX3_coatOf (d := 5) hR.1 (t := 0) (w := 2) (by omega) (by omega)
  have c1 : qzC 5 91 [.ref 60, .int (nI 1), .int (nI 2)] (67, qzRr pa, h) = some (some (.int (nI (m 36))), (67, qzRr pa, h)) := sX3_coatOf (d := 5) hR.1 (t := 1) (w := 2) (by omega) (by omega)
  have c2 : qzC 5 91 [.ref 60, .int (nI 0), .int (nI 0)] (67, qzRr pa, h) = some (some (.int (nI (m 28))), (67, qzRr pa, h)) := sX3_coatOf (d := 5) hR.1 (t := 0) (w := 0) (by omega) (by omega)
  have c3 : qzC 5 91 [.ref 60, .int (nI 1), .int (nI 0)] (67, qzRr pa, h) = some (some (.int (nI (m 34))), (67, qzRr pa, h)) := sX3_coatOf (d := 5) hR.1 (t := 1) (w := 0) (by omega) (by omega)
  refine MetD.ofW (cc := (qzMd 144).2.1) (maxL := (qzMd 144).2.2.1) (ret := (qzMd 144).2.2.2.1) (by decide) rfl ?_
  intro p e s m0 args below meth c s₁ B hml hv hd0
  obtain ⟨rfl, hz, hP, hK, hD, hN, hS⟩ := hv
  rw [lg_entry_eq]
  have hts0 := atoms_spec B.pre
  have hts : ∀ w ∈ qzWs, w.before #[.ref (ad 60)] s = true := fun w hw => hts0 w (List.mem_cons_of_mem _ hw)
  have hlocks := B.notSynchronized
  have F : qzFx p G D z0 S (s.setDrawn s.drawn) m0 #[.ref (ad 60)] meth c 144 := ⟨B.exec, B.bytes, hml, B.returns, findClass_of_methodNamed B.named, dr_words hts _, B.notSynchronized, (name_of_methodNamed B.named B.method).1, hK, hN, hS, hz, by decide⟩
  have hx := B.exec
  have hb : c.code = cX3_rate := B.bytes
  have hr : meth.sig.returnType = some .double := B.returns
  have hRo : qzRo (headSpec (Cond.code (qzMd 144).1 (qzMd 144).2.1 (qzMd 144).2.2.1 (qzMd 144).2.2.2.1 :: qzWs) (qzRm 6 0 0)).room 67 67 67 := ⟨Nat.le_refl _, by show 67 - 67 ≤ 0; omega, by rw [Nat.sub_self]; exact Nat.zero_le _, by show 12 ≤ 6 + 12; omega, by show 400 ≤ 400 + 100 * 6; omega⟩
  have hRc : qzRc (headSpec (Cond.code (qzMd 144).1 (qzMd 144).2.1 (qzMd 144).2.2.1 (qzMd 144).2.2.2.1 :: qzWs) (qzRm 6 0 0)).room 5 67 67 67 := ⟨by show 5 + 13 ≤ 6 + 12; omega, by show 500 + 100 * 5 ≤ 400 + 100 * 6; omega, by show 67 - 67 + (67 - 67) ≤ 0; omega, by rw [Nat.sub_self]; exact Nat.zero_le _, Nat.le_refl _, Nat.le_refl _⟩
  have C : qzCx G D z0 S (s.setDrawn s.drawn) 144 ad ((lg_sl ([.ref 60].map (qzR ad)) ++ List.replicate ((qzMd 144).2.2.1 - (lg_sl ([.ref 60].map (qzR ad))).length) Slot.unset).toArray) s.heap [] [.ref 60, .float 0] [] (67, qzRr pa, h) := ⟨qzLs.entry (mi := 144) (rt_r (i := 60) (by omega) rt_nil) (by decide), rt_nil, hw, hc4, by show 67 < 1000; omega, hP, hD, va_S.rf⟩
  clear hP hD
  suffices K : ∀ (lsS : Array Slot) (H : Heap) (locs : List Loc), qzCx G D z0 S (s.setDrawn s.drawn) 144 ad lsS H locs [.ref 60, .float 0] [] (67, qzRr pa, h) → qzG p l e (headSpec (Cond.code (qzMd 144).1 (qzMd 144).2.1 (qzMd 144).2.2.1 (qzMd 144).2.2.2.1 :: qzWs) (qzRm 6 0 0)).room (s.setDrawn s.drawn) m0 #[.ref (ad 60)] below meth c (MQD lw_cs below (va_Qd (fun (r : UInt64) (_ : Unit) => alike64 r (rtD m) = true) (fun _ t => va_P D vwCl (qzW G ad (67, qzRr pa, h)) t.heap) (qzA0 z0)) #[.ref (ad 60)] s 0 0 (qzA0 z0)) 67 0 ad lsS H locs [] 67 by
    have g := K _ s.heap [] C
    unfold qzG at g
    rw [Nat.sub_self, Nat.sub_self] at g
    exact g
  clear C
  intro lsS H locs C
  refine rt_go (ins := .aload_n 0) (len := 1) (pc' := 1) (ls' := [.ref 60, .float 0]) (st' := [.ref 60]) hTx F C (by rw [mdc_144]; exact dX3_rate_0) rfl hRo (rt_r (i := 60) (by omega) rt_nil) ?_
  intro lsS H locs C
  refine rt_go (ins := .iconst 0) (len := 1) (pc' := 2) (ls' := [.ref 60, .float 0]) (st' := [.int (nI 0), .ref 60]) hTx F C (by rw [mdc_144]; exact dX3_rate_1) rfl hRo (rt_i (rt_r (i := 60) (by omega) rt_nil)) ?_
  intro lsS H locs C
  refine rt_go (ins := .iconst 2) (len := 1) (pc' := 3) (ls' := [.ref 60, .float 0]) (st' := [.int (nI 2), .int (nI 0), .ref 60]) hTx F C (by rw [mdc_144]; exact dX3_rate_2) rfl hRo (rt_i (rt_i (rt_r (i := 60) (by omega) rt_nil))) ?_
  intro lsS H locs C
  refine rt_call (as := [.ref 60, .int (nI 0), .int (nI 2)]) (rest := []) (v := nI (m 30)) (mj := 91) hTx F C (by rw [mdc_144]; exact dX3_rate_3) rfl c0 (by decide) (rt_r (i := 60) (by omega) (rt_i (rt_i rt_nil))) (by decide) hRc rt_nil ?_
  intro lsS H locs C
  refine rt_go (ins := .aload_n 0) (len := 1) (pc' := 7) (ls' := [.ref 60, .float 0]) (st' := [.ref 60, .int (nI (m 30))]) hTx F C (by rw [mdc_144]; exact dX3_rate_6) rfl hRo (rt_r (i := 60) (by omega) (rt_i rt_nil)) ?_
  intro lsS H locs C
  refine rt_go (ins := .iconst 1) (len := 1) (pc' := 8) (ls' := [.ref 60, .float 0]) (st' := [.int (nI 1), .ref 60, .int (nI (m 30))]) hTx F C (by rw [mdc_144]; exact dX3_rate_7) rfl hRo (rt_i (rt_r (i := 60) (by omega) (rt_i rt_nil))) ?_
  intro lsS H locs C
  refine rt_go (ins := .iconst 2) (len := 1) (pc' := 9) (ls' := [.ref 60, .float 0]) (st' := [.int (nI 2), .int (nI 1), .ref 60, .int (nI (m 30))]) hTx F C (by rw [mdc_144]; exact dX3_rate_8) rfl hRo (rt_i (rt_i (rt_r (i := 60) (by omega) (rt_i rt_nil)))) ?_
  intro lsS H locs C
  refine rt_call (as := [.ref 60, .int (nI 1), .int (nI 2)]) (rest := [.int (nI (m 30))]) (v := nI (m 36)) (mj := 91) hTx F C (by rw [mdc_144]; exact dX3_rate_9) rfl c1 (by decide) (rt_r (i := 60) (by omega) (rt_i (rt_i rt_nil))) (by decide) hRc (rt_i rt_nil) ?_
  intro lsS H locs C
  refine rt_go (ins := .iadd) (len := 1) (pc' := 13) (ls' := [.ref 60, .float 0]) (st' := [.int ((nI (m 30)) + (nI (m 36)))]) hTx F C (by rw [mdc_144]; exact dX3_rate_12) rfl hRo (rt_i rt_nil) ?_
  intro lsS H locs C
  refine rt_go (ins := .istore_n 1) (len := 1) (pc' := 14) (ls' := [.ref 60, .int ((nI (m 30)) + (nI (m 36)))]) (st' := []) hTx F C (by rw [mdc_144]; exact dX3_rate_13) rfl hRo rt_nil ?_
  intro lsS H locs C
  refine rt_go (ins := .iload_n 1) (len := 1) (pc' := 15) (ls' := [.ref 60, .int ((nI (m 30)) + (nI (m 36)))]) (st' := [.int ((nI (m 30)) + (nI (m 36)))]) hTx F C (by rw [mdc_144]; exact dX3_rate_14) rfl hRo (rt_i rt_nil) ?_
  intro lsS H locs C
  have hs : nI (m 30) + nI (m 36) = nI (m 30 + m 36) := nI_add _ _
  refine lv_if_ne (tgt := 22) hx hb dX3_rate_15 (by decide) (fun hpos => ?_) (fun hneg => ?_)
  · have hne : ¬ m 30 + m 36 = 0 := by
      intro z
      apply hpos
      show nI (m 30) + nI (m 36) = 0
      rw [hs, z]
      rfl
    replace C := C.st rt_nil
    refine rt_go (ins := .aload_n 0) (len := 1) (pc' := 23) (ls' := [.ref 60, .int ((nI (m 30)) + (nI (m 36)))]) (st' := [.ref 60]) hTx F C (by rw [mdc_144]; exact dX3_rate_22) rfl hRo (rt_r (i := 60) (by omega) rt_nil) ?_
    intro lsS H locs C
    refine rt_go (ins := .iconst 0) (len := 1) (pc' := 24) (ls' := [.ref 60, .int ((nI (m 30)) + (nI (m 36)))]) (st' := [.int (nI 0), .ref 60]) hTx F C (by rw [mdc_144]; exact dX3_rate_23) rfl hRo (rt_i (rt_r (i := 60) (by omega) rt_nil)) ?_
    intro lsS H locs C
    refine rt_go (ins := .iconst 0) (len := 1) (pc' := 25) (ls' := [.ref 60, .int ((nI (m 30)) + (nI (m 36)))]) (st' := [.int (nI 0), .int (nI 0), .ref 60]) hTx F C (by rw [mdc_144]; exact dX3_rate_24) rfl hRo (rt_i (rt_i (rt_r (i := 60) (by omega) rt_nil))) ?_
    intro lsS H locs C
    refine rt_call (as := [.ref 60, .int (nI 0), .int (nI 0)]) (rest := []) (v := nI (m 28)) (mj := 91) hTx F C (by rw [mdc_144]; exact dX3_rate_25) rfl c2 (by decide) (rt_r (i := 60) (by omega) (rt_i (rt_i rt_nil))) (by decide) hRc rt_nil ?_
    intro lsS H locs C
    refine rt_go (ins := .aload_n 0) (len := 1) (pc' := 29) (ls' := [.ref 60, .int ((nI (m 30)) + (nI (m 36)))]) (st' := [.ref 60, .int (nI (m 28))]) hTx F C (by rw [mdc_144]; exact dX3_rate_28) rfl hRo (rt_r (i := 60) (by omega) (rt_i rt_nil)) ?_
    intro lsS H locs C
    refine rt_go (ins := .iconst 1) (len := 1) (pc' := 30) (ls' := [.ref 60, .int ((nI (m 30)) + (nI (m 36)))]) (st' := [.int (nI 1), .ref 60, .int (nI (m 28))]) hTx F C (by rw [mdc_144]; exact dX3_rate_29) rfl hRo (rt_i (rt_r (i := 60) (by omega) (rt_i rt_nil))) ?_
    intro lsS H locs C
    refine rt_go (ins := .iconst 0) (len := 1) (pc' := 31) (ls' := [.ref 60, .int ((nI (m 30)) + (nI (m 36)))]) (st' := [.int (nI 0), .int (nI 1), .ref 60, .int (nI (m 28))]) hTx F C (by rw [mdc_144]; exact dX3_rate_30) rfl hRo (rt_i (rt_i (rt_r (i := 60) (by omega) (rt_i rt_nil)))) ?_
    intro lsS H locs C
    refine rt_call (as := [.ref 60, .int (nI 1), .int (nI 0)]) (rest := [.int (nI (m 28))]) (v := nI (m 34)) (mj := 91) hTx F C (by rw [mdc_144]; exact dX3_rate_31) rfl c3 (by decide) (rt_r (i := 60) (by omega) (rt_i (rt_i rt_nil))) (by decide) hRc (rt_i rt_nil) ?_
    intro lsS H locs C
    refine rt_go (ins := .iadd) (len := 1) (pc' := 35) (ls' := [.ref 60, .int ((nI (m 30)) + (nI (m 36)))]) (st' := [.int ((nI (m 28)) + (nI (m 34)))]) hTx F C (by rw [mdc_144]; exact dX3_rate_34) rfl hRo (rt_i rt_nil) ?_
    intro lsS H locs C
    refine lv_i2d hx hb dX3_rate_35 ?_
    refine lv_iload_n hx hb dX3_rate_36 rfl (C.1.get (j := 1) rfl (fun z => by cases z)) ?_
    refine lv_i2d hx hb dX3_rate_37 ?_
    have e1 : rtD m = FP.ddiv (FP.i2d (nI (m 28) + nI (m 34))) (FP.i2d (nI (m 30) + nI (m 36))) := by
      unfold rtD
      rw [if_neg hne, nI_add, nI_add]
    have hS := C.2.2.2.2.2.2.2
    have hP := C.2.2.2.2.2.1
    refine lv_ddiv_any hd0 lw_bits hx hb dX3_rate_38 (fun r d1 hal hd1 => ?_)
    refine W.endD hd1 ?_
    simp only [Nat.sub_self]
    exact W.dret hx hb hr (fun t ht hW => ⟨⟨r, (), rfl, by rw [e1]; exact hal, by show va_P D vwCl (qzW G ad (67, qzRr pa, h)) t.heap; rw [ht]; exact hP⟩, hS.F ht⟩) (fun q hq => hS.2.2 q hq) dX3_rate_39
  · have he : m 30 + m 36 = 0 := by
      apply Classical.byContradiction
      intro z
      have q : nI (m 30) + nI (m 36) = 0 := hneg
      rw [hs] at q
      have q2 : nI (m 30 + m 36) = nI 0 := q
      rw [nI_eq' (by omega) (by omega)] at q2
      exact z q2
    have e1 : rtD m = FP.dconst0 := by
      unfold rtD
      rw [if_pos he]
    have hS := C.2.2.2.2.2.2.2
    have hP := C.2.2.2.2.2.1
    refine lv_dconst0 hx hb dX3_rate_18 ?_
    refine lv_goto (tgt := 39) hx hb dX3_rate_19 (by decide) ?_
    refine W.endD hd0 ?_
    simp only [Nat.sub_self]
    exact W.dret hx hb hr (fun t ht hW => ⟨⟨FP.dconst0, (), rfl, by rw [e1]; exact alike64_refl _, by show va_P D vwCl (qzW G ad (67, qzRr pa, h)) t.heap; rw [ht]; exact hP⟩, hS.F ht⟩) (fun q hq => hS.2.2 q hq) dX3_rate_39
theorem rt_nb {x : UInt64} : isNaN64 x = true ↔ FP.Core.dIsNaN x = true := by
  rw [isNaN64_iff, FP.Core.isNaN_bits, show (0x7fffffffffffffff : Nat) = 2 ^ 63 - 1 from rfl, Nat.and_two_pow_sub_one_eq_mod]
theorem rt_self {x : UInt64} (h : ¬ isNaN64 x = true) : Op.cmpValue (FP.dcmp x x) CmpOp.l = 0 := by
  have e : FP.dcmp x x = some .eq := FP.Core.dcmp_self (fun z => h (rt_nb.mpr ((FP.Core.dIsNaN_iff x).mpr z)))
  rw [e]
  rfl
theorem rt_non {x y : UInt64} (h : isNaN64 x = true) : ¬ Op.cmpValue (FP.dcmp x y) CmpOp.l = 0 := by
  have e : FP.dcmp x y = none := (FP.Core.dcmp_none x y).mpr (Or.inl ((FP.Core.dIsNaN_iff x).mp (rt_nb.mp h)))
  rw [e]
  decide
/-- two doubles that are the same but for which NaN: the law's comparison -/
theorem rt_cmp {x y D : UInt64} (hp : alike64 x D = true) (hq : alike64 y D = true) : Op.cmpValue (FP.dcmp x y) CmpOp.l = 0 ∨ (¬ Op.cmpValue (FP.dcmp x x) CmpOp.l = 0 ∧ ¬ Op.cmpValue (FP.dcmp y y) CmpOp.l = 0) := by
  have k : ∀ z : UInt64, alike64 z D = true → z = D ∨ (isNaN64 z = true ∧ isNaN64 D = true) := by
    intro z hz
    unfold alike64 at hz
    rcases Bool.or_eq_true_iff.mp hz with q | q
    · exact Or.inl (of_decide_eq_true q)
    · exact Or.inr (Bool.and_eq_true_iff.mp q)
  by_cases hD : isNaN64 D = true
  · have k2 : ∀ z : UInt64, alike64 z D = true → isNaN64 z = true := by
      intro z hz
      rcases k z hz with q | q
      · rw [q]; exact hD
      · exact q.1
    exact Or.inr ⟨rt_non (k2 x hp), rt_non (k2 y hq)⟩
  · have k2 : ∀ z : UInt64, alike64 z D = true → z = D := by
      intro z hz
      rcases k z hz with q | q
      · exact q
      · exact absurd q.2 hD
    rw [k2 x hp, k2 y hq]
    exact Or.inl (rt_self hD)
