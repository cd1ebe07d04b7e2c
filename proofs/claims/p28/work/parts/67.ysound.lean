/-! a run of the law's interpreter is a run of the machine: calls, answers, the whole -/
/-- what the tables say of a method of the law's -/
def qyPm (md : qyMT) : Prop := plainName md.1.cls = true ∧ Cond.code md.1 md.2.1 md.2.2.1 md.2.2.2.1 ∈ qzWs ∧ Cond.initialized md.1.cls ∈ qzWs ∧ (md.1.cls ≠ "java/lang/invoke/MethodHandle" ∧ md.1.cls ≠ "java/lang/invoke/VarHandle" ∧ (parseMethodDescriptor md.1.desc).map (fun d => d.parameters.length) = some md.2.2.2.2) ∧ (md.2.2.1 ≤ 41 ∧ md.2.2.2.2 ≤ md.2.2.1 ∧ md.1.cls = RL) ∧ Cond.static md.1 ∈ qzWs
theorem qym_0 : qyPm (yL_low, cL_low, 2, some .int, 2) := ⟨by decide +kernel, qys_c_low, qys_in, ⟨by decide +kernel, by decide +kernel, by decide +kernel⟩, ⟨by decide, by decide, rfl⟩, qys_s_low⟩
theorem qym_1 : qyPm (yL_look, cL_look, 5, some .long, 1) := ⟨by decide +kernel, qys_c_look, qys_in, ⟨by decide +kernel, by decide +kernel, by decide +kernel⟩, ⟨by decide, by decide, rfl⟩, qys_s_look⟩
theorem qym_2 : qyPm (yL_holds, cL_holds, 14, some .boolean, 1) := ⟨by decide +kernel, qys_c_holds, qys_in, ⟨by decide +kernel, by decide +kernel, by decide +kernel⟩, ⟨by decide, by decide, rfl⟩, qys_s_holds⟩
theorem qym_3 : qyPm (yL_would, cL_would, 16, some .boolean, 2) := ⟨by decide +kernel, qys_c_would, qys_in, ⟨by decide +kernel, by decide +kernel, by decide +kernel⟩, ⟨by decide, by decide, rfl⟩, qys_s_would⟩
theorem qym_4 : qyPm (yL_bolt, cL_bolt, 7, some .boolean, 2) := ⟨by decide +kernel, qys_c_bolt, qys_in, ⟨by decide +kernel, by decide +kernel, by decide +kernel⟩, ⟨by decide, by decide, rfl⟩, qys_s_bolt⟩
theorem qym_5 : qyPm (yL_cuts, cL_cuts, 7, some .boolean, 2) := ⟨by decide +kernel, qys_c_cuts, qys_in, ⟨by decide +kernel, by decide +kernel, by decide +kernel⟩, ⟨by decide, by decide, rfl⟩, qys_s_cuts⟩
theorem qym_6 : qyPm (yL_reads, cL_reads, 13, some .boolean, 2) := ⟨by decide +kernel, qys_c_reads, qys_in, ⟨by decide +kernel, by decide +kernel, by decide +kernel⟩, ⟨by decide, by decide, rfl⟩, qys_s_reads⟩
theorem qym_7 : qyPm (yL_acts, cL_acts, 13, some .boolean, 3) := ⟨by decide +kernel, qys_c_acts, qys_in, ⟨by decide +kernel, by decide +kernel, by decide +kernel⟩, ⟨by decide, by decide, rfl⟩, qys_s_acts⟩
theorem qym_8 : qyPm (yL_lot, cL_lot, 2, some .int, 2) := ⟨by decide +kernel, qys_c_lot, qys_in, ⟨by decide +kernel, by decide +kernel, by decide +kernel⟩, ⟨by decide, by decide, rfl⟩, qys_s_lot⟩
theorem qyPm_at {mi : Nat} (h : mi < 9) : qyPm (qyMd mi) := by
  match mi, h with
  | 0, _ => exact qym_0
  | 1, _ => exact qym_1
  | 2, _ => exact qym_2
  | 3, _ => exact qym_3
  | 4, _ => exact qym_4
  | 5, _ => exact qym_5
  | 6, _ => exact qym_6
  | 7, _ => exact qym_7
  | 8, _ => exact qym_8
theorem qyCl_ok : ∀ e ∈ qyCl, e.2 < 86 ∧ (qzMd e.2).2.2.2.2.1 = 1 ∧ (qzMd e.2).2.2.2.2.2.2 = 2 ∧ Cond.methodLink RL e.1 (qzMd e.2).1 ∈ qzWs := List.forall_mem_cons.mpr ⟨⟨by decide, by decide, by decide, qys_cl_13⟩, List.forall_mem_cons.mpr ⟨⟨by decide, by decide, by decide, qys_cl_19⟩, List.forall_mem_cons.mpr ⟨⟨by decide, by decide, by decide, qys_cl_22⟩, List.forall_mem_cons.mpr ⟨⟨by decide, by decide, by decide, qys_cl_26⟩, List.forall_mem_cons.mpr ⟨⟨by decide, by decide, by decide, qys_cl_32⟩, List.forall_mem_cons.mpr ⟨⟨by decide, by decide, by decide, qys_cl_35⟩, List.forall_mem_cons.mpr ⟨⟨by decide, by decide, by decide, qys_cl_42⟩, List.forall_mem_cons.mpr ⟨⟨by decide, by decide, by decide, qys_cl_46⟩, List.forall_mem_cons.mpr ⟨⟨by decide, by decide, by decide, qys_cl_49⟩, List.forall_mem_cons.mpr ⟨⟨by decide, by decide, by decide, qys_cl_52⟩, List.forall_mem_cons.mpr ⟨⟨by decide, by decide, by decide, qys_cl_56⟩, List.forall_mem_cons.mpr ⟨⟨by decide, by decide, by decide, qys_cl_59⟩, List.forall_mem_cons.mpr ⟨⟨by decide, by decide, by decide, qys_cl_62⟩, List.forall_mem_cons.mpr ⟨⟨by decide, by decide, by decide, qys_cl_76⟩, List.forall_mem_cons.mpr ⟨⟨by decide, by decide, by decide, qys_cl_79⟩, List.forall_mem_cons.mpr ⟨⟨by decide, by decide, by decide, qys_cl_82⟩, List.forall_mem_cons.mpr ⟨⟨by decide, by decide, by decide, qys_cl_85⟩, List.forall_mem_cons.mpr ⟨⟨by decide, by decide, by decide, qys_cl_88⟩, List.forall_mem_cons.mpr ⟨⟨by decide, by decide, by decide, qys_cl_91⟩, List.forall_mem_cons.mpr ⟨⟨by decide, by decide, by decide, qys_cl_94⟩, List.forall_mem_cons.mpr ⟨⟨by decide, by decide, by decide, qys_cl_97⟩, List.forall_mem_cons.mpr ⟨⟨by decide, by decide, by decide, qys_cl_100⟩, List.forall_mem_cons.mpr ⟨⟨by decide, by decide, by decide, qys_cl_114⟩, List.forall_mem_cons.mpr ⟨⟨by decide, by decide, by decide, qys_cl_117⟩, List.forall_mem_cons.mpr ⟨⟨by decide, by decide, by decide, qys_cl_120⟩, (fun _ h => absurd h List.not_mem_nil)⟩⟩⟩⟩⟩⟩⟩⟩⟩⟩⟩⟩⟩⟩⟩⟩⟩⟩⟩⟩⟩⟩⟩⟩⟩
theorem qyLl_ok : ∀ e ∈ qyLl, e.2 < 9 ∧ Cond.methodLink RL e.1 (qyMd e.2).1 ∈ qzWs := List.forall_mem_cons.mpr ⟨⟨by decide, qys_ll_39⟩, List.forall_mem_cons.mpr ⟨⟨by decide, qys_ll_65⟩, List.forall_mem_cons.mpr ⟨⟨by decide, qys_ll_69⟩, List.forall_mem_cons.mpr ⟨⟨by decide, qys_ll_72⟩, List.forall_mem_cons.mpr ⟨⟨by decide, qys_ll_103⟩, List.forall_mem_cons.mpr ⟨⟨by decide, qys_ll_107⟩, List.forall_mem_cons.mpr ⟨⟨by decide, qys_ll_111⟩, List.forall_mem_cons.mpr ⟨⟨by decide, qys_ll_123⟩, List.forall_mem_cons.mpr ⟨⟨by decide, qys_ll_127⟩, (fun _ h => absurd h List.not_mem_nil)⟩⟩⟩⟩⟩⟩⟩⟩⟩
theorem qyPm_ret {mq : Nat} (h : mq < 9) : (qyMd mq).1.cls = RL := (qyPm_at h).2.2.2.2.1.2.2
def qyPre (G : qzGT) (D : va_G) (z0 : Nat) (S : Nat → Nat) (E : qyE) (ad : Nat → Nat) (hp : qzH) (U : State) : Prop := qzPre G D z0 S ad hp U ∧ va_X (S 4) E.1 E.2 U U.heap ∧ S 4 < z0
def qyEnd (G : qzGT) (D : va_G) (z0 : Nat) (ad : Nat → Nat) (hp1 : qzH) (H : Heap) : Prop := qzWf hp1 ∧ va_P D vwCl (qzW G ad hp1) H ∧ va_D (qzA0 z0) (qzW G ad hp1)
def qyPost (G : qzGT) (D : va_G) (z0 : Nat) (ad : Nat → Nat) (v : Value) (hp1 : qzH) : Array Value → State → Outcome → State → Prop := fun _ st oc t =>
  (oc = .returned (some (qzR ad v)) ∧ qyEnd G D z0 ad hp1 t.heap) ∧ va_F (qzA0 z0) st t
def qyRm (k : Nat) : Room := { frames := 74 + k, cells := 0, slots := 0, locals := 7000 + 100 * k }
def qyMet (l : Launch) (G : qzGT) (D : va_G) (z0 : Nat) (S : Nat → Nat) (E : qyE) (ad : Nat → Nat) (k mq : Nat) (as : List Value) (hp : qzH) (v : Value) (hp1 : qzH) : Prop :=
  Met l (qyMd mq).1 (Cond.code (qyMd mq).1 (qyMd mq).2.1 (qyMd mq).2.2.1 (qyMd mq).2.2.2.1 :: qzWs) (qyRm k) (va_Pc (as.map (qzR ad)) (qyPre G D z0 S E ad hp)) (qyPost G D z0 ad v hp1) 0 0 (qzA0 z0)
theorem qyBlind {G : qzGT} {D : va_G} {z0 : Nat} {S : Nat → Nat} {E : qyE} {ad : Nat → Nat} {hp : qzH} {av : List Value} : FrameBlind (va_Pc av (qyPre G D z0 S E ad hp)) := by
  intro a U g mq q
  obtain ⟨q0, q1, q2, q3⟩ := q
  obtain ⟨-, w⟩ := qzBlind (av := av) a U g mq ⟨q0, q1⟩
  exact ⟨q0, w, va_X.moved (u := U) (U := U.calling g mq a) (Vm.Alike.refl U.vm) q2, q3⟩
section QY2
variable {p : Program} {l : Launch} {e : Env} {R : Room} {s : State} {m : MethodId} {args : Array Value} {below : List Frame} {meth : Method} {c : Code} {Q : State → Prop} {G : qzGT} {D : va_G} {z0 : Nat} {S : Nat → Nat} {E : qyE} {mi pc : Nat} {ad : Nat → Nat} {lsS : Array Slot} {H : Heap} {locs : List Loc} {ls st ls' st' : List Value} {hp hp1 : qzH} {pc' len cells slots : Nat}
theorem qyPre_z (F : qyF p s m args c G D z0 S E mi) (C : lgC G D z0 S s ad H locs hp) {U : State} (hU : U.heap = H) (hW : s.WarmedH U.vm) : qzPre G D z0 S ad hp U := by
  obtain ⟨hx, hb, hml, hown, hts, hK, hNw, hSt, hz, -⟩ := id F
  obtain ⟨c3, c4, c5, hP, hD, hS⟩ := id C
  exact ⟨by rw [hU]; exact Nat.le_trans hz hS.1, by rw [hU]; exact hP, va_K.moved hW.alike hK, hD, hNw.warm hW, hSt.now hz hS hU hW⟩
theorem qyPre_of (F : qyF p s m args c G D z0 S E mi) (C : lgC G D z0 S s ad H locs hp) {U : State} (hU : U.heap = H) (hW : s.WarmedH U.vm) : qyPre G D z0 S E ad hp U := by
  obtain ⟨hx, hb, hml, hown, hts, hK, hNw, hSt, hz, hX, hbz⟩ := id F
  obtain ⟨c3, c4, c5, hP, hD, hS⟩ := id C
  refine ⟨qyPre_z F C hU hW, ?_, hbz⟩
  rw [hU]
  exact (va_X.moved hW.alike hX).kept (hS.2.1 _ (Nat.lt_of_lt_of_le hbz hz) (Nat.not_le.mpr hbz))
/-- a call of the class -/
theorem qy_callC {idx mj d i0 : Nat} {as1 rest : List Value} {v : Option Value} (hTx : qzTx l) (F : qyF p s m args c G D z0 S E mi) (C : lgC G D z0 S s ad H locs hp) (hls : lsS.size = (qyMd mi).2.2.1) (hd : decode (qyMd mi).2.1 pc = .ok (.invokevirtual idx, 3)) (hlk : Cond.methodLink RL idx (qzMd mj).1 ∈ qzWs)
    (hq : qzC d mj (.ref i0 :: as1) hp = some (v, hp1)) (hmj : mj < 149) (hkd : (qzMd mj).2.2.2.2.1 = 1) (hab : qzArr (qzMd mj).2.2.2.2.2.2 i0 hp.1 = true) (has : ∀ w ∈ (.ref i0 :: as1 : List Value), qzOk hp.1 w) (hn : as1.length = (qzMd mj).2.2.2.2.2.1) (hla : (Value.ref i0 :: as1).length ≤ (qzMd mj).2.2.1) (hrest : qySz rest ≤ 8) (hnn : hp1.1 = hp.1) (hR : d + 13 ≤ R.frames ∧ 500 + 100 * d ≤ R.locals ∧ cells ≤ R.cells ∧ slots ≤ R.slots)
    (kk : ∀ (H1 : Heap) (locs1 : List Loc), lgC G D z0 S s ad H1 locs1 hp1 → W p l e R s m args below meth c H1 locs1 cells slots Q (F0 m (pc + 3) lsS ((v.toList ++ rest).map (qzR ad)))) : W p l e R s m args below meth c H locs cells slots Q (F0 m pc lsS ((as1.reverse ++ .ref i0 :: rest).map (qzR ad))) := by
  obtain ⟨hx, hb, hml, hown, hts, hK, hNw, hSt, hz, -⟩ := id F
  obtain ⟨c3, c4, c5, hP, hD, hS⟩ := id C
  obtain ⟨pm1, pm2, pm3, pm4, ⟨pm5, pm6, pm7⟩, pmS, pmV, pmI⟩ := qzPm_at hmj
  have hM : qzMet l G D z0 S ad d mj (.ref i0 :: as1) hp v hp1 := qzC_met hTx hq hmj has hla c3 c5 c4
  have hS0 : CallFix p m c (qyMd mi).2.1 (qyMd mi).2.2.1 s args qzWs RL := ⟨hx, hb, hml, hown, hts⟩
  obtain ⟨hb1, hb2⟩ := qzArr_ok hab
  have hoc := qzOc mj hmj (by rw [hkd]; decide)
  have hp0 : PreV s H (qzMd mj).1.cls (ad i0) (va_Pc ((.ref i0 :: as1).map (qzR ad)) (qzPre G D z0 S ad hp)) (as1.map (qzR ad)) := ⟨qzBlind, by rw [pm7]; exact va_recv (tys := qzTys G) hK hP (qzCl_at hoc) ((qzW_get hb1).trans (by rw [qzEo hb2 hoc])), fun U hU hW => ⟨rfl, qyPre_z F C hU hW⟩⟩
  obtain ⟨r1, r2, r3, r4⟩ := hR
  have hsum := qySz_map (ad := ad) (st := rest)
  have hst : (as1.reverse ++ .ref i0 :: rest).map (qzR ad) = (as1.map (qzR ad)).reverse ++ .ref (ad i0) :: rest.map (qzR ad) := by rw [List.map_append, List.map_reverse]; rfl
  rw [hst]
  have hroom : (qzRm d (hp1.1 - hp.1) (qzSl hp1.1 - qzSl hp.1)).frames + 1 ≤ R.frames ∧ 8 + ((qzMd mj).2.2.1 + 11) + (qzRm d (hp1.1 - hp.1) (qzSl hp1.1 - qzSl hp.1)).locals ≤ R.locals := ⟨by show d + 12 + 1 ≤ _; omega, by show 8 + ((qzMd mj).2.2.1 + 11) + (400 + 100 * d) ≤ _; omega⟩
  have hrun : va_Run p l e R s m args below meth c H locs cells slots (hp1.1 - hp.1) (qzSl hp1.1 - qzSl hp.1) (F0 m pc lsS ((as1.map (qzR ad)).reverse ++ .ref (ad i0) :: rest.map (qzR ad))) (rest.map (qzR ad)) (qzPost G D z0 S ad hp.1 v hp1 (Value.ref (ad i0) :: as1.map (qzR ad)).toArray) (qzA0 z0) :=
    va_runV hS0 hM ⟨callB_of (qzMd mj).2.2.2.2.2.1 hts (qzGood pm2) rfl rfl rfl (hts _ pm3) (hts _ hlk) pm4 hroom, hts _ (pmV hkd).1, hts _ (pmV hkd).2⟩ hp0 rfl (by rw [List.length_map]; exact hn) hls rfl (by show 2 * 0 + _ ≤ 8; rw [hsum]; omega) hd ⟨by rw [hnn]; omega, by rw [hnn]; omega⟩
  refine qz_run hrun hS (fun ad' H1 locs1 hE hS1 => ?_)
  obtain ⟨e1, e2, e3, e4, e5, e6, e7⟩ := hE
  have e1' : qzAg hp1.1 ad ad' := by rw [hnn]; exact e1
  rw [qzW_ag e3 e1'] at e6 e7
  have hv : (v.map (qzR ad')).toList = v.toList.map (qzR ad) := by
    cases v with
    | none => rfl
    | some w => exact congrArg (fun q => [q]) (qzR_ag e1' (e5 w rfl))
  rw [hv, hnn, Nat.sub_self, Nat.sub_self, ← List.map_append]
  exact kk H1 locs1 ⟨e3, c4, e4, e6, e7, hS1⟩
/-- rate() -/
theorem qy_callR {rest : List Value} {x : UInt64} (hTx : qzTx l) (F : qyF p s m args c G D z0 S E mi) (C : lgC G D z0 S s ad H locs hp) (hls : lsS.size = (qyMd mi).2.2.1) (hd : decode (qyMd mi).2.1 pc = .ok (.invokevirtual 35, 3)) (hq : qyRtP hp x) (hrest : qySz rest ≤ 8) (hR : 73 ≤ R.frames ∧ 6500 ≤ R.locals ∧ cells ≤ R.cells ∧ slots ≤ R.slots)
    (kk : ∀ (H1 : Heap) (locs1 : List Loc), lgC G D z0 S s ad H1 locs1 hp → W p l e R s m args below meth c H1 locs1 cells slots Q (F0 m (pc + 3) lsS ((.double x :: rest).map (qzR ad)))) : W p l e R s m args below meth c H locs cells slots Q (F0 m pc lsS ((.ref 0 :: rest).map (qzR ad))) := by
  obtain ⟨hx, hb, hml, hown, hts, hK, hNw, hSt, hz, -⟩ := id F
  obtain ⟨c3, c4, c5, hP, hD, hS⟩ := id C
  obtain ⟨pa, h, a0, a1, w0, w1, rfl, q0, q1, q2, q3, hx0⟩ := hq
  obtain ⟨pm1, pm2, pm3, pm4, ⟨pm5, pm6, pm7⟩, pmS, pmV, pmI⟩ := qzPm_at (mi := 46) (by decide)
  obtain ⟨hb1, hb2⟩ := qzArr_ok (show qzArr 2 0 60 = true from rfl)
  obtain ⟨r1, r2, r3, r4⟩ := hR
  have hsum := qySz_map (ad := ad) (st := rest)
  refine va_calld (va_runV (As := []) (rest := rest.map (qzR ad)) (⟨hx, hb, hml, hown, hts⟩ : CallFix p m c (qyMd mi).2.1 (qyMd mi).2.2.1 s args qzWs RL) (rt_Y hTx q0 q1 q2 q3 hx0 c3 c4) ⟨callB_of 0 hts (qzGood pm2) rfl rfl rfl (hts _ pm3) (hts _ qys_cl_35) pm4 ⟨by show 6 + 12 + 1 ≤ _; omega, by show 8 + (3 + 11) + (400 + 100 * 6) ≤ _; omega⟩, hts _ (pmV rfl).1, hts _ (pmV rfl).2⟩ ⟨qzBlind, va_recv (tys := qzTys G) hK hP (qzCl_at (ci := 2) (by decide)) ((qzW_get (hp := (60, qzRr pa, h)) (i := 0) (by show 0 < 60; omega)).trans (by rw [qzEo hb2 (by decide)])), fun U hU hW => ⟨rfl, qyPre_z F C hU hW⟩⟩ rfl rfl hls rfl (by show 2 * 0 + _ ≤ 8; rw [hsum]; omega) hd ⟨r3, r4⟩) hS (fun q _ h => h) (fun q h => h) (fun r u t H1 locs1 ht _ hre hPt hsz hkp hS1 => ?_)
  subst hre
  exact kk H1 locs1 ⟨c3, c4, c5, by rw [← ht]; exact hPt, hD, hS1⟩
theorem qy_run {v : Value} {rst st0 : List Value} {aa : Array Value} (hr : va_Run p l e R s m args below meth c H locs cells slots 0 0 (F0 m pc lsS st0) rst (qyPost G D z0 ad v hp1 aa) (qzA0 z0)) (hS : va_S (qzA0 z0) s.heap H locs)
    (kk : ∀ (H1 : Heap) (locs1 : List Loc), qyEnd G D z0 ad hp1 H1 → va_S (qzA0 z0) s.heap H1 locs1 → W p l e R s m args below meth c H1 locs1 cells slots Q (F0 m (pc + 3) lsS (qzR ad v :: rst))) : W p l e R s m args below meth c H locs cells slots Q (F0 m pc lsS st0) := by
  intro T hT X
  obtain ⟨v', st₀, t, T', L, h0, X', hL, e1, e2, ⟨⟨hv, hE⟩, hz, hk⟩, st⟩ := hr T hT X
  cases hv
  rw [h0] at hz hk
  obtain ⟨t2, a1, b1⟩ := kk T'.heap (locs ++ L) (by rw [e1]; exact hE) ⟨Nat.le_trans hS.1 (by rw [e1]; exact hz), fun q h1 h2 => by rw [e1, hk q (Nat.lt_of_lt_of_le h1 hS.1) h2]; exact hS.2.1 q h1 h2, fun q hq => (List.mem_append.mp hq).elim (hS.2.2 q) (hL q)⟩ T' rfl X'
  exact ⟨t2, st t2 a1, b1⟩
/-- a call of the law's own -/
theorem qy_callL {idx mq k : Nat} {as rest : List Value} {v : Value} (F : qyF p s m args c G D z0 S E mi) (C : lgC G D z0 S s ad H locs hp) (hls : lsS.size = (qyMd mi).2.2.1) (hd : decode (qyMd mi).2.1 pc = .ok (.invokestatic idx, 3)) (hlk : Cond.methodLink RL idx (qyMd mq).1 ∈ qzWs) (hmk : mq < 9)
    (hM : qyMet l G D z0 S E ad k mq as hp v hp1) (hn : as.length = (qyMd mq).2.2.2.2) (hrest : qySz rest ≤ 8) (hnn : hp1.1 = hp.1) (hR : 75 + k ≤ R.frames ∧ 7100 + 100 * k ≤ R.locals ∧ cells ≤ R.cells ∧ slots ≤ R.slots)
    (kk : ∀ (H1 : Heap) (locs1 : List Loc), lgC G D z0 S s ad H1 locs1 hp1 → W p l e R s m args below meth c H1 locs1 cells slots Q (F0 m (pc + 3) lsS ((v :: rest).map (qzR ad)))) : W p l e R s m args below meth c H locs cells slots Q (F0 m pc lsS ((as.reverse ++ rest).map (qzR ad))) := by
  obtain ⟨hx, hb, hml, hown, hts, hK, hNw, hSt, hz, -⟩ := id F
  obtain ⟨c3, c4, c5, hP, hD, hS⟩ := id C
  obtain ⟨pm1, pm2, pm3, pm4, ⟨pm5, pm6, pm7⟩, pmS⟩ := qyPm_at hmk
  have hS0 : CallFix p m c (qyMd mi).2.1 (qyMd mi).2.2.1 s args qzWs RL := ⟨hx, hb, hml, hown, hts⟩
  have hp0 : PreS s H (va_Pc (as.map (qzR ad)) (qyPre G D z0 S E ad hp)) (as.map (qzR ad)) := ⟨qyBlind, fun U hU hW => ⟨rfl, qyPre_of F C hU hW⟩⟩
  obtain ⟨r1, r2, r3, r4⟩ := hR
  have hsum := qySz_map (ad := ad) (st := rest)
  have hroom : (qyRm k).frames + 1 ≤ R.frames ∧ 8 + ((qyMd mq).2.2.1 + 11) + (qyRm k).locals ≤ R.locals := ⟨by show 74 + k + 1 ≤ _; omega, by show 8 + ((qyMd mq).2.2.1 + 11) + (7000 + 100 * k) ≤ _; omega⟩
  have hrun : va_Run p l e R s m args below meth c H locs cells slots 0 0 (F0 m pc lsS ((as.reverse ++ rest).map (qzR ad))) (rest.map (qzR ad)) (qyPost G D z0 ad v hp1 (as.map (qzR ad)).toArray) (qzA0 z0) :=
    va_runS hS0 hM ⟨callB_of (qyMd mq).2.2.2.2 hts (qzGood pm2) rfl rfl rfl (hts _ pm3) (hts _ hlk) pm4 hroom, hts _ pmS⟩ hp0 rfl (by rw [List.length_map]; exact hn) hls (by show (as.reverse ++ rest).map (qzR ad) = _; rw [List.map_append, List.map_reverse]) (by show 2 * 0 + _ ≤ 8; rw [hsum]; omega) hd ⟨r3, r4⟩
  refine qy_run hrun hS (fun H1 locs1 hE hS1 => ?_)
  exact kk H1 locs1 ⟨hE.1, c4, by rw [hnn]; exact c5, hE.2.1, hE.2.2, hS1⟩
end QY2
theorem qyVirt_inv {idx len : Nat} {st : List Value} {q : (Nat × List Value × List Value) ⊕ ((Nat × List Value × List Value) ⊕ (List Value ⊕ Value))} (h : qyVirt idx len st = (some (.inr q) : Option qyA)) : len = 3 ∧
    ((∃ mj as1 rest, q = .inl (mj, .ref 0 :: as1, rest) ∧ (idx, mj) ∈ qyCl ∧ as1.length = (qzMd mj).2.2.2.2.2.1 ∧ (∀ w ∈ as1, ∃ x, w = .int x) ∧ qySz rest ≤ 8 ∧ st = as1.reverse ++ .ref 0 :: rest) ∨ (∃ rest, q = .inr (.inr (.inl rest)) ∧ (idx, 46) ∈ qyCl ∧ qySz rest ≤ 8 ∧ st = .ref 0 :: rest)) := by
  unfold qyVirt at h
  split at h
  · rename_i hw
    refine ⟨hw, ?_⟩
    split at h
    · rename_i mj hf
      split at h
      · rename_i h46
        subst h46
        split at h
        · split at h
          · rename_i hc
            obtain ⟨rfl, hc⟩ := hc
            simp only [Option.some.injEq, Sum.inr.injEq] at h
            exact Or.inr ⟨_, h.symm, qyFind_in hf, hc, rfl⟩
          · cases h
        · cases h
      · split at h
        · rename_i hk
          split at h
          · rename_i b rest hdr
            split at h
            · rename_i hc
              obtain ⟨rfl, hc⟩ := hc
              simp only [Option.some.injEq, Sum.inr.injEq] at h
              refine Or.inl ⟨mj, _, _, h.symm, qyFind_in hf, by rw [List.length_reverse, List.length_take]; omega, fun w hw => ?_, hc, ?_⟩
              · have := List.all_eq_true.mp hk.2 w (List.mem_reverse.mp hw)
                cases w with
                | int x => exact ⟨x, rfl⟩
                | _ => cases this
              · rw [List.reverse_reverse, ← hdr, List.take_append_drop]
            · cases h
          · cases h
        · cases h
    · cases h
  · cases h
theorem qyStat_inv {idx len : Nat} {st : List Value} {q : (Nat × List Value × List Value) ⊕ ((Nat × List Value × List Value) ⊕ (List Value ⊕ Value))} (h : qyStat idx len st = (some (.inr q) : Option qyA)) : len = 3 ∧
    ∃ mq as rest, q = .inr (.inl (mq, as, rest)) ∧ (idx, mq) ∈ qyLl ∧ as.length = (qyMd mq).2.2.2.2 ∧ (∀ w ∈ as, w.category = 1) ∧ qySz rest ≤ 8 ∧ st = as.reverse ++ rest := by
  unfold qyStat at h
  split at h
  · rename_i hw
    refine ⟨hw, ?_⟩
    split at h
    · rename_i mq hf
      split at h
      · rename_i hk
        simp only [Option.some.injEq, Sum.inr.injEq] at h
        exact ⟨mq, _, _, h.symm, qyFind_in hf, by rw [List.length_reverse, List.length_take]; omega, fun w hw => eq_of_beq (List.all_eq_true.mp hk.2.1 w (List.mem_reverse.mp hw)), hk.2.2, by rw [List.reverse_reverse, List.take_append_drop]⟩
      · cases h
    · cases h
  · cases h
theorem qyGo_n {pc : Nat} {ls st : List Value} {q : (Nat × List Value × List Value) ⊕ ((Nat × List Value × List Value) ⊕ (List Value ⊕ Value))} (h : qyGo pc ls st = (some (.inr q) : Option qyA)) : False := by unfold qyGo at h; cases h
theorem qyBr_n {b : Bool} {off : Int} {pc : Nat} {ls st : List Value} {q : (Nat × List Value × List Value) ⊕ ((Nat × List Value × List Value) ⊕ (List Value ⊕ Value))} (h : qyBr b pc off ls st = (some (.inr q) : Option qyA)) : False := by
  unfold qyBr at h
  repeat' split at h
  all_goals first | exact qyGo_n h | exact qy_no h
theorem qyPush_n {len pc : Nat} {ls st : List Value} {v0 : Value} {w : Nat} {q : (Nat × List Value × List Value) ⊕ ((Nat × List Value × List Value) ⊕ (List Value ⊕ Value))} (h : qyPush v0 len w pc ls st = (some (.inr q) : Option qyA)) : False := by
  unfold qyPush at h
  repeat' split at h
  all_goals first | exact qyGo_n h | exact qyBr_n h | exact qy_no h
theorem qyIload_n {len pc : Nat} {ls st : List Value} {i w : Nat} {q : (Nat × List Value × List Value) ⊕ ((Nat × List Value × List Value) ⊕ (List Value ⊕ Value))} (h : qyIload i len w pc ls st = (some (.inr q) : Option qyA)) : False := by
  unfold qyIload at h
  repeat' split at h
  all_goals first | exact qyGo_n h | exact qyBr_n h | exact qy_no h
theorem qyLload_n {len pc : Nat} {ls st : List Value} {i w : Nat} {q : (Nat × List Value × List Value) ⊕ ((Nat × List Value × List Value) ⊕ (List Value ⊕ Value))} (h : qyLload i len w pc ls st = (some (.inr q) : Option qyA)) : False := by
  unfold qyLload at h
  repeat' split at h
  all_goals first | exact qyGo_n h | exact qyBr_n h | exact qy_no h
theorem qyAload_n {len pc : Nat} {ls st : List Value} {i w : Nat} {q : (Nat × List Value × List Value) ⊕ ((Nat × List Value × List Value) ⊕ (List Value ⊕ Value))} (h : qyAload i len w pc ls st = (some (.inr q) : Option qyA)) : False := by
  unfold qyAload at h
  repeat' split at h
  all_goals first | exact qyGo_n h | exact qyBr_n h | exact qy_no h
theorem qyIstore_n {len pc : Nat} {ls st : List Value} {mi i w : Nat} {q : (Nat × List Value × List Value) ⊕ ((Nat × List Value × List Value) ⊕ (List Value ⊕ Value))} (h : qyIstore mi i len w pc ls st = (some (.inr q) : Option qyA)) : False := by
  unfold qyIstore at h
  repeat' split at h
  all_goals first | exact qyGo_n h | exact qyBr_n h | exact qy_no h
theorem qyAstore_n {len pc : Nat} {ls st : List Value} {mi i w : Nat} {q : (Nat × List Value × List Value) ⊕ ((Nat × List Value × List Value) ⊕ (List Value ⊕ Value))} (h : qyAstore mi i len w pc ls st = (some (.inr q) : Option qyA)) : False := by
  unfold qyAstore at h
  repeat' split at h
  all_goals first | exact qyGo_n h | exact qyBr_n h | exact qy_no h
theorem qyLstore_n {len pc : Nat} {ls st : List Value} {mi i w : Nat} {q : (Nat × List Value × List Value) ⊕ ((Nat × List Value × List Value) ⊕ (List Value ⊕ Value))} (h : qyLstore mi i len w pc ls st = (some (.inr q) : Option qyA)) : False := by
  unfold qyLstore at h
  repeat' split at h
  all_goals first | exact qyGo_n h | exact qyBr_n h | exact qy_no h
theorem qyBin_n {len pc : Nat} {ls st : List Value} {f : Int32 → Int32 → Int32} {q : (Nat × List Value × List Value) ⊕ ((Nat × List Value × List Value) ⊕ (List Value ⊕ Value))} (h : qyBin f len pc ls st = (some (.inr q) : Option qyA)) : False := by
  unfold qyBin at h
  repeat' split at h
  all_goals first | exact qyGo_n h | exact qyBr_n h | exact qy_no h
theorem qyBinD_n {len pc : Nat} {ls st : List Value} {f : Int32 → Int32 → Int32} {q : (Nat × List Value × List Value) ⊕ ((Nat × List Value × List Value) ⊕ (List Value ⊕ Value))} (h : qyBinD f len pc ls st = (some (.inr q) : Option qyA)) : False := by
  unfold qyBinD at h
  repeat' split at h
  all_goals first | exact qyGo_n h | exact qyBr_n h | exact qy_no h
theorem qyBinL_n {len pc : Nat} {ls st : List Value} {f : Int64 → Int64 → Int64} {q : (Nat × List Value × List Value) ⊕ ((Nat × List Value × List Value) ⊕ (List Value ⊕ Value))} (h : qyBinL f len pc ls st = (some (.inr q) : Option qyA)) : False := by
  unfold qyBinL at h
  repeat' split at h
  all_goals first | exact qyGo_n h | exact qyBr_n h | exact qy_no h
theorem qyLcmp_n {len pc : Nat} {ls st : List Value}  {q : (Nat × List Value × List Value) ⊕ ((Nat × List Value × List Value) ⊕ (List Value ⊕ Value))} (h : qyLcmp len pc ls st = (some (.inr q) : Option qyA)) : False := by
  unfold qyLcmp at h
  repeat' split at h
  all_goals first | exact qyGo_n h | exact qyBr_n h | exact qy_no h
theorem qyI2l_n {len pc : Nat} {ls st : List Value}  {q : (Nat × List Value × List Value) ⊕ ((Nat × List Value × List Value) ⊕ (List Value ⊕ Value))} (h : qyI2l len pc ls st = (some (.inr q) : Option qyA)) : False := by
  unfold qyI2l at h
  repeat' split at h
  all_goals first | exact qyGo_n h | exact qyBr_n h | exact qy_no h
theorem qyI2d_n {len pc : Nat} {ls st : List Value}  {q : (Nat × List Value × List Value) ⊕ ((Nat × List Value × List Value) ⊕ (List Value ⊕ Value))} (h : qyI2d len pc ls st = (some (.inr q) : Option qyA)) : False := by
  unfold qyI2d at h
  repeat' split at h
  all_goals first | exact qyGo_n h | exact qyBr_n h | exact qy_no h
theorem qyDdiv_n {len pc : Nat} {ls st : List Value}  {q : (Nat × List Value × List Value) ⊕ ((Nat × List Value × List Value) ⊕ (List Value ⊕ Value))} (h : qyDdiv len pc ls st = (some (.inr q) : Option qyA)) : False := by
  unfold qyDdiv at h
  repeat' split at h
  all_goals first | exact qyGo_n h | exact qyBr_n h | exact qy_no h
theorem qyDcmp_n {len pc : Nat} {ls st : List Value} {op : CmpOp} {q : (Nat × List Value × List Value) ⊕ ((Nat × List Value × List Value) ⊕ (List Value ⊕ Value))} (h : qyDcmp op len pc ls st = (some (.inr q) : Option qyA)) : False := by
  unfold qyDcmp at h
  repeat' split at h
  all_goals first | exact qyGo_n h | exact qyBr_n h | exact qy_no h
theorem qyIinc_n {len pc : Nat} {ls st : List Value} {mi i : Nat} {n : Int} {q : (Nat × List Value × List Value) ⊕ ((Nat × List Value × List Value) ⊕ (List Value ⊕ Value))} (h : qyIinc mi i n len pc ls st = (some (.inr q) : Option qyA)) : False := by
  unfold qyIinc at h
  repeat' split at h
  all_goals first | exact qyGo_n h | exact qyBr_n h | exact qy_no h
theorem qyIf1_n {len pc : Nat} {ls st : List Value} {c : ClassFile.Cond} {off : Int} {q : (Nat × List Value × List Value) ⊕ ((Nat × List Value × List Value) ⊕ (List Value ⊕ Value))} (h : qyIf1 c off len pc ls st = (some (.inr q) : Option qyA)) : False := by
  unfold qyIf1 at h
  repeat' split at h
  all_goals first | exact qyGo_n h | exact qyBr_n h | exact qy_no h
theorem qyIf2_n {len pc : Nat} {ls st : List Value} {c : ClassFile.Cond} {off : Int} {q : (Nat × List Value × List Value) ⊕ ((Nat × List Value × List Value) ⊕ (List Value ⊕ Value))} (h : qyIf2 c off len pc ls st = (some (.inr q) : Option qyA)) : False := by
  unfold qyIf2 at h
  repeat' split at h
  all_goals first | exact qyGo_n h | exact qyBr_n h | exact qy_no h
theorem qyGoto_n {len pc : Nat} {ls st : List Value} {off : Int} {q : (Nat × List Value × List Value) ⊕ ((Nat × List Value × List Value) ⊕ (List Value ⊕ Value))} (h : qyGoto off len pc ls st = (some (.inr q) : Option qyA)) : False := by
  unfold qyGoto at h
  repeat' split at h
  all_goals first | exact qyGo_n h | exact qyBr_n h | exact qy_no h
theorem qyLdc_n {len pc : Nat} {ls st : List Value} {idx : Nat} {q : (Nat × List Value × List Value) ⊕ ((Nat × List Value × List Value) ⊕ (List Value ⊕ Value))} (h : qyLdc idx len pc ls st = (some (.inr q) : Option qyA)) : False := by
  unfold qyLdc at h
  repeat' split at h
  all_goals first | exact qyGo_n h | exact qyBr_n h | exact qy_no h
theorem qyLdc2_n {len pc : Nat} {ls st : List Value} {idx : Nat} {q : (Nat × List Value × List Value) ⊕ ((Nat × List Value × List Value) ⊕ (List Value ⊕ Value))} (h : qyLdc2 idx len pc ls st = (some (.inr q) : Option qyA)) : False := by
  unfold qyLdc2 at h
  repeat' split at h
  all_goals first | exact qyGo_n h | exact qyBr_n h | exact qy_no h
theorem qyAlen_n {len pc : Nat} {ls st : List Value} {E : qyE} {q : (Nat × List Value × List Value) ⊕ ((Nat × List Value × List Value) ⊕ (List Value ⊕ Value))} (h : qyAlen E len pc ls st = (some (.inr q) : Option qyA)) : False := by
  unfold qyAlen at h
  repeat' split at h
  all_goals first | exact qyGo_n h | exact qyBr_n h | exact qy_no h
theorem qyIald_n {len pc : Nat} {ls st : List Value} {E : qyE} {q : (Nat × List Value × List Value) ⊕ ((Nat × List Value × List Value) ⊕ (List Value ⊕ Value))} (h : qyIald E len pc ls st = (some (.inr q) : Option qyA)) : False := by
  unfold qyIald at h
  repeat' split at h
  all_goals first | exact qyGo_n h | exact qyBr_n h | exact qy_no h
/-- what a step is that doesn't go on in the method -/
theorem qyI_r {E : qyE} {mi pc len : Nat} {ins : Instr} {ls st : List Value} {q : (Nat × List Value × List Value) ⊕ ((Nat × List Value × List Value) ⊕ (List Value ⊕ Value))} (h : qyI E mi pc ins len ls st = (some (.inr q) : Option qyA)) :
    (∃ idx, ins = .invokevirtual idx ∧ qyVirt idx len st = (some (.inr q) : Option qyA)) ∨ (∃ idx, ins = .invokestatic idx ∧ qyStat idx len st = (some (.inr q) : Option qyA)) ∨ (ins = .ireturn ∧ qyRet mi len st = (some (.inr q) : Option qyA)) ∨ (ins = .lreturn ∧ qyLret mi len st = (some (.inr q) : Option qyA)) := by
  cases ins with
  | invokevirtual idx => exact Or.inl ⟨idx, rfl, h⟩
  | invokestatic idx => exact Or.inr (Or.inl ⟨idx, rfl, h⟩)
  | ireturn => exact Or.inr (Or.inr (Or.inl ⟨rfl, h⟩))
  | lreturn => exact Or.inr (Or.inr (Or.inr ⟨rfl, h⟩))
  | dconst n =>
    have h1 : (if n = 0 then qyPush (.double FP.dconst0) len 1 pc ls st else none) = (some (.inr q) : Option qyA) := h
    split at h1
    · exact (qyPush_n h1).elim
    · exact (qy_no h1).elim
  | iconst n => exact (qyPush_n h).elim
  | bipush n => exact (qyPush_n h).elim
  | sipush n => exact (qyPush_n h).elim
  | iload_n k => exact (qyIload_n h).elim
  | iload k => exact (qyIload_n h).elim
  | lload_n k => exact (qyLload_n h).elim
  | lload k => exact (qyLload_n h).elim
  | aload_n k => exact (qyAload_n h).elim
  | istore_n k => exact (qyIstore_n h).elim
  | istore k => exact (qyIstore_n h).elim
  | astore_n k => exact (qyAstore_n h).elim
  | lstore_n k => exact (qyLstore_n h).elim
  | lstore k => exact (qyLstore_n h).elim
  | iadd => exact (qyBin_n h).elim
  | isub => exact (qyBin_n h).elim
  | imul => exact (qyBin_n h).elim
  | iand => exact (qyBin_n h).elim
  | ishr => exact (qyBin_n h).elim
  | idiv => exact (qyBinD_n h).elim
  | irem => exact (qyBinD_n h).elim
  | ladd => exact (qyBinL_n h).elim
  | lmul => exact (qyBinL_n h).elim
  | lcmp => exact (qyLcmp_n h).elim
  | i2l => exact (qyI2l_n h).elim
  | i2d => exact (qyI2d_n h).elim
  | ddiv => exact (qyDdiv_n h).elim
  | dcmp op => exact (qyDcmp_n h).elim
  | iinc i n => exact (qyIinc_n h).elim
  | ifCond c off => exact (qyIf1_n h).elim
  | if_icmp c off => exact (qyIf2_n h).elim
  | goto off => exact (qyGoto_n h).elim
  | ldc idx => exact (qyLdc_n h).elim
  | ldc2_w idx => exact (qyLdc2_n h).elim
  | arraylength => exact (qyAlen_n h).elim
  | iaload => exact (qyIald_n h).elim
  | _ => exact (qy_no h).elim
theorem qyRet_inv {mi len : Nat} {st : List Value} {q : (Nat × List Value × List Value) ⊕ ((Nat × List Value × List Value) ⊕ (List Value ⊕ Value))} (h : qyRet mi len st = (some (.inr q) : Option qyA)) : len = 1 ∧ ∃ v ty, st = [.int v] ∧ (qyMd mi).2.2.2.1 = some ty ∧ narrow ty (.int v) = .int v ∧ q = .inr (.inr (.inr (.int v))) := by
  unfold qyRet at h
  split at h
  · rename_i hw
    split at h
    · rename_i v
      split at h
      · rename_i ty hty
        split at h
        · rename_i hn
          simp only [Option.some.injEq, Sum.inr.injEq] at h
          exact ⟨hw, v, ty, rfl, hty, hn, h.symm⟩
        · cases h
      · cases h
    · cases h
  · cases h
theorem qyLret_inv {mi len : Nat} {st : List Value} {q : (Nat × List Value × List Value) ⊕ ((Nat × List Value × List Value) ⊕ (List Value ⊕ Value))} (h : qyLret mi len st = (some (.inr q) : Option qyA)) : len = 1 ∧ ∃ v, st = [.long v] ∧ (qyMd mi).2.2.2.1 = some .long ∧ q = .inr (.inr (.inr (.long v))) := by
  unfold qyLret at h
  split at h
  · rename_i hw
    split at h
    · rename_i v
      simp only [Option.some.injEq, Sum.inr.injEq] at h
      exact ⟨hw.1, v, rfl, hw.2, h.symm⟩
    · cases h
  · cases h
/-- a contract of a method of the law's, out of the walk of its body -/
theorem qy_met {l : Launch} {G : qzGT} {D : va_G} {z0 : Nat} {S : Nat → Nat} {E : qyE} {ad : Nat → Nat} {k mq : Nat} {as : List Value} {hp : qzH} {v : Value} {hp1 : qzH} (hmk : mq < 9) (hcat : ∀ w ∈ as, w.category = 1) (hl : as.length ≤ (qyMd mq).2.2.1) (hw : qzWf hp) (h1 : hp.1 < 1000) (hc4 : ∀ i, ad (1000 + i) = S i)
    (hW : ∀ {p : Program} {e : Env} {s : State} {m : MethodId} {args : Array Value} {below : List Frame} {meth : Method} {c : Code} {lsS : Array Slot}, qyF p s m args c G D z0 S E mq → meth.sig.returnType = (qyMd mq).2.2.2.1 → meth.locks = false → qyLs ad mq lsS (qyLoc mq as) → lgC G D z0 S s ad s.heap [] hp →
      W p l e (qyRm k) s m args below meth c s.heap [] 0 0 (MQ below (qyPost G D z0 ad v hp1) args s 0 0 (qzA0 z0)) (F0 m 0 lsS [])) : qyMet l G D z0 S E ad k mq as hp v hp1 := by
  obtain ⟨pm1, pm2, pm3, pm4, ⟨pm5, pm6, pm7⟩, pmS⟩ := qyPm_at hmk
  unfold qyMet
  refine Met.ofW (cc := (qyMd mq).2.1) (maxL := (qyMd mq).2.2.1) (ret := (qyMd mq).2.2.2.1) pm1 rfl ?_
  intro p e s m args below meth c s₁ B hml hv
  obtain ⟨rfl, ⟨hz, hP, hK, hD, hN, hS⟩, hX, hbz⟩ := hv
  rw [lg_entry_eq]
  have hts0 := atoms_spec B.pre
  have hts : ∀ w ∈ qzWs, w.before (as.map (qzR ad)).toArray s = true := fun w hw => hts0 w (List.mem_cons_of_mem _ hw)
  have F : qyF p s m (as.map (qzR ad)).toArray c G D z0 S E mq := ⟨B.exec, B.bytes, hml, by rw [← pm7]; exact findClass_of_methodNamed B.named, hts, hK, hN, hS, hz, hX, hbz⟩
  have hc' : ∀ w ∈ as.map (qzR ad), w.category = 1 := by
    intro w hw
    obtain ⟨u, hu, rfl⟩ := List.mem_map.mp hw
    rw [qzR_cat]
    exact hcat u hu
  have hs' : (lg_sl (as.map (qzR ad))).length = as.length := by rw [qz_sl _ hc', List.length_map]
  refine hW (below := below) F B.returns B.notSynchronized ⟨by simp [qyLoc]; omega, fun _ w hw => ?_, _, lv_entry _ (by rw [hs']; exact hl), fun j w hj hw => ?_⟩ ⟨hw, hc4, h1, hP, hD, va_S.rf⟩ (e := e)
  · rcases List.mem_append.mp hw with q | q
    · exact hcat w q
    · rw [List.eq_of_mem_replicate q]; rfl
  · have hlt : j < as.length := by
      apply Nat.lt_of_not_le
      intro q
      unfold qyLoc at hj
      rw [List.getElem?_append_right q] at hj
      exact hw (List.eq_of_mem_replicate (List.mem_of_getElem? hj))
    unfold qyLoc at hj
    rw [List.getElem?_append_left hlt] at hj
    have := qz_args (as.map (qzR ad)) 0 hc' j (qzR ad w) (by rw [List.getElem?_map, hj]; rfl)
    rwa [Nat.zero_add] at this
theorem qyCl_46 {idx : Nat} (h : (idx, 46) ∈ qyCl) : idx = 35 := by
  have : ∀ e ∈ qyCl, e.2 = 46 → e.1 = 35 := by decide
  exact this _ h rfl
theorem qzMd_sz : ∀ mi, mi < 86 → (qzMd mi).2.2.2.2.2.1 + 1 ≤ (qzMd mi).2.2.1 ∨ ¬ (qzMd mi).2.2.2.2.1 = 1 := by decide +kernel
/-- A RUN OF THE LAW'S INTERPRETER IS A RUN OF THE MACHINE -/
theorem qy_sound (l : Launch) (hTx : qzTx l) (E : qyE) : ∀ (f k mi pc : Nat) (ls st : List Value) (hp : qzH) (v : Value) (hpF : qzH), qyX E f k mi pc ls st hp = some (v, hpF) → hpF.1 = hp.1 ∧
    (60 ≤ hp.1 → ∀ {p : Program} {e : Env} {R : Room} {s : State} {m : MethodId} {args : Array Value} {below : List Frame} {meth : Method} {c : Code} {Q : State → Prop} {G : qzGT} {D : va_G} {z0 : Nat} {S : Nat → Nat} {ad : Nat → Nat} {lsS : Array Slot} {H : Heap} {locs : List Loc} {cells slots : Nat}, qyF p s m args c G D z0 S E mi → qyLs ad mi lsS ls → lgC G D z0 S s ad H locs hp → (74 + k ≤ R.frames ∧ 7000 + 100 * k ≤ R.locals ∧ cells ≤ R.cells ∧ slots ≤ R.slots) →
      (∀ (pc1 : Nat) (ins : Instr) (lsS1 : Array Slot) (H1 : Heap) (locs1 : List Loc), decode (qyMd mi).2.1 pc1 = .ok (ins, 1) → ((ins = .ireturn ∧ ∃ x ty, v = .int x ∧ (qyMd mi).2.2.2.1 = some ty ∧ narrow ty (.int x) = .int x) ∨ (ins = .lreturn ∧ ∃ x, v = .long x ∧ (qyMd mi).2.2.2.1 = some .long)) → lgC G D z0 S s ad H1 locs1 hpF → W p l e R s m args below meth c H1 locs1 cells slots Q (F0 m pc1 lsS1 [v])) →
      W p l e R s m args below meth c H locs cells slots Q (F0 m pc lsS (st.map (qzR ad)))) := by
  intro f
  induction f with
  | zero => intro k mi pc ls st hp v hpF h; unfold qyX at h; cases h
  | succ f ih =>
    intro k mi pc ls st hp v hpF h
    unfold qyX at h
    split at h
    · cases h
    · rename_i pc' ls' st' hs
      obtain ⟨m1, hW⟩ := ih _ _ _ _ _ _ _ _ h
      unfold qyStep at hs
      split at hs
      · rename_i ins len hd
        refine ⟨m1, fun h60 {p e R s m args below meth c Q G D z0 S ad lsS H locs cells slots} F hls C hR hret => ?_⟩
        exact qy_go F hls C hd hs (fun lsS' hls' => hW h60 F hls' C hR hret)
      · cases hs
    · rename_i mj as rest hs
      split at h
      · cases h
      · rename_i v1 hp1 hcal
        split at h
        · rename_i hnn
          obtain ⟨m1, hW⟩ := ih _ _ _ _ _ _ _ _ h
          refine ⟨m1.trans hnn, fun h60 {p e R s m args below meth c Q G D z0 S ad lsS H locs cells slots} F hls C hR hret => ?_⟩
          unfold qyStep at hs
          split at hs
          · rename_i ins len hd
            rcases qyI_r hs with ⟨idx, rfl, hv⟩ | ⟨idx, rfl, hv⟩ | ⟨rfl, hv⟩ | ⟨rfl, hv⟩
            · obtain ⟨rfl, ⟨mj', as1, rest', hq, hin, hn, hints, hr8, rfl⟩ | ⟨rest', hq, -⟩⟩ := qyVirt_inv hv
              · cases hq
                obtain ⟨hmj, hkd, hoc, hlk⟩ := qyCl_ok _ hin
                dsimp only at hmj hkd hoc hlk
                have hmj' : mj < 149 := by omega
                have hsz := (qzMd_sz mj hmj).resolve_right (fun z => z hkd)
                refine qy_callC (i0 := 0) hTx F C hls.size hd hlk hcal hmj' hkd (by rw [hoc]; unfold qzArr; rw [Bool.and_eq_true]; exact ⟨decide_eq_true (by omega), rfl⟩) ?_ hn (by rw [List.length_cons, hn]; exact hsz) hr8 hnn ⟨by omega, by omega, hR.2.2.1, hR.2.2.2⟩ (fun H1 locs1 C1 => hW (by rw [hnn]; exact h60) F hls C1 hR hret)
                intro w hw
                rcases List.mem_cons.mp hw with rfl | hw
                · exact Or.inl (Nat.lt_of_lt_of_le (by decide : 0 < 60) h60)
                · obtain ⟨x, rfl⟩ := hints w hw
                  trivial
              · cases hq
            · obtain ⟨-, mq, as', rest', hq, -⟩ := qyStat_inv hv
              cases hq
            · obtain ⟨-, v', ty, -, -, -, hq⟩ := qyRet_inv hv
              cases hq
            · obtain ⟨-, v', -, -, hq⟩ := qyLret_inv hv
              cases hq
          · cases hs
        · cases h
    · rename_i mq as rest hs
      split at h
      · cases h
      · rename_i k'
        split at h
        · cases h
        · rename_i v1 hp1 hcal
          obtain ⟨n1, hWc⟩ := ih _ _ _ _ _ _ _ _ hcal
          obtain ⟨m1, hW⟩ := ih _ _ _ _ _ _ _ _ h
          refine ⟨m1.trans n1, fun h60 {p e R s m args below meth c Q G D z0 S ad lsS H locs cells slots} F hls C hR hret => ?_⟩
          unfold qyStep at hs
          split at hs
          · rename_i ins len hd
            rcases qyI_r hs with ⟨idx, rfl, hv⟩ | ⟨idx, rfl, hv⟩ | ⟨rfl, hv⟩ | ⟨rfl, hv⟩
            · obtain ⟨-, ⟨mj', as1, rest', hq, -⟩ | ⟨rest', hq, -⟩⟩ := qyVirt_inv hv
              · cases hq
              · cases hq
            · obtain ⟨rfl, mq', as', rest', hq, hin, hn, hcat, hr8, rfl⟩ := qyStat_inv hv
              cases hq
              obtain ⟨hmk, hlk⟩ := qyLl_ok _ hin
              dsimp only at hmk hlk
              have hsz : as.length ≤ (qyMd mq).2.2.1 := by rw [hn]; exact (qyPm_at hmk).2.2.2.2.1.2.1
              have hM : qyMet l G D z0 S E ad k' mq as hp v1 hp1 := qy_met hmk hcat hsz C.1 C.2.2.1 C.2.1 (fun {p e s m args below meth c lsS} F' hrt hlk' hls' C' => hWc h60 F' hls' C' ⟨Nat.le_refl _, Nat.le_refl _, Nat.le_refl _, Nat.le_refl _⟩ (fun pc1 ins lsS1 H1 locs1 hd1 hv1 C1 => by
                have hfin : ∀ t : State, t.heap = H1 → s.WarmedH t.vm → qyPost G D z0 ad v1 hp1 args s (.returned (some (qzR ad v1))) t := fun t ht _ => ⟨⟨rfl, C1.1, by rw [ht]; exact C1.2.2.2.1, C1.2.2.2.2.1⟩, C1.2.2.2.2.2.F ht⟩
                rcases hv1 with ⟨rfl, x, ty, rfl, hty, hna⟩ | ⟨rfl, x, rfl, hty⟩
                · exact W.zret F'.1 F'.2.1 (hrt.trans hty) hna hfin C1.2.2.2.2.2.2.2 hd1 hlk'
                · exact W.lret F'.1 F'.2.1 (hrt.trans hty) hfin C1.2.2.2.2.2.2.2 hd1 hlk'))
              exact qy_callL F C hls.size hd hlk hmk hM hn hr8 n1 ⟨by omega, by omega, hR.2.2.1, hR.2.2.2⟩ (fun H1 locs1 C1 => hW (by rw [n1]; exact h60) F hls C1 hR hret)
            · obtain ⟨-, v', ty, -, -, -, hq⟩ := qyRet_inv hv
              cases hq
            · obtain ⟨-, v', -, -, hq⟩ := qyLret_inv hv
              cases hq
          · cases hs
    · rename_i rest hs
      split at h
      · cases h
      · rename_i x hx
        obtain ⟨m1, hW⟩ := ih _ _ _ _ _ _ _ _ h
        refine ⟨m1, fun h60 {p e R s m args below meth c Q G D z0 S ad lsS H locs cells slots} F hls C hR hret => ?_⟩
        unfold qyStep at hs
        split at hs
        · rename_i ins len hd
          rcases qyI_r hs with ⟨idx, rfl, hv⟩ | ⟨idx, rfl, hv⟩ | ⟨rfl, hv⟩ | ⟨rfl, hv⟩
          · obtain ⟨rfl, ⟨mj', as1, rest', hq, -⟩ | ⟨rest', hq, hin, hr8, rfl⟩⟩ := qyVirt_inv hv
            · cases hq
            · cases hq
              have := qyCl_46 hin
              subst this
              exact qy_callR hTx F C hls.size hd (qyRt_some hx) hr8 ⟨by omega, by omega, hR.2.2.1, hR.2.2.2⟩ (fun H1 locs1 C1 => hW h60 F hls C1 hR hret)
          · obtain ⟨-, mq, as', rest', hq, -⟩ := qyStat_inv hv
            cases hq
          · obtain ⟨-, v', ty, -, -, -, hq⟩ := qyRet_inv hv
            cases hq
          · obtain ⟨-, v', -, -, hq⟩ := qyLret_inv hv
            cases hq
        · cases hs
    · rename_i v' hs
      cases h
      refine ⟨rfl, fun h60 {p e R s m args below meth c Q G D z0 S ad lsS H locs cells slots} F hls C hR hret => ?_⟩
      unfold qyStep at hs
      split at hs
      · rename_i ins len hd
        rcases qyI_r hs with ⟨idx, rfl, hv⟩ | ⟨idx, rfl, hv⟩ | ⟨rfl, hv⟩ | ⟨rfl, hv⟩
        · obtain ⟨-, ⟨mj', as1, rest', hq, -⟩ | ⟨rest', hq, -⟩⟩ := qyVirt_inv hv
          · cases hq
          · cases hq
        · obtain ⟨-, mq, as', rest', hq, -⟩ := qyStat_inv hv
          cases hq
        · obtain ⟨rfl, x, ty, rfl, hty, hna, hq⟩ := qyRet_inv hv
          cases hq
          exact hret pc .ireturn lsS H locs hd (Or.inl ⟨rfl, x, ty, rfl, hty, hna⟩) C
        · obtain ⟨rfl, x, rfl, hty, hq⟩ := qyLret_inv hv
          cases hq
          exact hret pc .lreturn lsS H locs hd (Or.inr ⟨rfl, x, rfl, hty⟩) C
      · cases hs
