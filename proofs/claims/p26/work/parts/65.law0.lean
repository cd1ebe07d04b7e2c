/-! the law's own frame: what stands, what moves; calls; arguments -/
theorem qzW_ag {G : qzGT} {ad ad' : Nat → Nat} {hp : qzH} (hw : qzWf hp) (h : qzAg hp.1 ad ad') : qzW G ad' hp = qzW G ad hp := by
  unfold qzW
  apply List.map_congr_left
  intro i hi
  rw [List.mem_range] at hi
  rw [h i (Or.inl hi), qzE_ag (n := hp.1) (fun j a ha => hw i j a ha) h]
/-- the fixed part -/
def lgF (p : Program) (s : State) (m : MethodId) (args : Array Value) (c : Code) (G : qzGT) (D : va_G) (z0 : Nat) (S : Nat → Nat) (b L : Nat) (xs : Nat → Int32) : Prop :=
  p.tables.exec = Jvm.exec ∧ c.code = code ∧ c.maxLocals = 8 ∧ s.vm.findClass R_law = some m.cls ∧ (∀ w ∈ qzWs, w.before args s = true) ∧ va_K D vwCl (qzTys G) s ∧ qzNw s ∧ qzSt z0 S s s.heap ∧ z0 ≤ s.heap.size ∧ va_X b L xs s s.heap ∧ b < z0 ∧ ∀ q : Nat, s.heap.size ≤ q → qzA0 z0 q
/-- the moving part -/
def lgC (G : qzGT) (D : va_G) (z0 : Nat) (S : Nat → Nat) (s : State) (ad : Nat → Nat) (H : Heap) (locs : List Loc) (hp : qzH) : Prop :=
  qzWf hp ∧ (∀ i, ad (1000 + i) = S i) ∧ hp.1 < 1000 ∧ va_P D vwCl (qzW G ad hp) H ∧ va_D (qzA0 z0) (qzW G ad hp) ∧ va_S (qzA0 z0) s.heap H locs
section LG
variable {p : Program} {l : Launch} {e : Env} {R : Room} {s : State} {m : MethodId} {args : Array Value} {below : List Frame} {meth : Method} {c : Code} {Q : State → Prop} {G : qzGT} {D : va_G} {z0 : Nat} {S : Nat → Nat} {b L : Nat} {xs : Nat → Int32} {pc : Nat} {ad : Nat → Nat} {lsS : Array Slot} {H : Heap} {locs : List Loc} {hp hp1 : qzH} {cells slots : Nat} {rest : List Value}
theorem lgF.bA (F : lgF p s m args c G D z0 S b L xs) : ¬ qzA0 z0 b := by
  obtain ⟨-, -, -, -, -, -, -, -, -, -, hb, -⟩ := F
  exact Nat.not_le.mpr hb
theorem lgF.bl (F : lgF p s m args c G D z0 S b L xs) : b < s.heap.size := by
  obtain ⟨-, -, -, -, -, -, -, -, hz, -, hb, -⟩ := F
  exact Nat.lt_of_lt_of_le hb hz
theorem lgPre (F : lgF p s m args c G D z0 S b L xs) (C : lgC G D z0 S s ad H locs hp) {U : State} (hU : U.heap = H) (hW : s.WarmedH U.vm) : qzPre G D z0 S ad hp U := by
  obtain ⟨hx, hb, hml, hown, hts, hK, hNw, hSt, hz, -⟩ := id F
  obtain ⟨c3, c4, c5, hP, hD, hS⟩ := id C
  exact ⟨by rw [hU]; exact Nat.le_trans hz hS.1, by rw [hU]; exact hP, va_K.moved hW.alike hK, hD, hNw.warm hW, hSt.now hz hS hU hW⟩
/-- a call of a method of the class or of the reference that makes nothing new -/
theorem lg_call {idx mj d i0 : Nat} {as1 : List Value} {st : List Value} {v : Option Value} (hTx : qzTx l) (F : lgF p s m args c G D z0 S b L xs) (C : lgC G D z0 S s ad H locs hp) (hls : lsS.size = 8) (hd : decode code pc = .ok (.invokevirtual idx, 3)) (hlk : Cond.methodLink R_law idx (qzMd mj).1 ∈ qzWs)
    (hq : qzC d mj (.ref i0 :: as1) hp = some (v, hp1)) (hmj : mj < 149) (hkd : (qzMd mj).2.2.2.2.1 = 1) (hab : qzArr (qzMd mj).2.2.2.2.2.2 i0 hp.1 = true) (has : ∀ w ∈ (.ref i0 :: as1 : List Value), qzOk hp.1 w) (hn : as1.length = (qzMd mj).2.2.2.2.2.1) (hla : (Value.ref i0 :: as1).length ≤ (qzMd mj).2.2.1) (hst : st = (as1.map (qzR ad)).reverse ++ .ref (ad i0) :: rest) (hrest : (rest.map fun v => v.category).sum ≤ 8) (hnn : hp1.1 = hp.1) (hR : d + 13 ≤ R.frames ∧ 500 + 100 * d ≤ R.locals ∧ cells ≤ R.cells ∧ slots ≤ R.slots)
    (kk : ∀ (H1 : Heap) (locs1 : List Loc), lgC G D z0 S s ad H1 locs1 hp1 → W p l e R s m args below meth c H1 locs1 cells slots Q (F0 m (pc + 3) lsS ((v.map (qzR ad)).toList ++ rest))) : W p l e R s m args below meth c H locs cells slots Q (F0 m pc lsS st) := by
  obtain ⟨hx, hb, hml, hown, hts, hK, hNw, hSt, hz, -⟩ := id F
  obtain ⟨c3, c4, c5, hP, hD, hS⟩ := id C
  obtain ⟨pm1, pm2, pm3, pm4, ⟨pm5, pm6, pm7⟩, pmS, pmV, pmI⟩ := qzPm_at hmj
  have hM : qzMet l G D z0 S ad d mj (.ref i0 :: as1) hp v hp1 := qzC_met hTx hq hmj has hla c3 c5 c4
  have hS0 : CallFix p m c code 8 s args qzWs R_law := ⟨hx, hb, hml, hown, hts⟩
  obtain ⟨hb1, hb2⟩ := qzArr_ok hab
  have hoc := qzOc mj hmj (by rw [hkd]; decide)
  have hp0 : PreV s H (qzMd mj).1.cls (ad i0) (va_Pc ((.ref i0 :: as1).map (qzR ad)) (qzPre G D z0 S ad hp)) (as1.map (qzR ad)) := ⟨qzBlind, by rw [pm7]; exact va_recv (tys := qzTys G) hK hP (qzCl_at hoc) ((qzW_get hb1).trans (by rw [qzEo hb2 hoc])), fun U hU hW => ⟨rfl, lgPre F C hU hW⟩⟩
  obtain ⟨r1, r2, r3, r4⟩ := hR
  have hroom : (qzRm d (hp1.1 - hp.1) (qzSl hp1.1 - qzSl hp.1)).frames + 1 ≤ R.frames ∧ 8 + ((qzMd mj).2.2.1 + 11) + (qzRm d (hp1.1 - hp.1) (qzSl hp1.1 - qzSl hp.1)).locals ≤ R.locals := ⟨by show d + 12 + 1 ≤ _; omega, by show 8 + ((qzMd mj).2.2.1 + 11) + (400 + 100 * d) ≤ _; omega⟩
  have hrun : va_Run p l e R s m args below meth c H locs cells slots (hp1.1 - hp.1) (qzSl hp1.1 - qzSl hp.1) (F0 m pc lsS st) rest (qzPost G D z0 S ad hp.1 v hp1 (Value.ref (ad i0) :: as1.map (qzR ad)).toArray) (qzA0 z0) :=
    va_runV hS0 hM ⟨callB_of (qzMd mj).2.2.2.2.2.1 hts (qzGood pm2) rfl rfl rfl (hts _ pm3) (hts _ hlk) pm4 hroom, hts _ (pmV hkd).1, hts _ (pmV hkd).2⟩ hp0 rfl (by rw [List.length_map]; exact hn) hls hst (by show 2 * 0 + _ ≤ 8; omega) hd ⟨by rw [hnn]; omega, by rw [hnn]; omega⟩
  refine qz_run hrun hS (fun ad' H1 locs1 hE hS1 => ?_)
  obtain ⟨e1, e2, e3, e4, e5, e6, e7⟩ := hE
  have e1' : qzAg hp1.1 ad ad' := by rw [hnn]; exact e1
  rw [qzW_ag e3 e1'] at e6 e7
  have hv : v.map (qzR ad') = v.map (qzR ad) := by
    cases v with
    | none => rfl
    | some w => exact congrArg some (qzR_ag e1' (e5 w rfl))
  rw [hv, hnn, Nat.sub_self, Nat.sub_self]
  exact kk H1 locs1 ⟨e3, c4, e4, e6, e7, hS1⟩
/-- one int of the script: five steps -/
theorem lg_arg {i X : Int32} {n : Int} {pc1 pc2 pc3 pc4 : Nat} {f0 f3 : Fin 4} (F : lgF p s m args c G D z0 S b L xs) (C : lgC G D z0 S s ad H locs hp) (h0 : lsS[0]? = some (.val (.ref b))) (h3 : lsS[3]? = some (.val (.int i)))
    (d0 : decode code pc = .ok (.aload_n f0, 1)) (d1 : decode code pc1 = .ok (.iload_n f3, 1)) (d2 : decode code pc2 = .ok (.iconst n, 1)) (d3 : decode code pc3 = .ok (.iadd, 1)) (d4 : decode code pc4 = .ok (.iaload, 1)) (hf0 : (f0 : Nat) = 0) (hf3 : (f3 : Nat) = 3) (q1 : pc + 1 = pc1) (q2 : pc1 + 1 = pc2) (q3 : pc2 + 1 = pc3) (q4 : pc3 + 1 = pc4) (hin : vp_in (i + Int32.ofInt n) L) (hX : xs (i + Int32.ofInt n).toNatClampNeg = X)
    (kk : W p l e R s m args below meth c H locs cells slots Q (F0 m (pc4 + 1) lsS (.int X :: rest))) : W p l e R s m args below meth c H locs cells slots Q (F0 m pc lsS rest) := by
  obtain ⟨hx, hb, hml, hown, hts, hK, hNw, hSt, hz, hXs, -⟩ := id F
  obtain ⟨c3, c4, c5, hP, hD, hS⟩ := id C
  subst q1
  subst q2
  subst q3
  subst q4
  subst hX
  refine lv_aload_n hx hb d0 hf0 h0 ?_
  refine lv_iload_n hx hb d1 hf3 h3 ?_
  refine lv_iconst hx hb d2 rfl ?_
  refine lv_iadd hx hb d3 ?_
  exact va_sld hx hb hXs F.bl F.bA hS hin d4 kk
/-- an int that stands for yes or no: four steps -/
theorem lg_bool {X : Int32} {pc1 pc2 pc3 pcE : Nat} {o1 o2 : Int} (F : lgF p s m args c G D z0 S b L xs)
    (d0 : decode code pc = .ok (.ifCond .eq o1, 3)) (d1 : decode code pc1 = .ok (.iconst 1, 1)) (d2 : decode code pc2 = .ok (.goto o2, 3)) (d3 : decode code pc3 = .ok (.iconst 0, 1)) (q1 : pc + 3 = pc1) (q2 : pc1 + 1 = pc2) (q3 : (pc : Int) + o1 = (pc3 : Int)) (q4 : (pc2 : Int) + o2 = (pcE : Int)) (q5 : pc3 + 1 = pcE)
    (kk : W p l e R s m args below meth c H locs cells slots Q (F0 m pcE lsS (.int (if X = 0 then 0 else 1) :: rest))) : W p l e R s m args below meth c H locs cells slots Q (F0 m pc lsS (.int X :: rest)) := by
  obtain ⟨hx, hb, -⟩ := id F
  subst q1
  subst q2
  subst q5
  refine lv_if_eq hx hb d0 q3 (fun h => ?_) (fun h => ?_)
  · rw [if_pos h] at kk
    exact lv_iconst hx hb d3 (by decide) kk
  · rw [if_neg h] at kk
    exact lv_iconst hx hb d1 (by decide) (lv_goto hx hb d2 q4 kk)
theorem lg_g (X : Int32) : ∃ g, g ≤ 1 ∧ (if X = 0 then (0 : Int32) else 1) = nI g := by
  by_cases h : X = 0
  · exact ⟨0, by omega, by rw [if_pos h]; rfl⟩
  · exact ⟨1, by omega, by rw [if_neg h]; rfl⟩
end LG
