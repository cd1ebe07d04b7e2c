/-! a call, the answers, and the whole: a run of the interpreter is a contract of the machine -/
theorem qzOc : ∀ mi, mi < 149 → ¬ (qzMd mi).2.2.2.2.1 = 0 → (qzMd mi).2.2.2.2.2.2 < 4 := by decide +kernel
section QZ5
variable {p : Program} {l : Launch} {e : Env} {R : Room} {s : State} {m : MethodId} {args : Array Value} {below : List Frame} {meth : Method} {c : Code} {Q : State → Prop} {G : qzGT} {D : va_G} {z0 : Nat} {S : Nat → Nat} {mi pc n0 : Nat} {ad : Nat → Nat} {lsS : Array Slot} {H : Heap} {locs : List Loc} {ls st ls' st' : List Value} {hp hp' : qzH} {pc' len : Nat}
/-- room for a call -/
def qzRc (R : Room) (d n0 n n1 : Nat) : Prop := d + 13 ≤ R.frames ∧ 500 + 100 * d ≤ R.locals ∧ n - n0 + (n1 - n) ≤ R.cells ∧ qzSl n - qzSl n0 + (qzSl n1 - qzSl n) ≤ R.slots ∧ n0 ≤ n ∧ n ≤ n1
theorem qz_callS {idx mj d : Nat} {as rest : List Value} {v : Option Value} {hp1 : qzH} (F : qzFx p G D z0 S s m args meth c mi) (C : qzCx G D z0 S s mi ad lsS H locs ls st hp) (hd : decode (qzMd mi).2.1 pc = .ok (.invokestatic idx, len)) (h : qzCall 0 (qzMd mi).2.2.2.2.2.2 idx len st hp = (some (.inr (.inl (mj, as, rest))) : Option qzA)) (hM : qzMet l G D z0 S ad d mj as hp v hp1) (hR : qzRc R d n0 hp.1 hp1.1)
    (kk : qzKK p l e R s m args below meth c Q G D z0 S mi n0 hp.1 ad (pc + 3) ls (v.toList ++ rest) hp1) : qzG p l e R s m args below meth c Q n0 pc ad lsS H locs st hp.1 := by
  obtain ⟨hx, hb, hml, hr, hown, hts, hlk, hnm, hK, hNw, hSt, hz, hmi⟩ := id F
  obtain ⟨c1, c2, c3, c4, c5, hP, hD, hS⟩ := id C
  have hown' : s.vm.findClass (qzRs (qzMd mi).2.2.2.2.2.2) = some m.cls := by rw [← (qzPm_at hmi).2.2.2.2.1.2.2]; exact hown
  obtain ⟨rfl, h8, hmj, hkd, ⟨nest, hin, -⟩, hcase⟩ := qzCall_inv h
  obtain ⟨pm1, pm2, pm3, pm4, ⟨pm5, pm6, pm7⟩, pmS, pmV, pmI⟩ := qzPm_at hmj
  obtain ⟨-, hpc⟩ := qzCs _ hin
  dsimp only at hpc
  obtain ⟨r1, r2, r3, r4, r5, r6⟩ := hR
  rcases hcase with ⟨-, hlen, rfl⟩ | ⟨q, -⟩
  · have hrest : ∀ w ∈ rest, qzOk hp.1 w := fun w hw => C.2.1 w (List.mem_append_right _ hw)
    have hsum := qzOk.sum (ad := ad) hrest
    have hst : (as.reverse ++ rest).map (qzR ad) = (as.map (qzR ad)).reverse ++ rest.map (qzR ad) := by rw [List.map_append, List.map_reverse]
    have hS0 : CallFix p m c (qzMd mi).2.1 (qzMd mi).2.2.1 s args qzWs (qzRs (qzMd mi).2.2.2.2.2.2) := ⟨hx, hb, hml, hown', hts⟩
    have hp0 : PreS s H (va_Pc (as.map (qzR ad)) (qzPre G D z0 S ad hp)) (as.map (qzR ad)) := ⟨qzBlind, fun U hU hW => ⟨rfl, qzPre.of F C hU hW⟩⟩
    have hroom : (qzRm d (hp1.1 - hp.1) (qzSl hp1.1 - qzSl hp.1)).frames + 1 ≤ R.frames ∧ 8 + ((qzMd mj).2.2.1 + 11) + (qzRm d (hp1.1 - hp.1) (qzSl hp1.1 - qzSl hp.1)).locals ≤ R.locals := ⟨by show d + 12 + 1 ≤ _; omega, by show 8 + ((qzMd mj).2.2.1 + 11) + (400 + 100 * d) ≤ _; omega⟩
    have hrun : va_Run p l e R s m args below meth c H locs (hp.1 - n0) (qzSl hp.1 - qzSl n0) (hp1.1 - hp.1) (qzSl hp1.1 - qzSl hp.1) (F0 m pc lsS ((as.reverse ++ rest).map (qzR ad))) (rest.map (qzR ad)) (qzPost G D z0 S ad hp.1 v hp1 (as.map (qzR ad)).toArray) (qzA0 z0) := by
      rcases hpc with ⟨-, hlk2⟩ | ⟨-, host, hlk2⟩
      · exact va_runS hS0 hM ⟨callB_of (qzMd mj).2.2.2.2.2.1 hts (qzGood pm2) rfl rfl rfl (hts _ pm3) (hts _ hlk2) pm4 hroom, hts _ (pmS hkd)⟩ hp0 rfl (by rw [List.length_map]; exact hlen) C.1.size hst (by show 2 * 0 + _ ≤ 8; rw [hsum]; omega) hd ⟨r3, r4⟩
      · have hnw : va_Nw (.methodLinkNest (qzRs (qzMd mi).2.2.2.2.2.2) idx (qzMd mj).1 host) s := hNw.1 ((qzMd mi).2.2.2.2.2.2, idx, (qzMd mj).1, host) hlk2
        have hst2 : (Cond.static (qzMd mj).1).before args s = true := hts _ (pmS hkd)
        have hcn : va_CN R s args (qzRs (qzMd mi).2.2.2.2.2.2) idx (qzMd mj).1 host (qzMd mj).2.1 (qzMd mj).2.2.1 (qzMd mj).2.2.2.1 (Cond.code (qzMd mj).1 (qzMd mj).2.1 (qzMd mj).2.2.1 (qzMd mj).2.2.2.1 :: qzWs) (qzRm d (hp1.1 - hp.1) (qzSl hp1.1 - qzSl hp.1)) (hp1.1 - hp.1) (qzSl hp1.1 - qzSl hp.1) (qzMd mj).2.2.2.2.2.1 := va_cnB (qzMd mj).2.2.2.2.2.1 hts (qzGood pm2) rfl rfl rfl hnw (hts _ pm3) pm4 hroom
        exact va_runSN (host := host) hS0 hM ⟨hcn, hst2, trivial⟩ hp0 rfl (by rw [List.length_map]; exact hlen) C.1.size hst (by show 2 * 0 + _ ≤ 8; rw [hsum]; omega) hd ⟨r3, r4⟩
    exact qz_run hrun hS (fun ad' H1 locs1 hE hS1 => qz_after C r5 r6 hrest hE hS1 rfl rfl kk)
  · exact (q rfl).elim
theorem qz_callV {idx mj d : Nat} {as rest : List Value} {v : Option Value} {hp1 : qzH} (F : qzFx p G D z0 S s m args meth c mi) (C : qzCx G D z0 S s mi ad lsS H locs ls st hp) (hd : decode (qzMd mi).2.1 pc = .ok (.invokevirtual idx, len)) (h : qzCall 1 (qzMd mi).2.2.2.2.2.2 idx len st hp = (some (.inr (.inl (mj, as, rest))) : Option qzA)) (hM : qzMet l G D z0 S ad d mj as hp v hp1) (hR : qzRc R d n0 hp.1 hp1.1)
    (kk : qzKK p l e R s m args below meth c Q G D z0 S mi n0 hp.1 ad (pc + 3) ls (v.toList ++ rest) hp1) : qzG p l e R s m args below meth c Q n0 pc ad lsS H locs st hp.1 := by
  obtain ⟨hx, hb, hml, hr, hown, hts, hlk, hnm, hK, hNw, hSt, hz, hmi⟩ := id F
  obtain ⟨c1, c2, c3, c4, c5, hP, hD, hS⟩ := id C
  have hown' : s.vm.findClass (qzRs (qzMd mi).2.2.2.2.2.2) = some m.cls := by rw [← (qzPm_at hmi).2.2.2.2.1.2.2]; exact hown
  obtain ⟨rfl, h8, hmj, hkd, ⟨nest, hin, hnest⟩, hcase⟩ := qzCall_inv h
  obtain ⟨pm1, pm2, pm3, pm4, ⟨pm5, pm6, pm7⟩, pmS, pmV, pmI⟩ := qzPm_at hmj
  obtain ⟨-, hpc⟩ := qzCs _ hin
  dsimp only at hpc
  have hnf := hnest rfl
  obtain ⟨r1, r2, r3, r4, r5, r6⟩ := hR
  rcases hcase with ⟨q, -⟩ | ⟨-, b, as1, rfl, hab, hlen, rfl⟩
  · cases q
  · have hrest : ∀ w ∈ rest, qzOk hp.1 w := fun w hw => C.2.1 w (List.mem_append_right _ (List.mem_cons_of_mem _ hw))
    have hsum := qzOk.sum (ad := ad) hrest
    have hst : (as1.reverse ++ .ref b :: rest).map (qzR ad) = (as1.map (qzR ad)).reverse ++ .ref (ad b) :: rest.map (qzR ad) := by rw [List.map_append, List.map_reverse]; rfl
    have hS0 : CallFix p m c (qzMd mi).2.1 (qzMd mi).2.2.1 s args qzWs (qzRs (qzMd mi).2.2.2.2.2.2) := ⟨hx, hb, hml, hown', hts⟩
    obtain ⟨hb1, hb2⟩ := qzArr_ok hab
    have hoc := qzOc mj hmj (by rw [hkd]; decide)
    have hp0 : PreV s H (qzMd mj).1.cls (ad b) (va_Pc ((.ref b :: as1).map (qzR ad)) (qzPre G D z0 S ad hp)) (as1.map (qzR ad)) := ⟨qzBlind, by rw [pm7]; exact va_recv (tys := qzTys G) hK hP (qzCl_at hoc) ((qzW_get hb1).trans (by rw [qzEo hb2 hoc])), fun U hU hW => ⟨rfl, qzPre.of F C hU hW⟩⟩
    have hroom : (qzRm d (hp1.1 - hp.1) (qzSl hp1.1 - qzSl hp.1)).frames + 1 ≤ R.frames ∧ 8 + ((qzMd mj).2.2.1 + 11) + (qzRm d (hp1.1 - hp.1) (qzSl hp1.1 - qzSl hp.1)).locals ≤ R.locals := ⟨by show d + 12 + 1 ≤ _; omega, by show 8 + ((qzMd mj).2.2.1 + 11) + (400 + 100 * d) ≤ _; omega⟩
    have hrun : va_Run p l e R s m args below meth c H locs (hp.1 - n0) (qzSl hp.1 - qzSl n0) (hp1.1 - hp.1) (qzSl hp1.1 - qzSl hp.1) (F0 m pc lsS ((as1.reverse ++ .ref b :: rest).map (qzR ad))) (rest.map (qzR ad)) (qzPost G D z0 S ad hp.1 v hp1 (Value.ref (ad b) :: as1.map (qzR ad)).toArray) (qzA0 z0) := by
      rcases hpc with ⟨-, hlk2⟩ | ⟨hq, -⟩
      · exact va_runV hS0 hM ⟨callB_of (qzMd mj).2.2.2.2.2.1 hts (qzGood pm2) rfl rfl rfl (hts _ pm3) (hts _ hlk2) pm4 hroom, hts _ (pmV hkd).1, hts _ (pmV hkd).2⟩ hp0 rfl (by rw [List.length_map]; exact hlen) C.1.size hst (by show 2 * 0 + _ ≤ 8; rw [hsum]; omega) hd ⟨r3, r4⟩
      · rw [hnf] at hq; cases hq
    exact qz_run hrun hS (fun ad' H1 locs1 hE hS1 => qz_after C r5 r6 hrest hE hS1 rfl rfl kk)
theorem qz_callI {idx mj d : Nat} {as rest : List Value} {v : Option Value} {hp1 : qzH} (F : qzFx p G D z0 S s m args meth c mi) (C : qzCx G D z0 S s mi ad lsS H locs ls st hp) (hd : decode (qzMd mi).2.1 pc = .ok (.invokespecial idx, len)) (h : qzCall 2 (qzMd mi).2.2.2.2.2.2 idx len st hp = (some (.inr (.inl (mj, as, rest))) : Option qzA)) (hM : qzMet l G D z0 S ad d mj as hp v hp1) (hR : qzRc R d n0 hp.1 hp1.1)
    (kk : qzKK p l e R s m args below meth c Q G D z0 S mi n0 hp.1 ad (pc + 3) ls (v.toList ++ rest) hp1) : qzG p l e R s m args below meth c Q n0 pc ad lsS H locs st hp.1 := by
  obtain ⟨hx, hb, hml, hr, hown, hts, hlk, hnm, hK, hNw, hSt, hz, hmi⟩ := id F
  obtain ⟨c1, c2, c3, c4, c5, hP, hD, hS⟩ := id C
  have hown' : s.vm.findClass (qzRs (qzMd mi).2.2.2.2.2.2) = some m.cls := by rw [← (qzPm_at hmi).2.2.2.2.1.2.2]; exact hown
  obtain ⟨rfl, h8, hmj, hkd, ⟨nest, hin, -⟩, hcase⟩ := qzCall_inv h
  obtain ⟨pm1, pm2, pm3, pm4, ⟨pm5, pm6, pm7⟩, pmS, pmV, pmI⟩ := qzPm_at hmj
  obtain ⟨-, hpc⟩ := qzCs _ hin
  dsimp only at hpc
  obtain ⟨r1, r2, r3, r4, r5, r6⟩ := hR
  obtain ⟨pi1, pi2, pi3⟩ := pmI hkd
  rcases hcase with ⟨q, -⟩ | ⟨-, b, as1, rfl, hab, hlen, rfl⟩
  · cases q
  · have hrest : ∀ w ∈ rest, qzOk hp.1 w := fun w hw => C.2.1 w (List.mem_append_right _ (List.mem_cons_of_mem _ hw))
    have hsum := qzOk.sum (ad := ad) hrest
    have hst : (as1.reverse ++ .ref b :: rest).map (qzR ad) = (as1.map (qzR ad)).reverse ++ .ref (ad b) :: rest.map (qzR ad) := by rw [List.map_append, List.map_reverse]; rfl
    have hS0 : CallFix p m c (qzMd mi).2.1 (qzMd mi).2.2.1 s args qzWs (qzRs (qzMd mi).2.2.2.2.2.2) := ⟨hx, hb, hml, hown', hts⟩
    have hp0 : PreS s H (va_Pc ((.ref b :: as1).map (qzR ad)) (qzPre G D z0 S ad hp)) (.ref (ad b) :: as1.map (qzR ad)) := ⟨qzBlind, fun U hU hW => ⟨rfl, qzPre.of F C hU hW⟩⟩
    have hroom : (qzRm d (hp1.1 - hp.1) (qzSl hp1.1 - qzSl hp.1)).frames + 1 ≤ R.frames ∧ 8 + ((qzMd mj).2.2.1 + 11) + (qzRm d (hp1.1 - hp.1) (qzSl hp1.1 - qzSl hp.1)).locals ≤ R.locals := ⟨by show d + 12 + 1 ≤ _; omega, by show 8 + ((qzMd mj).2.2.1 + 11) + (400 + 100 * d) ≤ _; omega⟩
    have hM' : Met l (qzMd mj).1 (Cond.code (qzMd mj).1 (qzMd mj).2.1 (qzMd mj).2.2.1 none :: qzWs) (qzRm d (hp1.1 - hp.1) (qzSl hp1.1 - qzSl hp.1)) (va_Pc ((.ref b :: as1).map (qzR ad)) (qzPre G D z0 S ad hp)) (qzPost G D z0 S ad hp.1 v hp1) (hp1.1 - hp.1) (qzSl hp1.1 - qzSl hp.1) (qzA0 z0) := by
      have := hM
      unfold qzMet at this
      rw [pi3] at this
      exact this
    have pm2' : Cond.code (qzMd mj).1 (qzMd mj).2.1 (qzMd mj).2.2.1 none ∈ qzWs := by rw [pi3] at pm2; exact pm2
    have hrun : va_Run p l e R s m args below meth c H locs (hp.1 - n0) (qzSl hp.1 - qzSl n0) (hp1.1 - hp.1) (qzSl hp1.1 - qzSl hp.1) (F0 m pc lsS ((as1.reverse ++ .ref b :: rest).map (qzR ad))) (rest.map (qzR ad)) (qzPost G D z0 S ad hp.1 v hp1 (Value.ref (ad b) :: as1.map (qzR ad)).toArray) (qzA0 z0) := by
      rcases hpc with ⟨-, hlk2⟩ | ⟨-, host, hlk2⟩
      · exact va_runI hS0 hM' ⟨callB_of (qzMd mj).2.2.2.2.2.1 hts (qzGood pm2') rfl rfl rfl (hts _ pm3) (hts _ hlk2) pm4 hroom, pi1, hts _ pi2⟩ hp0 rfl (by rw [List.length_map]; exact hlen) C.1.size hst (by show 2 * 0 + _ ≤ 8; rw [hsum]; omega) hd ⟨r3, r4⟩
      · have hnw : va_Nw (.methodLinkNest (qzRs (qzMd mi).2.2.2.2.2.2) idx (qzMd mj).1 host) s := hNw.1 ((qzMd mi).2.2.2.2.2.2, idx, (qzMd mj).1, host) hlk2
        have hst2 : (Cond.instanceMethod (qzMd mj).1).before args s = true := hts _ pi2
        have hcn : va_CN R s args (qzRs (qzMd mi).2.2.2.2.2.2) idx (qzMd mj).1 host (qzMd mj).2.1 (qzMd mj).2.2.1 none (Cond.code (qzMd mj).1 (qzMd mj).2.1 (qzMd mj).2.2.1 none :: qzWs) (qzRm d (hp1.1 - hp.1) (qzSl hp1.1 - qzSl hp.1)) (hp1.1 - hp.1) (qzSl hp1.1 - qzSl hp.1) (qzMd mj).2.2.2.2.2.1 := va_cnB (qzMd mj).2.2.2.2.2.1 hts (qzGood pm2') rfl rfl rfl hnw (hts _ pm3) pm4 hroom
        exact va_runIN (host := host) hS0 hM' ⟨hcn, pi1, hst2⟩ hp0 rfl (by rw [List.length_map]; exact hlen) C.1.size hst (by show 2 * 0 + _ ≤ 8; rw [hsum]; omega) hd ⟨r3, r4⟩
    exact qz_run hrun hS (fun ad' H1 locs1 hE hS1 => qz_after C r5 r6 hrest hE hS1 rfl rfl kk)
/-- the texts -/
theorem qz_virt {idx : Nat} (hTx : qzTx l) (F : qzFx p G D z0 S s m args meth c mi) (C : qzCx G D z0 S s mi ad lsS H locs ls st hp) (hd : decode (qzMd mi).2.1 pc = .ok (.invokevirtual idx, len)) (h : qzVirt (qzMd mi).2.2.2.2.2.2 idx len pc ls st hp = (some (.inl (pc', ls', st', hp')) : Option qzA)) (hR : qzRo R n0 hp.1 hp'.1)
    (kk : qzKK p l e R s m args below meth c Q G D z0 S mi n0 hp.1 ad pc' ls' st' hp') : qzG p l e R s m args below meth c Q n0 pc ad lsS H locs st hp.1 := by
  obtain ⟨hx, hb, hml, hr, hown, hts, hlk, hnm, hK, hNw, hSt, hz, hmi⟩ := id F
  obtain ⟨c1, c2, c3, c4, c5, hP, hD, hS⟩ := id C
  have hown' : s.vm.findClass (qzRs (qzMd mi).2.2.2.2.2.2) = some m.cls := by rw [← (qzPm_at hmi).2.2.2.2.1.2.2]; exact hown
  have hbl : ∀ av, FrameBlind (va_Pc av (qzTp z0 S)) := fun av a U g mk q => ⟨q.1, qzSt.same (s := U) (U := U.calling g mk a) rfl q.2.1, q.2.2⟩
  have hpre : ∀ U : State, U.heap = H → s.WarmedH U.vm → qzTp z0 S U := fun U hU hW => ⟨hSt.now hz hS hU hW, by rw [hU]; exact Nat.le_trans hz hS.1⟩
  have hcell : ∃ cell : Cell, H[S 3]? = some cell ∧ cell.vm.isStatics = false ∧ s.vm.findClass RJ0 = some cell.cls := by
    obtain ⟨adV, hv⟩ := (hSt.kept hz hS.2.1).2.2.2.2.2.1
    obtain ⟨cell, q1, q2, q3, -⟩ := (hv.1 0 (by decide)).1
    exact ⟨cell, q1, q2, q3⟩
  have ea : ad 1003 = S 3 := c4 3
  obtain ⟨r0, r1, r2, r3, r4⟩ := hR
  have hroom : ∀ mx : Nat, mx ≤ 2 → qzRt.frames + 1 ≤ R.frames ∧ 8 + (mx + 11) + qzRt.locals ≤ R.locals := fun mx hm => ⟨by show 8 + 1 ≤ _; omega, by show 8 + (mx + 11) + 300 ≤ _; omega⟩
  unfold qzVirt at h
  split at h
  · rename_i hc
    obtain ⟨h1, rfl⟩ := hc
    rw [h1] at hown'
    split at h
    · rename_i hw
      subst hw
      split at h
      · rename_i a st1
        split at h
        · rename_i h8
          obtain ⟨rfl, h8⟩ := h8
          obtain ⟨rfl, rfl, rfl, rfl⟩ := qzGo_inj h
          have ho := (List.forall_mem_cons.mp C.2.1).2
          have hsum := qzOk.sum (ad := ad) ho
          show W p l e R s m args below meth c H locs (hp'.1 - n0) (qzSl hp'.1 - qzSl n0) Q (F0 m pc lsS (.ref (ad 1003) :: st1.map (qzR ad)))
          rw [ea]
          refine va_calli (rest := st1.map (qzR ad)) (mc := 0) (ms := 0) (va_runV (As := []) (C := RJ0) ⟨hx, hb, hml, hown', hts⟩ (hTx z0 S).1 ⟨callB_of 0 hts (qzGood qzs_slc) rfl rfl rfl (hts _ qzs_str) (hts _ qzs_sl) (by decide +kernel) (hroom 1 (by omega)), hts _ qzs_sli, hts _ qzs_sls⟩ ⟨hbl _, hcell, fun U hU hW => ⟨rfl, hpre U hU hW⟩⟩ rfl rfl C.1.size rfl (by show 2 * 0 + _ ≤ 8; rw [hsum]; omega) hd ⟨r1, r2⟩) hS (fun q _ z => z.elim) (fun q z => z.elim) (fun r u t H1 locs1 _ _ hre _ hsz hk1 hS1 => ?_)
          subst hre
          have hkp : ∀ (k : Nat) (q : Nat × va_E), (qzW G ad hp')[k]? = some q → H1[q.1]? = H[q.1]? := fun k q hq => hk1 q.1 (hP k q hq).lt (fun z => z)
          exact kk ad lsS H1 locs1 qzAg.rf (C.cells rfl (List.forall_mem_cons.mpr ⟨trivial, ho⟩) c3 (hP.kept hkp) hD hS1)
        · exact (qz_no h).elim
      · exact (qz_no h).elim
    · exact (qz_no h).elim
  · split at h
    · rename_i hc
      obtain ⟨h1, rfl⟩ := hc
      rw [h1] at hown'
      split at h
      · rename_i hw
        subst hw
        split at h
        · rename_i i a st1
          split at h
          · rename_i h8
            obtain ⟨rfl, hin, h8⟩ := h8
            obtain ⟨rfl, rfl, rfl, rfl⟩ := qzGo_inj h
            have ho := (List.forall_mem_cons.mp (List.forall_mem_cons.mp C.2.1).2).2
            have hsum := qzOk.sum (ad := ad) ho
            show W p l e R s m args below meth c H locs (hp'.1 - n0) (qzSl hp'.1 - qzSl n0) Q (F0 m pc lsS (.int i :: .ref (ad 1003) :: st1.map (qzR ad)))
            rw [ea]
            refine va_calli (rest := st1.map (qzR ad)) (mc := 0) (ms := 0) (va_runV (As := [.int i]) (C := RJ0) ⟨hx, hb, hml, hown', hts⟩ ((hTx z0 S).2 i hin) ⟨callB_of 1 hts (qzGood qzs_scc) rfl rfl rfl (hts _ qzs_str) (hts _ qzs_sc) (by decide +kernel) (hroom 2 (by omega)), hts _ qzs_sci, hts _ qzs_scs⟩ ⟨hbl _, hcell, fun U hU hW => ⟨rfl, hpre U hU hW⟩⟩ rfl rfl C.1.size rfl (by show 2 * 0 + _ ≤ 8; rw [hsum]; omega) hd ⟨r1, r2⟩) hS (fun q _ z => z.elim) (fun q z => z.elim) (fun r u t H1 locs1 _ _ hre _ hsz hk1 hS1 => ?_)
            subst hre
            have hkp : ∀ (k : Nat) (q : Nat × va_E), (qzW G ad hp')[k]? = some q → H1[q.1]? = H[q.1]? := fun k q hq => hk1 q.1 (hP k q hq).lt (fun z => z)
            exact kk ad lsS H1 locs1 qzAg.rf (C.cells rfl (List.forall_mem_cons.mpr ⟨trivial, ho⟩) c3 (hP.kept hkp) hD hS1)
          · exact (qz_no h).elim
        · exact (qz_no h).elim
      · exact (qz_no h).elim
    · unfold qzCall at h
      repeat' split at h
      all_goals cases h
end QZ5
