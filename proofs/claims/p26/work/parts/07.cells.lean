/-! the steps that read and write cells -/
theorem qzArr_ok {kd a n : Nat} (h : qzArr kd a n = true) : a < n ∧ (qzk a).1 = kd := by simpa [qzArr] using h
theorem qzIn_ok {i : Int32} {n : Nat} (h : qzIn i n = true) : vp_in i n := by
  unfold qzIn at h
  intro q
  rcases q with q | q
  · simp [q] at h
  · simp [q] at h
theorem qzE4 {G : qzGT} {ad : Nat → Nat} {hp : qzH} {a : Nat} (h : (qzk a).1 = 4) : qzE G ad hp a = .inl (G.1, (qzk a).2, .inl (hp.2.2 a)) := by unfold qzE; rw [if_pos h]
theorem qzE5 {G : qzGT} {ad : Nat → Nat} {hp : qzH} {a : Nat} (h : (qzk a).1 = 5) : qzE G ad hp a = .inl (G.2.1, (qzk a).2, .inl (hp.2.2 a)) := by unfold qzE; rw [if_neg (by omega), if_pos h]
theorem qzE6 {G : qzGT} {ad : Nat → Nat} {hp : qzH} {a : Nat} (h : (qzk a).1 = 6) : qzE G ad hp a = .inl (G.2.2, (qzk a).2, .inr (.inr (.inr (.inr (fun j => (hp.2.1 a j).map ad))))) := by unfold qzE; rw [if_neg (by omega), if_neg (by omega), if_pos h]
theorem qzEo {G : qzGT} {ad : Nat → Nat} {hp : qzH} {a ci : Nat} (h : (qzk a).1 = ci) (hc : ci < 4) : qzE G ad hp a = .inr (ci, qzFs ad ci (hp.2.1 a) (hp.2.2 a)) := by subst h; unfold qzE; rw [if_neg (by omega), if_neg (by omega), if_neg (by omega)]
theorem qzFs_len {ad : Nat → Nat} {ci : Nat} {r : Nat → Option Nat} {h : Nat → Int32} : (qzFs ad ci r h).length = qzNf ci := by simp [qzFs]
theorem qzFs_at {ad : Nat → Nat} {ci k : Nat} {r : Nat → Option Nat} {h : Nat → Int32} (hk : k < qzNf ci) : (qzFs ad ci r h)[k]? = some (if qzRef ci k then va_rf ((r k).map ad) else .int (h k)) := by simp [qzFs, hk]
theorem qzFs_seti {ad : Nat → Nat} {ci k : Nat} {r : Nat → Option Nat} {h h' : Nat → Int32} {x : Int32} (hr : qzRef ci k = false) (h1 : h' k = x) (h2 : ∀ j, j ≠ k → h' j = h j) : qzFs ad ci r h' = (qzFs ad ci r h).set k (.int x) := by
  apply List.ext_getElem?
  intro j
  by_cases e : j = k
  · subst e
    by_cases hj : j < qzNf ci
    · rw [List.getElem?_set_self (by rw [qzFs_len]; exact hj), qzFs_at hj, hr, h1]; rfl
    · rw [List.getElem?_eq_none (by rw [qzFs_len]; omega), List.getElem?_eq_none (by rw [List.length_set, qzFs_len]; omega)]
  · rw [List.getElem?_set_ne (Ne.symm e)]
    by_cases hj : j < qzNf ci
    · rw [qzFs_at hj, qzFs_at hj, h2 j e]
    · rw [List.getElem?_eq_none (by rw [qzFs_len]; omega), List.getElem?_eq_none (by rw [qzFs_len]; omega)]
theorem qzFs_setr {ad : Nat → Nat} {ci k b : Nat} {r r' : Nat → Option Nat} {h : Nat → Int32} (hr : qzRef ci k = true) (h1 : r' k = some b) (h2 : ∀ j, j ≠ k → r' j = r j) : qzFs ad ci r' h = (qzFs ad ci r h).set k (.ref (ad b)) := by
  apply List.ext_getElem?
  intro j
  by_cases e : j = k
  · subst e
    by_cases hj : j < qzNf ci
    · rw [List.getElem?_set_self (by rw [qzFs_len]; exact hj), qzFs_at hj, hr, h1]; rfl
    · rw [List.getElem?_eq_none (by rw [qzFs_len]; omega), List.getElem?_eq_none (by rw [List.length_set, qzFs_len]; omega)]
  · rw [List.getElem?_set_ne (Ne.symm e)]
    by_cases hj : j < qzNf ci
    · rw [qzFs_at hj, qzFs_at hj, h2 j e]
    · rw [List.getElem?_eq_none (by rw [qzFs_len]; omega), List.getElem?_eq_none (by rw [qzFs_len]; omega)]
theorem qzUp_ne {α : Type} {f : Nat → Nat → α} {i k a : Nat} {v : α} (h : a ≠ i) : qzUp f i k v a = f a := by
  funext b
  simp [qzUp, h]
theorem qzUp_at {f : Nat → Nat → Int32} {i k : Nat} {v : Int32} : qzUp f i k v i = upd (f i) k v := by
  funext b
  simp [qzUp, upd]
theorem qzUr_ne {α : Type} {f : Nat → Nat → α} {i a : Nat} {g : Nat → α} (h : a ≠ i) : qzUr f i g a = f a := by
  funext b
  simp [qzUr, h]
theorem qzUr_at {α : Type} {f : Nat → Nat → α} {i : Nat} {g : Nat → α} : qzUr f i g i = g := by
  funext b
  simp [qzUr]
theorem qzE_num {G : qzGT} {ad : Nat → Nat} {n : Nat} {r : Nat → Nat → Option Nat} {h h' : Nat → Nat → Int32} {j : Nat} (e : h' j = h j) : qzE G ad (n, r, h') j = qzE G ad (n, r, h) j := by
  unfold qzE
  simp only [e]
theorem qzE_ref {G : qzGT} {ad : Nat → Nat} {n : Nat} {r r' : Nat → Nat → Option Nat} {h : Nat → Nat → Int32} {j : Nat} (e : r' j = r j) : qzE G ad (n, r', h) j = qzE G ad (n, r, h) j := by
  unfold qzE
  simp only [e]
theorem qzOwn {ci k : Nat} (hc : ci < 4) (hk : k < qzNf ci) : (qzTs ci k).1 = qzRs ci := by
  have : ∀ ci, ci < 4 → ∀ k, k < qzNf ci → (qzTs ci k).1 = qzRs ci := by decide +kernel
  exact this ci hc k hk
theorem qzNar {ci k a : Nat} (hc : ci < 4) (hk : k < qzNf ci) (hr : qzRef ci k = true) : narrow (qzTy ci k) (.ref a) = .ref a ∧ fits (qzTy ci k) (.ref a) = true := by
  have : ∀ ci, ci < 4 → ∀ k, k < qzNf ci → (qzTy ci k = .int ∨ qzTy ci k = .boolean ∨ qzTy ci k = .array .int ∨ qzTy ci k = .array .char ∨ qzTy ci k = .array (.object "BoltTailors$Game") ∨ qzTy ci k = .object "BoltTailors$Game" ∨ qzTy ci k = .object "BoltTailors$Leads") := by decide +kernel
  rcases this ci hc k hk with h | h | h | h | h | h | h <;> first | (exfalso; unfold qzRef at hr; rw [h] at hr; cases hr; done) | (rw [h]; exact ⟨rfl, rfl⟩)
section QZ2
variable {p : Program} {l : Launch} {e : Env} {R : Room} {s : State} {m : MethodId} {args : Array Value} {below : List Frame} {meth : Method} {c : Code} {Q : State → Prop} {G : qzGT} {D : va_G} {z0 : Nat} {S : Nat → Nat} {mi pc n0 : Nat} {ad : Nat → Nat} {lsS : Array Slot} {H : Heap} {locs : List Loc} {ls st ls' st' : List Value} {hp hp' : qzH} {pc' len : Nat}
theorem qzAd {ad S : Nat → Nat} (h : ∀ i, ad (1000 + i) = S i) {a : Nat} (ha : 1000 ≤ a) : ad a = S (a - 1000) := by
  have := h (a - 1000)
  rwa [show 1000 + (a - 1000) = a by omega] at this
theorem qz_iaload (F : qzFx p G D z0 S s m args meth c mi) (C : qzCx G D z0 S s mi ad lsS H locs ls st hp) (hd : decode (qzMd mi).2.1 pc = .ok (.iaload, len)) (h : qzIald len pc ls st hp = (some (.inl (pc', ls', st', hp')) : Option qzA))
    (kk : qzKK p l e R s m args below meth c Q G D z0 S mi n0 hp.1 ad pc' ls' st' hp') : qzG p l e R s m args below meth c Q n0 pc ad lsS H locs st hp.1 := by
  obtain ⟨hx, hb, hml, hr, hown, hts, hlk, hnm, hK, hNw, hSt, hz, hmi⟩ := id F
  obtain ⟨c1, c2, c3, c4, c5, hP, hD, hS⟩ := id C
  unfold qzIald at h
  split at h
  · rename_i hw
    subst hw
    split at h
    · rename_i i a st1
      have ho := (List.forall_mem_cons.mp (List.forall_mem_cons.mp C.2.1).2).2
      split at h
      · rename_i ha
        obtain ⟨ha1, ha2⟩ := qzArr_ok ha
        split at h
        · rename_i hi
          obtain ⟨rfl, rfl, rfl, rfl⟩ := qzGo_inj h
          exact va_iald (tys := qzTys G) hx hb hK hP a 0 ((qzW_get ha1).trans (by rw [qzE4 ha2])) rfl (qzIn_ok hi) hd (kk.same C (List.forall_mem_cons.mpr ⟨trivial, ho⟩))
        · exact (qz_no h).elim
      · split at h
        · rename_i ha
          split at h
          · rename_i hi
            obtain ⟨rfl, rfl, rfl, rfl⟩ := qzGo_inj h
            have hq1 : (1000 : Nat) ≤ a := ha.1
            have hq2 : (a : Nat) < 1003 := ha.2
            obtain ⟨hX, hlt⟩ := hSt.2.2.2.1 (a - 1000) (Nat.sub_lt_left_of_lt_add hq1 hq2)
            have ea := qzAd c4 ha.1
            show W p l e R s m args below meth c H locs (hp'.1 - n0) (qzSl hp'.1 - qzSl n0) Q (F0 m pc lsS (.int i :: .ref (ad a) :: st1.map (qzR ad)))
            rw [ea]
            exact va_sld hx hb hX (Nat.lt_of_lt_of_le hlt hz) (fun q => Nat.lt_irrefl _ (Nat.lt_of_lt_of_le hlt q)) hS (qzIn_ok hi) hd (kk.same C (List.forall_mem_cons.mpr ⟨trivial, ho⟩))
          · exact (qz_no h).elim
        · exact (qz_no h).elim
    · exact (qz_no h).elim
  · exact (qz_no h).elim
theorem qz_caload (F : qzFx p G D z0 S s m args meth c mi) (C : qzCx G D z0 S s mi ad lsS H locs ls st hp) (hd : decode (qzMd mi).2.1 pc = .ok (.caload, len)) (h : qzCald len pc ls st hp = (some (.inl (pc', ls', st', hp')) : Option qzA))
    (kk : qzKK p l e R s m args below meth c Q G D z0 S mi n0 hp.1 ad pc' ls' st' hp') : qzG p l e R s m args below meth c Q n0 pc ad lsS H locs st hp.1 := by
  obtain ⟨hx, hb, hml, hr, hown, hts, hlk, hnm, hK, hNw, hSt, hz, hmi⟩ := id F
  obtain ⟨c1, c2, c3, c4, c5, hP, hD, hS⟩ := id C
  unfold qzCald at h
  split at h
  · rename_i hw
    subst hw
    split at h
    · rename_i i a st1
      have ho := (List.forall_mem_cons.mp (List.forall_mem_cons.mp C.2.1).2).2
      split at h
      · rename_i ha
        obtain ⟨ha1, ha2⟩ := qzArr_ok ha
        split at h
        · rename_i hi
          obtain ⟨rfl, rfl, rfl, rfl⟩ := qzGo_inj h
          exact va_cald (tys := qzTys G) hx hb hK hP a 1 ((qzW_get ha1).trans (by rw [qzE5 ha2])) rfl (qzIn_ok hi) hd (kk.same C (List.forall_mem_cons.mpr ⟨trivial, ho⟩))
        · exact (qz_no h).elim
      · exact (qz_no h).elim
    · exact (qz_no h).elim
  · exact (qz_no h).elim
theorem qz_aaload (F : qzFx p G D z0 S s m args meth c mi) (C : qzCx G D z0 S s mi ad lsS H locs ls st hp) (hd : decode (qzMd mi).2.1 pc = .ok (.aaload, len)) (h : qzAald len pc ls st hp = (some (.inl (pc', ls', st', hp')) : Option qzA))
    (kk : qzKK p l e R s m args below meth c Q G D z0 S mi n0 hp.1 ad pc' ls' st' hp') : qzG p l e R s m args below meth c Q n0 pc ad lsS H locs st hp.1 := by
  obtain ⟨hx, hb, hml, hr, hown, hts, hlk, hnm, hK, hNw, hSt, hz, hmi⟩ := id F
  obtain ⟨c1, c2, c3, c4, c5, hP, hD, hS⟩ := id C
  unfold qzAald at h
  split at h
  · rename_i hw
    subst hw
    split at h
    · rename_i i a st1
      have ho := (List.forall_mem_cons.mp (List.forall_mem_cons.mp C.2.1).2).2
      split at h
      · rename_i ha
        obtain ⟨ha1, ha2⟩ := qzArr_ok ha
        split at h
        · rename_i hi
          obtain ⟨rfl, rfl, rfl, rfl⟩ := qzGo_inj h
          refine va_aldq (tys := qzTys G) hx hb hK hP a 2 ((qzW_get ha1).trans (by rw [qzE6 ha2])) rfl (qzIn_ok hi) hd ?_
          rw [← qzR_rf]
          exact kk.same C (List.forall_mem_cons.mpr ⟨qzOk.rf (fun b hb => c3 _ _ b hb), ho⟩)
        · exact (qz_no h).elim
      · exact (qz_no h).elim
    · exact (qz_no h).elim
  · exact (qz_no h).elim
theorem qz_iastore (F : qzFx p G D z0 S s m args meth c mi) (C : qzCx G D z0 S s mi ad lsS H locs ls st hp) (hd : decode (qzMd mi).2.1 pc = .ok (.iastore, len)) (h : qzIast len pc ls st hp = (some (.inl (pc', ls', st', hp')) : Option qzA))
    (kk : qzKK p l e R s m args below meth c Q G D z0 S mi n0 hp.1 ad pc' ls' st' hp') : qzG p l e R s m args below meth c Q n0 pc ad lsS H locs st hp.1 := by
  obtain ⟨hx, hb, hml, hr, hown, hts, hlk, hnm, hK, hNw, hSt, hz, hmi⟩ := id F
  obtain ⟨c1, c2, c3, c4, c5, hP, hD, hS⟩ := id C
  unfold qzIast at h
  split at h
  · rename_i hw
    subst hw
    split at h
    · rename_i x i a st1
      have ho := (List.forall_mem_cons.mp (List.forall_mem_cons.mp (List.forall_mem_cons.mp C.2.1).2).2).2
      split at h
      · rename_i ha
        obtain ⟨ha1, ha2⟩ := qzArr_ok ha
        split at h
        · rename_i hi
          obtain ⟨rfl, rfl, rfl, rfl⟩ := qzGo_inj h
          refine va_iast (tys := qzTys G) hx hb hK hP hD hS a 0 ((qzW_get ha1).trans (by rw [qzE4 ha2])) rfl (qzIn_ok hi) hd (fun H1 locs1 hP1 hD1 hS1 => ?_)
          have eW : qzW G ad (hp.1, hp.2.1, qzUp hp.2.2 a i.toNatClampNeg x) = (qzW G ad hp).set a (ad a, .inl (G.1, (qzk a).2, .inl (upd (hp.2.2 a) i.toNatClampNeg x))) :=
            qzW_set rfl (by rw [qzE4 ha2]; exact congrArg (fun q => Sum.inl (G.1, (qzk a).2, Sum.inl q)) qzUp_at) (fun j hj => qzE_num (qzUp_ne hj))
          rw [← eW] at hP1 hD1
          exact kk ad lsS H1 locs1 qzAg.rf (C.cells rfl ho c3 hP1 hD1 hS1)
        · exact (qz_no h).elim
      · exact (qz_no h).elim
    · exact (qz_no h).elim
  · exact (qz_no h).elim
theorem qz_castore (F : qzFx p G D z0 S s m args meth c mi) (C : qzCx G D z0 S s mi ad lsS H locs ls st hp) (hd : decode (qzMd mi).2.1 pc = .ok (.castore, len)) (h : qzCast len pc ls st hp = (some (.inl (pc', ls', st', hp')) : Option qzA))
    (kk : qzKK p l e R s m args below meth c Q G D z0 S mi n0 hp.1 ad pc' ls' st' hp') : qzG p l e R s m args below meth c Q n0 pc ad lsS H locs st hp.1 := by
  obtain ⟨hx, hb, hml, hr, hown, hts, hlk, hnm, hK, hNw, hSt, hz, hmi⟩ := id F
  obtain ⟨c1, c2, c3, c4, c5, hP, hD, hS⟩ := id C
  unfold qzCast at h
  split at h
  · rename_i hw
    subst hw
    split at h
    · rename_i x i a st1
      have ho := (List.forall_mem_cons.mp (List.forall_mem_cons.mp (List.forall_mem_cons.mp C.2.1).2).2).2
      split at h
      · rename_i ha
        obtain ⟨ha1, ha2⟩ := qzArr_ok ha
        split at h
        · rename_i hi
          obtain ⟨rfl, rfl, rfl, rfl⟩ := qzGo_inj h
          refine va_cast (tys := qzTys G) hx hb hK hP hD hS a 1 ((qzW_get ha1).trans (by rw [qzE5 ha2])) rfl (qzIn_ok hi) hd (fun H1 locs1 hP1 hD1 hS1 => ?_)
          have eW : qzW G ad (hp.1, hp.2.1, qzUp hp.2.2 a i.toNatClampNeg (vp_nar .char x)) = (qzW G ad hp).set a (ad a, .inl (G.2.1, (qzk a).2, .inl (upd (hp.2.2 a) i.toNatClampNeg (vp_nar .char x)))) :=
            qzW_set rfl (by rw [qzE5 ha2]; exact congrArg (fun q => Sum.inl (G.2.1, (qzk a).2, Sum.inl q)) qzUp_at) (fun j hj => qzE_num (qzUp_ne hj))
          rw [← eW] at hP1 hD1
          exact kk ad lsS H1 locs1 qzAg.rf (C.cells rfl ho c3 hP1 hD1 hS1)
        · exact (qz_no h).elim
      · exact (qz_no h).elim
    · exact (qz_no h).elim
  · exact (qz_no h).elim
theorem qzWf.up {hp : qzH} (hw : qzWf hp) {a k b : Nat} (hb : b < hp.1) : qzWf (hp.1, qzUp hp.2.1 a k (some b), hp.2.2) := by
  intro i j x hx
  simp only [qzUp] at hx
  split at hx
  · cases hx; exact hb
  · exact hw i j x hx
theorem qz_aastore (F : qzFx p G D z0 S s m args meth c mi) (C : qzCx G D z0 S s mi ad lsS H locs ls st hp) (hd : decode (qzMd mi).2.1 pc = .ok (.aastore, len)) (h : qzAast len pc ls st hp = (some (.inl (pc', ls', st', hp')) : Option qzA))
    (kk : qzKK p l e R s m args below meth c Q G D z0 S mi n0 hp.1 ad pc' ls' st' hp') : qzG p l e R s m args below meth c Q n0 pc ad lsS H locs st hp.1 := by
  obtain ⟨hx, hb, hml, hr, hown, hts, hlk, hnm, hK, hNw, hSt, hz, hmi⟩ := id F
  obtain ⟨c1, c2, c3, c4, c5, hP, hD, hS⟩ := id C
  unfold qzAast at h
  split at h
  · rename_i hw
    subst hw
    split at h
    · rename_i v i a st1
      have ho := (List.forall_mem_cons.mp (List.forall_mem_cons.mp (List.forall_mem_cons.mp C.2.1).2).2).2
      split at h
      · rename_i ha
        obtain ⟨ha1, ha2⟩ := qzArr_ok ha.1
        obtain ⟨hv1, hv2⟩ := qzArr_ok ha.2
        split at h
        · rename_i hi
          obtain ⟨rfl, rfl, rfl, rfl⟩ := qzGo_inj h
          refine va_astq (tys := qzTys G) (r := (RX0, TX0, 10)) hx hb hK hP hD hS a 2 v 0 ((qzW_get ha1).trans (by rw [qzE6 ha2])) rfl ((qzW_get hv1).trans (by rw [qzEo hv2 (by decide)])) rfl (qzIn_ok hi) hd (fun H1 locs1 hP1 hD1 hS1 => ?_)
          have eF : (fun j => (qzUp hp.2.1 a i.toNatClampNeg (some v) a j).map ad) = va_up (fun j => (hp.2.1 a j).map ad) i.toNatClampNeg (some (ad v)) := by
            funext j
            by_cases e : j = i.toNatClampNeg <;> simp [qzUp, va_up, e]
          have eW : qzW G ad (hp.1, qzUp hp.2.1 a i.toNatClampNeg (some v), hp.2.2) = (qzW G ad hp).set a (ad a, .inl (G.2.2, (qzk a).2, .inr (.inr (.inr (.inr (va_up (fun j => (hp.2.1 a j).map ad) i.toNatClampNeg (some (ad v)))))))) :=
            qzW_set rfl (by rw [qzE6 ha2, eF]) (fun j hj => qzE_ref (qzUp_ne hj))
          rw [← eW] at hP1 hD1
          exact kk ad lsS H1 locs1 qzAg.rf (C.cells rfl ho (c3.up hv1) hP1 hD1 hS1)
        · exact (qz_no h).elim
      · exact (qz_no h).elim
    · exact (qz_no h).elim
  · exact (qz_no h).elim
theorem qz_alen (F : qzFx p G D z0 S s m args meth c mi) (C : qzCx G D z0 S s mi ad lsS H locs ls st hp) (hd : decode (qzMd mi).2.1 pc = .ok (.arraylength, len)) (h : qzAlen len pc ls st hp = (some (.inl (pc', ls', st', hp')) : Option qzA))
    (kk : qzKK p l e R s m args below meth c Q G D z0 S mi n0 hp.1 ad pc' ls' st' hp') : qzG p l e R s m args below meth c Q n0 pc ad lsS H locs st hp.1 := by
  obtain ⟨hx, hb, hml, hr, hown, hts, hlk, hnm, hK, hNw, hSt, hz, hmi⟩ := id F
  obtain ⟨c1, c2, c3, c4, c5, hP, hD, hS⟩ := id C
  unfold qzAlen at h
  split at h
  · rename_i hw
    subst hw
    split at h
    · rename_i a st1
      have ho := (List.forall_mem_cons.mp C.2.1).2
      split at h
      · rename_i ha
        obtain ⟨rfl, rfl, rfl, rfl⟩ := qzGo_inj h
        rcases ha with ha | ha | ha
        · obtain ⟨ha1, ha2⟩ := qzArr_ok ha
          have he : (qzW G ad hp')[a]? = some (ad a, .inl (G.1, (qzk a).2, .inl (hp'.2.2 a))) := (qzW_get ha1).trans (by rw [qzE4 ha2])
          exact va_alen (tys := qzTys G) hx hb hK hP a 0 he rfl rfl hd (kk.same C (List.forall_mem_cons.mpr ⟨trivial, ho⟩))
        · obtain ⟨ha1, ha2⟩ := qzArr_ok ha
          have he : (qzW G ad hp')[a]? = some (ad a, .inl (G.2.1, (qzk a).2, .inl (hp'.2.2 a))) := (qzW_get ha1).trans (by rw [qzE5 ha2])
          exact va_alen (tys := qzTys G) hx hb hK hP a 1 he rfl rfl hd (kk.same C (List.forall_mem_cons.mpr ⟨trivial, ho⟩))
        · obtain ⟨ha1, ha2⟩ := qzArr_ok ha
          have he : (qzW G ad hp')[a]? = some (ad a, .inl (G.2.2, (qzk a).2, .inr (.inr (.inr (.inr (fun j => (hp'.2.1 a j).map ad)))))) := (qzW_get ha1).trans (by rw [qzE6 ha2])
          exact va_alen (tys := qzTys G) hx hb hK hP a 2 he rfl rfl hd (kk.same C (List.forall_mem_cons.mpr ⟨trivial, ho⟩))
      · split at h
        · rename_i ha
          obtain ⟨rfl, rfl, rfl, rfl⟩ := qzGo_inj h
          have hq1 : (1000 : Nat) ≤ a := ha.1
          have hq2 : (a : Nat) < 1003 := ha.2
          obtain ⟨hX, hlt⟩ := hSt.2.2.2.1 (a - 1000) (Nat.sub_lt_left_of_lt_add hq1 hq2)
          have ea := qzAd c4 ha.1
          show W p l e R s m args below meth c H locs (hp'.1 - n0) (qzSl hp'.1 - qzSl n0) Q (F0 m pc lsS (.ref (ad a) :: st1.map (qzR ad)))
          rw [ea]
          exact va_slen hx hb hX (Nat.lt_of_lt_of_le hlt hz) (fun q => Nat.lt_irrefl _ (Nat.lt_of_lt_of_le hlt q)) hS hd (kk.same C (List.forall_mem_cons.mpr ⟨trivial, ho⟩))
        · exact (qz_no h).elim
    · exact (qz_no h).elim
  · exact (qz_no h).elim
theorem qz_getfield {idx : Nat} (F : qzFx p G D z0 S s m args meth c mi) (C : qzCx G D z0 S s mi ad lsS H locs ls st hp) (hd : decode (qzMd mi).2.1 pc = .ok (.getfield idx, len)) (h : qzGetf (qzMd mi).2.2.2.2.2.2 idx len pc ls st hp = (some (.inl (pc', ls', st', hp')) : Option qzA))
    (kk : qzKK p l e R s m args below meth c Q G D z0 S mi n0 hp.1 ad pc' ls' st' hp') : qzG p l e R s m args below meth c Q n0 pc ad lsS H locs st hp.1 := by
  obtain ⟨hx, hb, hml, hr, hown, hts, hlk, hnm, hK, hNw, hSt, hz, hmi⟩ := id F
  obtain ⟨c1, c2, c3, c4, c5, hP, hD, hS⟩ := id C
  have hown' : s.vm.findClass (qzRs (qzMd mi).2.2.2.2.2.2) = some m.cls := by rw [← (qzPm_at hmi).2.2.2.2.1.2.2]; exact hown
  unfold qzGetf at h
  split at h
  · rename_i hw
    subst hw
    split at h
    · rename_i a st1
      have ho := (List.forall_mem_cons.mp C.2.1).2
      split at h
      · rename_i ci k hf
        obtain ⟨hc4, hkN, hw1⟩ := qzFs_ok _ (qzFind_in hf)
        dsimp only at hc4 hkN hw1
        split at h
        · rename_i ha
          obtain ⟨ha1, ha2⟩ := qzArr_ok ha.1
          have he : (qzW G ad hp)[a]? = some (ad a, .inr (ci, qzFs ad ci (hp.2.1 a) (hp.2.2 a))) := (qzW_get ha1).trans (by rw [qzEo ha2 hc4])
          split at h
          · rename_i hrf
            obtain ⟨rfl, rfl, rfl, rfl⟩ := qzGo_inj h
            refine va_get (tys := qzTys G) (own := qzRs (qzMd mi).2.2.2.2.2.2) (ref := (qzTs ci k).1) hx hb hts (qzU hc4) hown' hK hP a he (qzCl_at hc4) k hkN (hts _ hw1) (fun _ h9 => h9) ((qzFs_at hkN).trans (by rw [hrf])) hd ?_
            show W p l e R s m args below meth c H locs (hp'.1 - n0) (qzSl hp'.1 - qzSl n0) Q (F0 m (pc + 3) lsS (va_rf ((hp'.2.1 a k).map ad) :: st1.map (qzR ad)))
            rw [← qzR_rf]
            exact kk.same C (List.forall_mem_cons.mpr ⟨qzOk.rf (fun b hb => c3 _ _ b hb), ho⟩)
          · rename_i hrf
            obtain ⟨rfl, rfl, rfl, rfl⟩ := qzGo_inj h
            exact va_get (tys := qzTys G) (own := qzRs (qzMd mi).2.2.2.2.2.2) (ref := (qzTs ci k).1) hx hb hts (qzU hc4) hown' hK hP a he (qzCl_at hc4) k hkN (hts _ hw1) (fun _ h9 => h9) (v := .int (hp'.2.2 a k)) ((qzFs_at hkN).trans (by rw [if_neg hrf])) hd (kk.same C (List.forall_mem_cons.mpr ⟨trivial, ho⟩))
        · exact (qz_no h).elim
      · exact (qz_no h).elim
    · exact (qz_no h).elim
  · exact (qz_no h).elim
theorem qz_putfield {idx : Nat} (F : qzFx p G D z0 S s m args meth c mi) (C : qzCx G D z0 S s mi ad lsS H locs ls st hp) (hd : decode (qzMd mi).2.1 pc = .ok (.putfield idx, len)) (h : qzPutf mi (qzMd mi).2.2.2.2.2.2 idx len pc ls st hp = (some (.inl (pc', ls', st', hp')) : Option qzA))
    (kk : qzKK p l e R s m args below meth c Q G D z0 S mi n0 hp.1 ad pc' ls' st' hp') : qzG p l e R s m args below meth c Q n0 pc ad lsS H locs st hp.1 := by
  obtain ⟨hx, hb, hml, hr, hown, hts, hlk, hnm, hK, hNw, hSt, hz, hmi⟩ := id F
  obtain ⟨c1, c2, c3, c4, c5, hP, hD, hS⟩ := id C
  have hown' : s.vm.findClass (qzRs (qzMd mi).2.2.2.2.2.2) = some m.cls := by rw [← (qzPm_at hmi).2.2.2.2.1.2.2]; exact hown
  unfold qzPutf at h
  split at h
  · rename_i hw
    subst hw
    split at h
    · rename_i v a st1
      have ho := (List.forall_mem_cons.mp (List.forall_mem_cons.mp C.2.1).2).2
      split at h
      · rename_i ci k hf
        obtain ⟨hc4, hkN, hw1⟩ := qzFs_ok _ (qzFind_in hf)
        dsimp only at hc4 hkN hw1
        split at h
        · rename_i ha
          obtain ⟨ha1, ha2⟩ := qzArr_ok ha.1
          have he : (qzW G ad hp)[a]? = some (ad a, .inr (ci, qzFs ad ci (hp.2.1 a) (hp.2.2 a))) := (qzW_get ha1).trans (by rw [qzEo ha2 hc4])
          split at h
          · rename_i x
            split at h
            · exact (qz_no h).elim
            · rename_i hrf
              split at h
              · exact (qz_no h).elim
              · rename_i hfin
                split at h
                · rename_i hnf
                  obtain ⟨rfl, rfl, rfl, rfl⟩ := qzGo_inj h
                  refine va_put (tys := qzTys G) (own := qzRs (qzMd mi).2.2.2.2.2.2) (ref := (qzTs ci k).1) hx hb hts (qzU hc4) (qzTy ci) (qzTy_ok hc4) (qzNm_ok hc4) hown' hK hP hD hS a he (qzCl_at hc4) k hkN (hts _ hw1) (fun _ h9 => h9) (by simpa using hfin) (qzTy_ok hc4 k hkN) (v := .int x) hnf.1 hnf.2 (by rw [qzFs_len]; exact hkN) hd (fun H1 locs1 hP1 hD1 hS1 => ?_)
                  have eW : qzW G ad (hp.1, hp.2.1, qzUp hp.2.2 a k x) = (qzW G ad hp).set a (ad a, .inr (ci, (qzFs ad ci (hp.2.1 a) (hp.2.2 a)).set k (.int x))) :=
                    qzW_set rfl (by rw [qzEo ha2 hc4]; exact congrArg (fun q => Sum.inr (ci, q)) (qzFs_seti (by simpa using hrf) (by simp [qzUp]) (fun j hj => by simp [qzUp, hj]))) (fun j hj => qzE_num (qzUp_ne hj))
                  rw [← eW] at hP1 hD1
                  exact kk ad lsS H1 locs1 qzAg.rf (C.cells rfl ho c3 hP1 hD1 hS1)
                · exact (qz_no h).elim
          · rename_i b
            split at h
            · rename_i hcc
              obtain ⟨hrf, hfin, hkd, hco, hbn⟩ := hcc
              obtain ⟨rfl, rfl, rfl, rfl⟩ := qzGo_inj h
              obtain ⟨hin, -, -⟩ := (qzPm_at hmi).2.2.2.2.2.2.2 hkd
              refine va_putF (tys := qzTys G) (own := qzRs (qzMd mi).2.2.2.2.2.2) (ref := (qzTs ci k).1) hx hb hts (qzU hc4) (qzTy ci) (qzTy_ok hc4) (qzNm_ok hc4) hown' hK hP hD hS a he (qzCl_at hc4) k hkN (hts _ hw1) (fun _ h9 => h9) hfin (hnm.trans hin) (by rw [← hco]; exact qzOwn hc4 hkN) (qzTy_ok hc4 k hkN) (v := .ref (ad b)) (qzNar hc4 hkN hrf).1 (qzNar hc4 hkN hrf).2 (by rw [qzFs_len]; exact hkN) hd (fun H1 locs1 hP1 hD1 hS1 => ?_)
              have eW : qzW G ad (hp.1, qzUp hp.2.1 a k (some b), hp.2.2) = (qzW G ad hp).set a (ad a, .inr (ci, (qzFs ad ci (hp.2.1 a) (hp.2.2 a)).set k (.ref (ad b)))) :=
                qzW_set rfl (by rw [qzEo ha2 hc4]; exact congrArg (fun q => Sum.inr (ci, q)) (qzFs_setr hrf (by simp [qzUp]) (fun j hj => by simp [qzUp, hj]))) (fun j hj => qzE_ref (qzUp_ne hj))
              rw [← eW] at hP1 hD1
              exact kk ad lsS H1 locs1 qzAg.rf (C.cells rfl ho (c3.up hbn) hP1 hD1 hS1)
            · exact (qz_no h).elim
          · exact (qz_no h).elim
        · exact (qz_no h).elim
      · exact (qz_no h).elim
    · exact (qz_no h).elim
  · exact (qz_no h).elim
end QZ2
