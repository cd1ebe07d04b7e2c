/-! a call: the callee's contract, out of its run -/
def qzPre (G : qzGT) (D : va_G) (z0 : Nat) (S : Nat → Nat) (ad : Nat → Nat) (hp : qzH) (U : State) : Prop := z0 ≤ U.heap.size ∧ va_P D vwCl (qzW G ad hp) U.heap ∧ va_K D vwCl (qzTys G) U ∧ va_D (qzA0 z0) (qzW G ad hp) ∧ qzNw U ∧ qzSt z0 S U U.heap
/-- what holds of the heap behind a run -/
def qzEnd (G : qzGT) (D : va_G) (z0 : Nat) (S : Nat → Nat) (ad : Nat → Nat) (n : Nat) (v : Option Value) (hp1 : qzH) (ad' : Nat → Nat) (H : Heap) : Prop :=
  qzAg n ad ad' ∧ (∀ i, ad' (1000 + i) = S i) ∧ qzWf hp1 ∧ hp1.1 < 1000 ∧ (∀ w, v = some w → qzOk hp1.1 w) ∧ va_P D vwCl (qzW G ad' hp1) H ∧ va_D (qzA0 z0) (qzW G ad' hp1)
def qzPost (G : qzGT) (D : va_G) (z0 : Nat) (S : Nat → Nat) (ad : Nat → Nat) (n : Nat) (v : Option Value) (hp1 : qzH) : Array Value → State → Outcome → State → Prop := fun _ st oc t =>
  (∃ ad', oc = .returned (v.map (qzR ad')) ∧ qzEnd G D z0 S ad n v hp1 ad' t.heap) ∧ va_F (qzA0 z0) st t
theorem qzBlind {G : qzGT} {D : va_G} {z0 : Nat} {S : Nat → Nat} {ad : Nat → Nat} {hp : qzH} {av : List Value} : FrameBlind (va_Pc av (qzPre G D z0 S ad hp)) := by
  intro a U g mk q
  obtain ⟨q0, z, hP, hK, hD, hN, hS⟩ := q
  exact ⟨q0, z, hP, va_K.moved (u := U) (U := U.calling g mk a) (Vm.Alike.refl U.vm) hK, hD, qzNw.same (s := U) (U := U.calling g mk a) rfl hN, qzSt.same (s := U) (U := U.calling g mk a) rfl hS⟩
section QZ4
variable {p : Program} {l : Launch} {e : Env} {R : Room} {s : State} {m : MethodId} {args : Array Value} {below : List Frame} {meth : Method} {c : Code} {Q : State → Prop} {G : qzGT} {D : va_G} {z0 : Nat} {S : Nat → Nat} {mi pc n0 : Nat} {ad : Nat → Nat} {lsS : Array Slot} {H : Heap} {locs : List Loc} {ls st ls' st' : List Value} {hp hp' : qzH} {pc' len : Nat}
theorem qzPre.of {U : State} (F : qzFx p G D z0 S s m args meth c mi) (C : qzCx G D z0 S s mi ad lsS H locs ls st hp) (hU : U.heap = H) (hW : s.WarmedH U.vm) : qzPre G D z0 S ad hp U := by
  obtain ⟨hx, hb, hml, hr, hown, hts, hlk, hnm, hK, hNw, hSt, hz, hmi⟩ := id F
  obtain ⟨c1, c2, c3, c4, c5, hP, hD, hS⟩ := id C
  exact ⟨by rw [hU]; exact Nat.le_trans hz hS.1, by rw [hU]; exact hP, va_K.moved hW.alike hK, hD, hNw.warm hW, hSt.now hz hS hU hW⟩
theorem qz_run {cells slots mc ms n : Nat} {v : Option Value} {hp1 : qzH} {st0 rst : List Value} {aa : Array Value} (hr : va_Run p l e R s m args below meth c H locs cells slots mc ms (F0 m pc lsS st0) rst (qzPost G D z0 S ad n v hp1 aa) (qzA0 z0)) (hS : va_S (qzA0 z0) s.heap H locs)
    (kk : ∀ (ad' : Nat → Nat) (H1 : Heap) (locs1 : List Loc), qzEnd G D z0 S ad n v hp1 ad' H1 → va_S (qzA0 z0) s.heap H1 locs1 → W p l e R s m args below meth c H1 locs1 (cells + mc) (slots + ms) Q (F0 m (pc + 3) lsS ((v.map (qzR ad')).toList ++ rst))) : W p l e R s m args below meth c H locs cells slots Q (F0 m pc lsS st0) := by
  intro T hT X
  obtain ⟨v', st₀, t, T', L, h0, X', hL, e1, e2, ⟨⟨ad', hv, hE⟩, hz, hk⟩, st⟩ := hr T hT X
  cases hv
  rw [h0] at hz hk
  obtain ⟨t2, a1, b1⟩ := kk ad' T'.heap (locs ++ L) (by rw [e1]; exact hE) ⟨Nat.le_trans hS.1 (by rw [e1]; exact hz), fun q h1 h2 => by rw [e1, hk q (Nat.lt_of_lt_of_le h1 hS.1) h2]; exact hS.2.1 q h1 h2, fun q hq => (List.mem_append.mp hq).elim (hS.2.2 q) (hL q)⟩ T' rfl X'
  exact ⟨t2, st t2 a1, b1⟩
/-- the contract that a run gives -/
def qzMet (l : Launch) (G : qzGT) (D : va_G) (z0 : Nat) (S : Nat → Nat) (ad : Nat → Nat) (d mj : Nat) (as : List Value) (hp : qzH) (v : Option Value) (hp1 : qzH) : Prop :=
  Met l (qzMd mj).1 (Cond.code (qzMd mj).1 (qzMd mj).2.1 (qzMd mj).2.2.1 (qzMd mj).2.2.2.1 :: qzWs) (qzRm d (hp1.1 - hp.1) (qzSl hp1.1 - qzSl hp.1)) (va_Pc (as.map (qzR ad)) (qzPre G D z0 S ad hp)) (qzPost G D z0 S ad hp.1 v hp1) (hp1.1 - hp.1) (qzSl hp1.1 - qzSl hp.1) (qzA0 z0)
/-- behind a call the method goes on -/
theorem qz_after {mc ms : Nat} {v : Option Value} {hp1 : qzH} {rest : List Value} {H1 : Heap} {locs1 : List Loc} {ad' : Nat → Nat} (C : qzCx G D z0 S s mi ad lsS H locs ls st hp) (hn0 : n0 ≤ hp.1) (hn1 : hp.1 ≤ hp1.1) (hrest : ∀ w ∈ rest, qzOk hp.1 w) (hE : qzEnd G D z0 S ad hp.1 v hp1 ad' H1) (hS : va_S (qzA0 z0) s.heap H1 locs1) (h1 : mc = hp1.1 - hp.1) (h2 : ms = qzSl hp1.1 - qzSl hp.1)
    (kk : qzKK p l e R s m args below meth c Q G D z0 S mi n0 hp.1 ad (pc + 3) ls (v.toList ++ rest) hp1) : W p l e R s m args below meth c H1 locs1 (hp.1 - n0 + mc) (qzSl hp.1 - qzSl n0 + ms) Q (F0 m (pc + 3) lsS ((v.map (qzR ad')).toList ++ rest.map (qzR ad))) := by
  obtain ⟨e1, e2, e3, e4, e5, e6, e7⟩ := hE
  have g := kk ad' lsS H1 locs1 e1 ⟨C.1.ag e1 hn1, by
    intro w hw
    rcases List.mem_append.mp hw with q | q
    · cases v with
      | none => cases q
      | some x =>
        have : w = x := by simpa using q
        subst this
        exact e5 _ rfl
    · exact (hrest w q).mono hn1, e3, e2, e4, e6, e7, hS⟩
  have t1 : hp1.1 - n0 = hp.1 - n0 + mc := by omega
  have t2 : qzSl hp1.1 - qzSl n0 = qzSl hp.1 - qzSl n0 + ms := by
    have a1 := qzSl_mono hn0
    have a2 := qzSl_mono hn1
    omega
  have t3 : (v.toList ++ rest).map (qzR ad') = (v.map (qzR ad')).toList ++ rest.map (qzR ad) := by
    rw [List.map_append, qzMap_ag2 e1 hrest]
    cases v <;> rfl
  unfold qzG at g
  rw [t1, t2, t3] at g
  exact g
theorem qzCall_inv {kd oc idx mj : Nat} {as rest : List Value} (h : qzCall kd oc idx len st hp = (some (.inr (.inl (mj, as, rest))) : Option qzA)) : len = 3 ∧ rest.length ≤ 8 ∧ mj < 149 ∧ (qzMd mj).2.2.2.2.1 = kd ∧ (∃ nest, ((oc, idx), (mj, nest)) ∈ qzCl ∧ (kd = 1 → nest = false)) ∧
    ((kd = 0 ∧ as.length = (qzMd mj).2.2.2.2.2.1 ∧ st = as.reverse ++ rest) ∨ (¬ kd = 0 ∧ ∃ b as1, as = .ref b :: as1 ∧ qzArr (qzMd mj).2.2.2.2.2.2 b hp.1 = true ∧ as1.length = (qzMd mj).2.2.2.2.2.1 ∧ st = as1.reverse ++ .ref b :: rest)) := by
  unfold qzCall at h
  split at h
  · rename_i hw
    split at h
    · rename_i mj' nest hf
      split at h
      · rename_i hc
        split at h
        · rename_i hk
          split at h
          · rename_i h8
            simp only [Option.some.injEq, Sum.inr.injEq, Sum.inl.injEq, Prod.mk.injEq] at h
            obtain ⟨rfl, rfl, rfl⟩ := h
            exact ⟨hw, h8.2, hc.2.1, hc.1, ⟨nest, qzFind_in hf, fun q => by omega⟩, Or.inl ⟨hk, by rw [List.length_reverse, List.length_take]; omega, by rw [List.reverse_reverse, List.take_append_drop]⟩⟩
          · cases h
        · rename_i hk
          split at h
          · rename_i b rest' hdr
            split at h
            · rename_i h8
              simp only [Option.some.injEq, Sum.inr.injEq, Sum.inl.injEq, Prod.mk.injEq] at h
              obtain ⟨rfl, rfl, rfl⟩ := h
              refine ⟨hw, h8.2.1, hc.2.1, hc.1, ⟨nest, qzFind_in hf, hc.2.2⟩, Or.inr ⟨hk, b, _, rfl, h8.1, by rw [List.length_reverse, List.length_take]; omega, ?_⟩⟩
              rw [List.reverse_reverse, ← hdr, List.take_append_drop]
            · cases h
          · cases h
      · cases h
    · cases h
  · cases h
end QZ4
