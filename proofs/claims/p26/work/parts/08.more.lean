/-! the steps that make cells, and those of the JDK -/
theorem qzE_cong {G : qzGT} {ad : Nat → Nat} {hp hp' : qzH} {j : Nat} (e1 : hp'.2.1 j = hp.2.1 j) (e2 : hp'.2.2 j = hp.2.2 j) : qzE G ad hp' j = qzE G ad hp j := by
  unfold qzE
  simp only [e1, e2]
theorem qzSl_succ {n : Nat} (h : n < 67) : qzSl (n + 1) = qzSl n + (qzk n).2 := by
  have : ∀ n, n < 67 → qzSl (n + 1) = qzSl n + (qzk n).2 := by decide +kernel
  exact this n h
theorem qzSl_step (n : Nat) : qzSl n ≤ qzSl (n + 1) := by
  by_cases h : n < 67
  · rw [qzSl_succ h]; omega
  · have e : ∀ k, 67 ≤ k → qzSl k = qzSl 67 := by
      intro k hk
      have hl : qzK.length = 67 := by decide +kernel
      unfold qzSl
      rw [List.take_of_length_le (by omega), List.take_of_length_le (by omega)]
    rw [e n (by omega), e (n + 1) (by omega)]
    exact Nat.le_refl _
theorem qzSl_mono {a b : Nat} (h : a ≤ b) : qzSl a ≤ qzSl b := by
  obtain ⟨k, rfl⟩ := Nat.exists_eq_add_of_le h
  clear h
  induction k with
  | zero => exact Nat.le_refl _
  | succ k ih => exact Nat.le_trans ih (qzSl_step _)
theorem qzk_le {n : Nat} (h : n < 67) : (qzk n).2 ≤ 10290 := by
  have : ∀ n, n < 67 → (qzk n).2 ≤ 10290 := by decide +kernel
  exact this n h
theorem qzDef {ci j : Nat} (hc : ci < 4) (hj : j < qzNf ci) : defaultValue (qzTy ci j) = (if qzRef ci j then .null else .int 0) := by
  have : ∀ ci, ci < 4 → ∀ j, j < qzNf ci → defaultValue (qzTy ci j) = (if qzRef ci j then .null else .int 0) := by decide +kernel
  exact this ci hc j hj
/-- a new object, in the heap and in the addresses -/
def qzNu (hp : qzH) : qzH := (hp.1 + 1, qzUr hp.2.1 hp.1 (fun _ => none), qzUr hp.2.2 hp.1 (fun _ => 0))
def qzAn (ad : Nat → Nat) (n q : Nat) : Nat → Nat := fun i => if i = n then q else ad i
theorem qzAn_ag {ad : Nat → Nat} {n q : Nat} (h : n < 1000) : qzAg n ad (qzAn ad n q) := by
  intro i hi
  have : i ≠ n := by omega
  simp [qzAn, this]
theorem qzAn_at {ad : Nat → Nat} {n q : Nat} : qzAn ad n q n = q := by simp [qzAn]
theorem qzW_nu {G : qzGT} {ad : Nat → Nat} {hp : qzH} {q : Nat} {x : va_E} (hw : qzWf hp) (h : hp.1 < 1000) (hx : qzE G (qzAn ad hp.1 q) (qzNu hp) hp.1 = x) : qzW G (qzAn ad hp.1 q) (qzNu hp) = qzW G ad hp ++ [(q, x)] := by
  have := qzW_push (G := G) (ad := ad) (ad' := qzAn ad hp.1 q) (hp := hp) (hp' := qzNu hp) (x := x) rfl (fun j hj => qzAn_ag h j (Or.inl hj)) (fun j hj => by
    have e1 : (qzNu hp).2.1 j = hp.2.1 j := qzUr_ne (by omega)
    have e2 : (qzNu hp).2.2 j = hp.2.2 j := qzUr_ne (by omega)
    rw [qzE_cong e1 e2]
    exact qzE_ag (fun k a ha => hw j k a ha) (qzAn_ag h)) hx
  rw [this, qzAn_at]
theorem qzWf.nu {hp : qzH} (hw : qzWf hp) : qzWf (qzNu hp) := by
  intro i j a ha
  show a < hp.1 + 1
  by_cases h : i = hp.1
  · subst h
    have : (qzNu hp).2.1 hp.1 j = none := congrFun (qzUr_at (f := hp.2.1) (i := hp.1) (g := fun _ => none)) j
    rw [this] at ha; cases ha
  · have : (qzNu hp).2.1 i j = hp.2.1 i j := congrFun (qzUr_ne (f := hp.2.1) (g := fun _ => none) h) j
    rw [this] at ha
    exact Nat.lt_succ_of_lt (hw i j a ha)
section QZ3
variable {p : Program} {l : Launch} {e : Env} {R : Room} {s : State} {m : MethodId} {args : Array Value} {below : List Frame} {meth : Method} {c : Code} {Q : State → Prop} {G : qzGT} {D : va_G} {z0 : Nat} {S : Nat → Nat} {mi pc n0 : Nat} {ad : Nat → Nat} {lsS : Array Slot} {H : Heap} {locs : List Loc} {ls st ls' st' : List Value} {hp hp' : qzH} {pc' len : Nat}
/-- the room at a step -/
def qzRo (R : Room) (n0 n n' : Nat) : Prop := n0 ≤ n ∧ n' - n0 ≤ R.cells ∧ qzSl n' - qzSl n0 ≤ R.slots ∧ 12 ≤ R.frames ∧ 400 ≤ R.locals
theorem qzCx.nu {q : Nat} {x : va_E} {H1 : Heap} {locs1 : List Loc} (C : qzCx G D z0 S s mi ad lsS H locs ls st hp) (h : hp.1 < 67) {st1 : List Value} (hst : ∀ v ∈ st1, qzOk hp.1 v) (hx : qzE G (qzAn ad hp.1 q) (qzNu hp) hp.1 = x) (hP : va_P D vwCl (qzW G ad hp ++ [(q, x)]) H1) (hD : va_D (qzA0 z0) (qzW G ad hp ++ [(q, x)])) (hS : va_S (qzA0 z0) s.heap H1 locs1) :
    qzCx G D z0 S s mi (qzAn ad hp.1 q) lsS H1 locs1 ls (.ref hp.1 :: st1) (qzNu hp) := by
  obtain ⟨c1, c2, c3, c4, c5, hP0, hD0, hS0⟩ := C
  have hn : (qzNu hp).1 = hp.1 + 1 := rfl
  rw [← qzW_nu c3 c5 hx] at hP hD
  refine ⟨?_, ?_, c3.nu, fun i => ?_, ?_, hP, hD, hS⟩
  · rw [hn]; exact c1.ag (qzAn_ag c5) (Nat.le_succ _)
  · rw [hn]
    exact List.forall_mem_cons.mpr ⟨Or.inl (Nat.lt_succ_self _), fun v hv => (hst v hv).mono (Nat.le_succ _)⟩
  · rw [qzAn_ag c5 (1000 + i) (Or.inr (by omega))]; exact c4 i
  · rw [hn]; omega
theorem qzMap_ag2 {n : Nat} {ad ad' : Nat → Nat} (h : qzAg n ad ad') {st : List Value} (ho : ∀ v ∈ st, qzOk n v) : st.map (qzR ad') = st.map (qzR ad) :=
  List.map_congr_left (fun v hv => qzR_ag h (ho v hv))
theorem qzNewGoal {q : Nat} {x : va_E} {w : Nat} {H1 : Heap} {locs1 : List Loc} {st1 : List Value} (C : qzCx G D z0 S s mi ad lsS H locs ls st hp) (h : hp.1 < 67) (hst : ∀ v ∈ st1, qzOk hp.1 v) (hn0 : n0 ≤ hp.1) (hx : qzE G (qzAn ad hp.1 q) (qzNu hp) hp.1 = x) (hP : va_P D vwCl (qzW G ad hp ++ [(q, x)]) H1) (hD : va_D (qzA0 z0) (qzW G ad hp ++ [(q, x)])) (hS : va_S (qzA0 z0) s.heap H1 locs1)
    (kk : qzKK p l e R s m args below meth c Q G D z0 S mi n0 hp.1 ad (pc + w) ls (.ref hp.1 :: st1) (qzNu hp)) : W p l e R s m args below meth c H1 locs1 (hp.1 - n0 + 1) (qzSl hp.1 - qzSl n0 + (qzk hp.1).2) Q (F0 m (pc + w) lsS (.ref q :: st1.map (qzR ad))) := by
  have g := kk _ lsS H1 locs1 (qzAn_ag C.2.2.2.2.1) (C.nu h hst hx hP hD hS)
  have e1 : (qzNu hp).1 - n0 = hp.1 - n0 + 1 := by show hp.1 + 1 - n0 = _; omega
  have e2 : qzSl (qzNu hp).1 - qzSl n0 = qzSl hp.1 - qzSl n0 + (qzk hp.1).2 := by
    show qzSl (hp.1 + 1) - qzSl n0 = _
    have := qzSl_mono hn0
    rw [qzSl_succ h]; omega
  have e3 : (Value.ref hp.1 :: st1).map (qzR (qzAn ad hp.1 q)) = .ref q :: st1.map (qzR ad) := by
    rw [List.map_cons, qzMap_ag2 (qzAn_ag C.2.2.2.2.1) hst]
    show Value.ref (qzAn ad hp.1 q hp.1) :: _ = _
    rw [qzAn_at]
  unfold qzG at g
  rw [e1, e2, e3] at g
  exact g
theorem qz_getstatic {idx : Nat} (F : qzFx p G D z0 S s m args meth c mi) (C : qzCx G D z0 S s mi ad lsS H locs ls st hp) (hd : decode (qzMd mi).2.1 pc = .ok (.getstatic idx, len)) (h : qzGets (qzMd mi).2.2.2.2.2.2 idx len pc ls st hp = (some (.inl (pc', ls', st', hp')) : Option qzA))
    (kk : qzKK p l e R s m args below meth c Q G D z0 S mi n0 hp.1 ad pc' ls' st' hp') : qzG p l e R s m args below meth c Q n0 pc ad lsS H locs st hp.1 := by
  obtain ⟨hx, hb, hml, hr, hown, hts, hlk, hnm, hK, hNw, hSt, hz, hmi⟩ := id F
  obtain ⟨c1, c2, c3, c4, c5, hP, hD, hS⟩ := id C
  have hown' : s.vm.findClass (qzRs (qzMd mi).2.2.2.2.2.2) = some m.cls := by rw [← (qzPm_at hmi).2.2.2.2.1.2.2]; exact hown
  have ho : ∀ i, ∀ v ∈ (Value.ref (1000 + i) :: st), qzOk hp.1 v := fun i => List.forall_mem_cons.mpr ⟨Or.inr (Nat.le_add_right 1000 i), C.2.1⟩
  unfold qzGets at h
  split at h
  · rename_i hw
    subst hw
    split at h
    · rename_i hc
      obtain ⟨rfl, rfl, rfl, rfl⟩ := qzGo_inj h
      obtain ⟨h1, rfl⟩ := hc
      rw [h1] at hown'
      have g := kk.same C (ho 0)
      unfold qzG at g
      rw [List.map_cons, show qzR ad (.ref (1000 + 0)) = .ref (S 0) from congrArg Value.ref (c4 0)] at g
      exact va_gets (own := RX2) (ref := "BoltTailors") hx hb hSt.1 hS hown' (hts _ qzs_low) (fun _ h9 => h9) hd g
    · split at h
      · rename_i hc
        obtain ⟨rfl, rfl, rfl, rfl⟩ := qzGo_inj h
        obtain ⟨h1, rfl⟩ := hc
        rw [h1] at hown'
        have g := kk.same C (ho 1)
        unfold qzG at g
        rw [List.map_cons, show qzR ad (.ref (1000 + 1)) = .ref (S 1) from congrArg Value.ref (c4 1)] at g
        exact va_gets (own := RX2) (ref := "BoltTailors") hx hb hSt.2.1 hS hown' (hts _ qzs_high) (fun _ h9 => h9) hd g
      · split at h
        · rename_i hc
          obtain ⟨rfl, rfl, rfl, rfl⟩ := qzGo_inj h
          obtain ⟨h1, rfl⟩ := hc
          rw [h1] at hown'
          have g := kk.same C (ho 2)
          unfold qzG at g
          rw [List.map_cons, show qzR ad (.ref (1000 + 2)) = .ref (S 2) from congrArg Value.ref (c4 2)] at g
          exact va_getsN (own := RX0) (ref := "BoltTailors") hx hb hSt.2.2.1 hS hown' (va_Nw.use rfl hNw.2.1) (fun _ h9 => h9) hd g
        · exact (qz_no h).elim
  · exact (qz_no h).elim
theorem qz_ldc {idx : Nat} (F : qzFx p G D z0 S s m args meth c mi) (C : qzCx G D z0 S s mi ad lsS H locs ls st hp) (hd : decode (qzMd mi).2.1 pc = .ok (.ldc idx, len)) (h : qzLdc (qzMd mi).2.2.2.2.2.2 idx len pc ls st hp = (some (.inl (pc', ls', st', hp')) : Option qzA))
    (kk : qzKK p l e R s m args below meth c Q G D z0 S mi n0 hp.1 ad pc' ls' st' hp') : qzG p l e R s m args below meth c Q n0 pc ad lsS H locs st hp.1 := by
  obtain ⟨hx, hb, hml, hr, hown, hts, hlk, hnm, hK, hNw, hSt, hz, hmi⟩ := id F
  obtain ⟨c1, c2, c3, c4, c5, hP, hD, hS⟩ := id C
  have hown' : s.vm.findClass (qzRs (qzMd mi).2.2.2.2.2.2) = some m.cls := by rw [← (qzPm_at hmi).2.2.2.2.1.2.2]; exact hown
  unfold qzLdc at h
  split at h
  · rename_i hw
    subst hw
    split at h
    · rename_i hc
      obtain ⟨rfl, rfl, rfl, rfl⟩ := qzGo_inj h
      rcases hc with ⟨h1, rfl⟩ | ⟨h1, rfl⟩
      · rw [h1] at hown'
        exact lv_ldc (own := RX1) hx hb hown' (hts _ qzs_c1) hd (kk.same C (List.forall_mem_cons.mpr ⟨trivial, C.2.1⟩))
      · rw [h1] at hown'
        exact lv_ldc (own := RX2) hx hb hown' (hts _ qzs_c2) hd (kk.same C (List.forall_mem_cons.mpr ⟨trivial, C.2.1⟩))
    · split at h
      · rename_i hc
        obtain ⟨rfl, rfl, rfl, rfl⟩ := qzGo_inj h
        obtain ⟨h1, rfl⟩ := hc
        rw [h1] at hown'
        have g := kk.same C (st' := .ref (1000 + 3) :: st) (List.forall_mem_cons.mpr ⟨Or.inr (Nat.le_add_right 1000 3), C.2.1⟩)
        unfold qzG at g
        rw [List.map_cons, show qzR ad (.ref (1000 + 3)) = .ref (S 3) from congrArg Value.ref (c4 3)] at g
        exact va_ldcS (own := RX0) hx hb hown' hSt.2.2.2.2.1 hd g
      · exact (qz_no h).elim
  · exact (qz_no h).elim
theorem qz_new {idx : Nat} (F : qzFx p G D z0 S s m args meth c mi) (C : qzCx G D z0 S s mi ad lsS H locs ls st hp) (hd : decode (qzMd mi).2.1 pc = .ok (.new idx, len)) (h : qzNew (qzMd mi).2.2.2.2.2.2 idx len pc ls st hp = (some (.inl (pc', ls', st', hp')) : Option qzA)) (hR : qzRo R n0 hp.1 hp'.1)
    (kk : qzKK p l e R s m args below meth c Q G D z0 S mi n0 hp.1 ad pc' ls' st' hp') : qzG p l e R s m args below meth c Q n0 pc ad lsS H locs st hp.1 := by
  obtain ⟨hx, hb, hml, hr, hown, hts, hlk, hnm, hK, hNw, hSt, hz, hmi⟩ := id F
  obtain ⟨c1, c2, c3, c4, c5, hP, hD, hS⟩ := id C
  have hown' : s.vm.findClass (qzRs (qzMd mi).2.2.2.2.2.2) = some m.cls := by rw [← (qzPm_at hmi).2.2.2.2.1.2.2]; exact hown
  have hA : ∀ q, s.heap.size ≤ q → qzA0 z0 q := fun q hq => Nat.le_trans hz hq
  unfold qzNew at h
  split at h
  · rename_i hw
    subst hw
    split at h
    · rename_i ci hci
      split at h
      · rename_i hk
        obtain ⟨rfl, rfl, rfl, rfl⟩ := qzGo_inj h
        obtain ⟨hk1, hk2⟩ := hk
        obtain ⟨r0, r1, r2, -, -⟩ := hR
        have es := qzSl_succ hk2
        have em := qzSl_mono r0
        have hkk : (qzk hp.1).2 = qzNf ci := by rw [hk1]
        dsimp only at r1 r2
        have key : ∀ (hc : ci < 4) (_ : (Cond.classLink (qzRs 2) idx (qzRs ci)).before args s = true) (_ : (Cond.instantiable (qzRs ci) (qzNf ci)).before args s = true) (_ : (Cond.initialized (qzRs ci)).before args s = true) (_ : s.vm.findClass (qzRs 2) = some m.cls), qzG p l e R s m args below meth c Q n0 pc ad lsS H locs st hp.1 := by
          intro hc w1 w2 w3 w4
          refine va_new (tys := qzTys G) (own := qzRs 2) (C := qzRs ci) (T := qzTs ci) (N := qzNf ci) (ci := ci) (fs := qzFs ad ci (fun _ => none) (fun _ => 0)) hx hb hts (qzU hc) (qzTy ci) (qzTy_ok hc) w4 w1 w2 w3 hK hP hD hS hA (qzCl_at hc) ?_ (by omega) (by omega) hd (fun q H1 hP1 hD1 hS1 => ?_)
          · intro j hj
            unfold vp_V
            rw [List.getD_eq_getElem?_getD, qzFs_at hj, qzDef hc hj]
            rfl
          · rw [← hkk]
            exact qzNewGoal C hk2 C.2.1 r0 (by rw [qzEo (by rw [hk1]) hc]; exact congrArg (fun q => Sum.inr (ci, q)) (by rw [show (qzNu hp).2.1 hp.1 = fun _ => none from qzUr_at, show (qzNu hp).2.2 hp.1 = fun _ => 0 from qzUr_at]; rfl)) hP1 hD1 hS1 kk
        split at hci
        · rename_i ho
          cases hci
          obtain ⟨ho1, rfl⟩ := ho
          rw [ho1] at hown'
          exact key (by decide) (hts _ qzs_n0) (hts _ qzs_i0) (hts _ qzi_RX0) hown'
        · split at hci
          · rename_i ho
            cases hci
            obtain ⟨ho1, rfl⟩ := ho
            rw [ho1] at hown'
            exact key (by decide) (hts _ qzs_n1) (hts _ qzs_i1) (hts _ qzi_RX1) hown'
          · cases hci
      · exact (qz_no h).elim
    · exact (qz_no h).elim
  · exact (qz_no h).elim
theorem qzNewa_inv {kd w : Nat} (h : qzNewa kd len w pc ls st hp = (some (.inl (pc', ls', st', hp')) : Option qzA)) : len = w ∧ ∃ x st1, st = .int x :: st1 ∧ ¬ x < 0 ∧ qzk hp.1 = (kd, x.toNatClampNeg) ∧ hp.1 < 67 ∧ pc' = pc + w ∧ ls' = ls ∧ st' = .ref hp.1 :: st1 ∧ hp' = qzNu hp := by
  unfold qzNewa at h
  split at h
  · rename_i hw
    split at h
    · split at h
      · exact (qz_no h).elim
      · rename_i hneg
        split at h
        · rename_i hk
          exact ⟨hw, _, _, rfl, hneg, hk.1, hk.2, qzGo_inj h⟩
        · exact (qz_no h).elim
    · exact (qz_no h).elim
  · exact (qz_no h).elim
theorem qz_newarrayI (F : qzFx p G D z0 S s m args meth c mi) (C : qzCx G D z0 S s mi ad lsS H locs ls st hp) (hd : decode (qzMd mi).2.1 pc = .ok (.newarray .int, len)) (h : qzNewa 4 len 2 pc ls st hp = (some (.inl (pc', ls', st', hp')) : Option qzA)) (hR : qzRo R n0 hp.1 hp'.1)
    (kk : qzKK p l e R s m args below meth c Q G D z0 S mi n0 hp.1 ad pc' ls' st' hp') : qzG p l e R s m args below meth c Q n0 pc ad lsS H locs st hp.1 := by
  obtain ⟨hx, hb, hml, hr, hown, hts, hlk, hnm, hK, hNw, hSt, hz, hmi⟩ := id F
  obtain ⟨c1, c2, c3, c4, c5, hP, hD, hS⟩ := id C
  have hA : ∀ q, s.heap.size ≤ q → qzA0 z0 q := fun q hq => Nat.le_trans hz hq
  obtain ⟨rfl, x, st1, rfl, hneg, hk1, hk2, rfl, rfl, rfl, rfl⟩ := qzNewa_inv h
  obtain ⟨r0, r1, r2, -, -⟩ := hR
  have es := qzSl_succ hk2
  have em := qzSl_mono r0
  have hle := qzk_le hk2
  have hkk : (qzk hp.1).2 = x.toNatClampNeg := by rw [hk1]
  have ho := (List.forall_mem_cons.mp C.2.1).2
  change hp.1 + 1 - n0 ≤ R.cells at r1
  change qzSl (hp.1 + 1) - qzSl n0 ≤ R.slots at r2
  refine va_newa (atype := .int) (ty := .int) (a0 := ((qzk hp.1).2, .inl (fun _ => 0))) hx hb (hts _ qzs_aI) rfl hK hP hD hS hA (fun _ => rfl) hneg hkk.symm (by show (qzk hp.1).2 * 4 ≤ 536870912; omega) (by omega) (by omega) hd (fun q cA H1 hK1 hP1 hD1 hS1 => ?_)
  have ec : cA = G.1 := Option.some.inj (((hK1.2 3 (cA, .int) rfl).2 : s.vm.findClass _ = some cA).symm.trans ((hK.2 0 (G.1, .int) rfl).2 : s.vm.findClass _ = some G.1))
  subst ec
  exact qzNewGoal C hk2 ho r0 (by rw [qzE4 (by rw [hk1])]; rw [show (qzNu hp).2.2 hp.1 = fun _ => 0 from qzUr_at]) hP1 hD1 hS1 kk
theorem qz_newarrayC (F : qzFx p G D z0 S s m args meth c mi) (C : qzCx G D z0 S s mi ad lsS H locs ls st hp) (hd : decode (qzMd mi).2.1 pc = .ok (.newarray .char, len)) (h : qzNewa 5 len 2 pc ls st hp = (some (.inl (pc', ls', st', hp')) : Option qzA)) (hR : qzRo R n0 hp.1 hp'.1)
    (kk : qzKK p l e R s m args below meth c Q G D z0 S mi n0 hp.1 ad pc' ls' st' hp') : qzG p l e R s m args below meth c Q n0 pc ad lsS H locs st hp.1 := by
  obtain ⟨hx, hb, hml, hr, hown, hts, hlk, hnm, hK, hNw, hSt, hz, hmi⟩ := id F
  obtain ⟨c1, c2, c3, c4, c5, hP, hD, hS⟩ := id C
  have hA : ∀ q, s.heap.size ≤ q → qzA0 z0 q := fun q hq => Nat.le_trans hz hq
  obtain ⟨rfl, x, st1, rfl, hneg, hk1, hk2, rfl, rfl, rfl, rfl⟩ := qzNewa_inv h
  obtain ⟨r0, r1, r2, -, -⟩ := hR
  have es := qzSl_succ hk2
  have em := qzSl_mono r0
  have hle := qzk_le hk2
  have hkk : (qzk hp.1).2 = x.toNatClampNeg := by rw [hk1]
  have ho := (List.forall_mem_cons.mp C.2.1).2
  change hp.1 + 1 - n0 ≤ R.cells at r1
  change qzSl (hp.1 + 1) - qzSl n0 ≤ R.slots at r2
  refine va_newa (atype := .char) (ty := .char) (a0 := ((qzk hp.1).2, .inl (fun _ => 0))) hx hb (hts _ qzs_aC) rfl hK hP hD hS hA (fun _ => rfl) hneg hkk.symm (by show (qzk hp.1).2 * 2 ≤ 536870912; omega) (by omega) (by omega) hd (fun q cA H1 hK1 hP1 hD1 hS1 => ?_)
  have ec : cA = G.2.1 := Option.some.inj (((hK1.2 3 (cA, .char) rfl).2 : s.vm.findClass _ = some cA).symm.trans ((hK.2 1 (G.2.1, .char) rfl).2 : s.vm.findClass _ = some G.2.1))
  subst ec
  exact qzNewGoal C hk2 ho r0 (by rw [qzE5 (by rw [hk1])]; rw [show (qzNu hp).2.2 hp.1 = fun _ => 0 from qzUr_at]) hP1 hD1 hS1 kk
theorem qz_anewarray {idx : Nat} (F : qzFx p G D z0 S s m args meth c mi) (C : qzCx G D z0 S s mi ad lsS H locs ls st hp) (hd : decode (qzMd mi).2.1 pc = .ok (.anewarray idx, len)) (h : (if (qzMd mi).2.2.2.2.2.2 = 2 ∧ idx = 7 then qzNewa 6 len 3 pc ls st hp else none) = (some (.inl (pc', ls', st', hp')) : Option qzA)) (hR : qzRo R n0 hp.1 hp'.1)
    (kk : qzKK p l e R s m args below meth c Q G D z0 S mi n0 hp.1 ad pc' ls' st' hp') : qzG p l e R s m args below meth c Q n0 pc ad lsS H locs st hp.1 := by
  obtain ⟨hx, hb, hml, hr, hown, hts, hlk, hnm, hK, hNw, hSt, hz, hmi⟩ := id F
  obtain ⟨c1, c2, c3, c4, c5, hP, hD, hS⟩ := id C
  have hown' : s.vm.findClass (qzRs (qzMd mi).2.2.2.2.2.2) = some m.cls := by rw [← (qzPm_at hmi).2.2.2.2.1.2.2]; exact hown
  have hA : ∀ q, s.heap.size ≤ q → qzA0 z0 q := fun q hq => Nat.le_trans hz hq
  split at h
  · rename_i hoc
    obtain ⟨ho1, rfl⟩ := hoc
    rw [ho1] at hown'
    obtain ⟨rfl, x, st1, rfl, hneg, hk1, hk2, rfl, rfl, rfl, rfl⟩ := qzNewa_inv h
    obtain ⟨r0, r1, r2, -, -⟩ := hR
    have es := qzSl_succ hk2
    have em := qzSl_mono r0
    have hle := qzk_le hk2
    have hkk : (qzk hp.1).2 = x.toNatClampNeg := by rw [hk1]
    have ho := (List.forall_mem_cons.mp C.2.1).2
    change hp.1 + 1 - n0 ≤ R.cells at r1
    change qzSl (hp.1 + 1) - qzSl n0 ≤ R.slots at r2
    refine va_newq (own := RX2) (C := RX0) (N' := (qzk hp.1).2) hx hb hown' (hts _ qzs_n0) hNw.2.2 hK hP hD hS hA hneg hkk.symm (by omega) (by omega) (by omega) hd (fun q cA H1 hK1 hP1 hD1 hS1 => ?_)
    obtain ⟨kA, comp, -, -, -, e1⟩ := ((hK1.2 3 (cA, .object RX0) rfl).2 : ∃ (kA : Class) (comp : ClassId), _)
    obtain ⟨kA', comp', -, -, -, e2⟩ := ((hK.2 2 (G.2.2, .object RX0) rfl).2 : ∃ (kA : Class) (comp : ClassId), _)
    have ec : cA = G.2.2 := Option.some.inj (e1.symm.trans e2)
    subst ec
    exact qzNewGoal C hk2 ho r0 (by rw [qzE6 (by rw [hk1])]; rw [show (qzNu hp).2.1 hp.1 = fun _ => none from qzUr_at]; rfl) hP1 hD1 hS1 kk
  · exact (qz_no h).elim
/-- the texts' length and signs: what is owed of the JDK's two methods -/
def qzRm (d mc ms : Nat) : Room := { frames := d + 12, cells := mc, slots := ms, locals := 400 + 100 * d }
def qzTp (z0 : Nat) (S : Nat → Nat) (U : State) : Prop := qzSt z0 S U U.heap ∧ z0 ≤ U.heap.size
def qzRt : Room := { frames := 8, cells := 0, slots := 0, locals := 300 }
def qzTx (l : Launch) : Prop := ∀ (z0 : Nat) (S : Nat → Nat),
  Met l yJ0_length_8abf5 (Cond.code yJ0_length_8abf5 cJ0_length_8abf5 1 (some .int) :: qzWs) qzRt (va_Pc [.ref (S 3)] (qzTp z0 S)) (va_Qi (fun (r : Int32) (_ : Unit) => r = 12) (fun _ _ => True) (fun _ => False)) 0 0 (fun _ => False) ∧
  ∀ k : Int32, qzIn k 12 = true → Met l yJ0_charAt_5068e (Cond.code yJ0_charAt_5068e cJ0_charAt_5068e 2 (some .char) :: qzWs) qzRt (va_Pc [.ref (S 3), .int k] (qzTp z0 S)) (va_Qi (fun (r : Int32) (_ : Unit) => r = qzCh k.toNatClampNeg) (fun _ _ => True) (fun _ => False)) 0 0 (fun _ => False)
theorem qzSt.now {z0 : Nat} {S : Nat → Nat} {s U : State} {H : Heap} {locs : List Loc} (h : qzSt z0 S s s.heap) (hz : z0 ≤ s.heap.size) (hS : va_S (qzA0 z0) s.heap H locs) (hU : U.heap = H) (hW : s.WarmedH U.vm) : qzSt z0 S U U.heap := by
  rw [hU]
  exact (h.kept hz hS.2.1).warm hW
theorem qz_min {idx : Nat} {own : String} {x y : Int32} {st1 : List Value} (F : qzFx p G D z0 S s m args meth c mi) (C : qzCx G D z0 S s mi ad lsS H locs ls (.int y :: .int x :: st1) hp) (hd : decode (qzMd mi).2.1 pc = .ok (.invokestatic idx, 3)) (hown : s.vm.findClass own = some m.cls) (hl : Cond.methodLink own idx Lib.Math.min.name ∈ qzWs) (h8 : st1.length ≤ 8) (hR : qzRo R n0 hp.1 hp.1)
    (kk : qzKK p l e R s m args below meth c Q G D z0 S mi n0 hp.1 ad (pc + 3) ls (.int (if y < x then y else x) :: st1) hp) : qzG p l e R s m args below meth c Q n0 pc ad lsS H locs (.int y :: .int x :: st1) hp.1 := by
  obtain ⟨hx, hb, hml, hr, -, hts, hlk, hnm, hK, hNw, hSt, hz, hmi⟩ := id F
  have ho := (List.forall_mem_cons.mp (List.forall_mem_cons.mp C.2.1).2).2
  have hsum := qzOk.sum (ad := ad) ho
  obtain ⟨r0, r1, r2, r3, r4⟩ := hR
  exact va_mmin (rest := st1.map (qzR ad)) hx hb (hml.trans C.1.size.symm) hown (hts _ hl) (hts _ qzs_min_s) (hts _ qzs_mth) (hts _ qzs_min_c) (by omega) (by rw [hsum]; omega) r1 r2 hd (kk.same C (List.forall_mem_cons.mpr ⟨trivial, ho⟩))
theorem qz_max {idx : Nat} {own : String} {x y : Int32} {st1 : List Value} (F : qzFx p G D z0 S s m args meth c mi) (C : qzCx G D z0 S s mi ad lsS H locs ls (.int y :: .int x :: st1) hp) (hd : decode (qzMd mi).2.1 pc = .ok (.invokestatic idx, 3)) (hown : s.vm.findClass own = some m.cls) (hl : Cond.methodLink own idx Lib.Math.max.name ∈ qzWs) (h8 : st1.length ≤ 8) (hR : qzRo R n0 hp.1 hp.1)
    (kk : qzKK p l e R s m args below meth c Q G D z0 S mi n0 hp.1 ad (pc + 3) ls (.int (if x < y then y else x) :: st1) hp) : qzG p l e R s m args below meth c Q n0 pc ad lsS H locs (.int y :: .int x :: st1) hp.1 := by
  obtain ⟨hx, hb, hml, hr, -, hts, hlk, hnm, hK, hNw, hSt, hz, hmi⟩ := id F
  have ho := (List.forall_mem_cons.mp (List.forall_mem_cons.mp C.2.1).2).2
  have hsum := qzOk.sum (ad := ad) ho
  obtain ⟨r0, r1, r2, r3, r4⟩ := hR
  exact va_mmax (rest := st1.map (qzR ad)) hx hb (hml.trans C.1.size.symm) hown (hts _ hl) (hts _ qzs_max_s) (hts _ qzs_mth) (hts _ qzs_max_c) (by omega) (by rw [hsum]; omega) r1 r2 hd (kk.same C (List.forall_mem_cons.mpr ⟨trivial, ho⟩))
theorem qz_copy {idx a b : Nat} {own : String} {n dp sp : Int32} {st1 : List Value} (F : qzFx p G D z0 S s m args meth c mi) (C : qzCx G D z0 S s mi ad lsS H locs ls (.int n :: .int dp :: .ref a :: .int sp :: .ref b :: st1) hp) (hd : decode (qzMd mi).2.1 pc = .ok (.invokestatic idx, 3)) (hown : s.vm.findClass own = some m.cls) (hl : Cond.methodLink own idx arraycopyName ∈ qzWs)
    (hc : qzArr 4 a hp.1 = true ∧ qzArr 4 b hp.1 = true ∧ ¬ sp < 0 ∧ ¬ dp < 0 ∧ ¬ n < 0 ∧ sp.toNatClampNeg + n.toNatClampNeg ≤ (qzk b).2 ∧ dp.toNatClampNeg + n.toNatClampNeg ≤ (qzk a).2 ∧ st1.length ≤ 8) (hR : qzRo R n0 hp.1 hp.1)
    (kk : qzKK p l e R s m args below meth c Q G D z0 S mi n0 hp.1 ad (pc + 3) ls st1 (hp.1, hp.2.1, qzUr hp.2.2 a (va_cpy (hp.2.2 b) (hp.2.2 a) sp.toNatClampNeg dp.toNatClampNeg n.toNatClampNeg))) : qzG p l e R s m args below meth c Q n0 pc ad lsS H locs (.int n :: .int dp :: .ref a :: .int sp :: .ref b :: st1) hp.1 := by
  obtain ⟨hx, hb, hml, hr, -, hts, hlk, hnm, hK, hNw, hSt, hz, hmi⟩ := id F
  obtain ⟨c1, c2, c3, c4, c5, hP, hD, hS⟩ := id C
  have ho : ∀ v ∈ st1, qzOk hp.1 v := fun v hv => C.2.1 v (by simp [hv])
  have hsum := qzOk.sum (ad := ad) ho
  obtain ⟨r0, r1, r2, r3, r4⟩ := hR
  obtain ⟨ha, hb', g1, g2, g3, g4, g5, g6⟩ := hc
  obtain ⟨ha1, ha2⟩ := qzArr_ok ha
  obtain ⟨hb1, hb2⟩ := qzArr_ok hb'
  refine va_copyi (tys := qzTys G) (rest := st1.map (qzR ad)) (ty := .int) hx hb (hml.trans C.1.size.symm) hown (hts _ hl) (hts _ qzs_acn) (hts _ qzs_acs) (hts _ qzs_aci) hK hP hD hS b a 0 0 ((qzW_get hb1).trans (by rw [qzE4 hb2])) ((qzW_get ha1).trans (by rw [qzE4 ha2])) rfl rfl rfl g1 g2 g3 g4 g5 (fun _ _ => rfl) (by omega) (by rw [hsum]; show st1.length + 18 ≤ R.locals; omega) hd (fun H1 locs1 hP1 hD1 hS1 => ?_)
  have eW : qzW G ad (hp.1, hp.2.1, qzUr hp.2.2 a (va_cpy (hp.2.2 b) (hp.2.2 a) sp.toNatClampNeg dp.toNatClampNeg n.toNatClampNeg)) = (qzW G ad hp).set a (ad a, .inl (G.1, (qzk a).2, .inl (va_cpy (hp.2.2 b) (hp.2.2 a) sp.toNatClampNeg dp.toNatClampNeg n.toNatClampNeg))) :=
    qzW_set rfl (by rw [qzE4 ha2]; exact congrArg (fun q => Sum.inl (G.1, (qzk a).2, Sum.inl q)) qzUr_at) (fun j hj => qzE_num (qzUr_ne hj))
  rw [← eW] at hP1 hD1
  exact kk ad lsS H1 locs1 qzAg.rf (C.cells rfl ho c3 hP1 hD1 hS1)
theorem qz_objinit {idx a : Nat} {own : String} {st1 : List Value} (F : qzFx p G D z0 S s m args meth c mi) (C : qzCx G D z0 S s mi ad lsS H locs ls (.ref a :: st1) hp) (hd : decode (qzMd mi).2.1 pc = .ok (.invokespecial idx, 3)) (hown : s.vm.findClass own = some m.cls) (hl : Cond.methodLink own idx objectInit ∈ qzWs) (h8 : st1.length ≤ 8) (hR : qzRo R n0 hp.1 hp.1)
    (kk : qzKK p l e R s m args below meth c Q G D z0 S mi n0 hp.1 ad (pc + 3) ls st1 hp) : qzG p l e R s m args below meth c Q n0 pc ad lsS H locs (.ref a :: st1) hp.1 := by
  obtain ⟨hx, hb, hml, hr, -, hts, hlk, hnm, hK, hNw, hSt, hz, hmi⟩ := id F
  have ho := (List.forall_mem_cons.mp C.2.1).2
  have hsum := qzOk.sum (ad := ad) ho
  obtain ⟨r0, r1, r2, r3, r4⟩ := hR
  refine W.objInit (rest := st1.map (qzR ad)) hx hb hown (hts _ hl) (hts _ qzs_oii) (hts _ qzs_oic) rfl (C.1.size.trans hml.symm) rfl hd (by omega) (by rw [hsum]; show 2 * 0 + st1.length + 12 ≤ R.locals; omega) ?_
  exact W.eq (g2 := F0 m (pc + 3) lsS (st1.map (qzR ad))) rfl (kk.same C ho)
theorem qz_stat {idx : Nat} (F : qzFx p G D z0 S s m args meth c mi) (C : qzCx G D z0 S s mi ad lsS H locs ls st hp) (hd : decode (qzMd mi).2.1 pc = .ok (.invokestatic idx, len)) (h : qzStat (qzMd mi).2.2.2.2.2.2 idx len pc ls st hp = (some (.inl (pc', ls', st', hp')) : Option qzA)) (hR : qzRo R n0 hp.1 hp'.1)
    (kk : qzKK p l e R s m args below meth c Q G D z0 S mi n0 hp.1 ad pc' ls' st' hp') : qzG p l e R s m args below meth c Q n0 pc ad lsS H locs st hp.1 := by
  have hown' : s.vm.findClass (qzRs (qzMd mi).2.2.2.2.2.2) = some m.cls := by rw [← (qzPm_at F.2.2.2.2.2.2.2.2.2.2.2.2).2.2.2.2.1.2.2]; exact F.2.2.2.2.1
  unfold qzStat at h
  split at h
  · rename_i hc
    split at h
    · rename_i hw
      subst hw
      split at h
      · split at h
        · rename_i h8
          obtain ⟨rfl, rfl, rfl, rfl⟩ := qzGo_inj h
          rcases hc with ⟨h1, rfl⟩ | ⟨h1, rfl⟩
          · rw [h1] at hown'
            exact qz_min F C hd hown' qzs_mi0 h8 hR kk
          · rw [h1] at hown'
            exact qz_min F C hd hown' qzs_mi2 h8 hR kk
        · exact (qz_no h).elim
      · exact (qz_no h).elim
    · exact (qz_no h).elim
  · split at h
    · rename_i hc
      split at h
      · rename_i hw
        subst hw
        split at h
        · split at h
          · rename_i h8
            obtain ⟨rfl, rfl, rfl, rfl⟩ := qzGo_inj h
            obtain ⟨h1, rfl⟩ := hc
            rw [h1] at hown'
            exact qz_max F C hd hown' qzs_ma2 h8 hR kk
          · exact (qz_no h).elim
        · exact (qz_no h).elim
      · exact (qz_no h).elim
    · split at h
      · rename_i hc
        split at h
        · rename_i hw
          subst hw
          split at h
          · split at h
            · rename_i h8
              obtain ⟨rfl, rfl, rfl, rfl⟩ := qzGo_inj h
              rcases hc with ⟨h1, rfl⟩ | ⟨h1, rfl⟩
              · rw [h1] at hown'
                exact qz_copy F C hd hown' qzs_ac0 h8 hR kk
              · rw [h1] at hown'
                exact qz_copy F C hd hown' qzs_ac1 h8 hR kk
            · exact (qz_no h).elim
          · exact (qz_no h).elim
        · exact (qz_no h).elim
      · unfold qzCall at h
        repeat' split at h
        all_goals cases h
theorem qz_spec {idx : Nat} (F : qzFx p G D z0 S s m args meth c mi) (C : qzCx G D z0 S s mi ad lsS H locs ls st hp) (hd : decode (qzMd mi).2.1 pc = .ok (.invokespecial idx, len)) (h : qzSpec (qzMd mi).2.2.2.2.2.2 idx len pc ls st hp = (some (.inl (pc', ls', st', hp')) : Option qzA)) (hR : qzRo R n0 hp.1 hp'.1)
    (kk : qzKK p l e R s m args below meth c Q G D z0 S mi n0 hp.1 ad pc' ls' st' hp') : qzG p l e R s m args below meth c Q n0 pc ad lsS H locs st hp.1 := by
  have hown' : s.vm.findClass (qzRs (qzMd mi).2.2.2.2.2.2) = some m.cls := by rw [← (qzPm_at F.2.2.2.2.2.2.2.2.2.2.2.2).2.2.2.2.1.2.2]; exact F.2.2.2.2.1
  unfold qzSpec at h
  split at h
  · rename_i hc
    split at h
    · rename_i hw
      subst hw
      split at h
      · split at h
        · rename_i h8
          obtain ⟨rfl, rfl, rfl, rfl⟩ := qzGo_inj h
          rcases hc with ⟨h1, rfl⟩ | ⟨h1, rfl⟩ | ⟨h1, rfl⟩ | ⟨h1, rfl⟩
          · rw [h1] at hown'
            exact qz_objinit F C hd hown' qzs_oi0 h8 hR kk
          · rw [h1] at hown'
            exact qz_objinit F C hd hown' qzs_oi1 h8 hR kk
          · rw [h1] at hown'
            exact qz_objinit F C hd hown' qzs_oi2 h8 hR kk
          · rw [h1] at hown'
            exact qz_objinit F C hd hown' qzs_oi3 h8 hR kk
        · exact (qz_no h).elim
      · exact (qz_no h).elim
    · exact (qz_no h).elim
  · unfold qzCall at h
    repeat' split at h
    all_goals cases h
end QZ3
