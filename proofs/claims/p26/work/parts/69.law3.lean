/-! the law's entry: facts, new objects -/
theorem lw_K {args : Array Value} {s : State} (hts : ∀ w ∈ lw_tbl, w.before args s = true) : ∃ (G : qzGT) (D : va_G), va_K D vwCl (qzTys G) s := by
  have hq : ∀ w ∈ qzWs, w.before args s = true := fun w hw => hts w (qzWs_sub w hw)
  obtain ⟨c0, i0, k0⟩ := u_known (C := qzRs 0) (T := qzTs 0) (N := qzNf 0) hq (qzU (ci := 0) (by decide)) (hq _ qzs_i0)
  obtain ⟨c1, i1, k1⟩ := u_known (C := qzRs 1) (T := qzTs 1) (N := qzNf 1) hq (qzU (ci := 1) (by decide)) (hq _ qzs_i1)
  obtain ⟨c2, i2, k2⟩ := u_known (C := qzRs 2) (T := qzTs 2) (N := qzNf 2) hq (qzU (ci := 2) (by decide)) (hq _ lni_2)
  obtain ⟨c3, i3, k3⟩ := u_known (C := qzRs 3) (T := qzTs 3) (N := qzNf 3) hq (qzU (ci := 3) (by decide)) (hq _ lni_3)
  obtain ⟨a1, ka1, co1, a2, a3, a4⟩ := Cond.arrayClass_spec (type := .int) (show (Cond.arrayClass .int).holds args s none s [] = true from hq _ qzs_aI)
  obtain ⟨b1, kb1, bo1, b2, b3, b4⟩ := Cond.arrayClass_spec (type := .char) (show (Cond.arrayClass .char).holds args s none s [] = true from hq _ qzs_aC)
  obtain ⟨comp, d1, kd1, d2, d3, d4, d5, d6⟩ := Cond.arrayOver_spec (n := RX0) (show (Cond.arrayOver (.object RX0)).holds args s none s [] = true from hts _ (by decide +kernel))
  refine ⟨(a1, b1, d1), (fun c => if c = 0 then c0 else if c = 1 then c1 else if c = 2 then c2 else c3, fun c => if c = 0 then i0 else if c = 1 then i1 else if c = 2 then i2 else i3), ?_, ?_⟩
  · intro c q hc
    rcases (by omega : c = 0 ∨ c = 1 ∨ c = 2 ∨ c = 3 ∨ 4 ≤ c) with h | h | h | h | h
    · subst h
      rw [qzCl_at (ci := 0) (by decide)] at hc
      cases hc
      exact k0
    · subst h
      rw [qzCl_at (ci := 1) (by decide)] at hc
      cases hc
      exact k1
    · subst h
      rw [qzCl_at (ci := 2) (by decide)] at hc
      cases hc
      exact k2
    · subst h
      rw [qzCl_at (ci := 3) (by decide)] at hc
      cases hc
      exact k3
    · have h4 : vwCl.length = 4 := by decide
      have := (List.getElem?_eq_some_iff.mp hc).1
      omega
  · intro k q hk
    rcases (by omega : k = 0 ∨ k = 1 ∨ k = 2 ∨ 3 ≤ k) with h | h | h | h
    · subst h
      cases hk
      exact ⟨fun n z => ⟨fun k h => (by cases h), ka1, a3, co1, a4⟩, a2⟩
    · subst h
      cases hk
      exact ⟨fun n z => ⟨fun k h => (by cases h), kb1, b3, bo1, b4⟩, b2⟩
    · subst h
      cases hk
      exact ⟨fun n z => ⟨fun k h => (by cases h), kd1, d4, comp, d5⟩, kd1, comp, d4, d5, d2, d6⟩
    · have := (List.getElem?_eq_some_iff.mp hk).1
      have h4 : (qzTys (a1, b1, d1)).length = 3 := rfl
      omega
theorem lw_Nst : ∀ q ∈ qzNst, Cond.methodLinkNest (qzRs q.1) q.2.1 q.2.2.1 q.2.2.2 ∈ lw_tbl := by decide +kernel
theorem lw_Nw {args : Array Value} {s : State} (hts : ∀ w ∈ lw_tbl, w.before args s = true) : qzNw s :=
  ⟨fun q hq => va_Nw.of rfl (hts _ (lw_Nst q hq)), va_Nw.of rfl (hts (.fieldLinkNest RX0 51 "BoltTailors" "FIRST_VALUES" "[I" "BoltTailors") (by decide +kernel)), va_AO.of (hts (.arrayOver (.object RX0)) (by decide +kernel))⟩
theorem lw_stat {args : Array Value} {s : State} {tm : Term} {f : Nat → Int32} (harr : (Cond.arrayOf tm .int).before args s = true) (hlen : (Term.length tm).eval args s none [] s = some (.int (Int32.ofNat 3))) (hel : ∀ j : Nat, j < 3 → (Term.elem tm (.int (Int32.ofNat j))).eval args s none [] s = some (.int (f j))) : ∃ t : Nat, tm.eval args s none [] s = some (.ref t) ∧ va_X t 3 f s s.heap ∧ t < s.heap.size := by
  obtain ⟨t, ht, cell, c1, c2, c3, c4, c5, c6, c7⟩ := va_Tof (N := 3) (f := fun j => .int (f j)) (A := fun q => s.heap.size ≤ q) (by decide) harr hlen hel (fun a ha => Nat.not_le.mpr ha)
  refine ⟨t, ht, ⟨cell, c1, c2, c3, ?_, c6⟩, (Array.getElem?_eq_some_iff.mp c1).1⟩
  obtain ⟨t2, cell2, ht2, harr2, hv2⟩ := Term.length_spec hlen
  cases ht.symm.trans ht2
  obtain ⟨hcell, -, -, -⟩ := State.arrayAt?_spec harr2
  cases c1.symm.trans hcell
  have hsz : cell.slots.size < 2147483648 := by
    simp only [Term.eval, ht2, harr2, Option.bind_eq_bind, Option.bind_some] at hlen
    by_cases hlt : cell.slots.size < 2147483648
    · exact hlt
    · simp [hlt] at hlen
  have c5' : nI cell.slots.size = nI 3 := c5
  rwa [nI_eq' hsz (by omega)] at c5'
theorem lw_t3 {P : Nat → Prop} (h0 : P 0) (h1 : P 1) (h2 : P 2) : ∀ j, j < 3 → P j := by
  intro j hj
  rcases (by omega : j = 0 ∨ j = 1 ∨ j = 2) with h | h | h <;> subst h
  · exact h0
  · exact h1
  · exact h2
theorem lw_txe : ∀ j, j < 12 → Cond.eq (.elem (.field (.string "BoltTailors$Game" 30) "java/lang/String" "value" "[B") (.int (Int32.ofNat j))) (.int (qzTxt.getD j 0)) ∈ flatC (Jvm.Cond.and given_1 narrow_1) := by decide +kernel
theorem lw_St {args : Array Value} {s : State} (hts : ∀ w ∈ lw_tbl, w.before args s = true) (hgv : (Jvm.Cond.and given_1 narrow_1).before args s = true) : ∃ S : Nat → Nat, qzSt s.heap.size S s s.heap := by
  have hn := flat_of_before _ hgv
  have hA : ∀ a : Nat, a < s.heap.size → ¬ qzA0 s.heap.size a := fun a ha => Nat.not_le.mpr ha
  obtain ⟨t0, e0, x0, l0⟩ := lw_stat (tm := (.static "BoltTailors" "LOWEST_VALUES" "[I")) (f := qzSv 0) (hn (.arrayOf (.static "BoltTailors" "LOWEST_VALUES" "[I") .int) (by decide +kernel)) (va_eqt (hn (.eq (.length (.static "BoltTailors" "LOWEST_VALUES" "[I")) (.int (Int32.ofNat 3))) (by decide +kernel)))
    (lw_t3 (P := fun j => (Term.elem (.static "BoltTailors" "LOWEST_VALUES" "[I") (.int (Int32.ofNat j))).eval args s none [] s = some (.int (qzSv 0 j))) (va_eqt (hn (.eq (.elem (.static "BoltTailors" "LOWEST_VALUES" "[I") (.int (Int32.ofNat 0))) (.int (qzSv 0 0))) (by decide +kernel))) (va_eqt (hn (.eq (.elem (.static "BoltTailors" "LOWEST_VALUES" "[I") (.int (Int32.ofNat 1))) (.int (qzSv 0 1))) (by decide +kernel))) (va_eqt (hn (.eq (.elem (.static "BoltTailors" "LOWEST_VALUES" "[I") (.int (Int32.ofNat 2))) (.int (qzSv 0 2))) (by decide +kernel))))
  have z0 : va_Z "BoltTailors" "LOWEST_VALUES" "[I" (.ref t0) (qzA0 s.heap.size) s s.heap := va_Zref (hts (.laysStatic "BoltTailors" "LOWEST_VALUES" "[I") (by decide +kernel)) (hts (.initialized "BoltTailors") (by decide +kernel)) e0 hA
  obtain ⟨t1, e1, x1, l1⟩ := lw_stat (tm := (.static "BoltTailors" "HIGHEST_VALUES" "[I")) (f := qzSv 1) (hn (.arrayOf (.static "BoltTailors" "HIGHEST_VALUES" "[I") .int) (by decide +kernel)) (va_eqt (hn (.eq (.length (.static "BoltTailors" "HIGHEST_VALUES" "[I")) (.int (Int32.ofNat 3))) (by decide +kernel)))
    (lw_t3 (P := fun j => (Term.elem (.static "BoltTailors" "HIGHEST_VALUES" "[I") (.int (Int32.ofNat j))).eval args s none [] s = some (.int (qzSv 1 j))) (va_eqt (hn (.eq (.elem (.static "BoltTailors" "HIGHEST_VALUES" "[I") (.int (Int32.ofNat 0))) (.int (qzSv 1 0))) (by decide +kernel))) (va_eqt (hn (.eq (.elem (.static "BoltTailors" "HIGHEST_VALUES" "[I") (.int (Int32.ofNat 1))) (.int (qzSv 1 1))) (by decide +kernel))) (va_eqt (hn (.eq (.elem (.static "BoltTailors" "HIGHEST_VALUES" "[I") (.int (Int32.ofNat 2))) (.int (qzSv 1 2))) (by decide +kernel))))
  have z1 : va_Z "BoltTailors" "HIGHEST_VALUES" "[I" (.ref t1) (qzA0 s.heap.size) s s.heap := va_Zref (hts (.laysStatic "BoltTailors" "HIGHEST_VALUES" "[I") (by decide +kernel)) (hts (.initialized "BoltTailors") (by decide +kernel)) e1 hA
  obtain ⟨t2, e2, x2, l2⟩ := lw_stat (tm := (.static "BoltTailors" "FIRST_VALUES" "[I")) (f := qzSv 2) (hn (.arrayOf (.static "BoltTailors" "FIRST_VALUES" "[I") .int) (by decide +kernel)) (va_eqt (hn (.eq (.length (.static "BoltTailors" "FIRST_VALUES" "[I")) (.int (Int32.ofNat 3))) (by decide +kernel)))
    (lw_t3 (P := fun j => (Term.elem (.static "BoltTailors" "FIRST_VALUES" "[I") (.int (Int32.ofNat j))).eval args s none [] s = some (.int (qzSv 2 j))) (va_eqt (hn (.eq (.elem (.static "BoltTailors" "FIRST_VALUES" "[I") (.int (Int32.ofNat 0))) (.int (qzSv 2 0))) (by decide +kernel))) (va_eqt (hn (.eq (.elem (.static "BoltTailors" "FIRST_VALUES" "[I") (.int (Int32.ofNat 1))) (.int (qzSv 2 1))) (by decide +kernel))) (va_eqt (hn (.eq (.elem (.static "BoltTailors" "FIRST_VALUES" "[I") (.int (Int32.ofNat 2))) (.int (qzSv 2 2))) (by decide +kernel))))
  have z2 : va_Z "BoltTailors" "FIRST_VALUES" "[I" (.ref t2) (qzA0 s.heap.size) s s.heap := va_Zref (hts (.laysStatic "BoltTailors" "FIRST_VALUES" "[I") (by decide +kernel)) (hts (.initialized "BoltTailors") (by decide +kernel)) e2 hA
  have z6 : va_Z "java/lang/String" "COMPACT_STRINGS" "Z" (.int 1) (qzA0 s.heap.size) s s.heap := va_Zof (hts (.laysStatic "java/lang/String" "COMPACT_STRINGS" "Z") (by decide +kernel)) (hts (.initialized "java/lang/String") (by decide +kernel)) (va_eqt (hn (.eq (.static "java/lang/String" "COMPACT_STRINGS" "Z") (.int 1)) (by decide +kernel))) hA
  have z7 : va_Zq "jdk/internal/util/Preconditions" "SIOOBE_FORMATTER" "Ljava/util/function/BiFunction;" (qzA0 s.heap.size) s s.heap := va_Zqof (hts (.laysStatic "jdk/internal/util/Preconditions" "SIOOBE_FORMATTER" "Ljava/util/function/BiFunction;") (by decide +kernel)) (hts (.initialized "jdk/internal/util/Preconditions") (by decide +kernel)) (hn (.isRef (.static "jdk/internal/util/Preconditions" "SIOOBE_FORMATTER" "Ljava/util/function/BiFunction;")) (by decide +kernel)) hA
  obtain ⟨aK, aV, vS, eS⟩ := vk_Sof (args := args) (s := s) (N := 1) (tm := fun _ => (Term.string "BoltTailors$Game" 30)) (len := [12]) (byt := [qzTxt]) (A := qzA0 s.heap.size) (fun i hi => by have h0 : i = 0 := (by omega); subst h0; decide)
    (fun i hi => hn (.exactly (Term.string "BoltTailors$Game" 30) "java/lang/String") (by decide +kernel)) (fun i hi => hn (.eq (.field (Term.string "BoltTailors$Game" 30) "java/lang/String" "coder" "B") (.int 0)) (by decide +kernel)) (fun i hi => hn (.arrayOf (.field (Term.string "BoltTailors$Game" 30) "java/lang/String" "value" "[B") .byte) (by decide +kernel))
    (fun i hi => by have h0 : i = 0 := (by omega); subst h0; exact hn (.eq (.length (.field (Term.string "BoltTailors$Game" 30) "java/lang/String" "value" "[B")) (.int 12)) (by decide +kernel))
    (fun i hi j hj => by have h0 : i = 0 := (by omega); subst h0; exact hn _ (lw_txe j hj))
    (fun i j hi hj hij => absurd (by omega) hij) hA
  refine ⟨fun i => if i = 0 then t0 else if i = 1 then t1 else if i = 2 then t2 else aK 0, z0, z1, z2, fun i hi => ?_, vk_R.of (hts (.stringRef "BoltTailors$Game" 30 "abcabcabcabc") (by decide +kernel)) (eS 0 (by omega)), ⟨aV, ⟨fun i hi => ?_, fun i j hi hj _ => by omega⟩⟩, z6, z7⟩
  · rcases (by omega : i = 0 ∨ i = 1 ∨ i = 2) with h | h | h <;> subst h
    · exact ⟨x0, l0⟩
    · exact ⟨x1, l1⟩
    · exact ⟨x2, l2⟩
  · have h0 : i = 0 := (by omega)
    subst h0
    exact vS.1 0 (by omega)
theorem arrV_cg {cA : ClassId} {n : Nat} {f g : Nat → Value} (h : ∀ j, j < n → f j = g j) : arrV cA n f = arrV cA n g := by
  unfold arrV
  congr 1
  apply congrArg
  funext j
  exact h j.val j.isLt
/-- the world, when the references that can be read are the same -/
theorem qzW_refs {G : qzGT} {D : va_G} {ad : Nat → Nat} {n : Nat} {r1 r2 : Nat → Nat → Option Nat} {h : Nat → Nat → Int32} {H : Heap} (hr : ∀ i, i < n → ∀ k, k < qkRf i → r1 i k = r2 i k) (hP : va_P D vwCl (qzW G ad (n, r1, h)) H) : va_P D vwCl (qzW G ad (n, r2, h)) H := by
  intro k q hq
  have hk : k < n := by
    have := (List.getElem?_eq_some_iff.mp hq).1
    simpa [qzW] using this
  rw [qzW_get (hp := (n, r2, h)) hk] at hq
  cases hq
  have g := hP k _ (qzW_get (hp := (n, r1, h)) hk)
  have hrk := hr k hk
  unfold qkRf at hrk
  unfold qzE at g ⊢
  by_cases c4 : (qzk k).1 = 4
  · rw [if_pos c4] at g ⊢
    exact g
  · rw [if_neg c4] at g ⊢
    by_cases c5 : (qzk k).1 = 5
    · rw [if_pos c5] at g ⊢
      exact g
    · rw [if_neg c5] at g ⊢
      rw [if_neg (by omega)] at hrk
      by_cases c6 : (qzk k).1 = 6
      · rw [if_pos c6] at g ⊢
        rw [if_pos c6] at hrk
        have g' : H[ad k]? = some (arrV G.2.2 (qzk k).2 (fun j => va_rf ((r1 k j).map ad))) := g
        have e := arrV_cg (cA := G.2.2) (n := (qzk k).2) (f := fun j => va_rf ((r1 k j).map ad)) (g := fun j => va_rf ((r2 k j).map ad)) (fun j hj => by show va_rf ((r1 k j).map ad) = va_rf ((r2 k j).map ad); rw [hrk j hj])
        rw [e] at g'
        exact g'
      · rw [if_neg c6] at g ⊢
        rw [if_neg c6] at hrk
        have e : qzFs ad (qzk k).1 (r1 k) (h k) = qzFs ad (qzk k).1 (r2 k) (h k) := by
          unfold qzFs
          apply List.map_congr_left
          intro j hj
          rw [List.mem_range] at hj
          rw [hrk j hj]
        have g' := g
        rw [e] at g'
        exact g'
theorem qzW_dis {G : qzGT} {ad : Nat → Nat} {n : Nat} {r1 r2 : Nat → Nat → Option Nat} {h : Nat → Nat → Int32} {A : Nat → Prop} (hD : va_D A (qzW G ad (n, r1, h))) : va_D A (qzW G ad (n, r2, h)) := by
  have key : ∀ (k : Nat) (q : Nat × va_E), (qzW G ad (n, r2, h))[k]? = some q → q.1 = ad k ∧ (qzW G ad (n, r1, h))[k]? = some (ad k, qzE G ad (n, r1, h) k) := by
    intro k q hq
    have hk : k < n := by
      have := (List.getElem?_eq_some_iff.mp hq).1
      simpa [qzW] using this
    rw [qzW_get (hp := (n, r2, h)) hk] at hq
    cases hq
    exact ⟨rfl, qzW_get (hp := (n, r1, h)) hk⟩
  refine ⟨fun i j p q hp hq he => ?_, fun k q hq => ?_⟩
  · obtain ⟨p1, p2⟩ := key i p hp
    obtain ⟨q1, q2⟩ := key j q hq
    exact hD.1 i j _ _ p2 q2 (by show ad i = ad j; rw [← p1, ← q1]; exact he)
  · obtain ⟨q1, q2⟩ := key k q hq
    rw [q1]
    exact hD.2 k _ q2
theorem qzRr_wf {h : Nat → Nat → Int32} : qzWf (67, qzRr qkPa, h) := by
  intro i j a ha
  show a < 67
  have ha' : qzRr qkPa i j = some a := ha
  by_cases hi : i < 67
  · by_cases h0 : (qzk i).1 = 0
    · have h53 : i ≤ 53 := (show ∀ i, i < 67 → (qzk i).1 = 0 → i ≤ 53 by decide) i hi h0
      unfold qzRr qkPa at ha'
      repeat' split at ha'
      all_goals (cases ha' <;> omega)
    · unfold qzRr qkPa at ha'
      repeat' split at ha'
      all_goals (cases ha' <;> omega)
  · have hlen : qzK.length = 67 := by decide
    have hle : qzK.length ≤ i := by omega
    have hk : ¬ (qzk i).1 = 0 := by
      unfold qzk
      rw [List.getD_eq_getElem?_getD, List.getElem?_eq_none hle]
      decide
    unfold qzRr qkPa at ha'
    repeat' split at ha'
    all_goals (cases ha' <;> omega)
section LG3
variable {p : Program} {l : Launch} {e : Env} {R : Room} {s : State} {m : MethodId} {args : Array Value} {below : List Frame} {meth : Method} {c : Code} {Q : State → Prop} {G : qzGT} {D : va_G} {z0 : Nat} {S : Nat → Nat} {b L : Nat} {xs : Nat → Int32} {pc : Nat} {ad : Nat → Nat} {lsS : Array Slot} {H : Heap} {locs : List Loc} {hp hp1 : qzH} {cells slots : Nat} {rest : List Value}
theorem lg_new {idx ci : Nat} (F : lgF p s m args c G D z0 S b L xs) (C : lgC G D z0 S s ad H locs hp) (h67 : hp.1 < 67) (hk : qzk hp.1 = (ci, qzNf ci)) (hc : ci < 4) (hlk : Cond.classLink R_law idx (qzRs ci) ∈ qzWs) (hin : Cond.instantiable (qzRs ci) (qzNf ci) ∈ qzWs) (hini : Cond.initialized (qzRs ci) ∈ qzWs) (hd : decode code pc = .ok (.new idx, 3)) (hcells : cells + 1 ≤ R.cells) (hslots : slots + qzNf ci ≤ R.slots)
    (kk : ∀ (q : Nat) (H1 : Heap), lgC G D z0 S s (qzAn ad hp.1 q) H1 locs (qzNu hp) → W p l e R s m args below meth c H1 locs (cells + 1) (slots + qzNf ci) Q (F0 m (pc + 3) lsS (.ref q :: rest))) : W p l e R s m args below meth c H locs cells slots Q (F0 m pc lsS rest) := by
  obtain ⟨hx, hb, hml, hown, hts, hK, hNw, hSt, hz, hX, hbz, hA⟩ := id F
  obtain ⟨c3, c4, c5, hP, hD, hS⟩ := id C
  refine va_new (tys := qzTys G) (own := R_law) (C := qzRs ci) (T := qzTs ci) (N := qzNf ci) (ci := ci) (fs := qzFs ad ci (fun _ => none) (fun _ => 0)) hx hb hts (qzU hc) (qzTy ci) (qzTy_ok hc) hown (hts _ hlk) (hts _ hin) (hts _ hini) hK hP hD hS hA (qzCl_at hc) ?_ hcells hslots hd (fun q H1 hP1 hD1 hS1 => ?_)
  · intro j hj
    unfold vp_V
    rw [List.getD_eq_getElem?_getD, qzFs_at hj, qzDef hc hj]
    rfl
  · have hx2 : qzE G (qzAn ad hp.1 q) (qzNu hp) hp.1 = .inr (ci, qzFs ad ci (fun _ => none) (fun _ => 0)) := by
      rw [qzEo (by rw [hk]) hc]
      exact congrArg (fun q => Sum.inr (ci, q)) (by rw [show (qzNu hp).2.1 hp.1 = fun _ => none from qzUr_at, show (qzNu hp).2.2 hp.1 = fun _ => 0 from qzUr_at]; rfl)
    rw [← qzW_nu c3 c5 hx2] at hP1 hD1
    refine kk q H1 ⟨c3.nu, fun i => ?_, ?_, hP1, hD1, hS1⟩
    · rw [qzAn_ag c5 (1000 + i) (Or.inr (by omega))]
      exact c4 i
    · show hp.1 + 1 < 1000
      omega
theorem lg_init {idx mj d i0 f : Nat} {st : List Value} (hTx : qzTx l) (F : lgF p s m args c G D z0 S b L xs) (C : lgC G D z0 S s ad H locs hp) (hls : lsS.size = 8) (hd : decode code pc = .ok (.invokespecial idx, 3)) (hlk : Cond.methodLink R_law idx (qzMd mj).1 ∈ qzWs)
    (hq : qzX f d mj 0 (qzLoc mj [.ref i0]) [] hp = some (none, hp1)) (hmj : mj < 149) (hkd : (qzMd mj).2.2.2.2.1 = 2) (hi0 : i0 < hp.1) (hn : (qzMd mj).2.2.2.2.2.1 = 0) (hla : 1 ≤ (qzMd mj).2.2.1) (hst : st = .ref (ad i0) :: rest) (hrest : (rest.map fun v => v.category).sum ≤ 8) (hR : d + 13 ≤ R.frames ∧ 500 + 100 * d ≤ R.locals ∧ cells + (hp1.1 - hp.1) ≤ R.cells ∧ slots + (qzSl hp1.1 - qzSl hp.1) ≤ R.slots)
    (kk : ∀ (ad' : Nat → Nat) (H1 : Heap) (locs1 : List Loc), qzAg hp.1 ad ad' → lgC G D z0 S s ad' H1 locs1 hp1 → W p l e R s m args below meth c H1 locs1 (cells + (hp1.1 - hp.1)) (slots + (qzSl hp1.1 - qzSl hp.1)) Q (F0 m (pc + 3) lsS rest)) : W p l e R s m args below meth c H locs cells slots Q (F0 m pc lsS st) := by
  obtain ⟨hx, hb, hml, hown, hts, hK, hNw, hSt, hz, -⟩ := id F
  obtain ⟨c3, c4, c5, hP, hD, hS⟩ := id C
  obtain ⟨pm1, pm2, pm3, pm4, ⟨pm5, pm6, pm7⟩, pmS, pmV, pmI⟩ := qzPm_at hmj
  obtain ⟨pi1, pi2, pi3⟩ := pmI hkd
  have hM : qzMet l G D z0 S ad d mj [.ref i0] hp none hp1 := qz_contract hTx hq hmj (List.forall_mem_cons.mpr ⟨Or.inl hi0, fun v hv => (List.not_mem_nil hv).elim⟩) hla c3 c5 c4
  have hS0 : CallFix p m c code 8 s args qzWs R_law := ⟨hx, hb, hml, hown, hts⟩
  have hp0 : PreS s H (va_Pc [.ref (ad i0)] (qzPre G D z0 S ad hp)) [.ref (ad i0)] := ⟨qzBlind, fun U hU hW => ⟨rfl, lgPre F C hU hW⟩⟩
  obtain ⟨r1, r2, r3, r4⟩ := hR
  have hroom : (qzRm d (hp1.1 - hp.1) (qzSl hp1.1 - qzSl hp.1)).frames + 1 ≤ R.frames ∧ 8 + ((qzMd mj).2.2.1 + 11) + (qzRm d (hp1.1 - hp.1) (qzSl hp1.1 - qzSl hp.1)).locals ≤ R.locals := ⟨by show d + 12 + 1 ≤ _; omega, by show 8 + ((qzMd mj).2.2.1 + 11) + (400 + 100 * d) ≤ _; omega⟩
  have hM' : Met l (qzMd mj).1 (Cond.code (qzMd mj).1 (qzMd mj).2.1 (qzMd mj).2.2.1 none :: qzWs) (qzRm d (hp1.1 - hp.1) (qzSl hp1.1 - qzSl hp.1)) (va_Pc [.ref (ad i0)] (qzPre G D z0 S ad hp)) (qzPost G D z0 S ad hp.1 none hp1) (hp1.1 - hp.1) (qzSl hp1.1 - qzSl hp.1) (qzA0 z0) := by
    have := hM
    unfold qzMet at this
    rw [pi3] at this
    exact this
  have pm2' : Cond.code (qzMd mj).1 (qzMd mj).2.1 (qzMd mj).2.2.1 none ∈ qzWs := by rw [pi3] at pm2; exact pm2
  have hrun : va_Run p l e R s m args below meth c H locs cells slots (hp1.1 - hp.1) (qzSl hp1.1 - qzSl hp.1) (F0 m pc lsS st) rest (qzPost G D z0 S ad hp.1 none hp1 [Value.ref (ad i0)].toArray) (qzA0 z0) :=
    va_runI (As := []) hS0 hM' ⟨callB_of (qzMd mj).2.2.2.2.2.1 hts (qzGood pm2') rfl rfl rfl (hts _ pm3) (hts _ hlk) pm4 hroom, pi1, hts _ pi2⟩ hp0 rfl hn.symm hls hst (by show 2 * 0 + _ ≤ 8; omega) hd ⟨r3, r4⟩
  refine qz_run hrun hS (fun ad' H1 locs1 hE hS1 => ?_)
  obtain ⟨e1, e2, e3, e4, e5, e6, e7⟩ := hE
  exact kk ad' H1 locs1 e1 ⟨e3, e2, e4, e6, e7, hS1⟩
end LG3
