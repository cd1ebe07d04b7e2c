/-! the constructors, run by the kernel: what a new class object and a new reference hold -/
def qkPa : Nat → Nat := fun k => 32 + 7 * k
def qkH0 : qzH := qzNu (0, fun _ _ => none, fun _ _ => 0)
/-- a new game, as the reference's numbers -/
def qkM (i : Nat) : Nat := match i with
  | 0 => 12
  | 2 => 12
  | 5 => 4
  | 6 => 3
  | 7 => 2
  | i => if 8 ≤ i ∧ i < 20 then (i - 8) % 3 else 0
def qkRf (i : Nat) : Nat := if (qzk i).1 = 4 ∨ (qzk i).1 = 5 then 0 else if (qzk i).1 = 6 then (qzk i).2 else qzNf (qzk i).1
def qkP (hp : qzH) : Bool :=
  ((List.range 67).all fun i => (List.range (qkRf i)).all fun k => decide (hp.2.1 i k = qzRr qkPa i k)) &&
  (((List.range 120).all fun i => decide (hp.2.2 61 i = Int32.ofNat (qkM i))) &&
  (((List.range 12).all fun i => decide (hp.2.2 2 i = Int32.ofNat (qkM (8 + i)))) &&
  (((List.range 3).all fun i => decide (hp.2.2 3 i = Int32.ofNat (qkM (5 + i)))) &&
  ([(1, 6, 12), (1, 7, 0), (1, 8, 12), (1, 9, 0), (0, 3, 0), (0, 5, 0), (0, 7, 0), (60, 3, 0), (60, 5, 0), (60, 7, 0), (24, 3, 0), (28, 3, 0), (26, 0, 0), (26, 1, 0), (26, 2, 0), (30, 0, 0), (30, 1, 0), (30, 2, 0)] : List (Nat × Nat × Nat)).all fun q => decide (hp.2.2 q.1 q.2.1 = Int32.ofNat q.2.2))))
def qkRun : Bool := match qzX 4000 6 24 0 (qzLoc 24 [.ref 0]) [] qkH0 with
  | some (none, hp) => decide (hp.1 = 60) && (match qzX 4000 6 86 0 (qzLoc 86 [.ref 60]) [] (qzNu hp) with
    | some (none, hp2) => decide (hp2.1 = 67) && qkP hp2
    | _ => false)
  | _ => false
set_option maxRecDepth 100000 in
theorem qk_run : qkRun = true := by decide +kernel
theorem qk_ex : ∃ hp1 hp2 : qzH, qzX 4000 6 24 0 (qzLoc 24 [.ref 0]) [] qkH0 = some (none, hp1) ∧ hp1.1 = 60 ∧ qzX 4000 6 86 0 (qzLoc 86 [.ref 60]) [] (qzNu hp1) = some (none, hp2) ∧ hp2.1 = 67 ∧ qkP hp2 = true := by
  have h := qk_run
  unfold qkRun at h
  split at h
  · rename_i hp e1
    obtain ⟨h1, h2⟩ := Bool.and_eq_true_iff.mp h
    split at h2
    · rename_i hp2 e2
      obtain ⟨h3, h4⟩ := Bool.and_eq_true_iff.mp h2
      exact ⟨hp, hp2, e1, of_decide_eq_true h1, e2, of_decide_eq_true h3, h4⟩
    · cases h2
  · cases h
theorem qk_inv : zInv qkM := by
  refine ⟨by decide, by decide, by decide, by decide, by decide, by decide, by decide, fun i hi => ?_, fun t ht => ?_, fun i h1 h2 => ?_⟩
  · exact (show ∀ i, i < 20 → qkM (8 + i) ≤ 5 by decide) i hi
  · rcases (by omega : t = 0 ∨ t = 1) with e | e <;> subst e <;> decide
  · exact Nat.le_trans ((show ∀ i, i < 120 → 40 ≤ i → qkM i ≤ 30 by decide) i h2 h1) (Nat.le_refl _)
theorem qk_gInv {T : Nat → Nat} : gInv qkM T := by
  refine ⟨fun j hj => absurd hj (Nat.not_lt_zero _), fun t ht => ?_⟩
  have e : ∀ w, w ≤ 5 → qkM (28 + 6 * t + w) = 0 := fun w hw => by
    have := (show ∀ i, i < 40 → 28 ≤ i → qkM i = 0 by decide) (28 + 6 * t + w) (by omega) (by omega)
    exact this
  rw [e 0 (by omega), e 2 (by omega), e 3 (by omega), e 4 (by omega), e 5 (by omega), show qkM 4 = 0 from rfl]
  exact ⟨rfl, rfl, rfl, rfl, fun _ => rfl, fun z => by omega⟩
/-- what a check of a list says of its places -/
theorem qk_all {l : List Nat} {P : Nat → Bool} (h : l.all P = true) {i : Nat} (hi : i ∈ l) : P i = true := List.all_eq_true.mp h i hi
theorem qk_facts {hp : qzH} (h : qkP hp = true) : (∀ i, i < 67 → ∀ k, k < qkRf i → hp.2.1 i k = qzRr qkPa i k) ∧ cRel hp.2.2 qkPa qkM (fun _ => 0) (fun _ _ => 0) (fun _ _ => 0) 0 (fun _ => 0) (fun _ => 0) 0 (fun _ => 0) 0 ∧ zRel hp.2.2 qkM (fun _ _ => 0) 0 (fun _ => 0) 0 (fun _ => 0) 0 ∧ lOk hp.2.2 24 ∧ lOk hp.2.2 28 := by
  unfold qkP at h
  obtain ⟨a1, h⟩ := Bool.and_eq_true_iff.mp h
  obtain ⟨a2, h⟩ := Bool.and_eq_true_iff.mp h
  obtain ⟨a3, h⟩ := Bool.and_eq_true_iff.mp h
  obtain ⟨a4, h⟩ := Bool.and_eq_true_iff.mp h
  have n : ∀ q ∈ ([(1, 6, 12), (1, 7, 0), (1, 8, 12), (1, 9, 0), (0, 3, 0), (0, 5, 0), (0, 7, 0), (60, 3, 0), (60, 5, 0), (60, 7, 0), (24, 3, 0), (28, 3, 0), (26, 0, 0), (26, 1, 0), (26, 2, 0), (30, 0, 0), (30, 1, 0), (30, 2, 0)] : List (Nat × Nat × Nat)), hp.2.2 q.1 q.2.1 = nI q.2.2 := fun q hq => of_decide_eq_true (List.all_eq_true.mp h q hq)
  have m61 : ∀ i, i < 120 → hp.2.2 61 i = nI (qkM i) := fun i hi => of_decide_eq_true (qk_all a2 (List.mem_range.mpr hi))
  have m2 : ∀ i, i < 12 → hp.2.2 2 i = nI (qkM (8 + i)) := fun i hi => of_decide_eq_true (qk_all a3 (List.mem_range.mpr hi))
  have m3 : ∀ i, i < 3 → hp.2.2 3 i = nI (qkM (5 + i)) := fun i hi => of_decide_eq_true (qk_all a4 (List.mem_range.mpr hi))
  have q := fun a k v (hq : (a, k, v) ∈ ([(1, 6, 12), (1, 7, 0), (1, 8, 12), (1, 9, 0), (0, 3, 0), (0, 5, 0), (0, 7, 0), (60, 3, 0), (60, 5, 0), (60, 7, 0), (24, 3, 0), (28, 3, 0), (26, 0, 0), (26, 1, 0), (26, 2, 0), (30, 0, 0), (30, 1, 0), (30, 2, 0)] : List (Nat × Nat × Nat))) => (n (a, k, v) hq : hp.2.2 a k = nI v)
  refine ⟨fun i hi k hk => of_decide_eq_true (qk_all (qk_all a1 (List.mem_range.mpr hi)) (List.mem_range.mpr hk)), ⟨⟨⟨⟨q 1 6 12 (by decide), q 1 7 0 (by decide), q 1 8 12 (by decide), q 1 9 0 (by decide)⟩, m2, m3, fun j hj => absurd hj (Nat.not_lt_zero _)⟩, qk_gInv, qk_inv⟩, ⟨q 0 5 0 (by decide), by omega, ?_, ?_, fun k hk => absurd hk (Nat.not_lt_zero _)⟩, ⟨q 0 3 0 (by decide), by omega, fun z => by omega⟩, fun i hi => absurd hi (Nat.not_lt_zero _), q 0 7 0 (by decide), by omega, fun i hi => absurd hi (Nat.not_lt_zero _)⟩, ⟨m61, qk_inv, ⟨fun k hk => absurd hk (Nat.not_lt_zero _), q 60 3 0 (by decide), by omega, fun k hk => absurd hk (Nat.not_lt_zero _)⟩, ⟨fun z => by omega, q 60 5 0 (by decide), by omega⟩, fun i hi => absurd hi (Nat.not_lt_zero _), q 60 7 0 (by decide), by omega, fun i hi => absurd hi (Nat.not_lt_zero _)⟩, ⟨fun _ => 0, 0, 0, 0, 0, q 24 3 0 (by decide), by omega, fun i hi => absurd hi (Nat.not_lt_zero _), ⟨q 26 0 0 (by decide), q 26 1 0 (by decide), q 26 2 0 (by decide)⟩, ⟨by omega, by omega, by omega⟩, fun f en own oth h1 h2 => by omega⟩, ⟨fun _ => 0, 0, 0, 0, 0, q 28 3 0 (by decide), by omega, fun i hi => absurd hi (Nat.not_lt_zero _), ⟨q 30 0 0 (by decide), q 30 1 0 (by decide), q 30 2 0 (by decide)⟩, ⟨by omega, by omega, by omega⟩, fun f en own oth h1 h2 => by omega⟩⟩
  · intro k hk
    unfold pB qkPa
    omega
  · intro j k hj hk e
    unfold qkPa at e
    omega
