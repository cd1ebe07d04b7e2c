/-! the reference: the texts -/
/-- the sign at a place, 0 behind the pad -/
def zCh (pd : Nat → Nat) (ln i : Nat) : Nat := if i < ln then pd i else 0
/-- only the reading's own numbers changed -/
def zSx (h h' : Nat → Nat → Int32) : Prop := (∀ a, a ≠ 60 → h' a = h a) ∧ ∀ j, j < 9 → h' 60 j = h 60 j
theorem zSx.tr {a b c : Nat → Nat → Int32} (h1 : zSx a b) (h2 : zSx b c) : zSx a c := ⟨fun i hi => (h2.1 i hi).trans (h1.1 i hi), fun j hj => (h2.2 j hj).trans (h1.2 j hj)⟩
theorem zSx.rf {a : Nat → Nat → Int32} : zSx a a := ⟨fun _ _ => rfl, fun _ _ => rfl⟩
theorem zSx.up {h : Nat → Nat → Int32} {j : Nat} {v : Int32} (hj : 9 ≤ j) : zSx h (qzUp h 60 j v) := ⟨fun a ha => qzUp_ne ha, fun k hk => by simp [qzUp]; omega⟩
theorem z60_ne {h : Nat → Nat → Int32} {i j : Nat} {v : Int32} (hne : ¬ i = j) : qzUp h 60 j v 60 i = h 60 i := by simp [qzUp, hne]
theorem z60_eq {h : Nat → Nat → Int32} {i : Nat} {v : Int32} : qzUp h 60 i v 60 i = v := by simp [qzUp]
theorem z60_65 {h : Nat → Nat → Int32} {j : Nat} {v : Int32} : qzUp h 60 j v 65 = h 65 := qzUp_ne (by omega)
/-- the pad, and where the reading stands -/
def zPd (h : Nat → Nat → Int32) (pd : Nat → Nat) (ln : Nat) : Prop := (∀ i, i < ln → h 65 i = nI (pd i)) ∧ h 60 7 = nI ln ∧ ln ≤ 60 ∧ ∀ i, i < ln → 33 ≤ pd i ∧ pd i ≤ 126
theorem zPd.sx {h h' : Nat → Nat → Int32} {pd : Nat → Nat} {ln : Nat} (hp : zPd h pd ln) (hx : zSx h h') : zPd h' pd ln := ⟨fun i hi => by rw [hx.1 65 (by omega)]; exact hp.1 i hi, by rw [hx.2 7 (by omega)]; exact hp.2.1, hp.2.2⟩
theorem zCh_le {h : Nat → Nat → Int32} {pd : Nat → Nat} {ln i : Nat} (hp : zPd h pd ln) : zCh pd ln i ≤ 126 := by
  unfold zCh
  split
  · exact (hp.2.2.2 i (by assumption)).2
  · omega
section REF13
variable {d : Nat} {pa : Nat → Nat} {h : Nat → Nat → Int32} {pd : Nat → Nat} {ln : Nat}
/-- a cut on the pad: whether it is one so far, and the place behind -/
def zTc (c : Nat → Nat) (s : Nat) : Nat × Nat := if c s = 98 ∨ c s = 103 then (1, s + 1) else if c s = 108 ∨ c s = 114 then (if 49 ≤ c (s + 1) ∧ c (s + 1) ≤ 53 then (1, s + 2) else (0, s + 1)) else (0, s)
def zAc (c : Nat → Nat) (ln : Nat) : Nat → Nat × Nat → Nat × Nat
  | 0, p => p
  | r + 1, p => if p.1 = 1 ∧ p.2 < ln then zAc c ln r (zTc c p.2) else p
theorem zTc_in {c : Nat → Nat} {s : Nat} : (zTc c s).1 ≤ 1 ∧ s ≤ (zTc c s).2 ∧ (zTc c s).2 ≤ s + 2 ∧ ((zTc c s).1 = 1 → s < (zTc c s).2) := by
  unfold zTc
  repeat' split
  all_goals simp
end REF13
