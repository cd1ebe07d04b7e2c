/-! the reference: the cuts of the pad, all -/
/-- the signs of one cut, on the pad -/
def zOk (pd : Nat → Nat) (ln t : Nat) : Prop := (pd t = 98 ∨ pd t = 103) ∨ ((pd t = 108 ∨ pd t = 114) ∧ t + 1 < ln ∧ 49 ≤ pd (t + 1) ∧ pd (t + 1) ≤ 53)
def zSt (pd : Nat → Nat) (t : Nat) : Nat := if pd t = 98 ∨ pd t = 103 then 1 else 2
/-- the cuts of the pad, from a place: how many were made, and the state after them -/
def zPy (pd : Nat → Nat) (ln : Nat) : Nat → Nat → Nat → (Nat → Nat) → Nat × (Nat → Nat)
  | 0, _, q, m => (q, m)
  | r + 1, t, q, m => if t < ln then (if (zMk m (pd t) (pd (t + 1))).1 = 1 then zPy pd ln r (t + zSt pd t) (q + 1) (zMk m (pd t) (pd (t + 1))).2 else (q, m)) else (q, m)
theorem zMk_0 {m : Nat → Nat} {c c1 : Nat} : ((zMk m c c1).1 = 0 ∧ (zMk m c c1).2 = m) ∨ ((zMk m c c1).1 = 1 ∧ ∃ k b, (zMk m c c1).2 = zGo m k b) := by
  unfold zMk
  split
  · split
    · exact Or.inl ⟨rfl, rfl⟩
    · exact Or.inr ⟨rfl, _, _, rfl⟩
  · split
    · exact Or.inr ⟨rfl, _, _, rfl⟩
    · exact Or.inl ⟨rfl, rfl⟩
theorem zAc_z {c : Nat → Nat} {ln : Nat} : ∀ (r : Nat) (p : Nat × Nat), p.1 = 0 → (zAc c ln r p).1 = 0 := by
  intro r
  cases r with
  | zero => intro p hp; exact hp
  | succ r =>
    intro p hp
    unfold zAc
    rw [if_neg (fun z => by omega)]
    exact hp
theorem zCh_pos {pd : Nat → Nat} {ln i v : Nat} (h : zCh pd ln i = v) (hv : 1 ≤ v) : i < ln ∧ pd i = v := by
  unfold zCh at h
  split at h
  · exact ⟨by assumption, h⟩
  · omega
theorem zTc_one {pd : Nat → Nat} {ln t : Nat} (h : (zTc (zCh pd ln) t).1 = 1) : zOk pd ln t ∧ zTc (zCh pd ln) t = (1, t + zSt pd t) := by
  unfold zTc at h ⊢
  by_cases q1 : zCh pd ln t = 98 ∨ zCh pd ln t = 103
  · rw [if_pos q1]
    have q2 : pd t = 98 ∨ pd t = 103 := by
      rcases q1 with z | z
      · exact Or.inl (zCh_pos z (by omega)).2
      · exact Or.inr (zCh_pos z (by omega)).2
    refine ⟨Or.inl q2, ?_⟩
    unfold zSt
    rw [if_pos q2]
  · rw [if_neg q1] at h ⊢
    by_cases q2 : zCh pd ln t = 108 ∨ zCh pd ln t = 114
    · rw [if_pos q2] at h ⊢
      by_cases q3 : 49 ≤ zCh pd ln (t + 1) ∧ zCh pd ln (t + 1) ≤ 53
      · rw [if_pos q3]
        have e1 := zCh_pos (pd := pd) (ln := ln) (i := t + 1) rfl (by omega)
        have e2 : pd t = 108 ∨ pd t = 114 := by
          rcases q2 with z | z
          · exact Or.inl (zCh_pos z (by omega)).2
          · exact Or.inr (zCh_pos z (by omega)).2
        refine ⟨Or.inr ⟨e2, e1.1, by omega, by omega⟩, ?_⟩
        unfold zSt
        rw [if_neg (by omega)]
      · rw [if_neg q3] at h
        exact absurd (show (0 : Nat) = 1 from h) (by decide)
    · rw [if_neg q2] at h
      exact absurd (show (0 : Nat) = 1 from h) (by decide)
theorem zTB.mk {h h' : Nat → Nat → Int32} {m : Nat → Nat} {c c1 : Nat} (ht : zTB h m) (hi : zInv m) (hf : h' 66 = h 66) : zTB h' (zMk m c c1).2 := by
  rcases zMk_0 (m := m) (c := c) (c1 := c1) with ⟨_, e⟩ | ⟨_, k, b, e⟩
  · rw [e]
    intro f l own oth h1 h2 h3 h4
    rw [hf]
    exact ht f l own oth h1 h2 h3 h4
  · rw [e]
    exact ht.go hi hf
section REF19
variable {d : Nat} {pa : Nat → Nat} {h : Nat → Nat → Int32} {m : Nat → Nat} {P : Nat → Nat → Nat} {n : Nat} {K : Nat → Nat} {ik : Nat} {pd : Nat → Nat} {ln : Nat}
end REF19
