/-! the reference: the cuts of the pad, one -/
theorem zWo_cg {c c' : Nat → Nat} {F M a n L : Nat} (hn : 1 ≤ n) (h : ∀ i, a ≤ i → i < a + n → c i = c' i) : zWo c F M a n L = zWo c' F M a n L := by
  have ha := h a (Nat.le_refl _) (by omega)
  have hz : zFo c a n ↔ zFo c' a n := by
    constructor
    · intro z
      exact ⟨z.1, fun k hk => by rw [← h (a + k) (by omega) (by omega), ← h (a + n - 1 - k) (by omega) (by omega)]; exact z.2 k hk⟩
    · intro z
      exact ⟨z.1, fun k hk => by rw [h (a + k) (by omega) (by omega), h (a + n - 1 - k) (by omega) (by omega)]; exact z.2 k hk⟩
  unfold zWo
  rw [ha]
  by_cases z : zFo c a n
  · rw [if_pos z, if_pos (hz.1 z)]
  · rw [if_neg z, if_neg (fun y => z (hz.2 y))]
theorem zL_cg {c c' : Nat → Nat} {F M G : Nat} : ∀ (n l f own oth : Nat), l ≤ n → (∀ i, f ≤ i → i < f + l → c i = c' i) → zL c F M G f l own oth = zL c' F M G f l own oth := by
  intro n
  induction n with
  | zero =>
    intro l f own oth hl h
    have e : l = 0 := by omega
    subst e
    rw [zL_0, zL_0]
  | succ n ih =>
    intro l f own oth hl h
    by_cases e : l = 0
    · subst e; rw [zL_0, zL_0]
    · rw [zL_eq (by omega), zL_eq (by omega)]
      refine zMx_congr (fun k k1 k2 => ?_)
      unfold zBoth zCand
      rw [if_pos rfl, if_neg (by omega), if_pos rfl, if_neg (by omega)]
      rw [zWo_cg (c := c) (c' := c') (a := f) (n := k) k1 (fun i h1 h2 => h i h1 (by omega)), zWo_cg (c := c) (c' := c') (a := f + l - k) (n := k) k1 (fun i h1 h2 => h i (by omega) (by omega)), h (f + k - 1) (by omega) (by omega), h (f + l - 1) (by omega) (by omega), ih (l - k) (f + k) _ _ (by omega) (fun i h1 h2 => h i (by omega) (by omega)), ih (l - k) f _ _ (by omega) (fun i h1 h2 => h i (by omega) (by omega))]
/-- the table of leads holds -/
def zTB (h : Nat → Nat → Int32) (m : Nat → Nat) : Prop := ∀ f l own oth, 1 ≤ l → f + l ≤ m 0 → own ≤ 6 → oth ≤ 6 → h 66 (zAt f l own oth) = iI (zL (zCol m) (m 6) (m 7) (m 5) f l own oth)
theorem zTB.go {h h' : Nat → Nat → Int32} {m : Nat → Nat} {k b : Nat} (ht : zTB h m) (hi : zInv m) (hf : h' 66 = h 66) : zTB h' (zGo m k b) := by
  intro f l own oth h1 h2 h3 h4
  have ht1 : m 3 ≤ 1 := by obtain ⟨_, _, h3, _⟩ := hi; omega
  have h20 : m 0 ≤ 20 := hi.1.2
  obtain ⟨l0, l1, l2, l3, l4, l5, l6, l7⟩ := zGo_lo (m := m) (k := k) (b := b) ht1
  rw [l0] at h2
  rw [hf, ht f l own oth h1 h2 h3 h4, l5, l6, l7]
  congr 1
  exact zL_cg l l f own oth (Nat.le_refl _) (fun i i1 i2 => (zGo_col ht1 (by omega) (by omega)).symm)
theorem ngz : (-nI 2 = nI 0) = False := by decide
theorem nd_108_98 : ((108 : Nat) = 98) = False := by decide
theorem nd_108_103 : ((108 : Nat) = 103) = False := by decide
theorem nd_114_98 : ((114 : Nat) = 98) = False := by decide
theorem nd_114_103 : ((114 : Nat) = 103) = False := by decide
theorem nd_114_108 : ((114 : Nat) = 108) = False := by decide
theorem nd_103_98 : ((103 : Nat) = 98) = False := by decide
theorem nd_98_103 : ((98 : Nat) = 103) = False := by decide
/-- a cut of the pad: whether it is possible, and the state after it -/
def zMk (m : Nat → Nat) (c c1 : Nat) : Nat × (Nat → Nat) :=
  if c = 98 ∨ c = 103 then (if m 2 = 0 then (0, m) else (1, zGo m (zBn m (if c = 103 then 1 else 0)) (zBb m (if c = 103 then 1 else 0))))
  else (if c1 - 48 ≤ m 2 ∧ c1 - 48 ≤ m 5 then (1, zGo m (c1 - 48) (if c = 108 then 1 else 0)) else (0, m))
section REF18
variable {d : Nat} {pa : Nat → Nat} {h : Nat → Nat → Int32} {m : Nat → Nat} {P : Nat → Nat → Nat} {n : Nat} {K : Nat → Nat} {ik : Nat} {pd : Nat → Nat} {ln : Nat}
end REF18
