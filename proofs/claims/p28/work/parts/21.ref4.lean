/-! the reference: what changes its state -/
def zU (m : Nat → Nat) (i v : Nat) : Nat → Nat := fun j => if j = i then v else m j
theorem zr_ne {h : Nat → Nat → Int32} {a i j : Nat} {v : Int32} (hne : ¬ i = j) : qzUp h a j v a i = h a i := by simp [qzUp, hne]
theorem zr_eq {h : Nat → Nat → Int32} {a i : Nat} {v : Int32} : qzUp h a i v a i = v := by simp [qzUp]
theorem zr_ot {h : Nat → Nat → Int32} {a b i j : Nat} {v : Int32} (hne : ¬ b = a) : qzUp h a j v b i = h b i := by simp [qzUp, hne]
theorem zHs_up {h : Nat → Nat → Int32} {m : Nat → Nat} {j v : Nat} (hs : ∀ i, i < 120 → h 61 i = nI (m i)) : ∀ i, i < 120 → qzUp h 61 j (nI v) 61 i = nI (zU m j v i) := by
  intro i hi
  by_cases e : i = j
  · subst e; rw [zr_eq]; simp [zU]
  · rw [zr_ne e, hs i hi]; simp [zU, e]
/-- 120 numbers of one row into another -/
def zCp (h : Nat → Nat → Int32) (fr to u v n : Nat) : Nat → Nat → Int32 := fun a i => if a = to ∧ v ≤ i ∧ i < v + n then h fr (u + (i - v)) else h a i
theorem zCp_0 {h : Nat → Nat → Int32} {fr to u v : Nat} : zCp h fr to u v 0 = h := by
  funext a i
  unfold zCp
  rw [if_neg (by omega)]
theorem zCp_step {h : Nat → Nat → Int32} {fr to u v n : Nat} (hne : ¬ fr = to) : qzUp (zCp h fr to u v n) to (v + n) (zCp h fr to u v n fr (u + n)) = zCp h fr to u v (n + 1) := by
  have e : zCp h fr to u v n fr (u + n) = h fr (u + n) := by unfold zCp; rw [if_neg (fun q => hne q.1)]
  rw [e]
  funext a i
  unfold qzUp zCp
  by_cases h1 : a = to
  · subst h1
    by_cases h2 : i = v + n
    · subst h2
      rw [if_pos ⟨rfl, rfl⟩, if_pos ⟨rfl, by omega, by omega⟩, Nat.add_sub_cancel_left]
    · rw [if_neg (fun q => h2 q.2)]
      by_cases h3 : v ≤ i ∧ i < v + n
      · rw [if_pos ⟨rfl, h3⟩, if_pos ⟨rfl, by omega⟩]
      · rw [if_neg (fun q => h3 q.2), if_neg (fun q => h3 (by omega))]
  · rw [if_neg (fun q => h1 q.1), if_neg (fun q => h1 q.1), if_neg (fun q => h1 q.1)]
section REF4
variable {d : Nat} {pa : Nat → Nat} {h : Nat → Nat → Int32} {m : Nat → Nat}
/-- the state behind a cut of k stripes, from the left (b = 1) or from the right -/
def zGoA (m : Nat → Nat) (k b : Nat) : Nat := if b = 0 then m 1 + m 2 - k else m 1
def zGoW (m : Nat → Nat) (k b : Nat) : Nat := zWo (zCol m) (m 6) (m 7) (zGoA m k b) k (m (28 + 6 * m 3 + 3))
def zGoP (m : Nat → Nat) : Nat := 40 + 40 * m 3 + 4 * m (28 + 6 * m 3 + 1)
def zGo' (m : Nat → Nat) (k b A w0 p0 iM iF : Nat) : Nat → Nat :=
  zU (zU (zU (zU (zU (zU (zU (zU (zU (zU (zU (zU (zU (zU m p0 A) (p0 + 1) k) (p0 + 2) w0) (p0 + 3) b)
    (28 + 6 * m 3 + 0) (m (28 + 6 * m 3 + 0) + w0)) (28 + 6 * m 3 + 1) (m (28 + 6 * m 3 + 1) + 1)) (28 + 6 * m 3 + 2) (m (28 + 6 * m 3 + 2) + k))
    (28 + 6 * m 3 + 4) (m (28 + 6 * m 3 + 4) + iM)) (28 + 6 * m 3 + 5) (m (28 + 6 * m 3 + 5) + iF))
    (28 + 6 * m 3 + 3) (m (8 + A + k - 1) + 1)) 1 (m 1 + (if b = 0 then 0 else k))) 2 (m 2 - k)) 3 (1 - m 3)) 4 (m 4 + 1)
def zGo (m : Nat → Nat) (k b : Nat) : Nat → Nat :=
  zU (zU (zU (zU (zU (zU (zU (zU (zU (zU (zU (zU (zU (zU m (zGoP m) (zGoA m k b)) (zGoP m + 1) k) (zGoP m + 2) (zGoW m k b)) (zGoP m + 3) b)
    (28 + 6 * m 3 + 0) (m (28 + 6 * m 3 + 0) + zGoW m k b)) (28 + 6 * m 3 + 1) (m (28 + 6 * m 3 + 1) + 1)) (28 + 6 * m 3 + 2) (m (28 + 6 * m 3 + 2) + k))
    (28 + 6 * m 3 + 4) (m (28 + 6 * m 3 + 4) + (if m (28 + 6 * m 3 + 3) = m (8 + zGoA m k b) + 1 then 1 else 0))) (28 + 6 * m 3 + 5) (m (28 + 6 * m 3 + 5) + (if zFo (zCol m) (zGoA m k b) k then 1 else 0)))
    (28 + 6 * m 3 + 3) (m (8 + zGoA m k b + k - 1) + 1)) 1 (m 1 + (if b = 0 then 0 else k))) 2 (m 2 - k)) 3 (1 - m 3)) 4 (m 4 + 1)
end REF4
