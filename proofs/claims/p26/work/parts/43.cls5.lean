/-! the class: a game after a cut is the numbers after it -/
theorem zAnd_odd : ∀ t, t < 8 → t % 2 = 0 → (t + 1) &&& 2 = t &&& 2 ∧ (t + 1) &&& 4 = t &&& 4 := by decide
/-- the traits after a cut -/
def zTn (m T : Nat → Nat) (k g : Nat) : Nat → Nat := fun j => if j = m 4 then (if g = 0 then zTr (zCol m) (zGoA m k g) k (zEn (m (28 + 6 * m 3 + 3))) else zTr (zCol m) (zGoA m k g) k (zEn (m (28 + 6 * m 3 + 3))) + 1) else T j
theorem zSm_cg {v w : Nat → Nat} {t : Nat} : ∀ (n : Nat), (∀ j, j < n → v j = w j) → zSm v t n = zSm w t n := by
  intro n
  induction n with
  | zero => intro _; rfl
  | succ n ih =>
    intro h
    show zSm v t n + _ = zSm w t n + _
    rw [ih (fun j hj => h j (by omega)), h n (by omega)]
theorem zSm_one {v : Nat → Nat} {t n : Nat} : zSm v t (n + 1) = zSm v t n + (if n % 2 = t then v n else 0) := rfl
theorem zQ_P {m : Nat → Nat} (hi : zInv m) : zGoP m = zQ (m 4) := by
  have h3 := hi.2.2.1
  have := (hi.2.2.2.2.2.2.2.2.1 (m 3) (by omega)).2.1
  unfold zGoP zQ
  omega
section CLS6
variable {h : Nat → Nat → Int32} {b : Nat} {m T : Nat → Nat} {k g : Nat}
/-- the pieces after a cut -/
theorem zGo_q {j w : Nat} (hi : zInv m) (h19 : m 4 < 20) (hj : j ≤ m 4) (hw : w < 4) : zGo m k g (zQ j + w) = if j = m 4 then (if w = 0 then zGoA m k g else if w = 1 then k else if w = 2 then zGoW m k g else g) else m (zQ j + w) := by
  have h3 := hi.2.2.1
  have hq : 40 ≤ zQ j := by unfold zQ; omega
  rw [zGo_pc (by omega) (by omega), zQ_P hi]
  by_cases e : j = m 4
  · rw [if_pos e, e]
    rcases (by omega : w = 0 ∨ w = 1 ∨ w = 2 ∨ w = 3) with r | r | r | r <;> subst r <;> simp
  · rw [if_neg e]
    have n : ∀ w', w' < 4 → ¬ zQ j + w = zQ (m 4) + w' := fun w' hw' z => by unfold zQ at z; omega
    have n0 := n 0 (by omega)
    rw [Nat.add_zero] at n0
    rw [if_neg n0, if_neg (n 1 (by omega)), if_neg (n 2 (by omega)), if_neg (n 3 (by omega))]
theorem zTn_in (hi : zInv m) (hg1 : g ≤ 1) : zTn m T k g (m 4) ≤ 7 ∧ zTn m T k g (m 4) % 2 = g ∧ (zTn m T k g (m 4) &&& 2 = 0 ↔ ¬ m (8 + zGoA m k g) = zEn (m (28 + 6 * m 3 + 3))) ∧ (zTn m T k g (m 4) &&& 4 = 0 ↔ ¬ (2 ≤ k ∧ zFp (zCol m) (zGoA m k g) k)) := by
  have hz := zTr_in (c := zCol m) (s := zGoA m k g) (k := k) (E := zEn (m (28 + 6 * m 3 + 3)))
  have ho := zAnd_odd (zTr (zCol m) (zGoA m k g) k (zEn (m (28 + 6 * m 3 + 3)))) (by omega) hz.2.1
  unfold zTn
  rw [if_pos rfl]
  by_cases e : g = 0
  · rw [if_pos e]
    exact ⟨by omega, by omega, hz.2.2.1, hz.2.2.2⟩
  · rw [if_neg e, ho.1, ho.2]
    exact ⟨by omega, by omega, hz.2.2.1, hz.2.2.2⟩
theorem gSw_rel (hb : gB b) (hg : gRel h b m T) (hi : zInv m) (hk : 1 ≤ k) (hk2 : k ≤ m 2) (hg1 : g ≤ 1) : gRel (zSw h b m k g) b (zGo m k g) (zTn m T k g) := by
  obtain ⟨⟨g6, g7, g8, g9⟩, gc, gs, gp⟩ := hg
  have h3 := hi.2.2.1
  have ht1 : m 3 ≤ 1 := by omega
  have h20 := hi.1.2
  have h19 : m 4 < 20 := by have := hi.2.2.2.1; omega
  obtain ⟨l0, l1, l2, l3, l4, l5, l6, l7⟩ := zGo_lo (m := m) (k := k) (b := g) ht1
  refine ⟨⟨?_, ?_, ?_, ?_⟩, fun i hi2 => ?_, fun j hj => ?_, fun j hj => ?_⟩
  · rw [l0, ← g6]; simp [zSw, qzUp]
  · rw [l1]
    have e : (if g = 0 then m 1 else m 1 + k) = m 1 + (if g = 0 then 0 else k) := by split <;> omega
    rw [← e]
    simp [zSw, qzUp]
  · rw [l1, l2]
    have e : (if g = 0 then m 1 + m 2 - k else m 1 + m 2) = m 1 + (if g = 0 then 0 else k) + (m 2 - k) := by split <;> omega
    rw [← e]
    simp [zSw, qzUp]
  · rw [l4]; simp [zSw, qzUp]
  · rw [l0] at hi2
    rw [zGo_col ht1 (by omega) (by omega), ← gc i hi2]
    simp [zSw, qzUp]
  · rw [show zGo m k g (5 + j) = m (5 + j) by
      rcases (by omega : j = 0 ∨ j = 1 ∨ j = 2) with e | e | e
      · rw [e]; exact l5
      · rw [e]; exact l6
      · rw [e]; exact l7, ← gs j hj]
    simp [zSw, qzUp]
  · rw [l4] at hj
    have q0 := zGo_q (k := k) (g := g) (j := j) (w := 0) hi h19 (by omega) (by omega)
    have q1 := zGo_q (k := k) (g := g) (j := j) (w := 1) hi h19 (by omega) (by omega)
    have q2 := zGo_q (k := k) (g := g) (j := j) (w := 2) hi h19 (by omega) (by omega)
    rw [Nat.add_zero] at q0
    rw [q0, q1, q2]
    by_cases e : j = m 4
    · unfold zTn
      simp [e, zSw, qzUp]
    · obtain ⟨p1, p2, p3, p4⟩ := gp j (by omega)
      unfold zTn
      simp [e, zSw, qzUp, p1, p2, p3, p4]
theorem gSw_inv (hI : gInv m T) (hi : zInv m) (hk : 1 ≤ k) (hk2 : k ≤ m 2) (hg1 : g ≤ 1) : gInv (zGo m k g) (zTn m T k g) := by
  obtain ⟨i1, i2⟩ := hI
  have h3 := hi.2.2.1
  have ht1 : m 3 ≤ 1 := by omega
  have h20 := hi.1.2
  have h12 := hi.2.1
  have h40 := hi.2.2.2.1
  have h19 : m 4 < 20 := by omega
  obtain ⟨l0, l1, l2, l3, l4, l5, l6, l7⟩ := zGo_lo (m := m) (k := k) (b := g) ht1
  obtain ⟨t1, t2, t3, t4⟩ := zTn_in (m := m) (T := T) (k := k) (g := g) hi hg1
  have hA : zGoA m k g = (if g = 0 then m 1 + m 2 - k else m 1) := rfl
  have hTo : ∀ j, j < m 4 → zTn m T k g j = T j := fun j hj => by unfold zTn; rw [if_neg (by omega)]
  have hq : ∀ j w, j < m 4 → w < 4 → zGo m k g (zQ j + w) = m (zQ j + w) := fun j w hj hw => by rw [zGo_q hi h19 (by omega) hw, if_neg (by omega)]
  have hq0 : ∀ j, j < m 4 → zGo m k g (zQ j) = m (zQ j) := fun j hj => hq j 0 hj (by omega)
  have n0 : zGo m k g (zQ (m 4)) = zGoA m k g := by have := zGo_q (k := k) (g := g) (j := m 4) (w := 0) hi h19 (Nat.le_refl _) (by omega); simpa using this
  have n1 : zGo m k g (zQ (m 4) + 1) = k := by have := zGo_q (k := k) (g := g) (j := m 4) (w := 1) hi h19 (Nat.le_refl _) (by omega); simpa using this
  have n2 : zGo m k g (zQ (m 4) + 2) = zGoW m k g := by have := zGo_q (k := k) (g := g) (j := m 4) (w := 2) hi h19 (Nat.le_refl _) (by omega); simpa using this
  have n3 : zGo m k g (zQ (m 4) + 3) = g := by have := zGo_q (k := k) (g := g) (j := m 4) (w := 3) hi h19 (Nat.le_refl _) (by omega); simpa using this
  refine ⟨fun j hj => ?_, fun t htt => ?_⟩
  · rw [l4] at hj
    rw [l0, l1, l2]
    by_cases e : j = m 4
    · rw [e, n0, n1, n3]
      refine ⟨hk, ?_, ?_, t1, t2⟩
      · rw [hA]; split <;> omega
      · rw [hA]
        by_cases e0 : g = 0
        · rw [if_pos e0, if_pos e0]; omega
        · rw [if_neg e0, if_neg e0]; omega
    · obtain ⟨a1, a2, a3, a4, a5⟩ := i1 j (by omega)
      rw [hq0 j (by omega), hq j 1 (by omega) (by omega), hq j 3 (by omega) (by omega), hTo j (by omega)]
      refine ⟨a1, a2, ?_, a4, a5⟩
      split <;> omega
  · obtain ⟨s0, s2, s4, s5, s6, s7⟩ := i2 t htt
    have z0 : zSm (fun j => zGo m k g (zQ j + 2)) t (m 4) = zSm (fun j => m (zQ j + 2)) t (m 4) := zSm_cg _ (fun j hj => hq j 2 hj (by omega))
    have z2 : zSm (fun j => zGo m k g (zQ j + 1)) t (m 4) = zSm (fun j => m (zQ j + 1)) t (m 4) := zSm_cg _ (fun j hj => hq j 1 hj (by omega))
    have z4 : zSm (fun j => if zTn m T k g j &&& 2 = 0 then 0 else 1) t (m 4) = zSm (fun j => if T j &&& 2 = 0 then 0 else 1) t (m 4) := zSm_cg _ (fun j hj => by simp only [hTo j hj])
    have z5 : zSm (fun j => if zTn m T k g j &&& 4 = 0 then 0 else 1) t (m 4) = zSm (fun j => if T j &&& 4 = 0 then 0 else 1) t (m 4) := zSm_cg _ (fun j hj => by simp only [hTo j hj])
    rw [l4, zSm_one, zSm_one, zSm_one, zSm_one, z0, z2, z4, z5, ← s0, ← s2, ← s4, ← s5]
    by_cases e : t = m 3
    · obtain ⟨o0, o1, o2, o3, o4, o5⟩ := zGo_own (m := m) (k := k) (b := g) ht1
      have et : m 4 % 2 = t := by omega
      have hp : 2 * ((m 4 + 1 + 1 - t) / 2 - 1) + t = m 4 := by omega
      rw [if_pos et, if_pos et, if_pos et, if_pos et, n1, n2, hp, n0, n1]
      rw [e, o0, o2, o3, o4, o5]
      refine ⟨rfl, rfl, ?_, ?_, fun z => by omega, fun _ => ?_⟩
      · congr 1
        have hc5 : m (8 + zGoA m k g) ≤ 5 := hi.2.2.2.2.2.2.2.1 _ (by rw [hA]; split <;> omega)
        have hw : (m (8 + zGoA m k g) = zEn (m (28 + 6 * m 3 + 3))) ↔ m (28 + 6 * m 3 + 3) = m (8 + zGoA m k g) + 1 := by unfold zEn; split <;> omega
        by_cases y : m (28 + 6 * m 3 + 3) = m (8 + zGoA m k g) + 1
        · rw [if_pos y, if_neg (fun z => t3.1 z (hw.2 y))]
        · rw [if_neg y, if_pos (t3.2 (fun z => y (hw.1 z)))]
      · congr 1
        by_cases y : zFo (zCol m) (zGoA m k g) k
        · rw [if_pos y, if_neg (fun z => t4.1 z ⟨by have := y.1; omega, y.2⟩)]
        · rw [if_neg y, if_pos (t4.2 (fun z => y ⟨by have := z.1; omega, z.2⟩))]
      · have hA2 : zGoA m k g + k ≤ m 1 + m 2 := by rw [hA]; split <;> omega
        rw [zGo_col ht1 (by omega) (by omega)]
        rw [show 8 + (zGoA m k g + k - 1) = 8 + zGoA m k g + k - 1 by omega]
    · have et : ¬ m 4 % 2 = t := by omega
      have e' : t = 1 - m 3 := by omega
      have hp : (m 4 + 1 + 1 - t) / 2 = (m 4 + 1 - t) / 2 := by omega
      rw [if_neg et, if_neg et, if_neg et, if_neg et, hp]
      have oo : ∀ w, w ≤ 5 → zGo m k g (28 + 6 * t + w) = m (28 + 6 * t + w) := fun w hw => by rw [e']; exact zGo_oth ht1 hw
      rw [oo 0 (by omega), oo 2 (by omega), oo 3 (by omega), oo 4 (by omega), oo 5 (by omega)]
      refine ⟨rfl, rfl, rfl, rfl, s6, fun z => ?_⟩
      have hj : 2 * ((m 4 + 1 - t) / 2 - 1) + t < m 4 := by omega
      obtain ⟨a1, a2, a3, a4, a5⟩ := i1 _ hj
      rw [hq0 _ hj, hq _ 1 hj (by omega), zGo_col ht1 (by omega) (by omega)]
      exact s7 z
theorem gSw_fr {a : Nat} (ha : a < b ∨ b + 6 < a) : zSw h b m k g a = h a := by
  funext i
  have n0 : ¬ a = b := by omega
  have n3 : ¬ a = b + 3 := by omega
  have n4 : ¬ a = b + 4 := by omega
  have n5 : ¬ a = b + 5 := by omega
  have n6 : ¬ a = b + 6 := by omega
  simp [zSw, qzUp, n0, n3, n4, n5, n6]
end CLS6
