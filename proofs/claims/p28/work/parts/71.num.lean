/-! numbers: what always holds of the pieces, more than zInv -/
def yK (m : Nat → Nat) : Prop := (∀ j, j < m 4 → 1 ≤ m (zQ j + 1) ∧ m (zQ j + 1) ≤ 5 ∧ m (zQ j + 1) ≤ m (zQ j + 2) ∧ m (zQ j + 2) ≤ m (zQ j + 1) + 18 ∧ m (zQ j + 3) ≤ 1 ∧ m (zQ j) + m (zQ j + 1) ≤ m 0 ∧ (m (zQ j + 3) = 1 → m (zQ j) + m (zQ j + 1) ≤ m 1) ∧ (m (zQ j + 3) = 0 → m 1 + m 2 ≤ m (zQ j))) ∧ m 30 + m 36 + m 2 = m 0 ∧
  ∀ t, t ≤ 1 → (m (28 + 6 * t + 4) + 1 ≤ m (28 + 6 * t + 1) ∨ m (28 + 6 * t + 4) = 0) ∧ m (28 + 6 * t + 5) ≤ m (28 + 6 * t + 1) ∧ (m (28 + 6 * t + 3) = 0 ↔ m (28 + 6 * t + 1) = 0)
theorem yK.cg {m m' : Nat → Nat} (hk : yK m) (h0 : ∀ i, i < 5 → m' i = m i) (h1 : ∀ i, 28 ≤ i → m' i = m i) : yK m' := by
  obtain ⟨k1, k2, k3⟩ := hk
  have e0 := h0 0 (by omega)
  have e1 := h0 1 (by omega)
  have e2 := h0 2 (by omega)
  have e4 := h0 4 (by omega)
  refine ⟨fun j hj => ?_, by rw [h1 30 (by omega), h1 36 (by omega), e0, e2]; exact k2, fun t ht => ?_⟩
  · rw [e4] at hj
    have hq : 40 ≤ zQ j := by unfold zQ; omega
    rw [h1 (zQ j) (by omega), h1 (zQ j + 1) (by omega), h1 (zQ j + 2) (by omega), h1 (zQ j + 3) (by omega), e0, e1, e2]
    exact k1 j hj
  · rw [h1 (28 + 6 * t + 4) (by omega), h1 (28 + 6 * t + 1) (by omega), h1 (28 + 6 * t + 5) (by omega), h1 (28 + 6 * t + 3) (by omega)]
    exact k3 t ht
theorem yK.bk {m : Nat → Nat} : yK (zBk m 120) := by
  have z : ∀ i, (i = 1 ∨ i = 3 ∨ i = 4 ∨ (28 ≤ i ∧ i < 120)) → zBk m 120 i = 0 := fun i hi => by unfold zBk; rw [if_pos hi]
  have e0 : zBk m 120 0 = m 0 := by unfold zBk; rw [if_neg (by omega), if_neg (by omega)]
  have e2 : zBk m 120 2 = m 0 := by unfold zBk; rw [if_neg (by omega), if_pos rfl]
  refine ⟨fun j hj => ?_, by rw [z 30 (by omega), z 36 (by omega), e2, e0]; omega, fun t ht => ?_⟩
  · rw [z 4 (by omega)] at hj; omega
  · rw [z (28 + 6 * t + 4) (by omega), z (28 + 6 * t + 1) (by omega), z (28 + 6 * t + 5) (by omega), z (28 + 6 * t + 3) (by omega)]
    omega
theorem yK.set {m : Nat → Nat} {k w : Nat} (hk : yK m) (h2 : k ≤ 2) : yK (zU m (5 + k) w) :=
  hk.cg (fun i hi => zU_ne (by omega)) (fun i hi => zU_ne (by omega))
theorem yK.mir {m : Nat → Nat} {k : Nat} (hk : yK m) (hi : zInv m) : yK (zMr m k) := by
  have h1 := hi.1
  have h2 := hi.2.1
  exact hk.cg (fun i q => zMr_out (by omega)) (fun i q => zMr_out (by omega))
theorem yK.go {m : Nat → Nat} {k b : Nat} (hK : yK m) (hi : zInv m) (hk : 1 ≤ k) (hk2 : k ≤ m 2) (hk5 : k ≤ m 5) (hb : b ≤ 1) : yK (zGo m k b) := by
  obtain ⟨k1, k2, k3⟩ := hK
  have hi' := id hi
  obtain ⟨h0, h1, h3, h4, h5, h6, h7, h8, ht, hp⟩ := hi'
  have ht1 : m 3 ≤ 1 := by omega
  obtain ⟨l0, l1, l2, l3, l4, l5, l6, l7⟩ := zGo_lo (m := m) (k := k) (b := b) ht1
  obtain ⟨o0, o1, o2, o3, o4, o5⟩ := zGo_own (m := m) (k := k) (b := b) ht1
  have hA : zGoA m k b = if b = 0 then m 1 + m 2 - k else m 1 := rfl
  have hW := zWo_le (c := zCol m) (F := m 6) (M := m 7) (a := zGoA m k b) (n := k) (L := m (28 + 6 * m 3 + 3)) h6 h7
  have hW' : k ≤ zGoW m k b ∧ zGoW m k b ≤ k + 18 := ⟨hW.2, hW.1⟩
  refine ⟨fun j hj => ?_, ?_, fun t htt => ?_⟩
  · rw [l4] at hj
    have q := fun w hw => zGo_q (m := m) (k := k) (g := b) (j := j) (w := w) hi (by omega) (by omega) hw
    have q0 := q 0 (by omega)
    have q1 := q 1 (by omega)
    have q2 := q 2 (by omega)
    have q3 := q 3 (by omega)
    rw [Nat.add_zero] at q0
    rw [q0, q1, q2, q3, l0, l1, l2]
    by_cases e : j = m 4
    · rw [if_pos e, if_pos e, if_pos e, if_pos e, if_pos rfl, if_neg (by omega), if_pos rfl, if_neg (by omega), if_neg (by omega), if_pos rfl, if_neg (by omega), if_neg (by omega), if_neg (by omega), hA]
      refine ⟨hk, by omega, hW'.1, hW'.2, hb, ?_, fun z => ?_, fun z => ?_⟩
      · split <;> omega
      · rw [if_neg (by omega), if_neg (by omega)]; omega
      · rw [if_pos z, if_pos z]; omega
    · rw [if_neg e, if_neg e, if_neg e, if_neg e]
      obtain ⟨a1, a2, a3, a4, a5, a6, a7, a8⟩ := k1 j (by omega)
      refine ⟨a1, a2, a3, a4, a5, a6, fun z => ?_, fun z => ?_⟩
      · have := a7 z; split <;> omega
      · have := a8 z; split <;> omega
  · rcases (by omega : m 3 = 0 ∨ m 3 = 1) with e | e
    · rw [e] at o2
      have oo := zGo_oth (m := m) (k := k) (b := b) (w := 2) ht1 (by omega)
      rw [e] at oo
      simp only [Nat.mul_zero, Nat.add_zero, Nat.sub_zero, Nat.mul_one, Nat.reduceAdd] at o2 oo
      rw [o2, oo, l2, l0]
      omega
    · rw [e] at o2
      have oo := zGo_oth (m := m) (k := k) (b := b) (w := 2) ht1 (by omega)
      rw [e] at oo
      simp only [Nat.mul_zero, Nat.add_zero, Nat.sub_self, Nat.mul_one, Nat.reduceAdd] at o2 oo
      rw [o2, oo, l2, l0]
      omega
  · by_cases e : t = m 3
    · subst e
      rw [o4, o5, o1, o3]
      obtain ⟨b1, b2, b3⟩ := k3 (m 3) htt
      refine ⟨?_, ?_, ?_⟩
      · split
        · rename_i z
          have hn : m (28 + 6 * m 3 + 1) ≠ 0 := fun z2 => by have := b3.mpr z2; omega
          omega
        · omega
      · split <;> omega
      · constructor <;> intro z <;> omega
    · have e' : t = 1 - m 3 := by omega
      have o := fun w hw => zGo_oth (m := m) (k := k) (b := b) (w := w) ht1 hw
      rw [← e'] at o
      rw [o 4 (by omega), o 1 (by omega), o 5 (by omega), o 3 (by omega)]
      exact k3 t htt
theorem yK_new : yK qkM := by
  refine ⟨fun j hj => absurd hj (Nat.not_lt_zero _), by decide, fun t ht => ?_⟩
  rcases (by omega : t = 0 ∨ t = 1) with e | e <;> subst e <;> decide
/-! a cut, and the leads -/
theorem zBb_le {m : Nat → Nat} {g : Nat} : zBb m g ≤ 1 := by unfold zBb zKb; split <;> omega
theorem zSel_max {v : Nat → Int} : ∀ {n j : Nat}, j ≤ n → v j ≤ (zSel v n).2
  | 0, j, h => by have : j = 0 := by omega
                  subst this; exact Int.le_refl _
  | n + 1, j, h => by
    unfold zSel
    by_cases e : j = n + 1
    · subst e; split
      · exact Int.le_refl _
      · rename_i z; exact Int.not_lt.mp z
    · have := zSel_max (v := v) (n := n) (j := j) (by omega)
      split
      · rename_i z; exact Int.le_trans this (Int.le_of_lt z)
      · exact this
/-- the lead of the tailor on turn -/
def yL (m : Nat → Nat) : Int := zL (zCol m) (m 6) (m 7) (m 5) (m 1) (m 2) (m (28 + 6 * m 3 + 3)) (m (28 + 6 * (1 - m 3) + 3))
def yC (m : Nat → Nat) (k b : Nat) : Int := zCand (zCol m) (m 6) (m 7) (m 5) (m 1) (m 2) (m (28 + 6 * m 3 + 3)) (m (28 + 6 * (1 - m 3) + 3)) k b
theorem yL_bd {m : Nat → Nat} (hi : zInv m) : -400 ≤ yL m ∧ yL m ≤ 400 := by
  obtain ⟨h0, h1, h3, h4, h5, h6, h7, h8, ht, hp⟩ := hi
  have := zL_bd (c := zCol m) (F := m 6) (M := m 7) (G := m 5) h6 h7 h5.1 (m 2) (m 2) (m 1) (m (28 + 6 * m 3 + 3)) (m (28 + 6 * (1 - m 3) + 3)) (Nat.le_refl _)
  unfold yL
  omega
theorem yC_bd {m : Nat → Nat} (hi : zInv m) {k b : Nat} (hk : 1 ≤ k) (hk2 : k ≤ m 2) : -400 ≤ yC m k b ∧ yC m k b ≤ 400 := by
  obtain ⟨h0, h1, h3, h4, h5, h6, h7, h8, ht, hp⟩ := hi
  have := zCand_bd (c := zCol m) (F := m 6) (M := m 7) (G := m 5) h6 h7 h5.1 (f := m 1) (l := m 2) (own := m (28 + 6 * m 3 + 3)) (oth := m (28 + 6 * (1 - m 3) + 3)) (k := k) (b := b) hk hk2
  unfold yC
  omega
theorem yL_0 {m : Nat → Nat} (h : m 2 = 0) : yL m = 0 := by unfold yL; rw [h]; exact zL_0
theorem yC_le {m : Nat → Nat} {k b : Nat} (hk : 1 ≤ k) (hk2 : k ≤ m 2) (hk5 : k ≤ m 5) (hb : b ≤ 1) : yC m k b ≤ yL m := by
  have h1 : yC m k b ≤ zBoth (zCol m) (m 6) (m 7) (m 5) (m 1) (m 2) (m (28 + 6 * m 3 + 3)) (m (28 + 6 * (1 - m 3) + 3)) k := by
    unfold yC zBoth
    rcases (by omega : b = 0 ∨ b = 1) with e | e <;> subst e
    · exact Int.le_max_right _ _
    · exact Int.le_max_left _ _
  unfold yL
  rw [zL_eq (by omega)]
  exact Int.le_trans h1 (zMx_at (g := zBoth (zCol m) (m 6) (m 7) (m 5) (m 1) (m 2) (m (28 + 6 * m 3 + 3)) (m (28 + 6 * (1 - m 3) + 3))) hk (by omega))
theorem yC_best {m : Nat → Nat} (hi : zInv m) (h2 : 1 ≤ m 2) : yC m (zBn m 0) (zBb m 0) = yL m := by
  have hi' := id hi
  obtain ⟨h0, h1, h3, h4, h5, h6, h7, h8, ht, hp⟩ := hi'
  have hbn := zBn_in (m := m) (g := 0) h2 h5.1
  have e : yC m (zBn m 0) (zBb m 0) = (zSel (zVal m 0) (2 * min (m 2) (m 5) - 1)).2 := by
    have hv0 : ∀ j, zVal m 0 j = yC m (zKn (min (m 2) (m 5)) j) (zKb (min (m 2) (m 5)) j) := fun j => by
      unfold zVal yC
      rw [if_neg (by omega)]
    rw [zSel_in.2, hv0]
    rfl
  refine Int.le_antisymm (yC_le hbn.1 hbn.2.1 hbn.2.2 zBb_le) ?_
  have hv : ∀ k b, 1 ≤ k → k ≤ min (m 2) (m 5) → b ≤ 1 → yC m k b ≤ yC m (zBn m 0) (zBb m 0) := by
    intro k b k1 k2 hb
    rw [e]
    have hj := zSel_max (v := zVal m 0) (n := 2 * min (m 2) (m 5) - 1) (j := if b = 1 then k - 1 else min (m 2) (m 5) + (k - 1)) (by split <;> omega)
    refine Int.le_trans (Int.le_of_eq ?_) hj
    unfold zVal yC
    rw [if_neg (by omega)]
    rcases (by omega : b = 0 ∨ b = 1) with e1 | e1 <;> subst e1
    · have q1 : zKn (min (m 2) (m 5)) (min (m 2) (m 5) + (k - 1)) = k := by
        unfold zKn
        rw [Nat.add_mod_left, Nat.mod_eq_of_lt (by omega)]; omega
      have q2 : zKb (min (m 2) (m 5)) (min (m 2) (m 5) + (k - 1)) = 0 := by unfold zKb; rw [if_neg (by omega)]
      rw [if_neg (by omega), q1, q2]
    · have q1 : zKn (min (m 2) (m 5)) (k - 1) = k := by
        unfold zKn
        rw [Nat.mod_eq_of_lt (by omega)]; omega
      have q2 : zKb (min (m 2) (m 5)) (k - 1) = 1 := by unfold zKb; rw [if_pos (by omega)]
      rw [if_pos rfl, q1, q2]
  unfold yL
  rw [zL_eq (by omega)]
  refine zMx_le ?_ (fun k k1 k2 => ?_)
  · have := yC_bd hi (b := zBb m 0) hbn.1 hbn.2.1
    omega
  · unfold zBoth
    exact Int.max_le.mpr ⟨hv k 1 k1 k2 (by omega), hv k 0 k1 k2 (by omega)⟩
/-- the lead with a cut is what it is worth, less the other's lead behind it -/
theorem yC_go {m : Nat → Nat} (hi : zInv m) {k b : Nat} (hk : 1 ≤ k) (hk2 : k ≤ m 2) (hb : b ≤ 1) : yC m k b = (zGoW m k b : Int) - yL (zGo m k b) := by
  have hi' := id hi
  obtain ⟨h0, h1, h3, h4, h5, h6, h7, h8, ht, hp⟩ := hi'
  have ht1 : m 3 ≤ 1 := by omega
  obtain ⟨l0, l1, l2, l3, l4, l5, l6, l7⟩ := zGo_lo (m := m) (k := k) (b := b) ht1
  obtain ⟨o0, o1, o2, o3, o4, o5⟩ := zGo_own (m := m) (k := k) (b := b) ht1
  have oo := zGo_oth (m := m) (k := k) (b := b) (w := 3) ht1 (by omega)
  have ec : zL (zCol (zGo m k b)) (m 6) (m 7) (m 5) (zGo m k b 1) (m 2 - k) (m (28 + 6 * (1 - m 3) + 3)) (m (8 + zGoA m k b + k - 1) + 1) = zL (zCol m) (m 6) (m 7) (m 5) (zGo m k b 1) (m 2 - k) (m (28 + 6 * (1 - m 3) + 3)) (m (8 + zGoA m k b + k - 1) + 1) :=
    zL_cg (m 2 - k) (m 2 - k) _ _ _ (Nat.le_refl _) (fun i i1 i2 => by
      show zGo m k b (8 + i) = m (8 + i)
      rw [l1] at i1 i2
      exact zGo_col ht1 (by omega) (by split at i2 <;> omega))
  have e3 : 1 - (1 - m 3) = m 3 := by omega
  have ey : yL (zGo m k b) = zL (zCol m) (m 6) (m 7) (m 5) (zGo m k b 1) (m 2 - k) (m (28 + 6 * (1 - m 3) + 3)) (m (8 + zGoA m k b + k - 1) + 1) := by
    unfold yL
    rw [l3, e3, l2, l5, l6, l7, oo, o3]
    exact ec
  rw [ey, l1]
  unfold yC zCand zGoW zGoA
  rcases (by omega : b = 0 ∨ b = 1) with e | e <;> subst e
  · rw [if_neg (by omega), if_pos rfl, if_pos rfl, show 8 + (m 1 + m 2 - k) + k - 1 = 8 + (m 1 + m 2 - 1) by omega]
    rfl
  · rw [if_pos rfl, if_neg (by omega), if_neg (by omega), show 8 + m 1 + k - 1 = 8 + (m 1 + k - 1) by omega]
theorem zGoW_bd {m : Nat → Nat} (hi : zInv m) {k b : Nat} : k ≤ zGoW m k b ∧ zGoW m k b ≤ k + m 6 + m 7 ∧ zGoW m k b ≤ k + 18 := by
  obtain ⟨h0, h1, h3, h4, h5, h6, h7, h8, ht, hp⟩ := hi
  unfold zGoW zWo
  refine ⟨?_, ?_, ?_⟩ <;> split <;> split <;> omega
/-! whole games -/
theorem zEd_in (z o : Nat) : ∀ (r : Nat) (m : Nat → Nat), zInv m → zInv (zEd z o r m) ∧ m 4 ≤ zEd z o r m 4 ∧ zEd z o r m 4 ≤ m 4 + m 2 ∧ (1 ≤ r → 1 ≤ m 2 → m 4 < zEd z o r m 4) ∧ ∀ w, w ≤ 1 → m (28 + 6 * w + 0) ≤ zEd z o r m (28 + 6 * w + 0)
  | 0, m, hi => ⟨hi, Nat.le_refl _, Nat.le_add_right _ _, fun h => by omega, fun w _ => Nat.le_refl _⟩
  | r + 1, m, hi => by
    unfold zEd
    by_cases c : m 2 = 0
    · rw [if_pos c]
      exact ⟨hi, Nat.le_refl _, Nat.le_add_right _ _, fun _ h => by omega, fun w _ => Nat.le_refl _⟩
    · rw [if_neg c]
      have hi' := id hi
      obtain ⟨h0, h1, h3, h4, h5, h6, h7, h8, ht, hp⟩ := hi'
      have ht1 : m 3 ≤ 1 := by omega
      have hb := zBn_in (m := m) (g := if m 3 = 0 then z else o) (by omega) h5.1
      have hg := hi.go hb.1 hb.2.1 hb.2.2 (zBb_le (m := m) (g := if m 3 = 0 then z else o))
      obtain ⟨l0, l1, l2, l3, l4, l5, l6, l7⟩ := zGo_lo (m := m) (k := zBn m (if m 3 = 0 then z else o)) (b := zBb m (if m 3 = 0 then z else o)) ht1
      obtain ⟨o0, -⟩ := zGo_own (m := m) (k := zBn m (if m 3 = 0 then z else o)) (b := zBb m (if m 3 = 0 then z else o)) ht1
      have oo := zGo_oth (m := m) (k := zBn m (if m 3 = 0 then z else o)) (b := zBb m (if m 3 = 0 then z else o)) (w := 0) ht1 (by omega)
      obtain ⟨r1, r2, r3, r4, r5⟩ := zEd_in z o r _ hg
      rw [l4] at r2 r3
      rw [l2] at r3
      refine ⟨r1, by omega, by omega, fun _ _ => by omega, fun w hw => ?_⟩
      refine Nat.le_trans ?_ (r5 w hw)
      by_cases e : w = m 3
      · subst e; rw [o0]; omega
      · have e' : w = 1 - m 3 := by omega
        rw [e', oo]
        exact Nat.le_refl _
/-! mirrored bolts -/
theorem zMd_in {m : Nat → Nat} : ∀ (k : Nat), zMd m k ≤ 2 * k ∧ zMd m k % 2 = 0
  | 0 => ⟨Nat.le_refl _, rfl⟩
  | k + 1 => by
    obtain ⟨h1, h2⟩ := zMd_in (m := m) k
    unfold zMd
    split <;> omega
theorem zMr_ends {m : Nat → Nat} (h2 : 1 ≤ m 2) : zMr m (m 2 / 2) (8 + m 1) = m (8 + (m 1 + m 2 - 1)) ∧ zMr m (m 2 / 2) (8 + (m 1 + m 2 - 1)) = m (8 + m 1) := by
  unfold zMr
  by_cases e : m 2 = 1
  · rw [e, show m 1 + 1 - 1 = m 1 by omega, if_neg (by omega)]
    exact ⟨rfl, rfl⟩
  · refine ⟨?_, ?_⟩
    · rw [if_pos (by omega)]
      congr 1; omega
    · rw [if_pos (by omega)]
      congr 1; omega
/-! texts -/
theorem zCh_out {pd : Nat → Nat} {ln i : Nat} (h : zCh pd ln i ≠ 0) : i < ln := by
  unfold zCh at h
  split at h
  · assumption
  · exact absurd rfl h
theorem zTc_ln {pd : Nat → Nat} {ln s : Nat} (h : s ≤ ln) : (zTc (zCh pd ln) s).2 ≤ ln := by
  unfold zTc
  split
  · have := zCh_out (pd := pd) (ln := ln) (i := s) (by omega)
    exact this
  · split
    · have := zCh_out (pd := pd) (ln := ln) (i := s) (by omega)
      split
      · have := zCh_out (pd := pd) (ln := ln) (i := s + 1) (by omega)
        exact this
      · exact this
    · exact h
theorem zAc_ln {pd : Nat → Nat} {ln : Nat} : ∀ (r : Nat) (p : Nat × Nat), p.2 ≤ ln → (zAc (zCh pd ln) ln r p).2 ≤ ln
  | 0, p, h => h
  | r + 1, p, h => by
    unfold zAc
    split
    · exact zAc_ln r _ (zTc_ln h)
    · exact h
theorem zCu_ln {pd : Nat → Nat} {ln : Nat} : (zCu (zCh pd ln) ln).2 ≤ ln := zAc_ln ln _ (zTc_ln (Nat.zero_le _))
theorem zLt_ln {pd : Nat → Nat} {ln : Nat} : ∀ (r s : Nat), s ≤ ln → zLt (zCh pd ln) r s ≤ ln
  | 0, s, h => h
  | r + 1, s, h => by
    unfold zLt
    split
    · have := zCh_out (pd := pd) (ln := ln) (i := s) (by omega)
      exact zLt_ln r (s + 1) this
    · exact h
theorem zPl_ln {pd : Nat → Nat} {ln L t : Nat} (h : t ≤ ln) : (zPl (zCh pd ln) L t).2.1 ≤ ln := by
  unfold zPl
  split
  · have := zCh_out (pd := pd) (ln := ln) (i := t) (by omega)
    split
    · have := zCh_out (pd := pd) (ln := ln) (i := t + 1) (by omega)
      exact this
    · exact this
  · exact h
theorem zMn_ln {pd : Nat → Nat} {ln a t : Nat} (h : t ≤ ln) : (zMn (zCh pd ln) a t).2 ≤ ln := by
  unfold zMn
  split
  · have := zCh_out (pd := pd) (ln := ln) (i := t) (by omega)
    exact this
  · exact h
theorem zBo_ln {pd : Nat → Nat} {ln : Nat} : (zBo (zCh pd ln)).2.1 ≤ ln := by
  unfold zBo
  split
  · have h0 := zCh_out (pd := pd) (ln := ln) (i := 0) (by omega)
    have hs := zLt_ln (pd := pd) (ln := ln) 19 1 h0
    unfold zBr
    split
    · rename_i q
      have h1 := zCh_out (pd := pd) (ln := ln) (i := zLt (zCh pd ln) 19 1) (by omega)
      unfold zRu
      split
      · have h2 := zCh_out (pd := pd) (ln := ln) (i := zLt (zCh pd ln) 19 1 + 1) (by omega)
        exact zPl_ln (zMn_ln h2)
      · exact h1
    · exact hs
  · exact Nat.zero_le _
/-- the cuts of the pad from a place on are well formed -/
def yGd (pd : Nat → Nat) (ln t : Nat) : Prop := ∃ r, ln ≤ t + r ∧ (zAc (zCh pd ln) ln r (1, t)).1 = 1
theorem zAc_one {c : Nat → Nat} {ln r : Nat} {p : Nat × Nat} (hp : p.1 ≤ 1) (h : (zAc c ln r p).1 = 1) : p.1 = 1 := by
  rcases (by omega : p.1 = 0 ∨ p.1 = 1) with e | e
  · have := zAc_z (c := c) (ln := ln) r p e
    omega
  · exact e
theorem yGd.next {pd : Nat → Nat} {ln t : Nat} (h : yGd pd ln t) (ht : t < ln) : zOk pd ln t ∧ yGd pd ln (t + zSt pd t) := by
  obtain ⟨r, hr, ha⟩ := h
  cases r with
  | zero => omega
  | succ r =>
    unfold zAc at ha
    rw [if_pos ⟨rfl, ht⟩] at ha
    have h1 := zAc_one zTc_in.1 ha
    obtain ⟨ho, he⟩ := zTc_one h1
    refine ⟨ho, r, ?_, by rw [← he]; exact ha⟩
    have : 1 ≤ zSt pd t := by unfold zSt; split <;> omega
    omega
theorem yGd_0 {pd : Nat → Nat} {ln : Nat} (h : (zCu (zCh pd ln) ln).1 = 1) : yGd pd ln 0 := by
  refine ⟨ln + 1, by omega, ?_⟩
  have h0 : 0 < ln := by
    apply Nat.pos_of_ne_zero
    intro e
    subst e
    unfold zCu zAc zTc zCh at h
    simp at h
  unfold zAc
  rw [if_pos ⟨rfl, h0⟩]
  exact h
theorem zMk_go {pd : Nat → Nat} {ln t : Nat} {m : Nat → Nat} (ho : zOk pd ln t) (hi : zInv m) (h1 : (zMk m (pd t) (pd (t + 1))).1 = 1) : ∃ k b, 1 ≤ k ∧ k ≤ m 2 ∧ k ≤ m 5 ∧ b ≤ 1 ∧ (zMk m (pd t) (pd (t + 1))).2 = zGo m k b := by
  have h5 := hi.2.2.2.2.1
  unfold zMk at h1 ⊢
  by_cases c : pd t = 98 ∨ pd t = 103
  · rw [if_pos c] at h1 ⊢
    by_cases c2 : m 2 = 0
    · rw [if_pos c2] at h1
      cases h1
    · rw [if_neg c2]
      have hb := zBn_in (m := m) (g := if pd t = 103 then 1 else 0) (by omega) h5.1
      exact ⟨_, _, hb.1, hb.2.1, hb.2.2, zBb_le, rfl⟩
  · rw [if_neg c] at h1 ⊢
    rcases ho with z | ⟨-, z1, z2, z3⟩
    · exact absurd z c
    · by_cases c2 : pd (t + 1) - 48 ≤ m 2 ∧ pd (t + 1) - 48 ≤ m 5
      · rw [if_pos c2]
        exact ⟨_, _, by omega, c2.1, c2.2, by split <;> omega, rfl⟩
      · rw [if_neg c2] at h1
        cases h1
theorem zPy_in {pd : Nat → Nat} {ln : Nat} : ∀ (r t q : Nat) (m : Nat → Nat), yGd pd ln t → zInv m → yK m → zInv (zPy pd ln r t q m).2 ∧ yK (zPy pd ln r t q m).2 ∧ (zPy pd ln r t q m).1 ≤ q + (ln - t) ∧ q ≤ (zPy pd ln r t q m).1 ∧ (zPy pd ln r t q m).2 4 + q = m 4 + (zPy pd ln r t q m).1
  | 0, t, q, m, hg, hi, hk => ⟨hi, hk, by show q ≤ _; omega, Nat.le_refl _, rfl⟩
  | r + 1, t, q, m, hg, hi, hk => by
    unfold zPy
    by_cases c : t < ln
    · rw [if_pos c]
      obtain ⟨ho, hn⟩ := hg.next c
      by_cases c2 : (zMk m (pd t) (pd (t + 1))).1 = 1
      · rw [if_pos c2]
        obtain ⟨k, b, k1, k2, k5, hb, e⟩ := zMk_go ho hi c2
        rw [e]
        obtain ⟨r1, r2, r3, r4, r5⟩ := zPy_in r (t + zSt pd t) (q + 1) (zGo m k b) hn (hi.go k1 k2 k5 hb) (hk.go hi k1 k2 k5 hb)
        have hs : 1 ≤ zSt pd t := by unfold zSt; split <;> omega
        have l4 := (zGo_lo (m := m) (k := k) (b := b) (by have := hi.2.2.1; omega)).2.2.2.2.1
        rw [l4] at r5
        exact ⟨r1, r2, by omega, by omega, by omega⟩
      · rw [if_neg c2]
        exact ⟨hi, hk, by show q ≤ _; omega, Nat.le_refl _, rfl⟩
    · rw [if_neg c]
      exact ⟨hi, hk, by show q ≤ _; omega, Nat.le_refl _, rfl⟩
/-! sums -/
def yS1 (v : Nat → Nat) : Nat → Nat
  | 0 => 0
  | p + 1 => yS1 v p + v p
theorem yS1_sm {v : Nat → Nat} {t : Nat} (ht : t ≤ 1) : ∀ (c : Nat), zSm v t c = yS1 (fun p => v (2 * p + t)) ((c + 1 - t) / 2)
  | 0 => by
    rcases (by omega : t = 0 ∨ t = 1) with e | e <;> subst e <;> rfl
  | c + 1 => by
    rw [zSm_one, yS1_sm ht c]
    by_cases e : c % 2 = t
    · rw [if_pos e, show (c + 1 + 1 - t) / 2 = (c + 1 - t) / 2 + 1 by omega]
      show _ = yS1 _ ((c + 1 - t) / 2) + v (2 * ((c + 1 - t) / 2) + t)
      rw [show 2 * ((c + 1 - t) / 2) + t = c by omega]
    · rw [if_neg e, show (c + 1 + 1 - t) / 2 = (c + 1 - t) / 2 by omega]
      rfl
theorem zQ_2 {p t : Nat} (ht : t ≤ 1) : zQ (2 * p + t) = 40 + 40 * t + 4 * p := by
  unfold zQ
  rw [show (2 * p + t) % 2 = t by omega, show (2 * p + t) / 2 = p by omega]
theorem ySum {m T : Nat → Nat} (hg : gInv m T) (hi : zInv m) {t : Nat} (ht : t ≤ 1) : m (28 + 6 * t + 0) = yS1 (fun p => m (40 + 40 * t + 4 * p + 2)) (m (28 + 6 * t + 1)) ∧ m (28 + 6 * t + 2) = yS1 (fun p => m (40 + 40 * t + 4 * p + 1)) (m (28 + 6 * t + 1)) := by
  obtain ⟨-, g2⟩ := hg
  obtain ⟨e0, e2, -⟩ := g2 t ht
  have hp := (hi.2.2.2.2.2.2.2.2.1 t ht).2.1
  rw [e0, e2, hp, yS1_sm ht, yS1_sm ht]
  refine ⟨?_, ?_⟩
  · congr 1; funext p; rw [zQ_2 ht]
  · congr 1; funext p; rw [zQ_2 ht]
/-- stripes left of each colour, in all -/
def ySc (m : Nat → Nat) : Nat → Nat
  | 0 => 0
  | c + 1 => ySc m c + zLeft m c
theorem yCt_all {f : Nat → Nat} {a : Nat} : ∀ (n : Nat), (∀ k, k < n → f (a + k) ≤ 5) → zCnt (fun k => decide (f k = 0)) a n + zCnt (fun k => decide (f k = 1)) a n + zCnt (fun k => decide (f k = 2)) a n + zCnt (fun k => decide (f k = 3)) a n + zCnt (fun k => decide (f k = 4)) a n + zCnt (fun k => decide (f k = 5)) a n = n
  | 0, _ => rfl
  | n + 1, h => by
    have h1 := yCt_all n (fun k hk => h k (by omega))
    have h2 := h n (by omega)
    unfold zCnt
    rcases (by omega : f (a + n) = 0 ∨ f (a + n) = 1 ∨ f (a + n) = 2 ∨ f (a + n) = 3 ∨ f (a + n) = 4 ∨ f (a + n) = 5) with e | e | e | e | e | e <;> simp [e] <;> omega
theorem ySc_6 {m : Nat → Nat} (hi : zInv m) : ySc m 6 = m 2 := by
  have h8 := hi.2.2.2.2.2.2.2.1
  have h1 := hi.1
  have h2 := hi.2.1
  have := yCt_all (f := fun k => m (8 + k)) (a := m 1) (m 2) (fun k hk => h8 (m 1 + k) (by omega))
  simp only [ySc, zLeft]
  omega
theorem zPush_n4 {P : Nat → Nat → Nat} {n : Nat} {m : Nat → Nat} (hn : n ≤ 4) : zPush P n m (min n 3) = m := zPush_at hn
theorem yK.push {P : Nat → Nat → Nat} {n : Nat} {m : Nat → Nat} (hn : n ≤ 4) (hP : ∀ j, j < n → yK (P j)) (hm : yK m) : ∀ j, j < min n 3 + 1 → yK (zPush P n m j) := by
  intro j hj
  by_cases e : j = min n 3
  · rw [e, zPush_at hn]; exact hm
  · by_cases c : n < 4
    · rw [zPush_lo c (by omega)]; exact hP j (by omega)
    · rw [zPush_hi (by omega) (by omega)]; exact hP (j + 1) (by omega)
