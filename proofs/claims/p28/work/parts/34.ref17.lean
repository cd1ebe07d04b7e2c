/-! the reference: load -/
/-- a colour of the bolt that was read -/
def zLc (c : Nat → Nat) (q ph L k : Nat) : Nat := if k < q then c ((k + ph) % L) - 97 else 0
def zLd1 (c : Nat → Nat) (q ph L : Nat) (m : Nat → Nat) : Nat → Nat := fun i => if i = 0 then q else if 8 ≤ i ∧ i < 28 then zLc c q ph L (i - 8) else m i
theorem zLt_let {c : Nat → Nat} : ∀ (r s : Nat), ∀ j, s ≤ j → j < zLt c r s → 97 ≤ c j ∧ c j ≤ 102 := by
  intro r
  induction r with
  | zero => intro s j h1 h2; unfold zLt at h2; omega
  | succ r ih =>
    intro s j h1 h2
    unfold zLt at h2
    by_cases w : 97 ≤ c s ∧ c s ≤ 102
    · rw [if_pos w] at h2
      by_cases e : j = s
      · subst e; exact w
      · exact ih (s + 1) j (by omega) h2
    · rw [if_neg w] at h2; omega
theorem zMn_one {c : Nat → Nat} {a t : Nat} (ha : 1 ≤ a) : 1 ≤ (zMn c a t).1 := by
  unfold zMn
  split
  · rename_i w; show 1 ≤ 10 * a + c t - 48; omega
  · exact ha
theorem zPl_ph {c : Nat → Nat} {L t : Nat} (hL : L ≤ 6) : (zPl c L t).2.2 ≤ 9 := by
  unfold zPl
  split
  · split
    · rename_i w; show c (t + 1) - 48 ≤ 9; omega
    · exact Nat.zero_le _
  · exact Nat.zero_le _
theorem zRu_one {c : Nat → Nat} {L s : Nat} (hL : L ≤ 6) (h1 : (zRu c L s).1 = 1) : 1 ≤ (zRu c L s).2.2.1 ∧ (zRu c L s).2.2.2 ≤ 9 := by
  unfold zRu at h1 ⊢
  by_cases w : 48 + 1 ≤ c (s + 1) ∧ c (s + 1) ≤ 48 + 9
  · simp only [if_pos w]
    exact ⟨zMn_one (by omega), zPl_ph hL⟩
  · simp only [if_neg w] at h1
    exact absurd h1 (by decide)
theorem zBo_one {c : Nat → Nat} (h1 : (zBo c).1 = 1) : 1 ≤ (zBo c).2.2.1 ∧ (zBo c).2.2.2 ≤ 9 ∧ 1 ≤ zLt c 19 1 ∧ zLt c 19 1 ≤ 20 ∧ ∀ j, j < zLt c 19 1 → 97 ≤ c j ∧ c j ≤ 102 := by
  have hl := zLt_in (c := c) (r := 19) (s := 1)
  by_cases w : 97 ≤ c 0 ∧ c 0 ≤ 102
  · have e : zBo c = zBr c (zLt c 19 1) := by unfold zBo; rw [if_pos w]
    have l0 : ∀ j, j < zLt c 19 1 → 97 ≤ c j ∧ c j ≤ 102 := fun j hj => by
      by_cases e : j = 0
      · subst e; exact w
      · exact zLt_let 19 1 j (by omega) hj
    rw [e] at h1 ⊢
    unfold zBr at h1 ⊢
    by_cases z : zLt c 19 1 ≤ 6 ∧ c (zLt c 19 1) = 42
    · rw [if_pos z] at h1 ⊢
      have := zRu_one z.1 h1
      exact ⟨this.1, this.2, by omega, by omega, l0⟩
    · rw [if_neg z]
      exact ⟨hl.1, Nat.zero_le _, by omega, by omega, l0⟩
  · have e : zBo c = (0, 0, 0, 0) := by unfold zBo; rw [if_neg w]
    rw [e] at h1
    exact absurd h1 (by decide)
theorem zBk_inv2 {m : Nat → Nat} (h0 : 1 ≤ m 0 ∧ m 0 ≤ 20) (h5 : 1 ≤ m 5 ∧ m 5 ≤ 5) (h6 : m 6 ≤ 9) (h7 : m 7 ≤ 9) (h8 : ∀ i, i < 20 → m (8 + i) ≤ 5) : zInv (zBk m 120) := by
  refine ⟨?_, ?_, ?_, ?_, ?_, ?_, ?_, fun i hi => ?_, fun t htt => ?_, fun i hi hi2 => ?_⟩
  · simp [zBk]; omega
  · simp [zBk]
  · simp [zBk]
  · simp [zBk]
  · simp [zBk]; omega
  · simp [zBk]; omega
  · simp [zBk]; omega
  · have : zBk m 120 (8 + i) = m (8 + i) := by unfold zBk; rw [if_neg (by omega), if_neg (by omega)]
    rw [this]; exact h8 i hi
  · have e : ∀ w, w ≤ 5 → zBk m 120 (28 + 6 * t + w) = 0 := fun w hw => by unfold zBk; rw [if_pos (by omega)]
    have e4 : zBk m 120 4 = 0 := by simp [zBk]
    rw [e 0 (by omega), e 1 (by omega), e 2 (by omega), e 3 (by omega), e 4 (by omega), e 5 (by omega), e4]
    omega
  · unfold zBk; rw [if_pos (by omega)]; omega
section REF17
variable {d : Nat} {pa : Nat → Nat} {h : Nat → Nat → Int32} {m : Nat → Nat} {P : Nat → Nat → Nat} {n : Nat} {K : Nat → Nat} {ik : Nat} {pd : Nat → Nat} {ln : Nat}
end REF17
