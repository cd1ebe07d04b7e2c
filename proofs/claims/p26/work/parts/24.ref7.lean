/-! the reference: its state as numbers, what always holds of it -/
def zInv (m : Nat → Nat) : Prop := (1 ≤ m 0 ∧ m 0 ≤ 20) ∧ m 1 + m 2 ≤ m 0 ∧ m 3 = m 4 % 2 ∧ m 4 + m 2 ≤ m 0 ∧ (1 ≤ m 5 ∧ m 5 ≤ 5) ∧ m 6 ≤ 9 ∧ m 7 ≤ 9 ∧ (∀ i, i < 20 → m (8 + i) ≤ 5) ∧
  (∀ t, t ≤ 1 → m (28 + 6 * t + 0) ≤ 23 * m 4 ∧ m (28 + 6 * t + 1) = (m 4 + 1 - t) / 2 ∧ m (28 + 6 * t + 2) ≤ 5 * m 4 ∧ m (28 + 6 * t + 3) ≤ 6 ∧ m (28 + 6 * t + 4) ≤ m 4 ∧ m (28 + 6 * t + 5) ≤ m 4) ∧ (∀ i, 40 ≤ i → i < 120 → m i ≤ 30)
theorem zInv.hm {m : Nat → Nat} (h : zInv m) : ∀ i, i < 120 → m i < 1000000 := by
  obtain ⟨h0, h1, h3, h4, h5, h6, h7, h8, ht, hp⟩ := h
  intro i hi
  have t0 := ht 0 (by omega)
  have t1 := ht 1 (by omega)
  by_cases c : 40 ≤ i
  · have := hp i c hi; omega
  · by_cases c2 : 8 ≤ i ∧ i < 28
    · obtain ⟨j, rfl⟩ : ∃ j, i = 8 + j := ⟨i - 8, by omega⟩
      have := h8 j (by omega); omega
    · have : i = 0 ∨ i = 1 ∨ i = 2 ∨ i = 3 ∨ i = 4 ∨ i = 5 ∨ i = 6 ∨ i = 7 ∨ i = 28 ∨ i = 29 ∨ i = 30 ∨ i = 31 ∨ i = 32 ∨ i = 33 ∨ i = 34 ∨ i = 35 ∨ i = 36 ∨ i = 37 ∨ i = 38 ∨ i = 39 := by omega
      simp only [Nat.mul_zero, Nat.mul_one, Nat.add_zero, Nat.reduceAdd] at t0 t1
      rcases this with rfl | rfl | rfl | rfl | rfl | rfl | rfl | rfl | rfl | rfl | rfl | rfl | rfl | rfl | rfl | rfl | rfl | rfl | rfl | rfl <;> omega
theorem zU_ne {m : Nat → Nat} {i j v : Nat} (h : ¬ j = i) : zU m i v j = m j := by simp [zU, h]
theorem zU_eq {m : Nat → Nat} {i v : Nat} : zU m i v i = v := by simp [zU]
theorem zU_ite {m : Nat → Nat} {i j v : Nat} : zU m i v j = if j = i then v else m j := rfl
/-- what the cut leaves of the other places -/
theorem zGo_col {m : Nat → Nat} {k b : Nat} (ht : m 3 ≤ 1) {i : Nat} (hi : 8 ≤ i) (hi2 : i < 28) : zGo m k b i = m i := by
  have hp : 40 ≤ zGoP m := by unfold zGoP; omega
  unfold zGo
  simp (disch := omega) only [zU_ne]
theorem zGo_lo {m : Nat → Nat} {k b : Nat} (ht : m 3 ≤ 1) : zGo m k b 0 = m 0 ∧ zGo m k b 1 = m 1 + (if b = 0 then 0 else k) ∧ zGo m k b 2 = m 2 - k ∧ zGo m k b 3 = 1 - m 3 ∧ zGo m k b 4 = m 4 + 1 ∧ zGo m k b 5 = m 5 ∧ zGo m k b 6 = m 6 ∧ zGo m k b 7 = m 7 := by
  have hp : 40 ≤ zGoP m := by unfold zGoP; omega
  unfold zGo
  refine ⟨?_, ?_, ?_, ?_, ?_, ?_, ?_, ?_⟩ <;> simp (disch := omega) only [zU_ne, zU_eq]
theorem zGo_own {m : Nat → Nat} {k b : Nat} (ht : m 3 ≤ 1) : zGo m k b (28 + 6 * m 3 + 0) = m (28 + 6 * m 3 + 0) + zGoW m k b ∧ zGo m k b (28 + 6 * m 3 + 1) = m (28 + 6 * m 3 + 1) + 1 ∧ zGo m k b (28 + 6 * m 3 + 2) = m (28 + 6 * m 3 + 2) + k ∧ zGo m k b (28 + 6 * m 3 + 3) = m (8 + zGoA m k b + k - 1) + 1 ∧
    zGo m k b (28 + 6 * m 3 + 4) = m (28 + 6 * m 3 + 4) + (if m (28 + 6 * m 3 + 3) = m (8 + zGoA m k b) + 1 then 1 else 0) ∧ zGo m k b (28 + 6 * m 3 + 5) = m (28 + 6 * m 3 + 5) + (if zFo (zCol m) (zGoA m k b) k then 1 else 0) := by
  have hp : 40 ≤ zGoP m := by unfold zGoP; omega
  unfold zGo
  refine ⟨?_, ?_, ?_, ?_, ?_, ?_⟩ <;> simp (disch := omega) only [zU_ne, zU_eq]
theorem zGo_oth {m : Nat → Nat} {k b w : Nat} (ht : m 3 ≤ 1) (hw : w ≤ 5) : zGo m k b (28 + 6 * (1 - m 3) + w) = m (28 + 6 * (1 - m 3) + w) := by
  have hp : 40 ≤ zGoP m := by unfold zGoP; omega
  unfold zGo
  simp (disch := omega) only [zU_ne]
theorem zGo_pc {m : Nat → Nat} {k b i : Nat} (ht : m 3 ≤ 1) (hi : 40 ≤ i) : zGo m k b i = if i = zGoP m then zGoA m k b else if i = zGoP m + 1 then k else if i = zGoP m + 2 then zGoW m k b else if i = zGoP m + 3 then b else m i := by
  have hp : 40 ≤ zGoP m := by unfold zGoP; omega
  unfold zGo
  rw [zU_ne (by omega), zU_ne (by omega), zU_ne (by omega), zU_ne (by omega), zU_ne (by omega), zU_ne (by omega), zU_ne (by omega), zU_ne (by omega), zU_ne (by omega), zU_ne (by omega)]
  simp only [zU_ite]
  repeat' split
  all_goals first | rfl | (exfalso; omega)
theorem zInv.go {m : Nat → Nat} (h : zInv m) {k b : Nat} (hk : 1 ≤ k) (hk2 : k ≤ m 2) (hk5 : k ≤ m 5) (hb : b ≤ 1) : zInv (zGo m k b) := by
  obtain ⟨h0, h1, h3, h4, h5, h6, h7, h8, ht, hp⟩ := h
  have ht1 : m 3 ≤ 1 := by omega
  obtain ⟨l0, l1, l2, l3, l4, l5, l6, l7⟩ := zGo_lo (m := m) (k := k) (b := b) ht1
  obtain ⟨o0, o1, o2, o3, o4, o5⟩ := zGo_own (m := m) (k := k) (b := b) ht1
  have hW := zWo_le (c := zCol m) (F := m 6) (M := m 7) (a := zGoA m k b) (n := k) (L := m (28 + 6 * m 3 + 3)) h6 h7
  have hW2 : zGoW m k b ≤ 23 := by unfold zGoW; omega
  have hA : zGoA m k b + k ≤ m 1 + m 2 := by unfold zGoA; split <;> omega
  refine ⟨by omega, ?_, by omega, by omega, by omega, by omega, by omega, fun i hi => ?_, fun t htt => ?_, fun i hi hi2 => ?_⟩
  · rw [l0, l1, l2]; split <;> omega
  · rw [zGo_col ht1 (by omega) (by omega)]; exact h8 i hi
  · rw [l4]
    by_cases e : t = m 3
    · subst e
      rw [o0, o1, o2, o3, o4, o5]
      have q := ht (m 3) htt
      have hcA := h8 (zGoA m k b + k - 1) (by omega)
      rw [show 8 + (zGoA m k b + k - 1) = 8 + zGoA m k b + k - 1 by omega] at hcA
      have i1 : (if m (28 + 6 * m 3 + 3) = m (8 + zGoA m k b) + 1 then 1 else 0) ≤ 1 := by split <;> omega
      have i2 : (if zFo (zCol m) (zGoA m k b) k then 1 else 0) ≤ 1 := by split <;> omega
      omega
    · have e' : t = 1 - m 3 := by omega
      subst e'
      have q := ht (1 - m 3) htt
      rw [zGo_oth ht1 (by omega), zGo_oth ht1 (by omega), zGo_oth ht1 (by omega), zGo_oth ht1 (by omega), zGo_oth ht1 (by omega), zGo_oth ht1 (by omega)]
      omega
  · rw [zGo_pc ht1 hi]
    have := hp i hi hi2
    repeat' split
    all_goals omega
theorem zBk_inv {m : Nat → Nat} (h : zInv m) : zInv (zBk m 120) := by
  obtain ⟨h0, h1, h3, h4, h5, h6, h7, h8, ht, hp⟩ := h
  refine ⟨?_, ?_, ?_, ?_, ?_, ?_, ?_, fun i hi => ?_, fun t htt => ?_, fun i hi hi2 => ?_⟩
  · simp [zBk]; omega
  · simp [zBk]
  · simp [zBk]
  · simp [zBk]
  · simp [zBk]; omega
  · simp [zBk]; omega
  · simp [zBk]; omega
  · have : zBk m 120 (8 + i) = m (8 + i) := by unfold zBk; rw [if_neg (by omega), if_neg (by omega)]
    rw [this]; exact h8 i hi
  · have e : ∀ w, w ≤ 5 → zBk m 120 (28 + 6 * t + w) = 0 := fun w hw => by unfold zBk; rw [if_pos (by omega)]
    have e4 : zBk m 120 4 = 0 := by simp [zBk]
    rw [e 0 (by omega), e 1 (by omega), e 2 (by omega), e 3 (by omega), e 4 (by omega), e 5 (by omega), e4]
    omega
  · unfold zBk; rw [if_pos (by omega)]; omega
def zPush (P : Nat → Nat → Nat) (n : Nat) (m : Nat → Nat) : Nat → Nat → Nat := fun k i => if n < 4 then (if k = n then m i else P k i) else (if k = 3 then m i else P (k + 1) i)
def zR1 (h : Nat → Nat → Int32) (m : Nat → Nat) : Prop := ∀ i, i < 120 → h 61 i = nI (m i)
def zR2 (h : Nat → Nat → Int32) (P : Nat → Nat → Nat) (n : Nat) : Prop := (∀ k, k < n → ∀ i, i < 120 → h 63 (120 * k + i) = nI (P k i)) ∧ h 60 3 = nI n ∧ n ≤ 4 ∧ ∀ k, k < n → zInv (P k)
def zR3 (h : Nat → Nat → Int32) (K : Nat → Nat) (ik : Nat) : Prop := (ik = 1 → (∀ i, i < 120 → h 64 i = nI (K i)) ∧ zInv K) ∧ h 60 5 = nI ik ∧ ik ≤ 1
def zR4 (h : Nat → Nat → Int32) (pd : Nat → Nat) (ln : Nat) : Prop := (∀ i, i < ln → h 65 i = nI (pd i)) ∧ h 60 7 = nI ln ∧ ln ≤ 60 ∧ ∀ i, i < ln → 33 ≤ pd i ∧ pd i ≤ 126
def zRel (h : Nat → Nat → Int32) (m : Nat → Nat) (P : Nat → Nat → Nat) (n : Nat) (K : Nat → Nat) (ik : Nat) (pd : Nat → Nat) (ln : Nat) : Prop := zR1 h m ∧ zInv m ∧ zR2 h P n ∧ zR3 h K ik ∧ zR4 h pd ln
/-- nothing but the reference's own cells changed -/
def zFr (h h' : Nat → Nat → Int32) : Prop := ∀ a, a < 60 → h' a = h a
section REF7
variable {d : Nat} {pa : Nat → Nat} {h : Nat → Nat → Int32} {m : Nat → Nat} {P : Nat → Nat → Nat} {n : Nat} {K : Nat → Nat} {ik : Nat} {pd : Nat → Nat} {ln : Nat}
/-- records() -/
theorem rX3_records (hR : zRel h m P n K ik pd ln) : ∃ h', qzC (d + 1) 89 [.ref 60] (67, qzRr pa, h) = some (none, (67, qzRr pa, h')) ∧ zRel h' m (zPush P n m) (min n 3 + 1) K ik pd ln ∧ (∀ a, a ≠ 60 → a ≠ 63 → h' a = h a) := by
  obtain ⟨r1, ri, ⟨r2, r3, r4, r5⟩, ⟨s1, s2, s3⟩, t1, t2, t3, t4⟩ := hR
  obtain ⟨h', e, f1, f2, f3, f4, f5, f6⟩ := sX3_records (d := d) (pa := pa) (h := h) r4 r3
  refine ⟨h', e, ⟨fun i hi => by rw [f1 61 (by omega) (by omega)]; exact r1 i hi, ri, ⟨fun k hk i hi => ?_, f3, by omega, fun k hk => ?_⟩, ⟨fun q => ⟨fun i hi => by rw [f1 64 (by omega) (by omega)]; exact (s1 q).1 i hi, (s1 q).2⟩, by rw [f2 5 (by omega)]; exact s2, s3⟩, fun i hi => by rw [f1 65 (by omega) (by omega)]; exact t1 i hi, by rw [f2 7 (by omega)]; exact t2, t3, t4⟩, f1⟩
  · unfold zPush
    by_cases c : n < 4
    · rw [if_pos c]
      by_cases ck : k = n
      · subst ck
        rw [if_pos rfl, ← r1 i hi]
        have := f4 i hi
        rwa [show min k 3 = k by omega] at this
      · rw [if_neg ck, f5 c _ (by omega)]
        exact r2 k (by omega) i hi
    · rw [if_neg c]
      have cn : n = 4 := by omega
      by_cases ck : k = 3
      · subst ck
        rw [if_pos rfl, ← r1 i hi]
        have := f4 i hi
        rwa [show min n 3 = 3 by omega] at this
      · rw [if_neg ck, f6 cn _ (by omega), show 120 * k + i + 120 = 120 * (k + 1) + i by omega]
        exact r2 (k + 1) (by omega) i hi
  · unfold zPush
    by_cases c : n < 4
    · simp only [if_pos c]
      by_cases ck : k = n
      · simp only [if_pos ck]; exact ri
      · simp only [if_neg ck]; exact r5 k (by omega)
    · simp only [if_neg c]
      by_cases ck : k = 3
      · simp only [if_pos ck]; exact ri
      · simp only [if_neg ck]; exact r5 (k + 1) (by omega)
/-- the rest stays where only s changed -/
theorem zRel.s {h' : Nat → Nat → Int32} {m' : Nat → Nat} (hR : zRel h m P n K ik pd ln) (h1 : ∀ i, i < 120 → h' 61 i = nI (m' i)) (hi : zInv m') (hf : ∀ a, a ≠ 61 → a ≠ 66 → h' a = h a) : zRel h' m' P n K ik pd ln := by
  obtain ⟨r1, ri, ⟨r2, r3, r4, r5⟩, ⟨s1, s2, s3⟩, t1, t2, t3, t4⟩ := hR
  refine ⟨h1, hi, ⟨?_, ?_, r4, r5⟩, ⟨?_, ?_, s3⟩, ?_, ?_, t3, t4⟩
  · rw [hf 63 (by omega) (by omega)]; exact r2
  · rw [hf 60 (by omega) (by omega)]; exact r3
  · rw [hf 64 (by omega) (by omega)]; exact s1
  · rw [hf 60 (by omega) (by omega)]; exact s2
  · rw [hf 65 (by omega) (by omega)]; exact t1
  · rw [hf 60 (by omega) (by omega)]; exact t2
/-- goCut -/
theorem rX3_goCut (hR : zRel h m P n K ik pd ln) {k b : Nat} (hk : 1 ≤ k) (hk2 : k ≤ m 2) (hk5 : k ≤ m 5) (hb : b ≤ 1) : ∃ h', qzC (d + 2) 98 [.ref 60, .int (nI k), .int (nI b)] (67, qzRr pa, h) = some (some (.int (nI (zGoW m k b))), (67, qzRr pa, h')) ∧ zRel h' (zGo m k b) P n K ik pd ln ∧ ∀ a, a ≠ 61 → h' a = h a := by
  obtain ⟨r1, ri, -⟩ := id hR
  obtain ⟨h0, h1, h3, h4, h5, h6, h7, h8, ht, hp⟩ := id ri
  have q := ht (m 3) (by omega)
  obtain ⟨h', e1, e2, e3⟩ := sX3_goCut (d := d) (pa := pa) r1 ri.hm h6 h7 (by omega) (by omega) q.2.2.2.1 hk hk2 (by omega) hb
  exact ⟨h', e1, hR.s e2 (ri.go hk hk2 hk5 hb) (fun a ha _ => e3 a ha), e3⟩
end REF7
