/-! the class: mirror, set, append, clear, stripe -/
theorem rr_1_0 {pa : Nat → Nat} : qzRr pa 1 0 = some 2 := rfl
theorem rr_1_1 {pa : Nat → Nat} : qzRr pa 1 1 = some 3 := rfl
theorem rr_1_2 {pa : Nat → Nat} : qzRr pa 1 2 = some 4 := rfl
theorem rr_1_3 {pa : Nat → Nat} : qzRr pa 1 3 = some 5 := rfl
theorem rr_1_4 {pa : Nat → Nat} : qzRr pa 1 4 = some 6 := rfl
theorem rr_1_5 {pa : Nat → Nat} : qzRr pa 1 5 = some 7 := rfl
theorem rr_8_0 {pa : Nat → Nat} : qzRr pa 8 0 = some 9 := rfl
theorem rr_8_1 {pa : Nat → Nat} : qzRr pa 8 1 = some 10 := rfl
theorem rr_8_2 {pa : Nat → Nat} : qzRr pa 8 2 = some 11 := rfl
theorem rr_8_3 {pa : Nat → Nat} : qzRr pa 8 3 = some 12 := rfl
theorem rr_8_4 {pa : Nat → Nat} : qzRr pa 8 4 = some 13 := rfl
theorem rr_8_5 {pa : Nat → Nat} : qzRr pa 8 5 = some 14 := rfl
theorem le67 : (67 : Nat) ≤ 1000 := by omega
theorem nI_pred_le : ∀ a, a < 101 → (nI a - nI 1 ≤ nI a) := by decide
theorem nI_ng1 {a : Nat} (h : 1 ≤ a) : nI a + -nI 1 = nI (a - 1) := by
  rw [← Int32.sub_eq_add_neg, nI_sub h]
theorem vGe {v : Int32} {a : Nat} (h : nI a < v) (ha : a + 1 < 2147483648) : ¬ v < nI (a + 1) := fun z => by
  rw [Int32.lt_iff_toInt_lt] at h z
  rw [iI_nat, iI_toInt (by omega) (by omega)] at h z
  omega
theorem vLe {v : Int32} {a : Nat} (h : nI a < v) : ¬ v ≤ nI a := fun z => by
  rw [Int32.le_iff_toInt_le] at z
  rw [Int32.lt_iff_toInt_lt] at h
  omega
theorem al23 : qzArr 4 23 67 = true ∨ qzArr 5 23 67 = true ∨ qzArr 6 23 67 = true := Or.inr (Or.inl ar_23)
theorem kz23 : (qzk 23).2 = 60 := by decide
theorem qi_23 {k : Nat} (h : k < 60) : qzIn (nI k) (qzk 23).2 = true := qzIn_nI (N := 60) h (by omega)
theorem qi_23' {k : Nat} (h : k < 60) : qzIn (nI k) 60 = true := qzIn_nI (N := 60) h (by omega)
theorem nI_chr : ∀ k, k < 127 → ((nI k).toUInt32 % 65536).toInt32 = nI k := by decide
theorem nI_nar : ∀ k, k < 127 → vp_nar .char (nI k) = nI k := by decide
/-- the tables of leads and the other cells stand -/
def cFr (h h' : Nat → Nat → Int32) : Prop := (∀ a, 24 ≤ a → a < 32 → h' a = h a) ∧ ∀ a, 60 ≤ a → h' a = h a
theorem zQ_ge {j : Nat} : 40 ≤ zQ j := by unfold zQ; omega
/-- what the coats and pieces lean on -/
theorem gInv.cg {m m' T : Nat → Nat} (hI : gInv m T) (hi : zInv m) (h4 : ∀ i, (i < 5 ∨ 28 ≤ i) → m' i = m i) (hc : ∀ i, i < 20 → (i < m 1 ∨ m 1 + m 2 ≤ i) → m' (8 + i) = m (8 + i)) : gInv m' T := by
  obtain ⟨i1, i2⟩ := hI
  have h2 := hi.1.2
  have q : ∀ j w, m' (zQ j + w) = m (zQ j + w) := fun j w => h4 _ (Or.inr (by have := zQ_ge (j := j); omega))
  have q0 : ∀ j, m' (zQ j) = m (zQ j) := fun j => q j 0
  refine ⟨fun j hj => ?_, fun t ht => ?_⟩
  · rw [h4 4 (by omega)] at hj
    rw [q, q0, q, h4 0 (by omega), h4 1 (by omega), h4 2 (by omega)]
    exact i1 j hj
  · obtain ⟨a1, a2, a3, a4, a5, a6⟩ := i2 t ht
    rw [h4 4 (by omega), h4 (28 + 6 * t + 0) (by omega), h4 (28 + 6 * t + 2) (by omega), h4 (28 + 6 * t + 4) (by omega), h4 (28 + 6 * t + 5) (by omega), h4 (28 + 6 * t + 3) (by omega)]
    simp only [q, q0]
    refine ⟨a1, a2, a3, a4, a5, fun z => ?_⟩
    rw [a6 z]
    have hj : 2 * ((m 4 + 1 - t) / 2 - 1) + t < m 4 := by omega
    obtain ⟨k1, k2, k3, -⟩ := i1 _ hj
    generalize 2 * ((m 4 + 1 - t) / 2 - 1) + t = J at *
    rw [hc (m (zQ J) + m (zQ J + 1) - 1) (by omega) (by omega)]
section CLS13
variable {d : Nat} {pa : Nat → Nat} {h : Nat → Nat → Int32} {m T : Nat → Nat} {P TP : Nat → Nat → Nat} {n : Nat} {K TK : Nat → Nat} {ik : Nat} {pd : Nat → Nat} {ln : Nat}
theorem sX2_at0 {k : Nat} (hk : k < 3) : qzC d 84 [.ref 1000, .int (nI k)] (67, qzRr pa, h) = some (some (.int (nI (if k = 0 then 1 else 0))), (67, qzRr pa, h)) := by
  have hi : qzIn (nI k) 3 = true := qzIn_nI hk (by omega)
  have e : qzSv (1000 - 1000) k = nI (if k = 0 then 1 else 0) := by
    rcases (by omega : k = 0 ∨ k = 1 ∨ k = 2) with e | e | e <;> subst e <;> decide
  have hn : ¬ 3 ≤ k := by omega
  simp (disch := first | assumption | omega | (refine nI_ne0 ?_ ?_ <;> omega) | exact agG (by assumption) | exact agG (Or.inl rfl) | exact al22 | (refine qi_22 ?_; omega) | exact ar_0 | exact le67 | exact al23 | (refine qi_23 ?_; omega) | exact ar_22 | exact ar_23 | exact ar_24 | exact ar_28 | exact ln0 | exact ln1 | exact ln2 | exact ln3 | exact ln4 | exact ln5 | exact nbf0 | exact nbf1 | exact nb0n | exact nb1n | (refine nn0 ?_ ?_ <;> omega) | exact nb0 | exact nb1 | decide) only [kX2_at, eX2_at_0, eX2_at_1, eX2_at_4, eX2_at_5, eX2_at_6, eX2_at_6S, eX2_at_7, eX2_at_10, eX2_at_11, eX2_at_12, eX2_at_12S, eX2_at_13, eX2_at_16, eX2_at_17, vrf_s, vrf_n, rG_0, rG_1, rG_2, rG_3, rG_4, rG_5, rr_1_0, rr_1_1, rr_1_2, rr_1_3, rr_1_4, rr_1_5, rr_8_0, rr_8_1, rr_8_2, rr_8_3, rr_8_4, rr_8_5, rr_0_0, rr_0_1, rr_0_2, rr_0_4, rr_0_6, rr_0_8, rr_0_9, Option.bind_some, Option.toList_some, Option.toList_none, List.cons_append, List.nil_append, List.singleton_append, nI_add, nI_mul, nI_sub, nI_cl, li_0, li_1, li_2, li_3, li_4, li_5, li_6, li_7, li_8, li_9, li_10, li_11, li_12, li_13, li_14, li_15, li_16, li_17, li_18, li_19, li_20, li_21, li_22, li_23, li_24, li_25, li_26, li_27, li_28, li_29, li_30, li_31, li_32, li_33, li_34, li_35, li_36, li_37, li_38, li_39, li_40, li_41, li_42, li_43, li_44, li_45, li_46, li_47, li_48, li_49, li_50, li_51, li_52, li_53, li_54, li_55, li_56, li_57, li_58, li_59, li_60, li_61, li_97, li_98, li_102, li_103, li_108, li_114, li_120, li_126, li_360, li_480, li_1000, li_10000, e, nI_lt0, nI_le', hn, nI_eq', eq_self, if_true, if_false, not_true_eq_false, not_false_eq_true, Nat.one_ne_zero]
theorem sX2_at1 {k : Nat} (hk : k < 3) : qzC d 84 [.ref 1001, .int (nI k)] (67, qzRr pa, h) = some (some (.int (nI (if k = 0 then 5 else 9))), (67, qzRr pa, h)) := by
  have hi : qzIn (nI k) 3 = true := qzIn_nI hk (by omega)
  have e : qzSv (1001 - 1000) k = nI (if k = 0 then 5 else 9) := by
    rcases (by omega : k = 0 ∨ k = 1 ∨ k = 2) with e | e | e <;> subst e <;> decide
  have hn : ¬ 3 ≤ k := by omega
  simp (disch := first | assumption | omega | (refine nI_ne0 ?_ ?_ <;> omega) | exact agG (by assumption) | exact agG (Or.inl rfl) | exact al22 | (refine qi_22 ?_; omega) | exact ar_0 | exact le67 | exact al23 | (refine qi_23 ?_; omega) | exact ar_22 | exact ar_23 | exact ar_24 | exact ar_28 | exact ln0 | exact ln1 | exact ln2 | exact ln3 | exact ln4 | exact ln5 | exact nbf0 | exact nbf1 | exact nb0n | exact nb1n | (refine nn0 ?_ ?_ <;> omega) | exact nb0 | exact nb1 | decide) only [kX2_at, eX2_at_0, eX2_at_1, eX2_at_4, eX2_at_5, eX2_at_6, eX2_at_6S, eX2_at_7, eX2_at_10, eX2_at_11, eX2_at_12, eX2_at_12S, eX2_at_13, eX2_at_16, eX2_at_17, vrf_s, vrf_n, rG_0, rG_1, rG_2, rG_3, rG_4, rG_5, rr_1_0, rr_1_1, rr_1_2, rr_1_3, rr_1_4, rr_1_5, rr_8_0, rr_8_1, rr_8_2, rr_8_3, rr_8_4, rr_8_5, rr_0_0, rr_0_1, rr_0_2, rr_0_4, rr_0_6, rr_0_8, rr_0_9, Option.bind_some, Option.toList_some, Option.toList_none, List.cons_append, List.nil_append, List.singleton_append, nI_add, nI_mul, nI_sub, nI_cl, li_0, li_1, li_2, li_3, li_4, li_5, li_6, li_7, li_8, li_9, li_10, li_11, li_12, li_13, li_14, li_15, li_16, li_17, li_18, li_19, li_20, li_21, li_22, li_23, li_24, li_25, li_26, li_27, li_28, li_29, li_30, li_31, li_32, li_33, li_34, li_35, li_36, li_37, li_38, li_39, li_40, li_41, li_42, li_43, li_44, li_45, li_46, li_47, li_48, li_49, li_50, li_51, li_52, li_53, li_54, li_55, li_56, li_57, li_58, li_59, li_60, li_61, li_97, li_98, li_102, li_103, li_108, li_114, li_120, li_126, li_360, li_480, li_1000, li_10000, e, nI_lt0, nI_le', hn, nI_eq', eq_self, if_true, if_false, not_true_eq_false, not_false_eq_true, Nat.one_ne_zero]
theorem gTrLoop {b : Nat} (hb : gB b) (hi : zInv m) : ∀ (r k : Nat), k + r = m 2 / 2 → 1 ≤ m 2 → ∀ (h : Nat → Nat → Int32) (x4 : Value), (∀ i, i < m 0 → h (b + 1) i = nI (zMr m k (8 + i))) → ∃ h', qzV (d + 1) 9 14 [.ref b, .int (nI (zMd m k)), .int (nI (m 1 + k)), .int (nI (m 1 + m 2 - 1 - k)), x4] [] (67, qzRr pa, h) = some (some (.int (nI (zMd m (m 2 / 2)))), (67, qzRr pa, h')) ∧ (∀ i, i < m 0 → h' (b + 1) i = nI (zMr m (m 2 / 2) (8 + i))) ∧ ∀ a, a ≠ b + 1 → h' a = h a := by
  intro r
  have b20 : m 1 + m 2 ≤ 20 := by have := hi.1.2; have := hi.2.1; omega
  have m0 := hi.2.1
  induction r with
  | zero =>
    intro k hk h1m h x4 hs
    have e : k = m 2 / 2 := by omega
    have w : m 1 + m 2 - 1 - k ≤ m 1 + k := by omega
    rw [← e]
    refine ⟨h, ?_, hs, fun _ _ => rfl⟩
    rw [eX0_turnRound_14]
    generalize zMd m k = Z
    simp (disch := first | assumption | omega | (refine nI_ne0 ?_ ?_ <;> omega) | exact agG (by assumption) | exact agG (Or.inl rfl) | exact al22 | (refine qi_22 ?_; omega) | exact ar_0 | exact le67 | exact al23 | (refine qi_23 ?_; omega) | exact ar_22 | exact ar_23 | exact ar_24 | exact ar_28 | exact ln0 | exact ln1 | exact ln2 | exact ln3 | exact ln4 | exact ln5 | exact nbf0 | exact nbf1 | exact nb0n | exact nb1n | (refine nn0 ?_ ?_ <;> omega) | exact nb0 | exact nb1 | decide) only [eX0_turnRound_0, eX0_turnRound_1, eX0_turnRound_2, eX0_turnRound_3, eX0_turnRound_6, eX0_turnRound_7, eX0_turnRound_8, eX0_turnRound_11, eX0_turnRound_12, eX0_turnRound_13, eX0_turnRound_15, eX0_turnRound_16, eX0_turnRound_19, eX0_turnRound_20, eX0_turnRound_23, eX0_turnRound_24, eX0_turnRound_27, eX0_turnRound_29, eX0_turnRound_31, eX0_turnRound_32, eX0_turnRound_35, eX0_turnRound_36, eX0_turnRound_39, eX0_turnRound_42, eX0_turnRound_45, eX0_turnRound_46, eX0_turnRound_49, eX0_turnRound_50, eX0_turnRound_51, eX0_turnRound_54, eX0_turnRound_55, eX0_turnRound_58, eX0_turnRound_61, eX0_turnRound_62, eX0_turnRound_65, eX0_turnRound_66, eX0_turnRound_68, eX0_turnRound_71, eX0_turnRound_74, eX0_turnRound_77, eX0_turnRound_80, eX0_turnRound_81, vrf_s, vrf_n, rG_0, rG_1, rG_2, rG_3, rG_4, rG_5, rr_1_0, rr_1_1, rr_1_2, rr_1_3, rr_1_4, rr_1_5, rr_8_0, rr_8_1, rr_8_2, rr_8_3, rr_8_4, rr_8_5, rr_0_0, rr_0_1, rr_0_2, rr_0_4, rr_0_6, rr_0_8, rr_0_9, Option.bind_some, Option.toList_some, Option.toList_none, List.cons_append, List.nil_append, List.singleton_append, nI_add, nI_mul, nI_sub, nI_cl, li_0, li_1, li_2, li_3, li_4, li_5, li_6, li_7, li_8, li_9, li_10, li_11, li_12, li_13, li_14, li_15, li_16, li_17, li_18, li_19, li_20, li_21, li_22, li_23, li_24, li_25, li_26, li_27, li_28, li_29, li_30, li_31, li_32, li_33, li_34, li_35, li_36, li_37, li_38, li_39, li_40, li_41, li_42, li_43, li_44, li_45, li_46, li_47, li_48, li_49, li_50, li_51, li_52, li_53, li_54, li_55, li_56, li_57, li_58, li_59, li_60, li_61, li_97, li_98, li_102, li_103, li_108, li_114, li_120, li_126, li_360, li_480, li_1000, li_10000, nI_le', w, nI_eq', eq_self, if_true, if_false, not_true_eq_false, not_false_eq_true, Nat.one_ne_zero]
  | succ r ih =>
    intro k hk h1m h x4 hs
    have w : ¬ m 1 + m 2 - 1 - k ≤ m 1 + k := by omega
    have ho : h (b + 1) (m 1 + k) = nI (m (8 + m 1 + k)) := by
      rw [hs _ (by omega)]; unfold zMr; rw [if_neg (fun z => by omega), Nat.add_assoc]
    have ht : h (b + 1) (m 1 + m 2 - 1 - k) = nI (m (8 + m 1 + m 2 - 1 - k)) := by
      rw [hs _ (by omega)]; unfold zMr; rw [if_neg (fun z => by omega), show 8 + (m 1 + m 2 - 1 - k) = 8 + m 1 + m 2 - 1 - k by omega]
    have bo : m (8 + m 1 + k) ≤ 5 := by
      have := hi.2.2.2.2.2.2.2.1 (m 1 + k) (by omega)
      rwa [show 8 + (m 1 + k) = 8 + m 1 + k by omega] at this
    have bt : m (8 + m 1 + m 2 - 1 - k) ≤ 5 := by
      have := hi.2.2.2.2.2.2.2.1 (m 1 + m 2 - 1 - k) (by omega)
      rwa [show 8 + (m 1 + m 2 - 1 - k) = 8 + m 1 + m 2 - 1 - k by omega] at this
    have hs2 : ∀ i, i < m 0 → qzUp (qzUp h (b + 1) (m 1 + k) (nI (m (8 + m 1 + m 2 - 1 - k)))) (b + 1) (m 1 + m 2 - 1 - k) (nI (m (8 + m 1 + k))) (b + 1) i = nI (zMr m (k + 1) (8 + i)) := by
      intro i hi
      by_cases c1 : i = m 1 + m 2 - 1 - k
      · have e : zMr m (k + 1) (8 + i) = m (8 + m 1 + k) := by
          unfold zMr
          rw [if_pos (by omega)]
          congr 1
          omega
        rw [e]
        simp [qzUp, c1]
      · by_cases c2 : i = m 1 + k
        · have e : zMr m (k + 1) (8 + i) = m (8 + m 1 + m 2 - 1 - k) := by
            unfold zMr
            rw [if_pos (by omega)]
            congr 1
            omega
          rw [e]
          have c3 : ¬ m 1 + k = m 1 + m 2 - 1 - k := by omega
          simp [qzUp, c2, c3]
        · have e : zMr m (k + 1) (8 + i) = zMr m k (8 + i) := by
            unfold zMr
            by_cases z : (8 + m 1 ≤ 8 + i ∧ 8 + i < 8 + m 1 + m 2) ∧ (8 + i - 8 - m 1 < k ∨ m 2 - 1 - (8 + i - 8 - m 1) < k)
            · rw [if_pos z, if_pos (by omega)]
            · rw [if_neg z, if_neg (by omega)]
          rw [e, ← hs i hi]
          simp [qzUp, c1, c2]
    have a0 := aG_0 hb
    have hk1 := sX2_at (d := d) (pa := pa) (h := h) (k := m 1 + k) a0 (by omega)
    have hk2 := sX2_at (d := d) (pa := pa) (h := h) (k := m 1 + m 2 - 1 - k) a0 (by omega)
    rw [ho] at hk1
    rw [ht] at hk2
    have hp1 := sX2_put20 (d := d) (pa := pa) (h := h) (j := m 1 + k) (x := nI (m (8 + m 1 + m 2 - 1 - k))) a0 (by omega)
    have hp2 := sX2_put20 (d := d) (pa := pa) (h := qzUp h (b + 1) (m 1 + k) (nI (m (8 + m 1 + m 2 - 1 - k)))) (j := m 1 + m 2 - 1 - k) (x := nI (m (8 + m 1 + k))) a0 (by omega)
    obtain ⟨h', e1, e2, e3⟩ := ih (k + 1) (by omega) h1m _ (.int (nI (m (8 + m 1 + k)))) hs2
    refine ⟨h', ?_, e2, fun a ha => (e3 a ha).trans (by simp only [qzUp_ne ha])⟩
    have ei : m 1 + k + 1 = m 1 + (k + 1) := by omega
    have ej : m 1 + m 2 - 1 - k - 1 = m 1 + m 2 - 1 - (k + 1) := by omega
    have bj : 1 ≤ m 1 + m 2 - 1 - k := by omega
    rw [← e1, eX0_turnRound_14]
    by_cases z : m (8 + m 1 + k) = m (8 + m 1 + m 2 - 1 - k)
    · have ek : zMd m (k + 1) = zMd m k := by
        show zMd m k + (if m (8 + m 1 + k) = m (8 + m 1 + m 2 - 1 - k) then 0 else 2) = _
        rw [if_pos z]
        rfl
      rw [ek]
      rw [← z] at hk2 hp1 hp2 ⊢
      clear hs2 e1 e2 e3 ih hs ho ht
      generalize m (8 + m 1 + k) = C at *
      generalize zMd m k = Z at *
      simp (disch := first | assumption | omega | (refine nI_ne0 ?_ ?_ <;> omega) | exact agG (by assumption) | exact agG (Or.inl rfl) | exact al22 | (refine qi_22 ?_; omega) | exact ar_0 | exact le67 | exact al23 | (refine qi_23 ?_; omega) | exact ar_22 | exact ar_23 | exact ar_24 | exact ar_28 | exact ln0 | exact ln1 | exact ln2 | exact ln3 | exact ln4 | exact ln5 | exact nbf0 | exact nbf1 | exact nb0n | exact nb1n | (refine nn0 ?_ ?_ <;> omega) | exact nb0 | exact nb1 | decide) only [eX0_turnRound_0, eX0_turnRound_1, eX0_turnRound_2, eX0_turnRound_3, eX0_turnRound_6, eX0_turnRound_7, eX0_turnRound_8, eX0_turnRound_11, eX0_turnRound_12, eX0_turnRound_13, eX0_turnRound_15, eX0_turnRound_16, eX0_turnRound_19, eX0_turnRound_20, eX0_turnRound_23, eX0_turnRound_24, eX0_turnRound_27, eX0_turnRound_29, eX0_turnRound_31, eX0_turnRound_32, eX0_turnRound_35, eX0_turnRound_36, eX0_turnRound_39, eX0_turnRound_42, eX0_turnRound_45, eX0_turnRound_46, eX0_turnRound_49, eX0_turnRound_50, eX0_turnRound_51, eX0_turnRound_54, eX0_turnRound_55, eX0_turnRound_58, eX0_turnRound_61, eX0_turnRound_62, eX0_turnRound_65, eX0_turnRound_66, eX0_turnRound_68, eX0_turnRound_71, eX0_turnRound_74, eX0_turnRound_77, eX0_turnRound_80, eX0_turnRound_81, vrf_s, vrf_n, rG_0, rG_1, rG_2, rG_3, rG_4, rG_5, rr_1_0, rr_1_1, rr_1_2, rr_1_3, rr_1_4, rr_1_5, rr_8_0, rr_8_1, rr_8_2, rr_8_3, rr_8_4, rr_8_5, rr_0_0, rr_0_1, rr_0_2, rr_0_4, rr_0_6, rr_0_8, rr_0_9, Option.bind_some, Option.toList_some, Option.toList_none, List.cons_append, List.nil_append, List.singleton_append, nI_add, nI_mul, nI_sub, nI_cl, li_0, li_1, li_2, li_3, li_4, li_5, li_6, li_7, li_8, li_9, li_10, li_11, li_12, li_13, li_14, li_15, li_16, li_17, li_18, li_19, li_20, li_21, li_22, li_23, li_24, li_25, li_26, li_27, li_28, li_29, li_30, li_31, li_32, li_33, li_34, li_35, li_36, li_37, li_38, li_39, li_40, li_41, li_42, li_43, li_44, li_45, li_46, li_47, li_48, li_49, li_50, li_51, li_52, li_53, li_54, li_55, li_56, li_57, li_58, li_59, li_60, li_61, li_97, li_98, li_102, li_103, li_108, li_114, li_120, li_126, li_360, li_480, li_1000, li_10000, nI_le', nI_eq', nI_ng1, hk1, hk2, hp1, hp2, ei, ej, w, nI_eq', eq_self, if_true, if_false, not_true_eq_false, not_false_eq_true, Nat.one_ne_zero]
    · have ek : zMd m (k + 1) = zMd m k + 2 := by show zMd m k + (if m (8 + m 1 + k) = m (8 + m 1 + m 2 - 1 - k) then 0 else 2) = _; rw [if_neg z]
      rw [ek]
      clear hs2 e1 e2 e3 ih hs ho ht
      generalize m (8 + m 1 + k) = C at *
      generalize m (8 + m 1 + m 2 - 1 - k) = D at *
      generalize zMd m k = Z at *
      simp (disch := first | assumption | omega | (refine nI_ne0 ?_ ?_ <;> omega) | exact agG (by assumption) | exact agG (Or.inl rfl) | exact al22 | (refine qi_22 ?_; omega) | exact ar_0 | exact le67 | exact al23 | (refine qi_23 ?_; omega) | exact ar_22 | exact ar_23 | exact ar_24 | exact ar_28 | exact ln0 | exact ln1 | exact ln2 | exact ln3 | exact ln4 | exact ln5 | exact nbf0 | exact nbf1 | exact nb0n | exact nb1n | (refine nn0 ?_ ?_ <;> omega) | exact nb0 | exact nb1 | decide) only [eX0_turnRound_0, eX0_turnRound_1, eX0_turnRound_2, eX0_turnRound_3, eX0_turnRound_6, eX0_turnRound_7, eX0_turnRound_8, eX0_turnRound_11, eX0_turnRound_12, eX0_turnRound_13, eX0_turnRound_15, eX0_turnRound_16, eX0_turnRound_19, eX0_turnRound_20, eX0_turnRound_23, eX0_turnRound_24, eX0_turnRound_27, eX0_turnRound_29, eX0_turnRound_31, eX0_turnRound_32, eX0_turnRound_35, eX0_turnRound_36, eX0_turnRound_39, eX0_turnRound_42, eX0_turnRound_45, eX0_turnRound_46, eX0_turnRound_49, eX0_turnRound_50, eX0_turnRound_51, eX0_turnRound_54, eX0_turnRound_55, eX0_turnRound_58, eX0_turnRound_61, eX0_turnRound_62, eX0_turnRound_65, eX0_turnRound_66, eX0_turnRound_68, eX0_turnRound_71, eX0_turnRound_74, eX0_turnRound_77, eX0_turnRound_80, eX0_turnRound_81, vrf_s, vrf_n, rG_0, rG_1, rG_2, rG_3, rG_4, rG_5, rr_1_0, rr_1_1, rr_1_2, rr_1_3, rr_1_4, rr_1_5, rr_8_0, rr_8_1, rr_8_2, rr_8_3, rr_8_4, rr_8_5, rr_0_0, rr_0_1, rr_0_2, rr_0_4, rr_0_6, rr_0_8, rr_0_9, Option.bind_some, Option.toList_some, Option.toList_none, List.cons_append, List.nil_append, List.singleton_append, nI_add, nI_mul, nI_sub, nI_cl, li_0, li_1, li_2, li_3, li_4, li_5, li_6, li_7, li_8, li_9, li_10, li_11, li_12, li_13, li_14, li_15, li_16, li_17, li_18, li_19, li_20, li_21, li_22, li_23, li_24, li_25, li_26, li_27, li_28, li_29, li_30, li_31, li_32, li_33, li_34, li_35, li_36, li_37, li_38, li_39, li_40, li_41, li_42, li_43, li_44, li_45, li_46, li_47, li_48, li_49, li_50, li_51, li_52, li_53, li_54, li_55, li_56, li_57, li_58, li_59, li_60, li_61, li_97, li_98, li_102, li_103, li_108, li_114, li_120, li_126, li_360, li_480, li_1000, li_10000, nI_le', nI_eq', nI_ng1, hk1, hk2, hp1, hp2, ei, ej, w, z, nI_eq', eq_self, if_true, if_false, not_true_eq_false, not_false_eq_true, Nat.one_ne_zero]
theorem gX0_turnRound {b : Nat} (hb : gB b) (hg : gRel h b m T) (hi : zInv m) : ∃ h', qzC (d + 1) 9 [.ref b] (67, qzRr pa, h) = some (some (.int (nI (zMd m (m 2 / 2)))), (67, qzRr pa, h')) ∧ gRel h' b (zMr m (m 2 / 2)) T ∧ ∀ a, a ≠ b + 1 → h' a = h a := by
  obtain ⟨⟨g6, g7, g8, g9⟩, gc, gs, gp⟩ := hg
  have b20 := hi.1.2
  have b21 := hi.2.1
  obtain ⟨h', e1, e2, e3⟩ : ∃ h', qzC (d + 1) 9 [.ref b] (67, qzRr pa, h) = some (some (.int (nI (zMd m (m 2 / 2)))), (67, qzRr pa, h')) ∧ (∀ i, i < m 0 → h' (b + 1) i = nI (zMr m (m 2 / 2) (8 + i))) ∧ ∀ a, a ≠ b + 1 → h' a = h a := by
    by_cases q : m 2 = 0
    · refine ⟨h, ?_, fun i hi => by rw [q, zMr_0]; exact gc i hi, fun _ _ => rfl⟩
      rw [q, Nat.add_zero] at g8
      have e := nI_pred_le (m 1) (by omega)
      have ez : zMd m (m 2 / 2) = 0 := by rw [q]; rfl
      rw [ez]
      simp (disch := first | assumption | omega | (refine nI_ne0 ?_ ?_ <;> omega) | exact agG (by assumption) | exact agG (Or.inl rfl) | exact al22 | (refine qi_22 ?_; omega) | exact ar_0 | exact le67 | exact al23 | (refine qi_23 ?_; omega) | exact ar_22 | exact ar_23 | exact ar_24 | exact ar_28 | exact ln0 | exact ln1 | exact ln2 | exact ln3 | exact ln4 | exact ln5 | exact nbf0 | exact nbf1 | exact nb0n | exact nb1n | (refine nn0 ?_ ?_ <;> omega) | exact nb0 | exact nb1 | decide) only [kX0_turnRound, eX0_turnRound_0, eX0_turnRound_1, eX0_turnRound_2, eX0_turnRound_3, eX0_turnRound_6, eX0_turnRound_7, eX0_turnRound_8, eX0_turnRound_11, eX0_turnRound_12, eX0_turnRound_13, eX0_turnRound_14, eX0_turnRound_15, eX0_turnRound_16, eX0_turnRound_19, eX0_turnRound_20, eX0_turnRound_23, eX0_turnRound_24, eX0_turnRound_27, eX0_turnRound_29, eX0_turnRound_31, eX0_turnRound_32, eX0_turnRound_35, eX0_turnRound_36, eX0_turnRound_39, eX0_turnRound_42, eX0_turnRound_45, eX0_turnRound_46, eX0_turnRound_49, eX0_turnRound_50, eX0_turnRound_51, eX0_turnRound_54, eX0_turnRound_55, eX0_turnRound_58, eX0_turnRound_61, eX0_turnRound_62, eX0_turnRound_65, eX0_turnRound_66, eX0_turnRound_68, eX0_turnRound_71, eX0_turnRound_74, eX0_turnRound_77, eX0_turnRound_80, eX0_turnRound_81, vrf_s, vrf_n, rG_0, rG_1, rG_2, rG_3, rG_4, rG_5, rr_1_0, rr_1_1, rr_1_2, rr_1_3, rr_1_4, rr_1_5, rr_8_0, rr_8_1, rr_8_2, rr_8_3, rr_8_4, rr_8_5, rr_0_0, rr_0_1, rr_0_2, rr_0_4, rr_0_6, rr_0_8, rr_0_9, Option.bind_some, Option.toList_some, Option.toList_none, List.cons_append, List.nil_append, List.singleton_append, nI_add, nI_mul, nI_sub, nI_cl, li_0, li_1, li_2, li_3, li_4, li_5, li_6, li_7, li_8, li_9, li_10, li_11, li_12, li_13, li_14, li_15, li_16, li_17, li_18, li_19, li_20, li_21, li_22, li_23, li_24, li_25, li_26, li_27, li_28, li_29, li_30, li_31, li_32, li_33, li_34, li_35, li_36, li_37, li_38, li_39, li_40, li_41, li_42, li_43, li_44, li_45, li_46, li_47, li_48, li_49, li_50, li_51, li_52, li_53, li_54, li_55, li_56, li_57, li_58, li_59, li_60, li_61, li_97, li_98, li_102, li_103, li_108, li_114, li_120, li_126, li_360, li_480, li_1000, li_10000, e, g7, g8, nI_eq', eq_self, if_true, if_false, not_true_eq_false, not_false_eq_true, Nat.one_ne_zero]
    · obtain ⟨h', e1, e2, e3⟩ := gTrLoop (d := d) (pa := pa) hb hi (m 2 / 2) 0 (by omega) (by omega) h (.float 0) (fun i hi => by rw [zMr_0]; exact gc i hi)
      refine ⟨h', ?_, e2, e3⟩
      rw [← e1]
      have ez : zMd m 0 = 0 := rfl
      have b1 : 1 ≤ m 1 + m 2 := by omega
      rw [ez]
      simp (disch := first | assumption | omega | (refine nI_ne0 ?_ ?_ <;> omega) | exact agG (by assumption) | exact agG (Or.inl rfl) | exact al22 | (refine qi_22 ?_; omega) | exact ar_0 | exact le67 | exact al23 | (refine qi_23 ?_; omega) | exact ar_22 | exact ar_23 | exact ar_24 | exact ar_28 | exact ln0 | exact ln1 | exact ln2 | exact ln3 | exact ln4 | exact ln5 | exact nbf0 | exact nbf1 | exact nb0n | exact nb1n | (refine nn0 ?_ ?_ <;> omega) | exact nb0 | exact nb1 | decide) only [kX0_turnRound, eX0_turnRound_0, eX0_turnRound_1, eX0_turnRound_2, eX0_turnRound_3, eX0_turnRound_6, eX0_turnRound_7, eX0_turnRound_8, eX0_turnRound_11, eX0_turnRound_12, eX0_turnRound_13, eX0_turnRound_15, eX0_turnRound_16, eX0_turnRound_19, eX0_turnRound_20, eX0_turnRound_23, eX0_turnRound_24, eX0_turnRound_27, eX0_turnRound_29, eX0_turnRound_31, eX0_turnRound_32, eX0_turnRound_35, eX0_turnRound_36, eX0_turnRound_39, eX0_turnRound_42, eX0_turnRound_45, eX0_turnRound_46, eX0_turnRound_49, eX0_turnRound_50, eX0_turnRound_51, eX0_turnRound_54, eX0_turnRound_55, eX0_turnRound_58, eX0_turnRound_61, eX0_turnRound_62, eX0_turnRound_65, eX0_turnRound_66, eX0_turnRound_68, eX0_turnRound_71, eX0_turnRound_74, eX0_turnRound_77, eX0_turnRound_80, eX0_turnRound_81, vrf_s, vrf_n, rG_0, rG_1, rG_2, rG_3, rG_4, rG_5, rr_1_0, rr_1_1, rr_1_2, rr_1_3, rr_1_4, rr_1_5, rr_8_0, rr_8_1, rr_8_2, rr_8_3, rr_8_4, rr_8_5, rr_0_0, rr_0_1, rr_0_2, rr_0_4, rr_0_6, rr_0_8, rr_0_9, Option.bind_some, Option.toList_some, Option.toList_none, List.cons_append, List.nil_append, List.singleton_append, nI_add, nI_mul, nI_sub, nI_cl, li_0, li_1, li_2, li_3, li_4, li_5, li_6, li_7, li_8, li_9, li_10, li_11, li_12, li_13, li_14, li_15, li_16, li_17, li_18, li_19, li_20, li_21, li_22, li_23, li_24, li_25, li_26, li_27, li_28, li_29, li_30, li_31, li_32, li_33, li_34, li_35, li_36, li_37, li_38, li_39, li_40, li_41, li_42, li_43, li_44, li_45, li_46, li_47, li_48, li_49, li_50, li_51, li_52, li_53, li_54, li_55, li_56, li_57, li_58, li_59, li_60, li_61, li_97, li_98, li_102, li_103, li_108, li_114, li_120, li_126, li_360, li_480, li_1000, li_10000, g7, g8, Nat.sub_zero, Nat.add_zero, nI_eq', eq_self, if_true, if_false, not_true_eq_false, not_false_eq_true, Nat.one_ne_zero]
  have o : ∀ i, (i < 8 ∨ 28 ≤ i) → zMr m (m 2 / 2) i = m i := fun i hi => zMr_out (by omega)
  refine ⟨h', e1, ⟨⟨?_, ?_, ?_, ?_⟩, fun i hi => ?_, fun k hk => ?_, fun j hj => ?_⟩, e3⟩
  · rw [o 0 (by omega), e3 b (by omega)]; exact g6
  · rw [o 1 (by omega), e3 b (by omega)]; exact g7
  · rw [o 1 (by omega), o 2 (by omega), e3 b (by omega)]; exact g8
  · rw [o 4 (by omega), e3 b (by omega)]; exact g9
  · rw [o 0 (by omega)] at hi
    exact e2 i hi
  · rw [o _ (by omega), e3 _ (by omega)]; exact gs k hk
  · rw [o 4 (by omega)] at hj
    have z := zQ_ge (j := j)
    rw [o _ (by omega), o _ (by omega), o _ (by omega), e3 _ (by omega), e3 _ (by omega), e3 _ (by omega), e3 _ (by omega)]
    exact gp j hj
theorem pX2_mirror (hR : cRel h pa m T P TP n K TK ik pd ln) : ∃ h' pa', qzC (d + 3) 29 [.ref 0] (67, qzRr pa, h) = some (some (.int (nI (zMd m (m 2 / 2)))), (67, qzRr pa', h')) ∧ cRel h' pa' (zMr m (m 2 / 2)) (T) (zPush P n m) (zPush TP n T) (min n 3 + 1) K TK ik (pd) (ln) ∧ cFr h h' := by
  have ag1 : qzArr 0 1 67 = true := agG (Or.inl rfl)
  obtain ⟨h1, pa1, e1, r1, f1, f2, f3⟩ := rX2_record (d := d) (pa := pa) hR
  obtain ⟨h2, e2, g1, g3⟩ := gX0_turnRound (d := d + 1) (pa := pa1) (Or.inl rfl) r1.1.1 r1.1.2.2
  refine ⟨h2, pa1, ?_, r1.now ⟨g1, r1.1.2.1.cg r1.1.2.2 (fun i hi => zMr_out (by have := r1.1.2.2.1; have := r1.1.2.2.2.1; omega)) (fun i hi hi2 => zMr_out (by omega)), zMr_inv r1.1.2.2⟩ (fun a ha => g3 a (by omega)), fun a a1 a2 => (g3 a (by omega)).trans (f1 a (by omega) a2), fun a a1 => (g3 a (by omega)).trans (f2 a a1)⟩
  simp (disch := first | assumption | omega | (refine nI_ne0 ?_ ?_ <;> omega) | exact agG (by assumption) | exact agG (Or.inl rfl) | exact al22 | (refine qi_22 ?_; omega) | exact ar_0 | exact le67 | exact al23 | (refine qi_23 ?_; omega) | exact ar_22 | exact ar_23 | exact ar_24 | exact ar_28 | exact ln0 | exact ln1 | exact ln2 | exact ln3 | exact ln4 | exact ln5 | exact nbf0 | exact nbf1 | exact nb0n | exact nb1n | (refine nn0 ?_ ?_ <;> omega) | exact nb0 | exact nb1 | decide) only [kX2_mirror, eX2_mirror_0, eX2_mirror_1, eX2_mirror_4, eX2_mirror_5, eX2_mirror_8, eX2_mirror_11, vrf_s, vrf_n, rG_0, rG_1, rG_2, rG_3, rG_4, rG_5, rr_1_0, rr_1_1, rr_1_2, rr_1_3, rr_1_4, rr_1_5, rr_8_0, rr_8_1, rr_8_2, rr_8_3, rr_8_4, rr_8_5, rr_0_0, rr_0_1, rr_0_2, rr_0_4, rr_0_6, rr_0_8, rr_0_9, Option.bind_some, Option.toList_some, Option.toList_none, List.cons_append, List.nil_append, List.singleton_append, nI_add, nI_mul, nI_sub, nI_cl, li_0, li_1, li_2, li_3, li_4, li_5, li_6, li_7, li_8, li_9, li_10, li_11, li_12, li_13, li_14, li_15, li_16, li_17, li_18, li_19, li_20, li_21, li_22, li_23, li_24, li_25, li_26, li_27, li_28, li_29, li_30, li_31, li_32, li_33, li_34, li_35, li_36, li_37, li_38, li_39, li_40, li_41, li_42, li_43, li_44, li_45, li_46, li_47, li_48, li_49, li_50, li_51, li_52, li_53, li_54, li_55, li_56, li_57, li_58, li_59, li_60, li_61, li_97, li_98, li_102, li_103, li_108, li_114, li_120, li_126, li_360, li_480, li_1000, li_10000, e1, e2, nI_eq', eq_self, if_true, if_false, not_true_eq_false, not_false_eq_true, Nat.one_ne_zero]
theorem cRel.pad {h' : Nat → Nat → Int32} {pd' : Nat → Nat} {ln' : Nat} (hR : cRel h pa m T P TP n K TK ik pd ln) (hf : ∀ a, a ≠ 0 → a ≠ 23 → h' a = h a) (h0 : ∀ j, j ≠ 7 → h' 0 j = h 0 j) (h7 : h' 0 7 = nI ln') (hl : ln' ≤ 60) (hp : ∀ i, i < ln' → h' 23 i = nI (pd' i)) (hp2 : ∀ i, i < ln' → 33 ≤ pd' i ∧ pd' i ≤ 126) : cRel h' pa m T P TP n K TK ik pd' ln' := by
  obtain ⟨hm, ⟨p1, p2, p3, p4, p5⟩, ⟨s1, s2, s3⟩, t1, t2, t3, t4⟩ := hR
  refine ⟨hm.fr (fun a a1 a2 => hf a (by omega) (by omega)), ⟨by rw [h0 5 (by omega)]; exact p1, p2, p3, p4, fun k hk => (p5 k hk).fr (fun a a1 a2 => hf a ?_ ?_)⟩, ⟨by rw [h0 3 (by omega)]; exact s1, s2, fun z => (s3 z).fr (fun a a1 a2 => hf a (by omega) (by omega))⟩, hp, h7, hl, hp2⟩
  · have := p3 k (by omega); rcases this with e | e | e | e <;> omega
  · have := p3 k (by omega); rcases this with e | e | e | e <;> omega
theorem pX2_clear (hR : cRel h pa m T P TP n K TK ik pd ln) : ∃ h', qzC d 32 [.ref 0] (67, qzRr pa, h) = some (some (.int (nI ln)), (67, qzRr pa, h')) ∧ cRel h' pa (m) (T) (P) (TP) (n) K TK ik (pd) (0) ∧ cFr h h' := by
  obtain ⟨hm, r2, r3, t1, t2, t3, t4⟩ := id hR
  refine ⟨qzUp h 0 7 (nI 0), ?_, hR.pad (fun a ha _ => qzUp_ne ha) (fun j hj => by simp [qzUp, hj]) (by simp [qzUp]) (by omega) (fun i hi => by omega) (fun i hi => by omega), fun a a1 a2 => qzUp_ne (by omega), fun a a1 => qzUp_ne (by omega)⟩
  simp (disch := first | assumption | omega | (refine nI_ne0 ?_ ?_ <;> omega) | exact agG (by assumption) | exact agG (Or.inl rfl) | exact al22 | (refine qi_22 ?_; omega) | exact ar_0 | exact le67 | exact al23 | (refine qi_23 ?_; omega) | exact ar_22 | exact ar_23 | exact ar_24 | exact ar_28 | exact ln0 | exact ln1 | exact ln2 | exact ln3 | exact ln4 | exact ln5 | exact nbf0 | exact nbf1 | exact nb0n | exact nb1n | (refine nn0 ?_ ?_ <;> omega) | exact nb0 | exact nb1 | decide) only [kX2_clear, eX2_clear_0, eX2_clear_1, eX2_clear_4, eX2_clear_5, eX2_clear_6, eX2_clear_7, eX2_clear_10, eX2_clear_11, vrf_s, vrf_n, rG_0, rG_1, rG_2, rG_3, rG_4, rG_5, rr_1_0, rr_1_1, rr_1_2, rr_1_3, rr_1_4, rr_1_5, rr_8_0, rr_8_1, rr_8_2, rr_8_3, rr_8_4, rr_8_5, rr_0_0, rr_0_1, rr_0_2, rr_0_4, rr_0_6, rr_0_8, rr_0_9, Option.bind_some, Option.toList_some, Option.toList_none, List.cons_append, List.nil_append, List.singleton_append, nI_add, nI_mul, nI_sub, nI_cl, li_0, li_1, li_2, li_3, li_4, li_5, li_6, li_7, li_8, li_9, li_10, li_11, li_12, li_13, li_14, li_15, li_16, li_17, li_18, li_19, li_20, li_21, li_22, li_23, li_24, li_25, li_26, li_27, li_28, li_29, li_30, li_31, li_32, li_33, li_34, li_35, li_36, li_37, li_38, li_39, li_40, li_41, li_42, li_43, li_44, li_45, li_46, li_47, li_48, li_49, li_50, li_51, li_52, li_53, li_54, li_55, li_56, li_57, li_58, li_59, li_60, li_61, li_97, li_98, li_102, li_103, li_108, li_114, li_120, li_126, li_360, li_480, li_1000, li_10000, t2, nI_eq', eq_self, if_true, if_false, not_true_eq_false, not_false_eq_true, Nat.one_ne_zero]
theorem pX2_append_e : ∀ (v : Int32), (v < nI 33 ∨ nI 126 < v) → qzC d 31 [.ref 0, .int v] (67, qzRr pa, h) = some (some (.int (-nI 1)), (67, qzRr pa, h)) := by
  intro v hv
  by_cases q : v < nI 33
  · simp (disch := first | assumption | omega | (refine nI_ne0 ?_ ?_ <;> omega) | exact agG (by assumption) | exact agG (Or.inl rfl) | exact al22 | (refine qi_22 ?_; omega) | exact ar_0 | exact le67 | exact al23 | (refine qi_23 ?_; omega) | exact ar_22 | exact ar_23 | exact ar_24 | exact ar_28 | exact ln0 | exact ln1 | exact ln2 | exact ln3 | exact ln4 | exact ln5 | exact nbf0 | exact nbf1 | exact nb0n | exact nb1n | (refine nn0 ?_ ?_ <;> omega) | exact nb0 | exact nb1 | decide) only [kX2_append, eX2_append_0, eX2_append_1, eX2_append_3, eX2_append_6, eX2_append_7, eX2_append_9, eX2_append_12, eX2_append_13, eX2_append_14, eX2_append_15, eX2_append_18, eX2_append_21, eX2_append_22, eX2_append_25, eX2_append_26, eX2_append_29, eX2_append_30, eX2_append_33, eX2_append_35, eX2_append_36, eX2_append_37, eX2_append_40, eX2_append_41, eX2_append_44, eX2_append_45, eX2_append_46, eX2_append_47, eX2_append_48, eX2_append_49, eX2_append_52, eX2_append_53, eX2_append_54, eX2_append_57, eX2_append_58, eX2_append_61, vrf_s, vrf_n, rG_0, rG_1, rG_2, rG_3, rG_4, rG_5, rr_1_0, rr_1_1, rr_1_2, rr_1_3, rr_1_4, rr_1_5, rr_8_0, rr_8_1, rr_8_2, rr_8_3, rr_8_4, rr_8_5, rr_0_0, rr_0_1, rr_0_2, rr_0_4, rr_0_6, rr_0_8, rr_0_9, Option.bind_some, Option.toList_some, Option.toList_none, List.cons_append, List.nil_append, List.singleton_append, nI_add, nI_mul, nI_sub, nI_cl, li_0, li_1, li_2, li_3, li_4, li_5, li_6, li_7, li_8, li_9, li_10, li_11, li_12, li_13, li_14, li_15, li_16, li_17, li_18, li_19, li_20, li_21, li_22, li_23, li_24, li_25, li_26, li_27, li_28, li_29, li_30, li_31, li_32, li_33, li_34, li_35, li_36, li_37, li_38, li_39, li_40, li_41, li_42, li_43, li_44, li_45, li_46, li_47, li_48, li_49, li_50, li_51, li_52, li_53, li_54, li_55, li_56, li_57, li_58, li_59, li_60, li_61, li_97, li_98, li_102, li_103, li_108, li_114, li_120, li_126, li_360, li_480, li_1000, li_10000, q, nI_eq', eq_self, if_true, if_false, not_true_eq_false, not_false_eq_true, Nat.one_ne_zero]
  · have q2 : ¬ v ≤ nI 126 := vLe (hv.resolve_left q)
    simp (disch := first | assumption | omega | (refine nI_ne0 ?_ ?_ <;> omega) | exact agG (by assumption) | exact agG (Or.inl rfl) | exact al22 | (refine qi_22 ?_; omega) | exact ar_0 | exact le67 | exact al23 | (refine qi_23 ?_; omega) | exact ar_22 | exact ar_23 | exact ar_24 | exact ar_28 | exact ln0 | exact ln1 | exact ln2 | exact ln3 | exact ln4 | exact ln5 | exact nbf0 | exact nbf1 | exact nb0n | exact nb1n | (refine nn0 ?_ ?_ <;> omega) | exact nb0 | exact nb1 | decide) only [kX2_append, eX2_append_0, eX2_append_1, eX2_append_3, eX2_append_6, eX2_append_7, eX2_append_9, eX2_append_12, eX2_append_13, eX2_append_14, eX2_append_15, eX2_append_18, eX2_append_21, eX2_append_22, eX2_append_25, eX2_append_26, eX2_append_29, eX2_append_30, eX2_append_33, eX2_append_35, eX2_append_36, eX2_append_37, eX2_append_40, eX2_append_41, eX2_append_44, eX2_append_45, eX2_append_46, eX2_append_47, eX2_append_48, eX2_append_49, eX2_append_52, eX2_append_53, eX2_append_54, eX2_append_57, eX2_append_58, eX2_append_61, vrf_s, vrf_n, rG_0, rG_1, rG_2, rG_3, rG_4, rG_5, rr_1_0, rr_1_1, rr_1_2, rr_1_3, rr_1_4, rr_1_5, rr_8_0, rr_8_1, rr_8_2, rr_8_3, rr_8_4, rr_8_5, rr_0_0, rr_0_1, rr_0_2, rr_0_4, rr_0_6, rr_0_8, rr_0_9, Option.bind_some, Option.toList_some, Option.toList_none, List.cons_append, List.nil_append, List.singleton_append, nI_add, nI_mul, nI_sub, nI_cl, li_0, li_1, li_2, li_3, li_4, li_5, li_6, li_7, li_8, li_9, li_10, li_11, li_12, li_13, li_14, li_15, li_16, li_17, li_18, li_19, li_20, li_21, li_22, li_23, li_24, li_25, li_26, li_27, li_28, li_29, li_30, li_31, li_32, li_33, li_34, li_35, li_36, li_37, li_38, li_39, li_40, li_41, li_42, li_43, li_44, li_45, li_46, li_47, li_48, li_49, li_50, li_51, li_52, li_53, li_54, li_55, li_56, li_57, li_58, li_59, li_60, li_61, li_97, li_98, li_102, li_103, li_108, li_114, li_120, li_126, li_360, li_480, li_1000, li_10000, q, q2, nI_eq', eq_self, if_true, if_false, not_true_eq_false, not_false_eq_true, Nat.one_ne_zero]
theorem pX2_append_l (hR : cRel h pa m T P TP n K TK ik pd ln) {k : Nat} (hk : 33 ≤ k) (hk2 : k ≤ 126) (hl : ln = 60) : qzC d 31 [.ref 0, .int (nI k)] (67, qzRr pa, h) = some (some (.int (-nI 3)), (67, qzRr pa, h)) := by
  obtain ⟨hm, r2, r3, t1, t2, t3, t4⟩ := id hR
  subst hl
  have q : ¬ k < 33 := by omega
  simp (disch := first | assumption | omega | (refine nI_ne0 ?_ ?_ <;> omega) | exact agG (by assumption) | exact agG (Or.inl rfl) | exact al22 | (refine qi_22 ?_; omega) | exact ar_0 | exact le67 | exact al23 | (refine qi_23 ?_; omega) | exact ar_22 | exact ar_23 | exact ar_24 | exact ar_28 | exact ln0 | exact ln1 | exact ln2 | exact ln3 | exact ln4 | exact ln5 | exact nbf0 | exact nbf1 | exact nb0n | exact nb1n | (refine nn0 ?_ ?_ <;> omega) | exact nb0 | exact nb1 | decide) only [kX2_append, eX2_append_0, eX2_append_1, eX2_append_3, eX2_append_6, eX2_append_7, eX2_append_9, eX2_append_12, eX2_append_13, eX2_append_14, eX2_append_15, eX2_append_18, eX2_append_21, eX2_append_22, eX2_append_25, eX2_append_26, eX2_append_29, eX2_append_30, eX2_append_33, eX2_append_35, eX2_append_36, eX2_append_37, eX2_append_40, eX2_append_41, eX2_append_44, eX2_append_45, eX2_append_46, eX2_append_47, eX2_append_48, eX2_append_49, eX2_append_52, eX2_append_53, eX2_append_54, eX2_append_57, eX2_append_58, eX2_append_61, vrf_s, vrf_n, rG_0, rG_1, rG_2, rG_3, rG_4, rG_5, rr_1_0, rr_1_1, rr_1_2, rr_1_3, rr_1_4, rr_1_5, rr_8_0, rr_8_1, rr_8_2, rr_8_3, rr_8_4, rr_8_5, rr_0_0, rr_0_1, rr_0_2, rr_0_4, rr_0_6, rr_0_8, rr_0_9, Option.bind_some, Option.toList_some, Option.toList_none, List.cons_append, List.nil_append, List.singleton_append, nI_add, nI_mul, nI_sub, nI_cl, li_0, li_1, li_2, li_3, li_4, li_5, li_6, li_7, li_8, li_9, li_10, li_11, li_12, li_13, li_14, li_15, li_16, li_17, li_18, li_19, li_20, li_21, li_22, li_23, li_24, li_25, li_26, li_27, li_28, li_29, li_30, li_31, li_32, li_33, li_34, li_35, li_36, li_37, li_38, li_39, li_40, li_41, li_42, li_43, li_44, li_45, li_46, li_47, li_48, li_49, li_50, li_51, li_52, li_53, li_54, li_55, li_56, li_57, li_58, li_59, li_60, li_61, li_97, li_98, li_102, li_103, li_108, li_114, li_120, li_126, li_360, li_480, li_1000, li_10000, t2, q, kz23, nI_of20, nI_lt', nI_le', hk2, Nat.lt_irrefl, Nat.not_lt_zero, nI_eq', eq_self, if_true, if_false, not_true_eq_false, not_false_eq_true, Nat.one_ne_zero]
theorem pX2_append (hR : cRel h pa m T P TP n K TK ik pd ln) {k : Nat} (hk : 33 ≤ k) (hk2 : k ≤ 126) (hl : ln < 60) : ∃ h', qzC d 31 [.ref 0, .int (nI k)] (67, qzRr pa, h) = some (some (.int (nI (ln + 1))), (67, qzRr pa, h')) ∧ cRel h' pa (m) (T) (P) (TP) (n) K TK ik (zU pd ln k) (ln + 1) ∧ cFr h h' := by
  obtain ⟨hm, r2, r3, t1, t2, t3, t4⟩ := id hR
  have q : ¬ k < 33 := by omega
  have e1 := nI_chr k (by omega)
  have e2 := nI_nar k (by omega)
  have hi := qi_23' hl
  refine ⟨qzUp (qzUp h 23 ln (nI k)) 0 7 (nI (ln + 1)), ?_, hR.pad (fun a ha hb => (qzUp_ne ha).trans (qzUp_ne hb)) (fun j hj => by simp [qzUp, hj]) (by simp [qzUp]) (by omega) (fun i hi => ?_) (fun i hi => ?_), fun a a1 a2 => (qzUp_ne (by omega)).trans (qzUp_ne (by omega)), fun a a1 => (qzUp_ne (by omega)).trans (qzUp_ne (by omega))⟩
  · have e7 : qzUp h 23 ln (nI k) 0 7 = nI ln := by simp [qzUp, t2]
    have e8 : qzUp (qzUp h 23 ln (nI k)) 0 7 (nI (ln + 1)) 0 7 = nI (ln + 1) := by simp [qzUp]
    simp (disch := first | assumption | omega | (refine nI_ne0 ?_ ?_ <;> omega) | exact agG (by assumption) | exact agG (Or.inl rfl) | exact al22 | (refine qi_22 ?_; omega) | exact ar_0 | exact le67 | exact al23 | (refine qi_23 ?_; omega) | exact ar_22 | exact ar_23 | exact ar_24 | exact ar_28 | exact ln0 | exact ln1 | exact ln2 | exact ln3 | exact ln4 | exact ln5 | exact nbf0 | exact nbf1 | exact nb0n | exact nb1n | (refine nn0 ?_ ?_ <;> omega) | exact nb0 | exact nb1 | decide) only [kX2_append, eX2_append_0, eX2_append_1, eX2_append_3, eX2_append_6, eX2_append_7, eX2_append_9, eX2_append_12, eX2_append_13, eX2_append_14, eX2_append_15, eX2_append_18, eX2_append_21, eX2_append_22, eX2_append_25, eX2_append_26, eX2_append_29, eX2_append_30, eX2_append_33, eX2_append_35, eX2_append_36, eX2_append_37, eX2_append_40, eX2_append_41, eX2_append_44, eX2_append_45, eX2_append_46, eX2_append_47, eX2_append_48, eX2_append_49, eX2_append_52, eX2_append_53, eX2_append_54, eX2_append_57, eX2_append_58, eX2_append_61, vrf_s, vrf_n, rG_0, rG_1, rG_2, rG_3, rG_4, rG_5, rr_1_0, rr_1_1, rr_1_2, rr_1_3, rr_1_4, rr_1_5, rr_8_0, rr_8_1, rr_8_2, rr_8_3, rr_8_4, rr_8_5, rr_0_0, rr_0_1, rr_0_2, rr_0_4, rr_0_6, rr_0_8, rr_0_9, Option.bind_some, Option.toList_some, Option.toList_none, List.cons_append, List.nil_append, List.singleton_append, nI_add, nI_mul, nI_sub, nI_cl, li_0, li_1, li_2, li_3, li_4, li_5, li_6, li_7, li_8, li_9, li_10, li_11, li_12, li_13, li_14, li_15, li_16, li_17, li_18, li_19, li_20, li_21, li_22, li_23, li_24, li_25, li_26, li_27, li_28, li_29, li_30, li_31, li_32, li_33, li_34, li_35, li_36, li_37, li_38, li_39, li_40, li_41, li_42, li_43, li_44, li_45, li_46, li_47, li_48, li_49, li_50, li_51, li_52, li_53, li_54, li_55, li_56, li_57, li_58, li_59, li_60, li_61, li_97, li_98, li_102, li_103, li_108, li_114, li_120, li_126, li_360, li_480, li_1000, li_10000, t2, q, e1, e2, e7, e8, kz23, nI_of20, nI_lt', nI_le', hk2, hl, Nat.not_lt_zero, nI_eq', eq_self, if_true, if_false, not_true_eq_false, not_false_eq_true, Nat.one_ne_zero]
  · by_cases e : i = ln
    · subst e
      simp [qzUp, zU]
    · simp [qzUp, zU, e, t1 i (by omega)]
  · unfold zU
    split
    · omega
    · exact t4 i (by omega)
theorem zSet_inv {m : Nat → Nat} {k w : Nat} (hi : zInv m) (hk : k ≤ 2) (hw1 : (if k = 0 then 1 else 0) ≤ w) (hw2 : w ≤ (if k = 0 then 5 else 9)) : zInv (zU m (5 + k) w) := by
  obtain ⟨h0, h1, h3, h4, h5, h6, h7, h8, ht, hp⟩ := hi
  have z : ∀ i, ¬ i = 5 + k → zU m (5 + k) w i = m i := fun i hi => by simp [zU, hi]
  have z5 : zU m (5 + k) w 5 = if k = 0 then w else m 5 := by unfold zU; split <;> split <;> first | rfl | omega
  have z6 : zU m (5 + k) w 6 = if k = 1 then w else m 6 := by unfold zU; split <;> split <;> first | rfl | omega
  have z7 : zU m (5 + k) w 7 = if k = 2 then w else m 7 := by unfold zU; split <;> split <;> first | rfl | omega
  unfold zInv
  rw [z 0 (by omega), z 1 (by omega), z 2 (by omega), z 3 (by omega), z 4 (by omega), z5, z6, z7]
  refine ⟨h0, h1, h3, h4, ?_, ?_, ?_, fun i hi => ?_, fun t htt => ?_, fun i hi hi2 => ?_⟩
  · split at hw1 <;> split at hw2 <;> split <;> omega
  · split <;> (try split at hw2) <;> omega
  · split <;> (try split at hw2) <;> omega
  · rw [z (8 + i) (by omega)]; exact h8 i hi
  · rw [z _ (by omega), z _ (by omega), z _ (by omega), z _ (by omega), z _ (by omega), z _ (by omega)]; exact ht t htt
  · rw [z i (by omega)]; exact hp i hi hi2
theorem sX2_put3 {a j : Nat} {x : Int32} (ha : rA a 3) (hj : j < 3) : qzC d 85 [.ref a, .int (nI j), .int x] (67, qzRr pa, h) = some (none, (67, qzRr pa, qzUp h a j x)) := sX2_put ha hj
theorem pX2_set_e : ∀ (v w : Int32), (v < nI 0 ∨ nI 2 < v) → qzC (d + 1) 30 [.ref 0, .int v, .int w] (67, qzRr pa, h) = some (some (.int (-nI 1)), (67, qzRr pa, h)) := by
  intro v w hv
  by_cases q : v < nI 0
  · simp (disch := first | assumption | omega | (refine nI_ne0 ?_ ?_ <;> omega) | exact agG (by assumption) | exact agG (Or.inl rfl) | exact al22 | (refine qi_22 ?_; omega) | exact ar_0 | exact le67 | exact al23 | (refine qi_23 ?_; omega) | exact ar_22 | exact ar_23 | exact ar_24 | exact ar_28 | exact ln0 | exact ln1 | exact ln2 | exact ln3 | exact ln4 | exact ln5 | exact nbf0 | exact nbf1 | exact nb0n | exact nb1n | (refine nn0 ?_ ?_ <;> omega) | exact nb0 | exact nb1 | decide) only [kX2_set, eX2_set_0, eX2_set_1, eX2_set_4, eX2_set_5, eX2_set_6, eX2_set_9, eX2_set_10, eX2_set_11, eX2_set_12, eX2_set_15, eX2_set_16, eX2_set_19, eX2_set_22, eX2_set_23, eX2_set_26, eX2_set_27, eX2_set_30, eX2_set_33, eX2_set_34, eX2_set_35, eX2_set_36, eX2_set_39, eX2_set_40, eX2_set_43, eX2_set_46, eX2_set_47, eX2_set_50, eX2_set_51, eX2_set_52, eX2_set_55, eX2_set_58, eX2_set_59, eX2_set_60, eX2_set_63, eX2_set_64, vrf_s, vrf_n, rG_0, rG_1, rG_2, rG_3, rG_4, rG_5, rr_1_0, rr_1_1, rr_1_2, rr_1_3, rr_1_4, rr_1_5, rr_8_0, rr_8_1, rr_8_2, rr_8_3, rr_8_4, rr_8_5, rr_0_0, rr_0_1, rr_0_2, rr_0_4, rr_0_6, rr_0_8, rr_0_9, Option.bind_some, Option.toList_some, Option.toList_none, List.cons_append, List.nil_append, List.singleton_append, nI_add, nI_mul, nI_sub, nI_cl, li_0, li_1, li_2, li_3, li_4, li_5, li_6, li_7, li_8, li_9, li_10, li_11, li_12, li_13, li_14, li_15, li_16, li_17, li_18, li_19, li_20, li_21, li_22, li_23, li_24, li_25, li_26, li_27, li_28, li_29, li_30, li_31, li_32, li_33, li_34, li_35, li_36, li_37, li_38, li_39, li_40, li_41, li_42, li_43, li_44, li_45, li_46, li_47, li_48, li_49, li_50, li_51, li_52, li_53, li_54, li_55, li_56, li_57, li_58, li_59, li_60, li_61, li_97, li_98, li_102, li_103, li_108, li_114, li_120, li_126, li_360, li_480, li_1000, li_10000, q, nI_eq', eq_self, if_true, if_false, not_true_eq_false, not_false_eq_true, Nat.one_ne_zero]
  · have q2 : ¬ v < nI 3 := vGe (hv.resolve_left q) (by omega)
    simp (disch := first | assumption | omega | (refine nI_ne0 ?_ ?_ <;> omega) | exact agG (by assumption) | exact agG (Or.inl rfl) | exact al22 | (refine qi_22 ?_; omega) | exact ar_0 | exact le67 | exact al23 | (refine qi_23 ?_; omega) | exact ar_22 | exact ar_23 | exact ar_24 | exact ar_28 | exact ln0 | exact ln1 | exact ln2 | exact ln3 | exact ln4 | exact ln5 | exact nbf0 | exact nbf1 | exact nb0n | exact nb1n | (refine nn0 ?_ ?_ <;> omega) | exact nb0 | exact nb1 | decide) only [kX2_set, eX2_set_0, eX2_set_1, eX2_set_4, eX2_set_5, eX2_set_6, eX2_set_9, eX2_set_10, eX2_set_11, eX2_set_12, eX2_set_15, eX2_set_16, eX2_set_19, eX2_set_22, eX2_set_23, eX2_set_26, eX2_set_27, eX2_set_30, eX2_set_33, eX2_set_34, eX2_set_35, eX2_set_36, eX2_set_39, eX2_set_40, eX2_set_43, eX2_set_46, eX2_set_47, eX2_set_50, eX2_set_51, eX2_set_52, eX2_set_55, eX2_set_58, eX2_set_59, eX2_set_60, eX2_set_63, eX2_set_64, vrf_s, vrf_n, rG_0, rG_1, rG_2, rG_3, rG_4, rG_5, rr_1_0, rr_1_1, rr_1_2, rr_1_3, rr_1_4, rr_1_5, rr_8_0, rr_8_1, rr_8_2, rr_8_3, rr_8_4, rr_8_5, rr_0_0, rr_0_1, rr_0_2, rr_0_4, rr_0_6, rr_0_8, rr_0_9, Option.bind_some, Option.toList_some, Option.toList_none, List.cons_append, List.nil_append, List.singleton_append, nI_add, nI_mul, nI_sub, nI_cl, li_0, li_1, li_2, li_3, li_4, li_5, li_6, li_7, li_8, li_9, li_10, li_11, li_12, li_13, li_14, li_15, li_16, li_17, li_18, li_19, li_20, li_21, li_22, li_23, li_24, li_25, li_26, li_27, li_28, li_29, li_30, li_31, li_32, li_33, li_34, li_35, li_36, li_37, li_38, li_39, li_40, li_41, li_42, li_43, li_44, li_45, li_46, li_47, li_48, li_49, li_50, li_51, li_52, li_53, li_54, li_55, li_56, li_57, li_58, li_59, li_60, li_61, li_97, li_98, li_102, li_103, li_108, li_114, li_120, li_126, li_360, li_480, li_1000, li_10000, q, q2, nI_eq', eq_self, if_true, if_false, not_true_eq_false, not_false_eq_true, Nat.one_ne_zero]
theorem pX2_set_e2 : ∀ (k : Nat) (w : Int32), k ≤ 2 → (w < nI (if k = 0 then 1 else 0) ∨ nI (if k = 0 then 5 else 9) < w) → qzC (d + 1) 30 [.ref 0, .int (nI k), .int w] (67, qzRr pa, h) = some (some (.int (-nI 1)), (67, qzRr pa, h)) := by
  intro k w hk hw
  have a0 := sX2_at0 (d := d) (pa := pa) (h := h) (k := k) (by omega)
  have a1 := sX2_at1 (d := d) (pa := pa) (h := h) (k := k) (by omega)
  have k3 : k < 3 := by omega
  generalize (if k = 0 then 1 else 0) = A at *
  generalize (if k = 0 then 5 else 9) = B at *
  by_cases q : w < nI A
  · simp (disch := first | assumption | omega | (refine nI_ne0 ?_ ?_ <;> omega) | exact agG (by assumption) | exact agG (Or.inl rfl) | exact al22 | (refine qi_22 ?_; omega) | exact ar_0 | exact le67 | exact al23 | (refine qi_23 ?_; omega) | exact ar_22 | exact ar_23 | exact ar_24 | exact ar_28 | exact ln0 | exact ln1 | exact ln2 | exact ln3 | exact ln4 | exact ln5 | exact nbf0 | exact nbf1 | exact nb0n | exact nb1n | (refine nn0 ?_ ?_ <;> omega) | exact nb0 | exact nb1 | decide) only [kX2_set, eX2_set_0, eX2_set_1, eX2_set_4, eX2_set_5, eX2_set_6, eX2_set_9, eX2_set_10, eX2_set_11, eX2_set_12, eX2_set_15, eX2_set_16, eX2_set_19, eX2_set_22, eX2_set_23, eX2_set_26, eX2_set_27, eX2_set_30, eX2_set_33, eX2_set_34, eX2_set_35, eX2_set_36, eX2_set_39, eX2_set_40, eX2_set_43, eX2_set_46, eX2_set_47, eX2_set_50, eX2_set_51, eX2_set_52, eX2_set_55, eX2_set_58, eX2_set_59, eX2_set_60, eX2_set_63, eX2_set_64, vrf_s, vrf_n, rG_0, rG_1, rG_2, rG_3, rG_4, rG_5, rr_1_0, rr_1_1, rr_1_2, rr_1_3, rr_1_4, rr_1_5, rr_8_0, rr_8_1, rr_8_2, rr_8_3, rr_8_4, rr_8_5, rr_0_0, rr_0_1, rr_0_2, rr_0_4, rr_0_6, rr_0_8, rr_0_9, Option.bind_some, Option.toList_some, Option.toList_none, List.cons_append, List.nil_append, List.singleton_append, nI_add, nI_mul, nI_sub, nI_cl, li_0, li_1, li_2, li_3, li_4, li_5, li_6, li_7, li_8, li_9, li_10, li_11, li_12, li_13, li_14, li_15, li_16, li_17, li_18, li_19, li_20, li_21, li_22, li_23, li_24, li_25, li_26, li_27, li_28, li_29, li_30, li_31, li_32, li_33, li_34, li_35, li_36, li_37, li_38, li_39, li_40, li_41, li_42, li_43, li_44, li_45, li_46, li_47, li_48, li_49, li_50, li_51, li_52, li_53, li_54, li_55, li_56, li_57, li_58, li_59, li_60, li_61, li_97, li_98, li_102, li_103, li_108, li_114, li_120, li_126, li_360, li_480, li_1000, li_10000, a0, a1, q, k3, nI_lt', Nat.not_lt_zero, nI_eq', eq_self, if_true, if_false, not_true_eq_false, not_false_eq_true, Nat.one_ne_zero]
  · have q2 : ¬ w ≤ nI B := vLe (hw.resolve_left q)
    simp (disch := first | assumption | omega | (refine nI_ne0 ?_ ?_ <;> omega) | exact agG (by assumption) | exact agG (Or.inl rfl) | exact al22 | (refine qi_22 ?_; omega) | exact ar_0 | exact le67 | exact al23 | (refine qi_23 ?_; omega) | exact ar_22 | exact ar_23 | exact ar_24 | exact ar_28 | exact ln0 | exact ln1 | exact ln2 | exact ln3 | exact ln4 | exact ln5 | exact nbf0 | exact nbf1 | exact nb0n | exact nb1n | (refine nn0 ?_ ?_ <;> omega) | exact nb0 | exact nb1 | decide) only [kX2_set, eX2_set_0, eX2_set_1, eX2_set_4, eX2_set_5, eX2_set_6, eX2_set_9, eX2_set_10, eX2_set_11, eX2_set_12, eX2_set_15, eX2_set_16, eX2_set_19, eX2_set_22, eX2_set_23, eX2_set_26, eX2_set_27, eX2_set_30, eX2_set_33, eX2_set_34, eX2_set_35, eX2_set_36, eX2_set_39, eX2_set_40, eX2_set_43, eX2_set_46, eX2_set_47, eX2_set_50, eX2_set_51, eX2_set_52, eX2_set_55, eX2_set_58, eX2_set_59, eX2_set_60, eX2_set_63, eX2_set_64, vrf_s, vrf_n, rG_0, rG_1, rG_2, rG_3, rG_4, rG_5, rr_1_0, rr_1_1, rr_1_2, rr_1_3, rr_1_4, rr_1_5, rr_8_0, rr_8_1, rr_8_2, rr_8_3, rr_8_4, rr_8_5, rr_0_0, rr_0_1, rr_0_2, rr_0_4, rr_0_6, rr_0_8, rr_0_9, Option.bind_some, Option.toList_some, Option.toList_none, List.cons_append, List.nil_append, List.singleton_append, nI_add, nI_mul, nI_sub, nI_cl, li_0, li_1, li_2, li_3, li_4, li_5, li_6, li_7, li_8, li_9, li_10, li_11, li_12, li_13, li_14, li_15, li_16, li_17, li_18, li_19, li_20, li_21, li_22, li_23, li_24, li_25, li_26, li_27, li_28, li_29, li_30, li_31, li_32, li_33, li_34, li_35, li_36, li_37, li_38, li_39, li_40, li_41, li_42, li_43, li_44, li_45, li_46, li_47, li_48, li_49, li_50, li_51, li_52, li_53, li_54, li_55, li_56, li_57, li_58, li_59, li_60, li_61, li_97, li_98, li_102, li_103, li_108, li_114, li_120, li_126, li_360, li_480, li_1000, li_10000, a0, a1, q, q2, k3, nI_lt', Nat.not_lt_zero, nI_eq', eq_self, if_true, if_false, not_true_eq_false, not_false_eq_true, Nat.one_ne_zero]
theorem pX2_set (hR : cRel h pa m T P TP n K TK ik pd ln) {k w : Nat} (hk : k ≤ 2) (hw1 : (if k = 0 then 1 else 0) ≤ w) (hw2 : w ≤ (if k = 0 then 5 else 9)) : ∃ h' pa', qzC (d + 3) 30 [.ref 0, .int (nI k), .int (nI w)] (67, qzRr pa, h) = some (some (.int (nI (m (5 + k)))), (67, qzRr pa', h')) ∧ cRel h' pa' (zU m (5 + k) w) (T) (zPush P n m) (zPush TP n T) (min n 3 + 1) K TK ik (pd) (ln) ∧ cFr h h' := by
  have ag1 : qzArr 0 1 67 = true := agG (Or.inl rfl)
  have hw9 : w ≤ 9 := by split at hw2 <;> omega
  have hS := zSet_inv hR.1.2.2 hk hw1 hw2
  have a0 := sX2_at0 (d := d + 2) (pa := pa) (h := h) (k := k) (by omega)
  have a1 := sX2_at1 (d := d + 2) (pa := pa) (h := h) (k := k) (by omega)
  have k3 : k < 3 := by omega
  have bA : (if k = 0 then 1 else 0) ≤ 1 := by split <;> omega
  have bB : (if k = 0 then 5 else 9) ≤ 9 := by split <;> omega
  obtain ⟨h1, pa1, e1, r1, f1, f2, f3⟩ := rX2_record (d := d) (pa := pa) hR
  obtain ⟨⟨g6, g7, g8, g9⟩, gc, gs, gp⟩ := r1.1.1
  have c1 := sX2_at (d := d + 2) (pa := pa1) (h := h1) (a := 3) (k := k) (aG_1 (Or.inl rfl : gB 1)) (by omega)
  rw [show h1 3 k = nI (m (5 + k)) from gs k (by omega)] at c1
  have c2 := sX2_put3 (d := d + 2) (pa := pa1) (h := h1) (a := 3) (j := k) (x := nI w) (aG_1 (Or.inl rfl : gB 1)) (by omega)
  have z : ∀ i, ¬ i = 5 + k → zU m (5 + k) w i = m i := fun i hi => by simp [zU, hi]
  have u0 : ∀ a j, a ≠ 3 → qzUp h1 3 k (nI w) a j = h1 a j := fun a j ha => by rw [qzUp_ne ha]
  refine ⟨qzUp h1 3 k (nI w), pa1, ?_, r1.now ⟨⟨⟨?_, ?_, ?_, ?_⟩, fun i hi => ?_, fun j hj => ?_, fun j hj => ?_⟩, r1.1.2.1.cg r1.1.2.2 (fun i hi => z i (by omega)) (fun i hi hi2 => z _ (by omega)), hS⟩ (fun a ha => qzUp_ne (by omega)), fun a a2 a3 => (qzUp_ne (by omega)).trans (f1 a (by omega) a3), fun a a2 => (qzUp_ne (by omega)).trans (f2 a a2)⟩
  · have w1 : ¬ w < (if k = 0 then 1 else 0) := by omega
    clear hS z hw1
    generalize (if k = 0 then 1 else 0) = A at *
    generalize (if k = 0 then 5 else 9) = B at *
    simp (disch := first | assumption | omega | (refine nI_ne0 ?_ ?_ <;> omega) | exact agG (by assumption) | exact agG (Or.inl rfl) | exact al22 | (refine qi_22 ?_; omega) | exact ar_0 | exact le67 | exact al23 | (refine qi_23 ?_; omega) | exact ar_22 | exact ar_23 | exact ar_24 | exact ar_28 | exact ln0 | exact ln1 | exact ln2 | exact ln3 | exact ln4 | exact ln5 | exact nbf0 | exact nbf1 | exact nb0n | exact nb1n | (refine nn0 ?_ ?_ <;> omega) | exact nb0 | exact nb1 | decide) only [kX2_set, eX2_set_0, eX2_set_1, eX2_set_4, eX2_set_5, eX2_set_6, eX2_set_9, eX2_set_10, eX2_set_11, eX2_set_12, eX2_set_15, eX2_set_16, eX2_set_19, eX2_set_22, eX2_set_23, eX2_set_26, eX2_set_27, eX2_set_30, eX2_set_33, eX2_set_34, eX2_set_35, eX2_set_36, eX2_set_39, eX2_set_40, eX2_set_43, eX2_set_46, eX2_set_47, eX2_set_50, eX2_set_51, eX2_set_52, eX2_set_55, eX2_set_58, eX2_set_59, eX2_set_60, eX2_set_63, eX2_set_64, vrf_s, vrf_n, rG_0, rG_1, rG_2, rG_3, rG_4, rG_5, rr_1_0, rr_1_1, rr_1_2, rr_1_3, rr_1_4, rr_1_5, rr_8_0, rr_8_1, rr_8_2, rr_8_3, rr_8_4, rr_8_5, rr_0_0, rr_0_1, rr_0_2, rr_0_4, rr_0_6, rr_0_8, rr_0_9, Option.bind_some, Option.toList_some, Option.toList_none, List.cons_append, List.nil_append, List.singleton_append, nI_add, nI_mul, nI_sub, nI_cl, li_0, li_1, li_2, li_3, li_4, li_5, li_6, li_7, li_8, li_9, li_10, li_11, li_12, li_13, li_14, li_15, li_16, li_17, li_18, li_19, li_20, li_21, li_22, li_23, li_24, li_25, li_26, li_27, li_28, li_29, li_30, li_31, li_32, li_33, li_34, li_35, li_36, li_37, li_38, li_39, li_40, li_41, li_42, li_43, li_44, li_45, li_46, li_47, li_48, li_49, li_50, li_51, li_52, li_53, li_54, li_55, li_56, li_57, li_58, li_59, li_60, li_61, li_97, li_98, li_102, li_103, li_108, li_114, li_120, li_126, li_360, li_480, li_1000, li_10000, a0, a1, e1, c1, c2, w1, hw2, k3, nI_lt', nI_le', Nat.not_lt_zero, nI_eq', eq_self, if_true, if_false, not_true_eq_false, not_false_eq_true, Nat.one_ne_zero]
  · rw [z 0 (by omega), u0 _ _ (by omega)]; exact g6
  · rw [z 1 (by omega), u0 _ _ (by omega)]; exact g7
  · rw [z 1 (by omega), z 2 (by omega), u0 _ _ (by omega)]; exact g8
  · rw [z 4 (by omega), u0 _ _ (by omega)]; exact g9
  · rw [z 0 (by omega)] at hi
    rw [z _ (by omega), u0 _ _ (by omega)]; exact gc i hi
  · by_cases e : j = k
    · subst e
      simp [qzUp, zU]
    · rw [z _ (by omega), ← gs j hj]
      simp [qzUp, e]
  · rw [z 4 (by omega)] at hj
    have zq := zQ_ge (j := j)
    rw [z _ (by omega), z _ (by omega), z _ (by omega), u0 _ _ (by omega), u0 _ _ (by omega), u0 _ _ (by omega), u0 _ _ (by omega)]
    exact gp j hj
theorem pX2_stripe_e (hR : cRel h pa m T P TP n K TK ik pd ln) : ∀ (v : Int32), (v < nI 0 ∨ nI (m 0 - 1) < v) → qzC (d + 1) 36 [.ref 0, .int v] (67, qzRr pa, h) = some (some (.int (-nI 1)), (67, qzRr pa, h)) := by
  have ag1 : qzArr 0 1 67 = true := agG (Or.inl rfl)
  intro v hv
  have m0 := hR.1.2.2.1
  have h6 := hR.1.1.1.1
  by_cases q : v < nI 0
  · simp (disch := first | assumption | omega | (refine nI_ne0 ?_ ?_ <;> omega) | exact agG (by assumption) | exact agG (Or.inl rfl) | exact al22 | (refine qi_22 ?_; omega) | exact ar_0 | exact le67 | exact al23 | (refine qi_23 ?_; omega) | exact ar_22 | exact ar_23 | exact ar_24 | exact ar_28 | exact ln0 | exact ln1 | exact ln2 | exact ln3 | exact ln4 | exact ln5 | exact nbf0 | exact nbf1 | exact nb0n | exact nb1n | (refine nn0 ?_ ?_ <;> omega) | exact nb0 | exact nb1 | decide) only [kX2_stripe, eX2_stripe_0, eX2_stripe_1, eX2_stripe_4, eX2_stripe_5, eX2_stripe_6, eX2_stripe_9, eX2_stripe_12, eX2_stripe_15, eX2_stripe_16, eX2_stripe_17, eX2_stripe_18, eX2_stripe_21, eX2_stripe_24, eX2_stripe_25, eX2_stripe_28, vrf_s, vrf_n, rG_0, rG_1, rG_2, rG_3, rG_4, rG_5, rr_1_0, rr_1_1, rr_1_2, rr_1_3, rr_1_4, rr_1_5, rr_8_0, rr_8_1, rr_8_2, rr_8_3, rr_8_4, rr_8_5, rr_0_0, rr_0_1, rr_0_2, rr_0_4, rr_0_6, rr_0_8, rr_0_9, Option.bind_some, Option.toList_some, Option.toList_none, List.cons_append, List.nil_append, List.singleton_append, nI_add, nI_mul, nI_sub, nI_cl, li_0, li_1, li_2, li_3, li_4, li_5, li_6, li_7, li_8, li_9, li_10, li_11, li_12, li_13, li_14, li_15, li_16, li_17, li_18, li_19, li_20, li_21, li_22, li_23, li_24, li_25, li_26, li_27, li_28, li_29, li_30, li_31, li_32, li_33, li_34, li_35, li_36, li_37, li_38, li_39, li_40, li_41, li_42, li_43, li_44, li_45, li_46, li_47, li_48, li_49, li_50, li_51, li_52, li_53, li_54, li_55, li_56, li_57, li_58, li_59, li_60, li_61, li_97, li_98, li_102, li_103, li_108, li_114, li_120, li_126, li_360, li_480, li_1000, li_10000, q, nI_eq', eq_self, if_true, if_false, not_true_eq_false, not_false_eq_true, Nat.one_ne_zero]
  · have q2 : ¬ v < nI (m 0) := by
      have := vGe (hv.resolve_left q) (by omega)
      rwa [show m 0 - 1 + 1 = m 0 by omega] at this
    simp (disch := first | assumption | omega | (refine nI_ne0 ?_ ?_ <;> omega) | exact agG (by assumption) | exact agG (Or.inl rfl) | exact al22 | (refine qi_22 ?_; omega) | exact ar_0 | exact le67 | exact al23 | (refine qi_23 ?_; omega) | exact ar_22 | exact ar_23 | exact ar_24 | exact ar_28 | exact ln0 | exact ln1 | exact ln2 | exact ln3 | exact ln4 | exact ln5 | exact nbf0 | exact nbf1 | exact nb0n | exact nb1n | (refine nn0 ?_ ?_ <;> omega) | exact nb0 | exact nb1 | decide) only [kX2_stripe, eX2_stripe_0, eX2_stripe_1, eX2_stripe_4, eX2_stripe_5, eX2_stripe_6, eX2_stripe_9, eX2_stripe_12, eX2_stripe_15, eX2_stripe_16, eX2_stripe_17, eX2_stripe_18, eX2_stripe_21, eX2_stripe_24, eX2_stripe_25, eX2_stripe_28, vrf_s, vrf_n, rG_0, rG_1, rG_2, rG_3, rG_4, rG_5, rr_1_0, rr_1_1, rr_1_2, rr_1_3, rr_1_4, rr_1_5, rr_8_0, rr_8_1, rr_8_2, rr_8_3, rr_8_4, rr_8_5, rr_0_0, rr_0_1, rr_0_2, rr_0_4, rr_0_6, rr_0_8, rr_0_9, Option.bind_some, Option.toList_some, Option.toList_none, List.cons_append, List.nil_append, List.singleton_append, nI_add, nI_mul, nI_sub, nI_cl, li_0, li_1, li_2, li_3, li_4, li_5, li_6, li_7, li_8, li_9, li_10, li_11, li_12, li_13, li_14, li_15, li_16, li_17, li_18, li_19, li_20, li_21, li_22, li_23, li_24, li_25, li_26, li_27, li_28, li_29, li_30, li_31, li_32, li_33, li_34, li_35, li_36, li_37, li_38, li_39, li_40, li_41, li_42, li_43, li_44, li_45, li_46, li_47, li_48, li_49, li_50, li_51, li_52, li_53, li_54, li_55, li_56, li_57, li_58, li_59, li_60, li_61, li_97, li_98, li_102, li_103, li_108, li_114, li_120, li_126, li_360, li_480, li_1000, li_10000, h6, q, q2, nI_eq', eq_self, if_true, if_false, not_true_eq_false, not_false_eq_true, Nat.one_ne_zero]
theorem pX2_stripe (hR : cRel h pa m T P TP n K TK ik pd ln) {k : Nat} (hk : k < m 0) : qzC (d + 1) 36 [.ref 0, .int (nI k)] (67, qzRr pa, h) = some (some (.int (nI (m (8 + k)))), (67, qzRr pa, h)) := by
  have ag1 : qzArr 0 1 67 = true := agG (Or.inl rfl)
  have m0 := hR.1.2.2.1
  have h6 := hR.1.1.1.1
  have c1 := sX2_at (d := d) (pa := pa) (h := h) (a := 2) (k := k) (aG_0 (Or.inl rfl : gB 1)) (by omega)
  rw [show h 2 k = nI (m (8 + k)) from hR.1.1.2.1 k hk] at c1
  simp (disch := first | assumption | omega | (refine nI_ne0 ?_ ?_ <;> omega) | exact agG (by assumption) | exact agG (Or.inl rfl) | exact al22 | (refine qi_22 ?_; omega) | exact ar_0 | exact le67 | exact al23 | (refine qi_23 ?_; omega) | exact ar_22 | exact ar_23 | exact ar_24 | exact ar_28 | exact ln0 | exact ln1 | exact ln2 | exact ln3 | exact ln4 | exact ln5 | exact nbf0 | exact nbf1 | exact nb0n | exact nb1n | (refine nn0 ?_ ?_ <;> omega) | exact nb0 | exact nb1 | decide) only [kX2_stripe, eX2_stripe_0, eX2_stripe_1, eX2_stripe_4, eX2_stripe_5, eX2_stripe_6, eX2_stripe_9, eX2_stripe_12, eX2_stripe_15, eX2_stripe_16, eX2_stripe_17, eX2_stripe_18, eX2_stripe_21, eX2_stripe_24, eX2_stripe_25, eX2_stripe_28, vrf_s, vrf_n, rG_0, rG_1, rG_2, rG_3, rG_4, rG_5, rr_1_0, rr_1_1, rr_1_2, rr_1_3, rr_1_4, rr_1_5, rr_8_0, rr_8_1, rr_8_2, rr_8_3, rr_8_4, rr_8_5, rr_0_0, rr_0_1, rr_0_2, rr_0_4, rr_0_6, rr_0_8, rr_0_9, Option.bind_some, Option.toList_some, Option.toList_none, List.cons_append, List.nil_append, List.singleton_append, nI_add, nI_mul, nI_sub, nI_cl, li_0, li_1, li_2, li_3, li_4, li_5, li_6, li_7, li_8, li_9, li_10, li_11, li_12, li_13, li_14, li_15, li_16, li_17, li_18, li_19, li_20, li_21, li_22, li_23, li_24, li_25, li_26, li_27, li_28, li_29, li_30, li_31, li_32, li_33, li_34, li_35, li_36, li_37, li_38, li_39, li_40, li_41, li_42, li_43, li_44, li_45, li_46, li_47, li_48, li_49, li_50, li_51, li_52, li_53, li_54, li_55, li_56, li_57, li_58, li_59, li_60, li_61, li_97, li_98, li_102, li_103, li_108, li_114, li_120, li_126, li_360, li_480, li_1000, li_10000, h6, c1, hk, nI_lt', Nat.not_lt_zero, nI_eq', eq_self, if_true, if_false, not_true_eq_false, not_false_eq_true, Nat.one_ne_zero]
end CLS13
