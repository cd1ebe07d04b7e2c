/-! the reference: mirror -/
/-- the state after k exchanges -/
def zMr (m : Nat → Nat) (k : Nat) : Nat → Nat := fun i => if (8 + m 1 ≤ i ∧ i < 8 + m 1 + m 2) ∧ (i - 8 - m 1 < k ∨ m 2 - 1 - (i - 8 - m 1) < k) then m (8 + m 1 + (8 + m 1) + m 2 - 1 - i) else m i
/-- how many places have changed after k exchanges -/
def zMd (m : Nat → Nat) : Nat → Nat
  | 0 => 0
  | k + 1 => zMd m k + (if m (8 + m 1 + k) = m (8 + m 1 + m 2 - 1 - k) then 0 else 2)
theorem zMr_out {m : Nat → Nat} {k i : Nat} (h : ¬ (8 + m 1 ≤ i ∧ i < 8 + m 1 + m 2)) : zMr m k i = m i := by
  unfold zMr
  rw [if_neg (fun z => h z.1)]
theorem zMr_0 {m : Nat → Nat} {i : Nat} : zMr m 0 i = m i := by
  unfold zMr
  rw [if_neg (fun z => by omega)]
theorem zMr_inv {m : Nat → Nat} {k : Nat} (hi : zInv m) : zInv (zMr m k) := by
  obtain ⟨h0, h1, h3, h4, h5, h6, h7, h8, ht, hp⟩ := hi
  have o : ∀ i, (i < 8 ∨ 28 ≤ i) → zMr m k i = m i := fun i hi => zMr_out (by omega)
  refine ⟨?_, ?_, ?_, ?_, ?_, ?_, ?_, fun i hi => ?_, fun t htt => ?_, fun i hi hi2 => ?_⟩
  · rw [o 0 (by omega)]; exact h0
  · rw [o 0 (by omega), o 1 (by omega), o 2 (by omega)]; exact h1
  · rw [o 3 (by omega), o 4 (by omega)]; exact h3
  · rw [o 0 (by omega), o 4 (by omega), o 2 (by omega)]; exact h4
  · rw [o 5 (by omega)]; exact h5
  · rw [o 6 (by omega)]; exact h6
  · rw [o 7 (by omega)]; exact h7
  · unfold zMr
    split
    · have := h8 (8 + m 1 + m 1 + m 2 - 1 - (8 + i)) (by omega)
      rw [show 8 + (8 + m 1 + m 1 + m 2 - 1 - (8 + i)) = 8 + m 1 + (8 + m 1) + m 2 - 1 - (8 + i) by omega] at this
      exact this
    · exact h8 i hi
  · have := ht t htt
    rw [o (28 + 6 * t + 0) (by omega), o (28 + 6 * t + 1) (by omega), o (28 + 6 * t + 2) (by omega), o (28 + 6 * t + 3) (by omega), o (28 + 6 * t + 4) (by omega), o (28 + 6 * t + 5) (by omega), o 4 (by omega)]
    exact this
  · rw [o i (by omega)]; exact hp i hi hi2
section REF21
variable {d : Nat} {pa : Nat → Nat} {h : Nat → Nat → Int32} {m : Nat → Nat} {P : Nat → Nat → Nat} {n : Nat} {K : Nat → Nat} {ik : Nat} {pd : Nat → Nat} {ln : Nat}
theorem zMrLoop (hi : zInv m) : ∀ (r k : Nat), k + r = m 2 / 2 → ∀ (h : Nat → Nat → Int32) (x3 x4 x5 : Value), (∀ i, i < 120 → h 61 i = nI (zMr m k i)) → ∃ h', qzV d 114 8 [.ref 60, .int (nI (zMd m k)), .int (nI k), x3, x4, x5] [] (67, qzRr pa, h) = some (some (.int (nI (zMd m (m 2 / 2)))), (67, qzRr pa, h')) ∧ (∀ i, i < 120 → h' 61 i = nI (zMr m (m 2 / 2) i)) ∧ ∀ a, a ≠ 61 → h' a = h a := by
  intro r
  have b20 : m 1 + m 2 ≤ 20 := by have := hi.1.2; have := hi.2.1; omega
  induction r with
  | zero =>
    intro k hk h x3 x4 x5 hs
    have e : k = m 2 / 2 := by omega
    rw [← e]
    have w : m 2 / 2 ≤ k := by omega
    have h2 : h 61 2 = nI (m 2) := by rw [hs 2 (by omega), zMr_out (by omega)]
    refine ⟨h, ?_, hs, fun _ _ => rfl⟩
    rw [eX3_mirror_8]
    simp (disch := first | assumption | omega | (refine nI_ne0 ?_ ?_ <;> omega) | exact ar_60 | exact ar_61 | exact ar_62 | exact ar_63 | exact ar_64 | exact ar_65 | exact ar_66 | (refine qi_61 ?_; omega) | (refine qi_62 ?_; omega) | (refine qi_63 ?_; omega) | (refine qi_64 ?_; omega) | (refine qi_65 ?_; omega) | (refine qi_66 ?_; omega) | exact ln0 | exact ln1 | exact ln2 | exact ln3 | exact ln4 | exact ln5 | exact nbf0 | exact nbf1 | exact nb0n | exact nb1n | (refine nn0 ?_ ?_ <;> omega) | exact nb0 | exact nb1 | decide) only [eX3_mirror_0, eX3_mirror_1, eX3_mirror_4, eX3_mirror_5, eX3_mirror_6, eX3_mirror_7, eX3_mirror_9, eX3_mirror_10, eX3_mirror_13, eX3_mirror_14, eX3_mirror_15, eX3_mirror_16, eX3_mirror_17, eX3_mirror_20, eX3_mirror_22, eX3_mirror_23, eX3_mirror_26, eX3_mirror_27, eX3_mirror_28, eX3_mirror_29, eX3_mirror_30, eX3_mirror_31, eX3_mirror_32, eX3_mirror_34, eX3_mirror_35, eX3_mirror_38, eX3_mirror_39, eX3_mirror_40, eX3_mirror_41, eX3_mirror_42, eX3_mirror_45, eX3_mirror_46, eX3_mirror_47, eX3_mirror_48, eX3_mirror_49, eX3_mirror_50, eX3_mirror_51, eX3_mirror_52, eX3_mirror_54, eX3_mirror_55, eX3_mirror_58, eX3_mirror_59, eX3_mirror_60, eX3_mirror_62, eX3_mirror_63, eX3_mirror_65, eX3_mirror_66, eX3_mirror_69, eX3_mirror_71, eX3_mirror_72, eX3_mirror_75, eX3_mirror_76, eX3_mirror_79, eX3_mirror_80, eX3_mirror_81, eX3_mirror_82, eX3_mirror_83, eX3_mirror_86, eX3_mirror_87, eX3_mirror_88, eX3_mirror_91, eX3_mirror_93, eX3_mirror_94, eX3_mirror_95, eX3_mirror_96, eX3_mirror_99, eX3_mirror_101, eX3_mirror_103, eX3_mirror_104, eX3_mirror_107, eX3_mirror_110, eX3_mirror_111, vrf_s, vrf_n, rr_60_0, rr_60_1, rr_60_2, rr_60_4, rr_60_6, rr_60_8, Option.bind_some, Option.toList_some, Option.toList_none, List.cons_append, List.nil_append, List.singleton_append, nI_add, nI_mul, nI_sub, nI_cl, li_0, li_1, li_2, li_3, li_4, li_5, li_6, li_7, li_8, li_9, li_10, li_11, li_12, li_13, li_14, li_15, li_16, li_17, li_18, li_19, li_20, li_21, li_22, li_23, li_24, li_25, li_26, li_27, li_28, li_29, li_30, li_31, li_32, li_33, li_34, li_35, li_36, li_37, li_38, li_39, li_40, li_41, li_42, li_43, li_44, li_45, li_46, li_47, li_48, li_49, li_50, li_51, li_52, li_53, li_54, li_55, li_56, li_57, li_58, li_59, li_60, li_61, li_97, li_98, li_102, li_103, li_108, li_114, li_120, li_126, li_360, li_480, li_1000, li_10000, nI_le', nI_div, h2, w, nI_eq', eq_self, if_true, if_false, not_true_eq_false, not_false_eq_true, Nat.one_ne_zero]
  | succ r ih =>
    intro k hk h x3 x4 x5 hs
    have w : ¬ m 2 / 2 ≤ k := by omega
    have h1 : h 61 1 = nI (m 1) := by rw [hs 1 (by omega), zMr_out (by omega)]
    have h2 : h 61 2 = nI (m 2) := by rw [hs 2 (by omega), zMr_out (by omega)]
    have ho : h 61 (8 + m 1 + k) = nI (m (8 + m 1 + k)) := by
      rw [hs _ (by omega)]; unfold zMr; rw [if_neg (fun z => by omega)]
    have ht : h 61 (8 + m 1 + m 2 - 1 - k) = nI (m (8 + m 1 + m 2 - 1 - k)) := by
      rw [hs _ (by omega)]; unfold zMr; rw [if_neg (fun z => by omega)]
    have bo : m (8 + m 1 + k) ≤ 5 := by
      have := hi.2.2.2.2.2.2.2.1 (m 1 + k) (by omega)
      rwa [show 8 + (m 1 + k) = 8 + m 1 + k by omega] at this
    have bt : m (8 + m 1 + m 2 - 1 - k) ≤ 5 := by
      have := hi.2.2.2.2.2.2.2.1 (m 1 + m 2 - 1 - k) (by omega)
      rwa [show 8 + (m 1 + m 2 - 1 - k) = 8 + m 1 + m 2 - 1 - k by omega] at this
    have hs2 : ∀ i, i < 120 → qzUp (qzUp h 61 (8 + m 1 + k) (nI (m (8 + m 1 + m 2 - 1 - k)))) 61 (8 + m 1 + m 2 - 1 - k) (nI (m (8 + m 1 + k))) 61 i = nI (zMr m (k + 1) i) := by
      intro i hi
      by_cases c1 : i = 8 + m 1 + m 2 - 1 - k
      · have e : zMr m (k + 1) i = m (8 + m 1 + k) := by
          unfold zMr
          rw [if_pos (by omega)]
          congr 1
          omega
        rw [e]
        simp [qzUp, c1]
      · by_cases c2 : i = 8 + m 1 + k
        · have e : zMr m (k + 1) i = m (8 + m 1 + m 2 - 1 - k) := by
            unfold zMr
            rw [if_pos (by omega)]
            congr 1
            omega
          rw [e]
          have c3 : ¬ 8 + m 1 + k = 8 + m 1 + m 2 - 1 - k := by omega
          simp [qzUp, c2, c3]
        · have e : zMr m (k + 1) i = zMr m k i := by
            unfold zMr
            by_cases z : (8 + m 1 ≤ i ∧ i < 8 + m 1 + m 2) ∧ (i - 8 - m 1 < k ∨ m 2 - 1 - (i - 8 - m 1) < k)
            · rw [if_pos z, if_pos (by omega)]
            · rw [if_neg z, if_neg (by omega)]
          rw [e, ← hs i hi]
          simp [qzUp, c1, c2]
    obtain ⟨h', e1, e2, e3⟩ := ih (k + 1) (by omega) _ (.int (nI (8 + m 1 + k))) (.int (nI (8 + m 1 + m 2 - 1 - k))) (.int (nI (m (8 + m 1 + k)))) hs2
    refine ⟨h', ?_, e2, fun a ha => (e3 a ha).trans (by simp only [qzUp_ne ha])⟩
    rw [← e1, eX3_mirror_8]
    by_cases z : m (8 + m 1 + k) = m (8 + m 1 + m 2 - 1 - k)
    · have ek : zMd m (k + 1) = zMd m k + 0 := by show zMd m k + (if m (8 + m 1 + k) = m (8 + m 1 + m 2 - 1 - k) then 0 else 2) = _; rw [if_pos z]
      rw [ek]
      simp (disch := first | assumption | omega | (refine nI_ne0 ?_ ?_ <;> omega) | exact ar_60 | exact ar_61 | exact ar_62 | exact ar_63 | exact ar_64 | exact ar_65 | exact ar_66 | (refine qi_61 ?_; omega) | (refine qi_62 ?_; omega) | (refine qi_63 ?_; omega) | (refine qi_64 ?_; omega) | (refine qi_65 ?_; omega) | (refine qi_66 ?_; omega) | exact ln0 | exact ln1 | exact ln2 | exact ln3 | exact ln4 | exact ln5 | exact nbf0 | exact nbf1 | exact nb0n | exact nb1n | (refine nn0 ?_ ?_ <;> omega) | exact nb0 | exact nb1 | decide) only [eX3_mirror_0, eX3_mirror_1, eX3_mirror_4, eX3_mirror_5, eX3_mirror_6, eX3_mirror_7, eX3_mirror_9, eX3_mirror_10, eX3_mirror_13, eX3_mirror_14, eX3_mirror_15, eX3_mirror_16, eX3_mirror_17, eX3_mirror_20, eX3_mirror_22, eX3_mirror_23, eX3_mirror_26, eX3_mirror_27, eX3_mirror_28, eX3_mirror_29, eX3_mirror_30, eX3_mirror_31, eX3_mirror_32, eX3_mirror_34, eX3_mirror_35, eX3_mirror_38, eX3_mirror_39, eX3_mirror_40, eX3_mirror_41, eX3_mirror_42, eX3_mirror_45, eX3_mirror_46, eX3_mirror_47, eX3_mirror_48, eX3_mirror_49, eX3_mirror_50, eX3_mirror_51, eX3_mirror_52, eX3_mirror_54, eX3_mirror_55, eX3_mirror_58, eX3_mirror_59, eX3_mirror_60, eX3_mirror_62, eX3_mirror_63, eX3_mirror_65, eX3_mirror_66, eX3_mirror_69, eX3_mirror_71, eX3_mirror_72, eX3_mirror_75, eX3_mirror_76, eX3_mirror_79, eX3_mirror_80, eX3_mirror_81, eX3_mirror_82, eX3_mirror_83, eX3_mirror_86, eX3_mirror_87, eX3_mirror_88, eX3_mirror_91, eX3_mirror_93, eX3_mirror_94, eX3_mirror_95, eX3_mirror_96, eX3_mirror_99, eX3_mirror_101, eX3_mirror_103, eX3_mirror_104, eX3_mirror_107, eX3_mirror_110, eX3_mirror_111, vrf_s, vrf_n, rr_60_0, rr_60_1, rr_60_2, rr_60_4, rr_60_6, rr_60_8, Option.bind_some, Option.toList_some, Option.toList_none, List.cons_append, List.nil_append, List.singleton_append, nI_add, nI_mul, nI_sub, nI_cl, li_0, li_1, li_2, li_3, li_4, li_5, li_6, li_7, li_8, li_9, li_10, li_11, li_12, li_13, li_14, li_15, li_16, li_17, li_18, li_19, li_20, li_21, li_22, li_23, li_24, li_25, li_26, li_27, li_28, li_29, li_30, li_31, li_32, li_33, li_34, li_35, li_36, li_37, li_38, li_39, li_40, li_41, li_42, li_43, li_44, li_45, li_46, li_47, li_48, li_49, li_50, li_51, li_52, li_53, li_54, li_55, li_56, li_57, li_58, li_59, li_60, li_61, li_97, li_98, li_102, li_103, li_108, li_114, li_120, li_126, li_360, li_480, li_1000, li_10000, nI_le', nI_eq', nI_div, h1, h2, ho, ht, w, z, nI_eq', eq_self, if_true, if_false, not_true_eq_false, not_false_eq_true, Nat.one_ne_zero]
    · have ek : zMd m (k + 1) = zMd m k + 2 := by show zMd m k + (if m (8 + m 1 + k) = m (8 + m 1 + m 2 - 1 - k) then 0 else 2) = _; rw [if_neg z]
      rw [ek]
      simp (disch := first | assumption | omega | (refine nI_ne0 ?_ ?_ <;> omega) | exact ar_60 | exact ar_61 | exact ar_62 | exact ar_63 | exact ar_64 | exact ar_65 | exact ar_66 | (refine qi_61 ?_; omega) | (refine qi_62 ?_; omega) | (refine qi_63 ?_; omega) | (refine qi_64 ?_; omega) | (refine qi_65 ?_; omega) | (refine qi_66 ?_; omega) | exact ln0 | exact ln1 | exact ln2 | exact ln3 | exact ln4 | exact ln5 | exact nbf0 | exact nbf1 | exact nb0n | exact nb1n | (refine nn0 ?_ ?_ <;> omega) | exact nb0 | exact nb1 | decide) only [eX3_mirror_0, eX3_mirror_1, eX3_mirror_4, eX3_mirror_5, eX3_mirror_6, eX3_mirror_7, eX3_mirror_9, eX3_mirror_10, eX3_mirror_13, eX3_mirror_14, eX3_mirror_15, eX3_mirror_16, eX3_mirror_17, eX3_mirror_20, eX3_mirror_22, eX3_mirror_23, eX3_mirror_26, eX3_mirror_27, eX3_mirror_28, eX3_mirror_29, eX3_mirror_30, eX3_mirror_31, eX3_mirror_32, eX3_mirror_34, eX3_mirror_35, eX3_mirror_38, eX3_mirror_39, eX3_mirror_40, eX3_mirror_41, eX3_mirror_42, eX3_mirror_45, eX3_mirror_46, eX3_mirror_47, eX3_mirror_48, eX3_mirror_49, eX3_mirror_50, eX3_mirror_51, eX3_mirror_52, eX3_mirror_54, eX3_mirror_55, eX3_mirror_58, eX3_mirror_59, eX3_mirror_60, eX3_mirror_62, eX3_mirror_63, eX3_mirror_65, eX3_mirror_66, eX3_mirror_69, eX3_mirror_71, eX3_mirror_72, eX3_mirror_75, eX3_mirror_76, eX3_mirror_79, eX3_mirror_80, eX3_mirror_81, eX3_mirror_82, eX3_mirror_83, eX3_mirror_86, eX3_mirror_87, eX3_mirror_88, eX3_mirror_91, eX3_mirror_93, eX3_mirror_94, eX3_mirror_95, eX3_mirror_96, eX3_mirror_99, eX3_mirror_101, eX3_mirror_103, eX3_mirror_104, eX3_mirror_107, eX3_mirror_110, eX3_mirror_111, vrf_s, vrf_n, rr_60_0, rr_60_1, rr_60_2, rr_60_4, rr_60_6, rr_60_8, Option.bind_some, Option.toList_some, Option.toList_none, List.cons_append, List.nil_append, List.singleton_append, nI_add, nI_mul, nI_sub, nI_cl, li_0, li_1, li_2, li_3, li_4, li_5, li_6, li_7, li_8, li_9, li_10, li_11, li_12, li_13, li_14, li_15, li_16, li_17, li_18, li_19, li_20, li_21, li_22, li_23, li_24, li_25, li_26, li_27, li_28, li_29, li_30, li_31, li_32, li_33, li_34, li_35, li_36, li_37, li_38, li_39, li_40, li_41, li_42, li_43, li_44, li_45, li_46, li_47, li_48, li_49, li_50, li_51, li_52, li_53, li_54, li_55, li_56, li_57, li_58, li_59, li_60, li_61, li_97, li_98, li_102, li_103, li_108, li_114, li_120, li_126, li_360, li_480, li_1000, li_10000, nI_le', nI_eq', nI_div, h1, h2, ho, ht, w, z, nI_eq', eq_self, if_true, if_false, not_true_eq_false, not_false_eq_true, Nat.one_ne_zero]
theorem pX3_mirror (hR : zRel h m P n K ik pd ln) : ∃ h', qzC (d + 2) 114 [.ref 60] (67, qzRr pa, h) = some (some (.int (nI (zMd m (m 2 / 2)))), (67, qzRr pa, h')) ∧ zRel h' (zMr m (m 2 / 2)) (zPush P n m) (min n 3 + 1) K ik pd ln ∧ zFr h h' := by
  obtain ⟨h1, t1, g1, a1⟩ := rX3_records (d := d) (pa := pa) hR
  obtain ⟨h2, t2, s2, f2⟩ := zMrLoop (d := d + 2) (pa := pa) hR.2.1 (m 2 / 2) 0 (by omega) h1 (.float 0) (.float 0) (.float 0) (fun i hi => by rw [zMr_0]; exact g1.1 i hi)
  refine ⟨h2, ?_, g1.s s2 (zMr_inv hR.2.1) (fun a ha _ => f2 a ha), fun a ha => (f2 a (by omega)).trans (a1 a (by omega) (by omega))⟩
  rw [← t2, kX3_mirror]
  show _ = qzV (d + 2) 114 8 [.ref 60, .int (nI 0), .int (nI 0), .float 0, .float 0, .float 0] [] (67, qzRr pa, h1)
  simp (disch := first | assumption | omega | (refine nI_ne0 ?_ ?_ <;> omega) | exact ar_60 | exact ar_61 | exact ar_62 | exact ar_63 | exact ar_64 | exact ar_65 | exact ar_66 | (refine qi_61 ?_; omega) | (refine qi_62 ?_; omega) | (refine qi_63 ?_; omega) | (refine qi_64 ?_; omega) | (refine qi_65 ?_; omega) | (refine qi_66 ?_; omega) | exact ln0 | exact ln1 | exact ln2 | exact ln3 | exact ln4 | exact ln5 | exact nbf0 | exact nbf1 | exact nb0n | exact nb1n | (refine nn0 ?_ ?_ <;> omega) | exact nb0 | exact nb1 | decide) only [eX3_mirror_0, eX3_mirror_1, eX3_mirror_4, eX3_mirror_5, eX3_mirror_6, eX3_mirror_7, eX3_mirror_9, eX3_mirror_10, eX3_mirror_13, eX3_mirror_14, eX3_mirror_15, eX3_mirror_16, eX3_mirror_17, eX3_mirror_20, eX3_mirror_22, eX3_mirror_23, eX3_mirror_26, eX3_mirror_27, eX3_mirror_28, eX3_mirror_29, eX3_mirror_30, eX3_mirror_31, eX3_mirror_32, eX3_mirror_34, eX3_mirror_35, eX3_mirror_38, eX3_mirror_39, eX3_mirror_40, eX3_mirror_41, eX3_mirror_42, eX3_mirror_45, eX3_mirror_46, eX3_mirror_47, eX3_mirror_48, eX3_mirror_49, eX3_mirror_50, eX3_mirror_51, eX3_mirror_52, eX3_mirror_54, eX3_mirror_55, eX3_mirror_58, eX3_mirror_59, eX3_mirror_60, eX3_mirror_62, eX3_mirror_63, eX3_mirror_65, eX3_mirror_66, eX3_mirror_69, eX3_mirror_71, eX3_mirror_72, eX3_mirror_75, eX3_mirror_76, eX3_mirror_79, eX3_mirror_80, eX3_mirror_81, eX3_mirror_82, eX3_mirror_83, eX3_mirror_86, eX3_mirror_87, eX3_mirror_88, eX3_mirror_91, eX3_mirror_93, eX3_mirror_94, eX3_mirror_95, eX3_mirror_96, eX3_mirror_99, eX3_mirror_101, eX3_mirror_103, eX3_mirror_104, eX3_mirror_107, eX3_mirror_110, eX3_mirror_111, vrf_s, vrf_n, rr_60_0, rr_60_1, rr_60_2, rr_60_4, rr_60_6, rr_60_8, Option.bind_some, Option.toList_some, Option.toList_none, List.cons_append, List.nil_append, List.singleton_append, nI_add, nI_mul, nI_sub, nI_cl, li_0, li_1, li_2, li_3, li_4, li_5, li_6, li_7, li_8, li_9, li_10, li_11, li_12, li_13, li_14, li_15, li_16, li_17, li_18, li_19, li_20, li_21, li_22, li_23, li_24, li_25, li_26, li_27, li_28, li_29, li_30, li_31, li_32, li_33, li_34, li_35, li_36, li_37, li_38, li_39, li_40, li_41, li_42, li_43, li_44, li_45, li_46, li_47, li_48, li_49, li_50, li_51, li_52, li_53, li_54, li_55, li_56, li_57, li_58, li_59, li_60, li_61, li_97, li_98, li_102, li_103, li_108, li_114, li_120, li_126, li_360, li_480, li_1000, li_10000, t1, nI_eq', eq_self, if_true, if_false, not_true_eq_false, not_false_eq_true, Nat.one_ne_zero]
end REF21
