/-! the reference: its history, beginning again -/
/-- past, a state earlier, up to k -/
def zSh (h : Nat → Nat → Int32) (k : Nat) : Nat → Nat → Int32 := fun a i => if a = 63 ∧ i < k then h 63 (i + 120) else h a i
theorem zSh_0 {h : Nat → Nat → Int32} : zSh h 0 = h := by
  funext a i
  unfold zSh
  rw [if_neg (by omega)]
theorem zSh_step {h : Nat → Nat → Int32} {k : Nat} : qzUp (zSh h k) 63 k (zSh h k 63 (k + 120)) = zSh h (k + 1) := by
  have e : zSh h k 63 (k + 120) = h 63 (k + 120) := by unfold zSh; rw [if_neg (by omega)]
  rw [e]
  funext a i
  unfold qzUp zSh
  by_cases h1 : a = 63
  · subst h1
    by_cases h2 : i = k
    · subst h2
      rw [if_pos ⟨rfl, rfl⟩, if_pos ⟨rfl, by omega⟩]
    · rw [if_neg (fun q => h2 q.2)]
      by_cases h3 : i < k
      · rw [if_pos ⟨rfl, h3⟩, if_pos ⟨rfl, by omega⟩]
      · rw [if_neg (fun q => h3 q.2), if_neg (fun q => h3 (by omega))]
  · rw [if_neg (fun q => h1 q.1), if_neg (fun q => h1 q.1), if_neg (fun q => h1 q.1)]
/-- beginning again: up to k -/
def zBk (m : Nat → Nat) (k : Nat) : Nat → Nat := fun i => if i = 1 ∨ i = 3 ∨ i = 4 ∨ (28 ≤ i ∧ i < k) then 0 else if i = 2 then m 0 else m i
theorem zq_eq {h : Nat → Nat → Int32} {a i : Nat} {v : Int32} : qzUp h a i v a i = v := by simp [qzUp]
section REF6
variable {d : Nat} {pa : Nat → Nat} {h : Nat → Nat → Int32} {m : Nat → Nat}
theorem zRecLoop : ∀ (r k : Nat), k + r = 360 → ∀ h : Nat → Nat → Int32, qzV (d + 1) 89 10 [.ref 60, .int (nI k)] [] (67, qzRr pa, zSh h k) = qzV (d + 1) 89 38 [.ref 60, .int (nI 360)] [] (67, qzRr pa, zSh h 360) := by
  intro r
  induction r with
  | zero =>
    intro k hk h
    have e : k = 360 := by omega
    subst e
    rw [eX3_records_10]
    simp (disch := first | assumption | omega | exact ar_60 | exact ar_61 | exact ar_62 | exact ar_63 | exact ar_64 | exact ar_65 | exact ar_66 | (refine qi_61 ?_; omega) | (refine qi_62 ?_; omega) | (refine qi_63 ?_; omega) | (refine qi_64 ?_; omega) | (refine qi_65 ?_; omega) | (refine qi_66 ?_; omega) | exact ln0 | exact ln1 | exact ln2 | exact ln3 | exact ln4 | exact ln5 | exact nb0n | exact nb1n | (refine nn0 ?_ ?_ <;> omega) | exact nb0 | exact nb1 | decide) only [eX3_records_11, eX3_records_14, vrf_s, vrf_n, rr_60_0, rr_60_1, rr_60_2, rr_60_4, rr_60_6, rr_60_8, Option.bind_some, Option.toList_some, Option.toList_none, List.cons_append, List.nil_append, List.singleton_append, nI_add, nI_mul, nI_sub, nI_cl, li_0, li_1, li_2, li_3, li_4, li_5, li_6, li_7, li_8, li_9, li_10, li_11, li_12, li_13, li_14, li_15, li_16, li_17, li_18, li_19, li_20, li_21, li_22, li_23, li_24, li_25, li_26, li_27, li_28, li_29, li_30, li_31, li_32, li_33, li_34, li_35, li_36, li_37, li_38, li_39, li_40, li_41, li_42, li_43, li_44, li_45, li_46, li_47, li_48, li_49, li_50, li_51, li_52, li_53, li_54, li_55, li_56, li_57, li_58, li_59, li_60, li_61, li_97, li_98, li_102, li_103, li_108, li_114, li_120, li_126, li_360, li_480, li_1000, li_10000, nI_le', Nat.le_refl, if_true]
  | succ r ih =>
    intro k hk h
    have hk1 : ¬ 360 ≤ k := by omega
    have g := ih (k + 1) (by omega) h
    rw [← g, ← zSh_step, eX3_records_10]
    simp (disch := first | assumption | omega | exact ar_60 | exact ar_61 | exact ar_62 | exact ar_63 | exact ar_64 | exact ar_65 | exact ar_66 | (refine qi_61 ?_; omega) | (refine qi_62 ?_; omega) | (refine qi_63 ?_; omega) | (refine qi_64 ?_; omega) | (refine qi_65 ?_; omega) | (refine qi_66 ?_; omega) | exact ln0 | exact ln1 | exact ln2 | exact ln3 | exact ln4 | exact ln5 | exact nb0n | exact nb1n | (refine nn0 ?_ ?_ <;> omega) | exact nb0 | exact nb1 | decide) only [eX3_records_11, eX3_records_14, eX3_records_17, eX3_records_18, eX3_records_21, eX3_records_22, eX3_records_23, eX3_records_26, eX3_records_27, eX3_records_29, eX3_records_30, eX3_records_31, eX3_records_32, eX3_records_35, vrf_s, vrf_n, rr_60_0, rr_60_1, rr_60_2, rr_60_4, rr_60_6, rr_60_8, Option.bind_some, Option.toList_some, Option.toList_none, List.cons_append, List.nil_append, List.singleton_append, nI_add, nI_mul, nI_sub, nI_cl, li_0, li_1, li_2, li_3, li_4, li_5, li_6, li_7, li_8, li_9, li_10, li_11, li_12, li_13, li_14, li_15, li_16, li_17, li_18, li_19, li_20, li_21, li_22, li_23, li_24, li_25, li_26, li_27, li_28, li_29, li_30, li_31, li_32, li_33, li_34, li_35, li_36, li_37, li_38, li_39, li_40, li_41, li_42, li_43, li_44, li_45, li_46, li_47, li_48, li_49, li_50, li_51, li_52, li_53, li_54, li_55, li_56, li_57, li_58, li_59, li_60, li_61, li_97, li_98, li_102, li_103, li_108, li_114, li_120, li_126, li_360, li_480, li_1000, li_10000, nI_le', hk1, if_false]
theorem sX3_records {n : Nat} (hn : n ≤ 4) (hk : h 60 3 = nI n) : ∃ h', qzC (d + 1) 89 [.ref 60] (67, qzRr pa, h) = some (none, (67, qzRr pa, h')) ∧ (∀ a, a ≠ 60 → a ≠ 63 → h' a = h a) ∧ (∀ j, j ≠ 3 → h' 60 j = h 60 j) ∧ h' 60 3 = nI (min n 3 + 1) ∧ (∀ i, i < 120 → h' 63 (120 * min n 3 + i) = h 61 i) ∧ (n < 4 → ∀ i, i < 120 * n → h' 63 i = h 63 i) ∧ (n = 4 → ∀ i, i < 360 → h' 63 i = h 63 (i + 120)) := by
  by_cases h4 : n = 4
  · subst h4
    refine ⟨qzUp (zCp (qzUp (zSh h 360) 60 3 (nI 3)) 61 63 0 360 120) 60 3 (nI 4), ?_, ?_, ?_, ?_, ?_, ?_, ?_⟩
    · have hc := sX3_copies (d := d) (pa := pa) (h := qzUp (zSh h 360) 60 3 (nI 3)) (fr := 61) (to := 63) (u := 0) (v := 360) ar_61 ar_63 (by omega) (by decide) (by decide) (by decide) (by decide)
      have g := zRecLoop (d := d) (pa := pa) 360 0 rfl h
      rw [zSh_0] at g
      have k1 : zSh h 360 60 3 = nI 4 := by unfold zSh; rw [if_neg (by omega)]; exact hk
      have k2 : zCp (qzUp (zSh h 360) 60 3 (nI 3)) 61 63 0 360 120 60 3 = nI 3 := by unfold zCp; rw [if_neg (by omega)]; simp [qzUp]
      rw [kX3_records]
      simp (disch := first | assumption | omega | exact ar_60 | exact ar_61 | exact ar_62 | exact ar_63 | exact ar_64 | exact ar_65 | exact ar_66 | (refine qi_61 ?_; omega) | (refine qi_62 ?_; omega) | (refine qi_63 ?_; omega) | (refine qi_64 ?_; omega) | (refine qi_65 ?_; omega) | (refine qi_66 ?_; omega) | exact ln0 | exact ln1 | exact ln2 | exact ln3 | exact ln4 | exact ln5 | exact nb0n | exact nb1n | (refine nn0 ?_ ?_ <;> omega) | exact nb0 | exact nb1 | decide) only [eX3_records_0, eX3_records_1, eX3_records_4, eX3_records_5, eX3_records_8, eX3_records_9, vrf_s, vrf_n, rr_60_0, rr_60_1, rr_60_2, rr_60_4, rr_60_6, rr_60_8, Option.bind_some, Option.toList_some, Option.toList_none, List.cons_append, List.nil_append, List.singleton_append, nI_add, nI_mul, nI_sub, nI_cl, li_0, li_1, li_2, li_3, li_4, li_5, li_6, li_7, li_8, li_9, li_10, li_11, li_12, li_13, li_14, li_15, li_16, li_17, li_18, li_19, li_20, li_21, li_22, li_23, li_24, li_25, li_26, li_27, li_28, li_29, li_30, li_31, li_32, li_33, li_34, li_35, li_36, li_37, li_38, li_39, li_40, li_41, li_42, li_43, li_44, li_45, li_46, li_47, li_48, li_49, li_50, li_51, li_52, li_53, li_54, li_55, li_56, li_57, li_58, li_59, li_60, li_61, li_97, li_98, li_102, li_103, li_108, li_114, li_120, li_126, li_360, li_480, li_1000, li_10000, hk, nI_eq', if_true, if_false, eq_self, not_true_eq_false]
      rw [g]
      simp (disch := first | assumption | omega | exact ar_60 | exact ar_61 | exact ar_62 | exact ar_63 | exact ar_64 | exact ar_65 | exact ar_66 | (refine qi_61 ?_; omega) | (refine qi_62 ?_; omega) | (refine qi_63 ?_; omega) | (refine qi_64 ?_; omega) | (refine qi_65 ?_; omega) | (refine qi_66 ?_; omega) | exact ln0 | exact ln1 | exact ln2 | exact ln3 | exact ln4 | exact ln5 | exact nb0n | exact nb1n | (refine nn0 ?_ ?_ <;> omega) | exact nb0 | exact nb1 | decide) only [eX3_records_38, eX3_records_39, eX3_records_40, eX3_records_43, eX3_records_44, eX3_records_45, eX3_records_48, eX3_records_49, eX3_records_52, eX3_records_53, eX3_records_54, eX3_records_57, eX3_records_59, eX3_records_60, eX3_records_63, eX3_records_64, eX3_records_67, eX3_records_68, eX3_records_69, eX3_records_72, eX3_records_73, eX3_records_74, eX3_records_77, vrf_s, vrf_n, rr_60_0, rr_60_1, rr_60_2, rr_60_4, rr_60_6, rr_60_8, Option.bind_some, Option.toList_some, Option.toList_none, List.cons_append, List.nil_append, List.singleton_append, nI_add, nI_mul, nI_sub, nI_cl, li_0, li_1, li_2, li_3, li_4, li_5, li_6, li_7, li_8, li_9, li_10, li_11, li_12, li_13, li_14, li_15, li_16, li_17, li_18, li_19, li_20, li_21, li_22, li_23, li_24, li_25, li_26, li_27, li_28, li_29, li_30, li_31, li_32, li_33, li_34, li_35, li_36, li_37, li_38, li_39, li_40, li_41, li_42, li_43, li_44, li_45, li_46, li_47, li_48, li_49, li_50, li_51, li_52, li_53, li_54, li_55, li_56, li_57, li_58, li_59, li_60, li_61, li_97, li_98, li_102, li_103, li_108, li_114, li_120, li_126, li_360, li_480, li_1000, li_10000, k1, k2, hc, zq_eq, Nat.mul_comm]
    · intro a ha hb
      funext i
      simp [qzUp, zCp, zSh, ha, hb]
    · intro j hj
      simp [qzUp, zCp, zSh, hj]
    · simp [qzUp]
    · intro i hi
      have q1 : 360 ≤ 120 * min 4 3 + i := by omega
      simp [qzUp, zCp, zSh]
      omega
    · intro q; omega
    · intro _ i hi
      simp [qzUp, zCp, zSh, hi]
      intro q
      omega
  · have h4' : n < 4 := by omega
    refine ⟨qzUp (zCp h 61 63 0 (120 * n) 120) 60 3 (nI (n + 1)), ?_, ?_, ?_, ?_, ?_, ?_, ?_⟩
    · have hlen : 120 * n + 120 ≤ (qzk 63).2 := by show 120 * n + 120 ≤ 480; omega
      have hc := sX3_copies (d := d) (pa := pa) (h := h) (fr := 61) (to := 63) (u := 0) (v := 120 * n) ar_61 ar_63 (by omega) (by decide) hlen (by decide) (by decide)
      have k2 : zCp h 61 63 0 (120 * n) 120 60 3 = nI n := by unfold zCp; rw [if_neg (by omega)]; exact hk
      rw [kX3_records]
      simp (disch := first | assumption | omega | exact ar_60 | exact ar_61 | exact ar_62 | exact ar_63 | exact ar_64 | exact ar_65 | exact ar_66 | (refine qi_61 ?_; omega) | (refine qi_62 ?_; omega) | (refine qi_63 ?_; omega) | (refine qi_64 ?_; omega) | (refine qi_65 ?_; omega) | (refine qi_66 ?_; omega) | exact ln0 | exact ln1 | exact ln2 | exact ln3 | exact ln4 | exact ln5 | exact nb0n | exact nb1n | (refine nn0 ?_ ?_ <;> omega) | exact nb0 | exact nb1 | decide) only [eX3_records_0, eX3_records_1, eX3_records_4, eX3_records_5, eX3_records_8, eX3_records_9, eX3_records_11, eX3_records_14, eX3_records_17, eX3_records_18, eX3_records_21, eX3_records_22, eX3_records_23, eX3_records_26, eX3_records_27, eX3_records_29, eX3_records_30, eX3_records_31, eX3_records_32, eX3_records_35, eX3_records_38, eX3_records_39, eX3_records_40, eX3_records_43, eX3_records_44, eX3_records_45, eX3_records_48, eX3_records_49, eX3_records_52, eX3_records_53, eX3_records_54, eX3_records_57, eX3_records_59, eX3_records_60, eX3_records_63, eX3_records_64, eX3_records_67, eX3_records_68, eX3_records_69, eX3_records_72, eX3_records_73, eX3_records_74, eX3_records_77, vrf_s, vrf_n, rr_60_0, rr_60_1, rr_60_2, rr_60_4, rr_60_6, rr_60_8, Option.bind_some, Option.toList_some, Option.toList_none, List.cons_append, List.nil_append, List.singleton_append, nI_add, nI_mul, nI_sub, nI_cl, li_0, li_1, li_2, li_3, li_4, li_5, li_6, li_7, li_8, li_9, li_10, li_11, li_12, li_13, li_14, li_15, li_16, li_17, li_18, li_19, li_20, li_21, li_22, li_23, li_24, li_25, li_26, li_27, li_28, li_29, li_30, li_31, li_32, li_33, li_34, li_35, li_36, li_37, li_38, li_39, li_40, li_41, li_42, li_43, li_44, li_45, li_46, li_47, li_48, li_49, li_50, li_51, li_52, li_53, li_54, li_55, li_56, li_57, li_58, li_59, li_60, li_61, li_97, li_98, li_102, li_103, li_108, li_114, li_120, li_126, li_360, li_480, li_1000, li_10000, hk, k2, hc, nI_eq', h4, if_true, not_false_eq_true]
    · intro a ha hb
      funext i
      simp [qzUp, zCp, ha, hb]
    · intro j hj
      simp [qzUp, zCp, hj]
    · have : min n 3 = n := by omega
      simp [qzUp, this]
    · intro i hi
      have : min n 3 = n := by omega
      rw [this]
      simp [qzUp, zCp]
      omega
    · intro _ i hi
      simp [qzUp, zCp]
      omega
    · intro q; omega
end REF6
