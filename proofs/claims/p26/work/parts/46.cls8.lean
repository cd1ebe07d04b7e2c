/-! the class: the history is written -/
theorem kz22 : (qzk 22).2 = 4 := by decide
theorem al22 : qzArr 4 22 67 = true ∨ qzArr 5 22 67 = true ∨ qzArr 6 22 67 = true := Or.inr (Or.inr (by decide))
theorem qi_22 {k : Nat} (h : k < 4) : qzIn (nI k) (qzk 22).2 = true := qzIn_nI (N := 4) h (by omega)
theorem qi_22' {k : Nat} (h : k < 4) : qzIn (nI k) 4 = true := qzIn_nI (N := 4) h (by omega)
theorem rr_22 {pa : Nat → Nat} {k : Nat} (h : k < 4) : qzRr pa 22 k = some (pa k) := by
  unfold qzRr
  rw [if_pos rfl, if_pos h]
theorem rUp {pa : Nat → Nat} {k v : Nat} (h : k < 4) : qzUp (qzRr pa) 22 k (some v) = qzRr (fun i => if i = k then v else pa i) := by
  funext a i
  unfold qzUp qzRr
  by_cases e : a = 22
  · subst e
    rw [if_pos rfl]
    by_cases e2 : i = k
    · subst e2
      simp [h]
    · simp [e2]
  · have n1 : ¬ (a = 22 ∧ i = k) := fun z => e z.1
    rw [if_neg n1, if_neg e, if_neg e]
def zRot (pa : Nat → Nat) : Nat → Nat := fun i => if i = 3 then pa 0 else if i = 2 then pa 3 else if i = 1 then pa 2 else if i = 0 then pa 1 else pa i
theorem ne_0_1 : ((0 : Nat) = 1) = False := by decide
theorem ne_0_2 : ((0 : Nat) = 2) = False := by decide
theorem ne_0_3 : ((0 : Nat) = 3) = False := by decide
theorem ne_1_0 : ((1 : Nat) = 0) = False := by decide
theorem ne_1_2 : ((1 : Nat) = 2) = False := by decide
theorem ne_1_3 : ((1 : Nat) = 3) = False := by decide
theorem ne_2_0 : ((2 : Nat) = 0) = False := by decide
theorem ne_2_1 : ((2 : Nat) = 1) = False := by decide
theorem ne_2_3 : ((2 : Nat) = 3) = False := by decide
theorem ne_3_0 : ((3 : Nat) = 0) = False := by decide
theorem ne_3_1 : ((3 : Nat) = 1) = False := by decide
theorem ne_3_2 : ((3 : Nat) = 2) = False := by decide
theorem le_4_1 : (4 ≤ (1 : Nat)) = False := by decide
theorem le_4_2 : (4 ≤ (2 : Nat)) = False := by decide
theorem le_4_3 : (4 ≤ (3 : Nat)) = False := by decide
theorem le_4_4 : (4 ≤ (4 : Nat)) = True := by decide
theorem le_4_0 : ((4 : Nat) ≤ 0) = False := by decide
section CLS9
variable {d : Nat} {pa : Nat → Nat} {h : Nat → Nat → Int32} {k : Nat}
theorem sX2_pastAt (hk : k < 4) : qzC d 50 [.ref 0, .int (nI k)] (67, qzRr pa, h) = some (some (.ref (pa k)), (67, qzRr pa, h)) := by
  have hn : ¬ 4 ≤ k := by omega
  have hi := qi_22' hk
  simp (disch := first | assumption | omega | (refine nI_ne0 ?_ ?_ <;> omega) | exact agG (by assumption) | exact agG (Or.inl rfl) | exact al22 | (refine qi_22 ?_; omega) | exact ar_0 | exact ar_22 | exact ar_23 | exact ar_24 | exact ar_28 | exact ln0 | exact ln1 | exact ln2 | exact ln3 | exact ln4 | exact ln5 | exact nbf0 | exact nbf1 | exact nb0n | exact nb1n | (refine nn0 ?_ ?_ <;> omega) | exact nb0 | exact nb1 | decide) only [kX2_pastAt, eX2_pastAt_0, eX2_pastAt_1, eX2_pastAt_4, eX2_pastAt_5, eX2_pastAt_6, eX2_pastAt_9, eX2_pastAt_10, eX2_pastAt_13, eX2_pastAt_14, eX2_pastAt_17, eX2_pastAt_18, eX2_pastAt_19, eX2_pastAt_22, eX2_pastAt_23, eX2_pastAt_23N, vrf_s, vrf_n, rG_0, rG_1, rG_2, rG_3, rG_4, rG_5, rr_0_0, rr_0_1, rr_0_2, rr_0_4, rr_0_6, rr_0_8, rr_0_9, Option.bind_some, Option.toList_some, Option.toList_none, List.cons_append, List.nil_append, List.singleton_append, nI_add, nI_mul, nI_sub, nI_cl, li_0, li_1, li_2, li_3, li_4, li_5, li_6, li_7, li_8, li_9, li_10, li_11, li_12, li_13, li_14, li_15, li_16, li_17, li_18, li_19, li_20, li_21, li_22, li_23, li_24, li_25, li_26, li_27, li_28, li_29, li_30, li_31, li_32, li_33, li_34, li_35, li_36, li_37, li_38, li_39, li_40, li_41, li_42, li_43, li_44, li_45, li_46, li_47, li_48, li_49, li_50, li_51, li_52, li_53, li_54, li_55, li_56, li_57, li_58, li_59, li_60, li_61, li_97, li_98, li_102, li_103, li_108, li_114, li_120, li_126, li_360, li_480, li_1000, li_10000, kz22, nI_of20, nI_lt0, nI_le', hn, rr_22, nI_eq', eq_self, if_true, if_false, not_true_eq_false, not_false_eq_true, Nat.one_ne_zero]
theorem sX2_dropOldest (g0 : gB (pa 0)) (g1 : gB (pa 1)) (g2 : gB (pa 2)) (g3 : gB (pa 3)) : qzC (d + 1) 52 [.ref 0] (67, qzRr pa, h) = some (none, (67, qzRr (zRot pa), qzUp h 0 5 (nI 3))) := by
  have hp := sX2_pastAt (d := d) (pa := pa) (h := h) (k := 0) (by omega)
  have i0 := qi_22' (k := 0) (by omega)
  have i1 := qi_22' (k := 1) (by omega)
  have i2 := qi_22' (k := 2) (by omega)
  have i3 := qi_22' (k := 3) (by omega)
  unfold zRot
  simp (disch := first | assumption | omega | (refine nI_ne0 ?_ ?_ <;> omega) | exact agG (by assumption) | exact agG (Or.inl rfl) | exact al22 | (refine qi_22 ?_; omega) | exact ar_0 | exact ar_22 | exact ar_23 | exact ar_24 | exact ar_28 | exact ln0 | exact ln1 | exact ln2 | exact ln3 | exact ln4 | exact ln5 | exact nbf0 | exact nbf1 | exact nb0n | exact nb1n | (refine nn0 ?_ ?_ <;> omega) | exact nb0 | exact nb1 | decide) only [kX2_dropOldest, eX2_dropOldest_0, eX2_dropOldest_0N, eX2_dropOldest_1, eX2_dropOldest_2, eX2_dropOldest_5, eX2_dropOldest_5N, eX2_dropOldest_6, eX2_dropOldest_7, eX2_dropOldest_8, eX2_dropOldest_9, eX2_dropOldest_9N, eX2_dropOldest_10, eX2_dropOldest_13, eX2_dropOldest_14, eX2_dropOldest_17, eX2_dropOldest_17N, eX2_dropOldest_18, eX2_dropOldest_21, eX2_dropOldest_22, eX2_dropOldest_23, eX2_dropOldest_24, eX2_dropOldest_24N, eX2_dropOldest_25, eX2_dropOldest_28, eX2_dropOldest_29, eX2_dropOldest_30, eX2_dropOldest_31, eX2_dropOldest_34, eX2_dropOldest_37, eX2_dropOldest_37N, eX2_dropOldest_38, eX2_dropOldest_41, eX2_dropOldest_42, eX2_dropOldest_45, eX2_dropOldest_45N, eX2_dropOldest_46, eX2_dropOldest_49, eX2_dropOldest_49N, eX2_dropOldest_50, eX2_dropOldest_53, eX2_dropOldest_54, eX2_dropOldest_55, eX2_dropOldest_56, eX2_dropOldest_56N, eX2_dropOldest_57, eX2_dropOldest_58, eX2_dropOldest_58N, eX2_dropOldest_59, eX2_dropOldest_59N, eX2_dropOldest_60, eX2_dropOldest_63, eX2_dropOldest_64, eX2_dropOldest_65, eX2_dropOldest_66, eX2_dropOldest_69, vrf_s, vrf_n, rG_0, rG_1, rG_2, rG_3, rG_4, rG_5, rr_0_0, rr_0_1, rr_0_2, rr_0_4, rr_0_6, rr_0_8, rr_0_9, Option.bind_some, Option.toList_some, Option.toList_none, List.cons_append, List.nil_append, List.singleton_append, nI_add, nI_mul, nI_sub, nI_cl, li_0, li_1, li_2, li_3, li_4, li_5, li_6, li_7, li_8, li_9, li_10, li_11, li_12, li_13, li_14, li_15, li_16, li_17, li_18, li_19, li_20, li_21, li_22, li_23, li_24, li_25, li_26, li_27, li_28, li_29, li_30, li_31, li_32, li_33, li_34, li_35, li_36, li_37, li_38, li_39, li_40, li_41, li_42, li_43, li_44, li_45, li_46, li_47, li_48, li_49, li_50, li_51, li_52, li_53, li_54, li_55, li_56, li_57, li_58, li_59, li_60, li_61, li_97, li_98, li_102, li_103, li_108, li_114, li_120, li_126, li_360, li_480, li_1000, li_10000, hp, kz22, nI_of20, nI_lt0, nI_le', rr_22, rUp, Nat.reduceSub, Nat.reduceAdd, ne_0_1, ne_0_2, ne_0_3, ne_1_0, ne_1_2, ne_1_3, ne_2_0, ne_2_1, ne_2_3, ne_3_0, ne_3_1, ne_3_2, le_4_0, le_4_1, le_4_2, le_4_3, le_4_4, nI_eq', eq_self, if_true, if_false, not_true_eq_false, not_false_eq_true, Nat.one_ne_zero]
theorem sX2_record {n : Nat} (hn : n < 4) (h5 : h 0 5 = nI n) (g : gB (pa n)) (hd : 1 + 6 < pa n) : qzC (d + 1) 51 [.ref 0] (67, qzRr pa, h) = some (none, (67, qzRr pa, qzUp (zCf h (pa n) 1) 0 5 (nI (n + 1)))) := by
  have hp := sX2_pastAt (d := d) (pa := pa) (h := h) hn
  have hc := gX0_copyFrom (d := d) (pa := pa) (h := h) (b := pa n) (e := 1) g (Or.inl rfl) (Or.inr hd)
  have h5' : zCf h (pa n) 1 0 5 = nI n := by rw [gCf_fr (by omega)]; exact h5
  simp (disch := first | assumption | omega | (refine nI_ne0 ?_ ?_ <;> omega) | exact agG (by assumption) | exact agG (Or.inl rfl) | exact al22 | (refine qi_22 ?_; omega) | exact ar_0 | exact ar_22 | exact ar_23 | exact ar_24 | exact ar_28 | exact ln0 | exact ln1 | exact ln2 | exact ln3 | exact ln4 | exact ln5 | exact nbf0 | exact nbf1 | exact nb0n | exact nb1n | (refine nn0 ?_ ?_ <;> omega) | exact nb0 | exact nb1 | decide) only [kX2_record, eX2_record_0, eX2_record_0N, eX2_record_1, eX2_record_4, eX2_record_4N, eX2_record_5, eX2_record_8, eX2_record_9, eX2_record_12, eX2_record_12N, eX2_record_13, eX2_record_16, eX2_record_16N, eX2_record_17, eX2_record_17N, eX2_record_18, eX2_record_21, eX2_record_24, eX2_record_24N, eX2_record_25, eX2_record_25N, eX2_record_26, eX2_record_26N, eX2_record_29, eX2_record_29N, eX2_record_30, eX2_record_30N, eX2_record_31, eX2_record_34, eX2_record_37, eX2_record_37N, eX2_record_38, eX2_record_39, eX2_record_42, eX2_record_43, eX2_record_44, eX2_record_47, vrf_s, vrf_n, rG_0, rG_1, rG_2, rG_3, rG_4, rG_5, rr_0_0, rr_0_1, rr_0_2, rr_0_4, rr_0_6, rr_0_8, rr_0_9, Option.bind_some, Option.toList_some, Option.toList_none, List.cons_append, List.nil_append, List.singleton_append, nI_add, nI_mul, nI_sub, nI_cl, li_0, li_1, li_2, li_3, li_4, li_5, li_6, li_7, li_8, li_9, li_10, li_11, li_12, li_13, li_14, li_15, li_16, li_17, li_18, li_19, li_20, li_21, li_22, li_23, li_24, li_25, li_26, li_27, li_28, li_29, li_30, li_31, li_32, li_33, li_34, li_35, li_36, li_37, li_38, li_39, li_40, li_41, li_42, li_43, li_44, li_45, li_46, li_47, li_48, li_49, li_50, li_51, li_52, li_53, li_54, li_55, li_56, li_57, li_58, li_59, li_60, li_61, li_97, li_98, li_102, li_103, li_108, li_114, li_120, li_126, li_360, li_480, li_1000, li_10000, hp, hc, h5, h5', kz22, nI_of20, nI_lt', hn, rr_22, nI_eq', eq_self, if_true, if_false, not_true_eq_false, not_false_eq_true, Nat.one_ne_zero]
end CLS9
