/-! the reference: more public methods, 2 -/
theorem nbf0 : narrow .boolean (.int (nI 0)) = .int (nI 0) ∧ fits .boolean (.int (nI 0)) = true := ⟨rfl, rfl⟩
theorem nbf1 : narrow .boolean (.int (nI 1)) = .int (nI 1) ∧ fits .boolean (.int (nI 1)) = true := ⟨rfl, rfl⟩
section REF10
variable {d : Nat} {pa : Nat → Nat} {h : Nat → Nat → Int32} {m : Nat → Nat} {P : Nat → Nat → Nat} {n : Nat} {K : Nat → Nat} {ik : Nat} {pd : Nat → Nat} {ln : Nat}
theorem zBgLoop : ∀ (r k : Nat), k + r = 120 → 28 ≤ k → ∀ h : Nat → Nat → Int32, (∀ i, i < 120 → h 61 i = nI (zBk m k i)) → ∃ h', qzV d 90 36 [.ref 60, .int (nI k)] [] (67, qzRr pa, h) = some (none, (67, qzRr pa, h')) ∧ (∀ i, i < 120 → h' 61 i = nI (zBk m 120 i)) ∧ ∀ a, a ≠ 61 → h' a = h a := by
  intro r
  induction r with
  | zero =>
    intro k hk hk2 h hs
    have e : k = 120 := by omega
    subst e
    refine ⟨h, ?_, hs, fun _ _ => rfl⟩
    rw [eX3_beginsAgain_36]
    simp (disch := first | assumption | omega | (refine nI_ne0 ?_ ?_ <;> omega) | exact ar_60 | exact ar_61 | exact ar_62 | exact ar_63 | exact ar_64 | exact ar_65 | exact ar_66 | (refine qi_61 ?_; omega) | (refine qi_62 ?_; omega) | (refine qi_63 ?_; omega) | (refine qi_64 ?_; omega) | (refine qi_65 ?_; omega) | (refine qi_66 ?_; omega) | exact ln0 | exact ln1 | exact ln2 | exact ln3 | exact ln4 | exact ln5 | exact nbf0 | exact nbf1 | exact nb0n | exact nb1n | (refine nn0 ?_ ?_ <;> omega) | exact nb0 | exact nb1 | decide) only [eX3_beginsAgain_0, eX3_beginsAgain_1, eX3_beginsAgain_4, eX3_beginsAgain_5, eX3_beginsAgain_6, eX3_beginsAgain_7, eX3_beginsAgain_8, eX3_beginsAgain_11, eX3_beginsAgain_12, eX3_beginsAgain_13, eX3_beginsAgain_16, eX3_beginsAgain_17, eX3_beginsAgain_18, eX3_beginsAgain_19, eX3_beginsAgain_20, eX3_beginsAgain_23, eX3_beginsAgain_24, eX3_beginsAgain_25, eX3_beginsAgain_26, eX3_beginsAgain_27, eX3_beginsAgain_30, eX3_beginsAgain_31, eX3_beginsAgain_32, eX3_beginsAgain_33, eX3_beginsAgain_35, eX3_beginsAgain_37, eX3_beginsAgain_39, eX3_beginsAgain_42, eX3_beginsAgain_43, eX3_beginsAgain_46, eX3_beginsAgain_47, eX3_beginsAgain_48, eX3_beginsAgain_49, eX3_beginsAgain_52, eX3_beginsAgain_55, vrf_s, vrf_n, rr_60_0, rr_60_1, rr_60_2, rr_60_4, rr_60_6, rr_60_8, Option.bind_some, Option.toList_some, Option.toList_none, List.cons_append, List.nil_append, List.singleton_append, nI_add, nI_mul, nI_sub, nI_cl, li_0, li_1, li_2, li_3, li_4, li_5, li_6, li_7, li_8, li_9, li_10, li_11, li_12, li_13, li_14, li_15, li_16, li_17, li_18, li_19, li_20, li_21, li_22, li_23, li_24, li_25, li_26, li_27, li_28, li_29, li_30, li_31, li_32, li_33, li_34, li_35, li_36, li_37, li_38, li_39, li_40, li_41, li_42, li_43, li_44, li_45, li_46, li_47, li_48, li_49, li_50, li_51, li_52, li_53, li_54, li_55, li_56, li_57, li_58, li_59, li_60, li_61, li_97, li_98, li_102, li_103, li_108, li_114, li_120, li_126, li_360, li_480, li_1000, li_10000, nI_le', Nat.le_refl, if_true]
  | succ r ih =>
    intro k hk hk2 h hs
    have hk1 : ¬ 120 ≤ k := by omega
    obtain ⟨h', e1, e2, e3⟩ := ih (k + 1) (by omega) (by omega) (qzUp h 61 k (nI 0)) (fun i hi => by
      by_cases e : i = k
      · subst e
        have z : zBk m (i + 1) i = 0 := by unfold zBk; rw [if_pos (by omega)]
        rw [z]; simp [qzUp]
      · have z : zBk m (k + 1) i = zBk m k i := by
          unfold zBk
          by_cases c : i = 1 ∨ i = 3 ∨ i = 4 ∨ (28 ≤ i ∧ i < k)
          · rw [if_pos c, if_pos (by omega)]
          · rw [if_neg c, if_neg (by omega)]
        rw [z, ← hs i hi]; simp [qzUp, e])
    refine ⟨h', ?_, e2, fun a ha => (e3 a ha).trans (qzUp_ne ha)⟩
    rw [← e1, eX3_beginsAgain_36]
    simp (disch := first | assumption | omega | (refine nI_ne0 ?_ ?_ <;> omega) | exact ar_60 | exact ar_61 | exact ar_62 | exact ar_63 | exact ar_64 | exact ar_65 | exact ar_66 | (refine qi_61 ?_; omega) | (refine qi_62 ?_; omega) | (refine qi_63 ?_; omega) | (refine qi_64 ?_; omega) | (refine qi_65 ?_; omega) | (refine qi_66 ?_; omega) | exact ln0 | exact ln1 | exact ln2 | exact ln3 | exact ln4 | exact ln5 | exact nbf0 | exact nbf1 | exact nb0n | exact nb1n | (refine nn0 ?_ ?_ <;> omega) | exact nb0 | exact nb1 | decide) only [eX3_beginsAgain_0, eX3_beginsAgain_1, eX3_beginsAgain_4, eX3_beginsAgain_5, eX3_beginsAgain_6, eX3_beginsAgain_7, eX3_beginsAgain_8, eX3_beginsAgain_11, eX3_beginsAgain_12, eX3_beginsAgain_13, eX3_beginsAgain_16, eX3_beginsAgain_17, eX3_beginsAgain_18, eX3_beginsAgain_19, eX3_beginsAgain_20, eX3_beginsAgain_23, eX3_beginsAgain_24, eX3_beginsAgain_25, eX3_beginsAgain_26, eX3_beginsAgain_27, eX3_beginsAgain_30, eX3_beginsAgain_31, eX3_beginsAgain_32, eX3_beginsAgain_33, eX3_beginsAgain_35, eX3_beginsAgain_37, eX3_beginsAgain_39, eX3_beginsAgain_42, eX3_beginsAgain_43, eX3_beginsAgain_46, eX3_beginsAgain_47, eX3_beginsAgain_48, eX3_beginsAgain_49, eX3_beginsAgain_52, eX3_beginsAgain_55, vrf_s, vrf_n, rr_60_0, rr_60_1, rr_60_2, rr_60_4, rr_60_6, rr_60_8, Option.bind_some, Option.toList_some, Option.toList_none, List.cons_append, List.nil_append, List.singleton_append, nI_add, nI_mul, nI_sub, nI_cl, li_0, li_1, li_2, li_3, li_4, li_5, li_6, li_7, li_8, li_9, li_10, li_11, li_12, li_13, li_14, li_15, li_16, li_17, li_18, li_19, li_20, li_21, li_22, li_23, li_24, li_25, li_26, li_27, li_28, li_29, li_30, li_31, li_32, li_33, li_34, li_35, li_36, li_37, li_38, li_39, li_40, li_41, li_42, li_43, li_44, li_45, li_46, li_47, li_48, li_49, li_50, li_51, li_52, li_53, li_54, li_55, li_56, li_57, li_58, li_59, li_60, li_61, li_97, li_98, li_102, li_103, li_108, li_114, li_120, li_126, li_360, li_480, li_1000, li_10000, nI_le', hk1, if_false]
theorem rX3_beginsAgain (hR : zRel h m P n K ik pd ln) : ∃ h', qzC d 90 [.ref 60] (67, qzRr pa, h) = some (none, (67, qzRr pa, h')) ∧ zRel h' (zBk m 120) P n K ik pd ln ∧ ∀ a, a ≠ 61 → h' a = h a := by
  have hs := hR.1
  have hs0 : ∀ i, i < 120 → (qzUp (qzUp (qzUp (qzUp h 61 1 (nI 0)) 61 2 (nI (m 0))) 61 3 (nI 0)) 61 4 (nI 0)) 61 i = nI (zBk m 28 i) := by
    intro i hi
    have q := hs i hi
    unfold zBk
    by_cases c1 : i = 1
    · subst c1; simp [qzUp]
    · by_cases c2 : i = 2
      · subst c2; simp [qzUp]
      · by_cases c3 : i = 3
        · subst c3; simp [qzUp]
        · by_cases c4 : i = 4
          · subst c4; simp [qzUp]
          · have c6 : ¬ (i = 1 ∨ i = 3 ∨ i = 4 ∨ (28 ≤ i ∧ i < 28)) := by omega
            rw [if_neg c6, if_neg c2, ← q]
            simp [qzUp, c1, c2, c3, c4]
  obtain ⟨h', e1, e2, e3⟩ := zBgLoop (d := d) (pa := pa) (m := m) 92 28 rfl (Nat.le_refl _) _ hs0
  refine ⟨h', ?_, hR.s e2 (zBk_inv hR.2.1) (fun a ha _ => (e3 a ha).trans (by simp only [qzUp_ne ha])), fun a ha => (e3 a ha).trans (by simp only [qzUp_ne ha])⟩
  have h00 : qzUp h 61 1 (nI 0) 61 0 = nI (m 0) := by simp [qzUp, hs 0 (by omega)]
  rw [← e1, kX3_beginsAgain]
  simp (disch := first | assumption | omega | (refine nI_ne0 ?_ ?_ <;> omega) | exact ar_60 | exact ar_61 | exact ar_62 | exact ar_63 | exact ar_64 | exact ar_65 | exact ar_66 | (refine qi_61 ?_; omega) | (refine qi_62 ?_; omega) | (refine qi_63 ?_; omega) | (refine qi_64 ?_; omega) | (refine qi_65 ?_; omega) | (refine qi_66 ?_; omega) | exact ln0 | exact ln1 | exact ln2 | exact ln3 | exact ln4 | exact ln5 | exact nbf0 | exact nbf1 | exact nb0n | exact nb1n | (refine nn0 ?_ ?_ <;> omega) | exact nb0 | exact nb1 | decide) only [eX3_beginsAgain_0, eX3_beginsAgain_1, eX3_beginsAgain_4, eX3_beginsAgain_5, eX3_beginsAgain_6, eX3_beginsAgain_7, eX3_beginsAgain_8, eX3_beginsAgain_11, eX3_beginsAgain_12, eX3_beginsAgain_13, eX3_beginsAgain_16, eX3_beginsAgain_17, eX3_beginsAgain_18, eX3_beginsAgain_19, eX3_beginsAgain_20, eX3_beginsAgain_23, eX3_beginsAgain_24, eX3_beginsAgain_25, eX3_beginsAgain_26, eX3_beginsAgain_27, eX3_beginsAgain_30, eX3_beginsAgain_31, eX3_beginsAgain_32, eX3_beginsAgain_33, eX3_beginsAgain_35, eX3_beginsAgain_37, eX3_beginsAgain_39, eX3_beginsAgain_42, eX3_beginsAgain_43, eX3_beginsAgain_46, eX3_beginsAgain_47, eX3_beginsAgain_48, eX3_beginsAgain_49, eX3_beginsAgain_52, eX3_beginsAgain_55, vrf_s, vrf_n, rr_60_0, rr_60_1, rr_60_2, rr_60_4, rr_60_6, rr_60_8, Option.bind_some, Option.toList_some, Option.toList_none, List.cons_append, List.nil_append, List.singleton_append, nI_add, nI_mul, nI_sub, nI_cl, li_0, li_1, li_2, li_3, li_4, li_5, li_6, li_7, li_8, li_9, li_10, li_11, li_12, li_13, li_14, li_15, li_16, li_17, li_18, li_19, li_20, li_21, li_22, li_23, li_24, li_25, li_26, li_27, li_28, li_29, li_30, li_31, li_32, li_33, li_34, li_35, li_36, li_37, li_38, li_39, li_40, li_41, li_42, li_43, li_44, li_45, li_46, li_47, li_48, li_49, li_50, li_51, li_52, li_53, li_54, li_55, li_56, li_57, li_58, li_59, li_60, li_61, li_97, li_98, li_102, li_103, li_108, li_114, li_120, li_126, li_360, li_480, li_1000, li_10000, h00]
theorem pX3_again (hR : zRel h m P n K ik pd ln) : ∃ h', qzC (d + 2) 113 [.ref 60] (67, qzRr pa, h) = some (some (.int (nI (m 0))), (67, qzRr pa, h')) ∧ zRel h' (zBk m 120) (zPush P n m) (min n 3 + 1) K ik pd ln ∧ zFr h h' := by
  obtain ⟨h1, e1, g1, f1⟩ := rX3_records (d := d) (pa := pa) hR
  obtain ⟨h2, e2, g2, f2⟩ := rX3_beginsAgain (d := d + 1) (pa := pa) g1
  refine ⟨h2, ?_, g2, fun a ha => (f2 a (by omega)).trans (f1 a (by omega) (by omega))⟩
  have hs0 : h2 61 0 = nI (m 0) := by rw [g2.1 0 (by omega)]; rfl
  simp (disch := first | assumption | omega | (refine nI_ne0 ?_ ?_ <;> omega) | exact ar_60 | exact ar_61 | exact ar_62 | exact ar_63 | exact ar_64 | exact ar_65 | exact ar_66 | (refine qi_61 ?_; omega) | (refine qi_62 ?_; omega) | (refine qi_63 ?_; omega) | (refine qi_64 ?_; omega) | (refine qi_65 ?_; omega) | (refine qi_66 ?_; omega) | exact ln0 | exact ln1 | exact ln2 | exact ln3 | exact ln4 | exact ln5 | exact nbf0 | exact nbf1 | exact nb0n | exact nb1n | (refine nn0 ?_ ?_ <;> omega) | exact nb0 | exact nb1 | decide) only [kX3_again, eX3_again_0, eX3_again_1, eX3_again_4, eX3_again_5, eX3_again_8, eX3_again_9, eX3_again_12, eX3_again_13, eX3_again_14, vrf_s, vrf_n, rr_60_0, rr_60_1, rr_60_2, rr_60_4, rr_60_6, rr_60_8, Option.bind_some, Option.toList_some, Option.toList_none, List.cons_append, List.nil_append, List.singleton_append, nI_add, nI_mul, nI_sub, nI_cl, li_0, li_1, li_2, li_3, li_4, li_5, li_6, li_7, li_8, li_9, li_10, li_11, li_12, li_13, li_14, li_15, li_16, li_17, li_18, li_19, li_20, li_21, li_22, li_23, li_24, li_25, li_26, li_27, li_28, li_29, li_30, li_31, li_32, li_33, li_34, li_35, li_36, li_37, li_38, li_39, li_40, li_41, li_42, li_43, li_44, li_45, li_46, li_47, li_48, li_49, li_50, li_51, li_52, li_53, li_54, li_55, li_56, li_57, li_58, li_59, li_60, li_61, li_97, li_98, li_102, li_103, li_108, li_114, li_120, li_126, li_360, li_480, li_1000, li_10000, e1, e2, hs0]
theorem pX3_save (hR : zRel h m P n K ik pd ln) : ∃ h', qzC (d + 1) 146 [.ref 60] (67, qzRr pa, h) = some (some (.int (nI (m 2))), (67, qzRr pa, h')) ∧ zRel h' m P n m 1 pd ln ∧ zFr h h' := by
  have hc := sX3_copies (d := d) (pa := pa) (h := h) (fr := 61) (to := 64) (u := 0) (v := 0) ar_61 ar_64 (by omega) (by decide) (by decide) (by decide) (by decide)
  obtain ⟨r1, ri, ⟨r2, r3, r4, r5⟩, ⟨s1, s2, s3⟩, t1, t2, t3, t4⟩ := id hR
  have z : ∀ a, a ≠ 64 → zCp h 61 64 0 0 120 a = h a := fun a ha => by funext i; unfold zCp; rw [if_neg (fun q => ha q.1)]
  have f : ∀ a, a ≠ 64 → a ≠ 60 → qzUp (zCp h 61 64 0 0 120) 60 5 (nI 1) a = h a := fun a ha hb => (qzUp_ne hb).trans (z a ha)
  have f60 : ∀ j, j ≠ 5 → qzUp (zCp h 61 64 0 0 120) 60 5 (nI 1) 60 j = h 60 j := fun j hj => by simp [qzUp, hj, zCp]
  refine ⟨qzUp (zCp h 61 64 0 0 120) 60 5 (nI 1), ?_, ⟨?_, ri, ⟨?_, ?_, r4, r5⟩, ⟨fun _ => ⟨fun i hi => ?_, ri⟩, by simp [qzUp], by omega⟩, ?_, ?_, t3, t4⟩, fun a ha => f a (by omega) (by omega)⟩
  · have hs2 : qzUp (zCp h 61 64 0 0 120) 60 5 (nI 1) 61 2 = nI (m 2) := by rw [f 61 (by omega) (by omega)]; exact r1 2 (by omega)
    simp (disch := first | assumption | omega | (refine nI_ne0 ?_ ?_ <;> omega) | exact ar_60 | exact ar_61 | exact ar_62 | exact ar_63 | exact ar_64 | exact ar_65 | exact ar_66 | (refine qi_61 ?_; omega) | (refine qi_62 ?_; omega) | (refine qi_63 ?_; omega) | (refine qi_64 ?_; omega) | (refine qi_65 ?_; omega) | (refine qi_66 ?_; omega) | exact ln0 | exact ln1 | exact ln2 | exact ln3 | exact ln4 | exact ln5 | exact nbf0 | exact nbf1 | exact nb0n | exact nb1n | (refine nn0 ?_ ?_ <;> omega) | exact nb0 | exact nb1 | decide) only [kX3_save, eX3_save_0, eX3_save_1, eX3_save_4, eX3_save_5, eX3_save_6, eX3_save_9, eX3_save_10, eX3_save_13, eX3_save_14, eX3_save_15, eX3_save_18, eX3_save_19, eX3_save_22, eX3_save_23, eX3_save_24, vrf_s, vrf_n, rr_60_0, rr_60_1, rr_60_2, rr_60_4, rr_60_6, rr_60_8, Option.bind_some, Option.toList_some, Option.toList_none, List.cons_append, List.nil_append, List.singleton_append, nI_add, nI_mul, nI_sub, nI_cl, li_0, li_1, li_2, li_3, li_4, li_5, li_6, li_7, li_8, li_9, li_10, li_11, li_12, li_13, li_14, li_15, li_16, li_17, li_18, li_19, li_20, li_21, li_22, li_23, li_24, li_25, li_26, li_27, li_28, li_29, li_30, li_31, li_32, li_33, li_34, li_35, li_36, li_37, li_38, li_39, li_40, li_41, li_42, li_43, li_44, li_45, li_46, li_47, li_48, li_49, li_50, li_51, li_52, li_53, li_54, li_55, li_56, li_57, li_58, li_59, li_60, li_61, li_97, li_98, li_102, li_103, li_108, li_114, li_120, li_126, li_360, li_480, li_1000, li_10000, hc, hs2]
  · unfold zR1; rw [f 61 (by omega) (by omega)]; exact r1
  · rw [f 63 (by omega) (by omega)]; exact r2
  · rw [f60 3 (by omega)]; exact r3
  · have q := r1 i hi
    simp [qzUp, zCp, hi]
    exact q
  · rw [f 65 (by omega) (by omega)]; exact t1
  · rw [f60 7 (by omega)]; exact t2
theorem pX3_restore_n (hR : zRel h m P n K ik pd ln) (hk : ik = 0) : qzC (d + 2) 147 [.ref 60] (67, qzRr pa, h) = some (some (.int (-nI 2)), (67, qzRr pa, h)) := by
  have s2 := hR.2.2.2.1.2.1
  subst hk
  simp (disch := first | assumption | omega | (refine nI_ne0 ?_ ?_ <;> omega) | exact ar_60 | exact ar_61 | exact ar_62 | exact ar_63 | exact ar_64 | exact ar_65 | exact ar_66 | (refine qi_61 ?_; omega) | (refine qi_62 ?_; omega) | (refine qi_63 ?_; omega) | (refine qi_64 ?_; omega) | (refine qi_65 ?_; omega) | (refine qi_66 ?_; omega) | exact ln0 | exact ln1 | exact ln2 | exact ln3 | exact ln4 | exact ln5 | exact nbf0 | exact nbf1 | exact nb0n | exact nb1n | (refine nn0 ?_ ?_ <;> omega) | exact nb0 | exact nb1 | decide) only [kX3_restore, eX3_restore_0, eX3_restore_1, eX3_restore_4, eX3_restore_7, eX3_restore_9, eX3_restore_10, eX3_restore_11, eX3_restore_14, eX3_restore_15, eX3_restore_18, eX3_restore_19, eX3_restore_20, eX3_restore_23, eX3_restore_24, eX3_restore_27, eX3_restore_28, eX3_restore_31, eX3_restore_32, eX3_restore_33, vrf_s, vrf_n, rr_60_0, rr_60_1, rr_60_2, rr_60_4, rr_60_6, rr_60_8, Option.bind_some, Option.toList_some, Option.toList_none, List.cons_append, List.nil_append, List.singleton_append, nI_add, nI_mul, nI_sub, nI_cl, li_0, li_1, li_2, li_3, li_4, li_5, li_6, li_7, li_8, li_9, li_10, li_11, li_12, li_13, li_14, li_15, li_16, li_17, li_18, li_19, li_20, li_21, li_22, li_23, li_24, li_25, li_26, li_27, li_28, li_29, li_30, li_31, li_32, li_33, li_34, li_35, li_36, li_37, li_38, li_39, li_40, li_41, li_42, li_43, li_44, li_45, li_46, li_47, li_48, li_49, li_50, li_51, li_52, li_53, li_54, li_55, li_56, li_57, li_58, li_59, li_60, li_61, li_97, li_98, li_102, li_103, li_108, li_114, li_120, li_126, li_360, li_480, li_1000, li_10000, s2, nI_eq', eq_self, not_true_eq_false, if_false]
theorem pX3_restore (hR : zRel h m P n K ik pd ln) (hk : ik = 1) : ∃ h', qzC (d + 2) 147 [.ref 60] (67, qzRr pa, h) = some (some (.int (nI (K 2))), (67, qzRr pa, h')) ∧ zRel h' K (zPush P n m) (min n 3 + 1) K ik pd ln ∧ zFr h h' := by
  have s2 := hR.2.2.2.1.2.1
  subst hk
  obtain ⟨h1, e1, g1, f1⟩ := rX3_records (d := d) (pa := pa) hR
  have sK := g1.2.2.2.1.1 rfl
  have hc := sX3_copies (d := d + 1) (pa := pa) (h := h1) (fr := 64) (to := 61) (u := 0) (v := 0) ar_64 ar_61 (by omega) (by decide) (by decide) (by decide) (by decide)
  have z : ∀ a, a ≠ 61 → zCp h1 64 61 0 0 120 a = h1 a := fun a ha => by funext i; unfold zCp; rw [if_neg (fun q => ha q.1)]
  have hs : ∀ i, i < 120 → zCp h1 64 61 0 0 120 61 i = nI (K i) := fun i hi => by
    have q := sK.1 i hi
    simp [zCp, hi]
    exact q
  refine ⟨zCp h1 64 61 0 0 120, ?_, g1.s hs sK.2 (fun a ha _ => z a ha), fun a ha => (z a (by omega)).trans (f1 a (by omega) (by omega))⟩
  have hs2 := hs 2 (by omega)
  simp (disch := first | assumption | omega | (refine nI_ne0 ?_ ?_ <;> omega) | exact ar_60 | exact ar_61 | exact ar_62 | exact ar_63 | exact ar_64 | exact ar_65 | exact ar_66 | (refine qi_61 ?_; omega) | (refine qi_62 ?_; omega) | (refine qi_63 ?_; omega) | (refine qi_64 ?_; omega) | (refine qi_65 ?_; omega) | (refine qi_66 ?_; omega) | exact ln0 | exact ln1 | exact ln2 | exact ln3 | exact ln4 | exact ln5 | exact nbf0 | exact nbf1 | exact nb0n | exact nb1n | (refine nn0 ?_ ?_ <;> omega) | exact nb0 | exact nb1 | decide) only [kX3_restore, eX3_restore_0, eX3_restore_1, eX3_restore_4, eX3_restore_7, eX3_restore_9, eX3_restore_10, eX3_restore_11, eX3_restore_14, eX3_restore_15, eX3_restore_18, eX3_restore_19, eX3_restore_20, eX3_restore_23, eX3_restore_24, eX3_restore_27, eX3_restore_28, eX3_restore_31, eX3_restore_32, eX3_restore_33, vrf_s, vrf_n, rr_60_0, rr_60_1, rr_60_2, rr_60_4, rr_60_6, rr_60_8, Option.bind_some, Option.toList_some, Option.toList_none, List.cons_append, List.nil_append, List.singleton_append, nI_add, nI_mul, nI_sub, nI_cl, li_0, li_1, li_2, li_3, li_4, li_5, li_6, li_7, li_8, li_9, li_10, li_11, li_12, li_13, li_14, li_15, li_16, li_17, li_18, li_19, li_20, li_21, li_22, li_23, li_24, li_25, li_26, li_27, li_28, li_29, li_30, li_31, li_32, li_33, li_34, li_35, li_36, li_37, li_38, li_39, li_40, li_41, li_42, li_43, li_44, li_45, li_46, li_47, li_48, li_49, li_50, li_51, li_52, li_53, li_54, li_55, li_56, li_57, li_58, li_59, li_60, li_61, li_97, li_98, li_102, li_103, li_108, li_114, li_120, li_126, li_360, li_480, li_1000, li_10000, s2, e1, hc, hs2, nI_eq', Nat.one_ne_zero, not_false_eq_true, if_true]
theorem pX3_undo_n (hR : zRel h m P n K ik pd ln) (hk : n = 0) : qzC (d + 2) 145 [.ref 60] (67, qzRr pa, h) = some (some (.int (-nI 2)), (67, qzRr pa, h)) := by
  have s2 := hR.2.2.1.2.1
  subst hk
  simp (disch := first | assumption | omega | (refine nI_ne0 ?_ ?_ <;> omega) | exact ar_60 | exact ar_61 | exact ar_62 | exact ar_63 | exact ar_64 | exact ar_65 | exact ar_66 | (refine qi_61 ?_; omega) | (refine qi_62 ?_; omega) | (refine qi_63 ?_; omega) | (refine qi_64 ?_; omega) | (refine qi_65 ?_; omega) | (refine qi_66 ?_; omega) | exact ln0 | exact ln1 | exact ln2 | exact ln3 | exact ln4 | exact ln5 | exact nbf0 | exact nbf1 | exact nb0n | exact nb1n | (refine nn0 ?_ ?_ <;> omega) | exact nb0 | exact nb1 | decide) only [kX3_undo, eX3_undo_0, eX3_undo_1, eX3_undo_4, eX3_undo_7, eX3_undo_9, eX3_undo_10, eX3_undo_11, eX3_undo_12, eX3_undo_15, eX3_undo_16, eX3_undo_17, eX3_undo_20, eX3_undo_21, eX3_undo_24, eX3_undo_26, eX3_undo_27, eX3_undo_30, eX3_undo_31, eX3_undo_32, eX3_undo_35, eX3_undo_36, eX3_undo_39, eX3_undo_40, eX3_undo_43, vrf_s, vrf_n, rr_60_0, rr_60_1, rr_60_2, rr_60_4, rr_60_6, rr_60_8, Option.bind_some, Option.toList_some, Option.toList_none, List.cons_append, List.nil_append, List.singleton_append, nI_add, nI_mul, nI_sub, nI_cl, li_0, li_1, li_2, li_3, li_4, li_5, li_6, li_7, li_8, li_9, li_10, li_11, li_12, li_13, li_14, li_15, li_16, li_17, li_18, li_19, li_20, li_21, li_22, li_23, li_24, li_25, li_26, li_27, li_28, li_29, li_30, li_31, li_32, li_33, li_34, li_35, li_36, li_37, li_38, li_39, li_40, li_41, li_42, li_43, li_44, li_45, li_46, li_47, li_48, li_49, li_50, li_51, li_52, li_53, li_54, li_55, li_56, li_57, li_58, li_59, li_60, li_61, li_97, li_98, li_102, li_103, li_108, li_114, li_120, li_126, li_360, li_480, li_1000, li_10000, s2, nI_eq', eq_self, not_true_eq_false, if_false]
theorem pX3_undo (hR : zRel h m P n K ik pd ln) (hk : 1 ≤ n) : ∃ h', qzC (d + 2) 145 [.ref 60] (67, qzRr pa, h) = some (some (.int (nI (n - 1))), (67, qzRr pa, h')) ∧ zRel h' (P (n - 1)) P (n - 1) K ik pd ln ∧ zFr h h' := by
  obtain ⟨r1, ri, ⟨r2, r3, r4, r5⟩, ⟨s1, s2, s3⟩, t1, t2, t3, t4⟩ := id hR
  have hn0 : ¬ n = 0 := by omega
  have hlen : 120 * (n - 1) + 120 ≤ (qzk 63).2 := by show 120 * (n - 1) + 120 ≤ 480; omega
  have hc := sX3_copies (d := d + 1) (pa := pa) (h := qzUp h 60 3 (nI (n - 1))) (fr := 63) (to := 61) (u := 120 * (n - 1)) (v := 0) ar_63 ar_61 (by omega) hlen (by decide) (by decide) (by decide)
  have z : ∀ a, a ≠ 61 → zCp (qzUp h 60 3 (nI (n - 1))) 63 61 (120 * (n - 1)) 0 120 a = qzUp h 60 3 (nI (n - 1)) a := fun a ha => by funext i; unfold zCp; rw [if_neg (fun q => ha q.1)]
  have z2 : ∀ a, a ≠ 61 → a ≠ 60 → zCp (qzUp h 60 3 (nI (n - 1))) 63 61 (120 * (n - 1)) 0 120 a = h a := fun a ha hb => (z a ha).trans (qzUp_ne hb)
  have z3 : ∀ j, j ≠ 3 → zCp (qzUp h 60 3 (nI (n - 1))) 63 61 (120 * (n - 1)) 0 120 60 j = h 60 j := fun j hj => by rw [z 60 (by omega)]; simp [qzUp, hj]
  have e3 : zCp (qzUp h 60 3 (nI (n - 1))) 63 61 (120 * (n - 1)) 0 120 60 3 = nI (n - 1) := by rw [z 60 (by omega)]; simp [qzUp]
  have e4 : qzUp h 60 3 (nI (n - 1)) 60 3 = nI (n - 1) := by simp [qzUp]
  refine ⟨zCp (qzUp h 60 3 (nI (n - 1))) 63 61 (120 * (n - 1)) 0 120, ?_, ⟨fun i hi => ?_, r5 (n - 1) (by omega), ⟨?_, e3, by omega, fun k hk => r5 k (by omega)⟩, ⟨?_, ?_, s3⟩, ?_, ?_, t3, t4⟩, fun a ha => z2 a (by omega) (by omega)⟩
  · simp (disch := first | assumption | omega | (refine nI_ne0 ?_ ?_ <;> omega) | exact ar_60 | exact ar_61 | exact ar_62 | exact ar_63 | exact ar_64 | exact ar_65 | exact ar_66 | (refine qi_61 ?_; omega) | (refine qi_62 ?_; omega) | (refine qi_63 ?_; omega) | (refine qi_64 ?_; omega) | (refine qi_65 ?_; omega) | (refine qi_66 ?_; omega) | exact ln0 | exact ln1 | exact ln2 | exact ln3 | exact ln4 | exact ln5 | exact nbf0 | exact nbf1 | exact nb0n | exact nb1n | (refine nn0 ?_ ?_ <;> omega) | exact nb0 | exact nb1 | decide) only [kX3_undo, eX3_undo_0, eX3_undo_1, eX3_undo_4, eX3_undo_7, eX3_undo_9, eX3_undo_10, eX3_undo_11, eX3_undo_12, eX3_undo_15, eX3_undo_16, eX3_undo_17, eX3_undo_20, eX3_undo_21, eX3_undo_24, eX3_undo_26, eX3_undo_27, eX3_undo_30, eX3_undo_31, eX3_undo_32, eX3_undo_35, eX3_undo_36, eX3_undo_39, eX3_undo_40, eX3_undo_43, vrf_s, vrf_n, rr_60_0, rr_60_1, rr_60_2, rr_60_4, rr_60_6, rr_60_8, Option.bind_some, Option.toList_some, Option.toList_none, List.cons_append, List.nil_append, List.singleton_append, nI_add, nI_mul, nI_sub, nI_cl, li_0, li_1, li_2, li_3, li_4, li_5, li_6, li_7, li_8, li_9, li_10, li_11, li_12, li_13, li_14, li_15, li_16, li_17, li_18, li_19, li_20, li_21, li_22, li_23, li_24, li_25, li_26, li_27, li_28, li_29, li_30, li_31, li_32, li_33, li_34, li_35, li_36, li_37, li_38, li_39, li_40, li_41, li_42, li_43, li_44, li_45, li_46, li_47, li_48, li_49, li_50, li_51, li_52, li_53, li_54, li_55, li_56, li_57, li_58, li_59, li_60, li_61, li_97, li_98, li_102, li_103, li_108, li_114, li_120, li_126, li_360, li_480, li_1000, li_10000, r3, hn0, e3, e4, hc, nI_eq', not_false_eq_true, if_true]
  · have q := r2 (n - 1) (by omega) i hi
    simp [zCp, hi, qzUp]
    exact q
  · rw [z2 63 (by omega) (by omega)]; exact fun k hk i hi => r2 k (by omega) i hi
  · rw [z2 64 (by omega) (by omega)]; exact s1
  · rw [z3 5 (by omega)]; exact s2
  · rw [z2 65 (by omega) (by omega)]; exact t1
  · rw [z3 7 (by omega)]; exact t2
end REF10
