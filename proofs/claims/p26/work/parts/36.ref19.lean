/-! the reference: the cuts of the pad, all -/
/-- the signs of one cut, on the pad -/
def zOk (pd : Nat → Nat) (ln t : Nat) : Prop := (pd t = 98 ∨ pd t = 103) ∨ ((pd t = 108 ∨ pd t = 114) ∧ t + 1 < ln ∧ 49 ≤ pd (t + 1) ∧ pd (t + 1) ≤ 53)
def zSt (pd : Nat → Nat) (t : Nat) : Nat := if pd t = 98 ∨ pd t = 103 then 1 else 2
/-- the cuts of the pad, from a place: how many were made, and the state after them -/
def zPy (pd : Nat → Nat) (ln : Nat) : Nat → Nat → Nat → (Nat → Nat) → Nat × (Nat → Nat)
  | 0, _, q, m => (q, m)
  | r + 1, t, q, m => if t < ln then (if (zMk m (pd t) (pd (t + 1))).1 = 1 then zPy pd ln r (t + zSt pd t) (q + 1) (zMk m (pd t) (pd (t + 1))).2 else (q, m)) else (q, m)
theorem zMk_0 {m : Nat → Nat} {c c1 : Nat} : ((zMk m c c1).1 = 0 ∧ (zMk m c c1).2 = m) ∨ ((zMk m c c1).1 = 1 ∧ ∃ k b, (zMk m c c1).2 = zGo m k b) := by
  unfold zMk
  split
  · split
    · exact Or.inl ⟨rfl, rfl⟩
    · exact Or.inr ⟨rfl, _, _, rfl⟩
  · split
    · exact Or.inr ⟨rfl, _, _, rfl⟩
    · exact Or.inl ⟨rfl, rfl⟩
theorem zAc_z {c : Nat → Nat} {ln : Nat} : ∀ (r : Nat) (p : Nat × Nat), p.1 = 0 → (zAc c ln r p).1 = 0 := by
  intro r
  cases r with
  | zero => intro p hp; exact hp
  | succ r =>
    intro p hp
    unfold zAc
    rw [if_neg (fun z => by omega)]
    exact hp
theorem zCh_pos {pd : Nat → Nat} {ln i v : Nat} (h : zCh pd ln i = v) (hv : 1 ≤ v) : i < ln ∧ pd i = v := by
  unfold zCh at h
  split at h
  · exact ⟨by assumption, h⟩
  · omega
theorem zTc_one {pd : Nat → Nat} {ln t : Nat} (h : (zTc (zCh pd ln) t).1 = 1) : zOk pd ln t ∧ zTc (zCh pd ln) t = (1, t + zSt pd t) := by
  unfold zTc at h ⊢
  by_cases q1 : zCh pd ln t = 98 ∨ zCh pd ln t = 103
  · rw [if_pos q1]
    have q2 : pd t = 98 ∨ pd t = 103 := by
      rcases q1 with z | z
      · exact Or.inl (zCh_pos z (by omega)).2
      · exact Or.inr (zCh_pos z (by omega)).2
    refine ⟨Or.inl q2, ?_⟩
    unfold zSt
    rw [if_pos q2]
  · rw [if_neg q1] at h ⊢
    by_cases q2 : zCh pd ln t = 108 ∨ zCh pd ln t = 114
    · rw [if_pos q2] at h ⊢
      by_cases q3 : 49 ≤ zCh pd ln (t + 1) ∧ zCh pd ln (t + 1) ≤ 53
      · rw [if_pos q3]
        have e1 := zCh_pos (pd := pd) (ln := ln) (i := t + 1) rfl (by omega)
        have e2 : pd t = 108 ∨ pd t = 114 := by
          rcases q2 with z | z
          · exact Or.inl (zCh_pos z (by omega)).2
          · exact Or.inr (zCh_pos z (by omega)).2
        refine ⟨Or.inr ⟨e2, e1.1, by omega, by omega⟩, ?_⟩
        unfold zSt
        rw [if_neg (by omega)]
      · rw [if_neg q3] at h
        exact absurd (show (0 : Nat) = 1 from h) (by decide)
    · rw [if_neg q2] at h
      exact absurd (show (0 : Nat) = 1 from h) (by decide)
theorem zTB.mk {h h' : Nat → Nat → Int32} {m : Nat → Nat} {c c1 : Nat} (ht : zTB h m) (hi : zInv m) (hf : h' 66 = h 66) : zTB h' (zMk m c c1).2 := by
  rcases zMk_0 (m := m) (c := c) (c1 := c1) with ⟨_, e⟩ | ⟨_, k, b, e⟩
  · rw [e]
    intro f l own oth h1 h2 h3 h4
    rw [hf]
    exact ht f l own oth h1 h2 h3 h4
  · rw [e]
    exact ht.go hi hf
section REF19
variable {d : Nat} {pa : Nat → Nat} {h : Nat → Nat → Int32} {m : Nat → Nat} {P : Nat → Nat → Nat} {n : Nat} {K : Nat → Nat} {ik : Nat} {pd : Nat → Nat} {ln : Nat}
theorem rX3_makes (hR : zRel h m P n K ik pd ln) (hT : zTB h m) {t : Nat} (ht : t < ln) (hc : zOk pd ln t) : ∃ h', qzC (d + 5) 128 [.ref 60, .int (nI t)] (67, qzRr pa, h) = some (some (.int (nI (zMk m (pd t) (pd (t + 1))).1)), (67, qzRr pa, h')) ∧ zRel h' (zMk m (pd t) (pd (t + 1))).2 P n K ik pd ln ∧ ∀ a, a ≠ 61 → h' a = h a := by
  rcases hc with (hc | hc) | ⟨hc | hc, h1, h2⟩
  · exact rX3_makes_b hR hT ht hc
  · exact rX3_makes_g hR hT ht hc
  · exact rX3_makes_l hR ht h1 hc h2
  · exact rX3_makes_r hR ht h1 hc h2
theorem zRel.out (hR : zRel h m P n K ik pd ln) : zRel (qzUp h 60 7 (nI 0)) m P n K ik pd 0 := by
  exact hR.pad (fun a ha _ => qzUp_ne ha) (fun j hj => by simp [qzUp, hj]) (by simp [qzUp]) (by omega) (fun i hi => absurd hi (Nat.not_lt_zero _)) (fun i hi => absurd hi (Nat.not_lt_zero _))
theorem zPyLoop : ∀ (r t q : Nat) (m : Nat → Nat) (h : Nat → Nat → Int32), ln < t + r → t ≤ 200 → (zAc (zCh pd ln) ln r (1, t)).1 = 1 → zRel h m P n K ik pd ln → zTB h m → ∃ h', qzV (d + 6) 129 24 [.ref 60, .int (nI q), .int (nI t), .int (nI 1)] [] (67, qzRr pa, h) = some (some (.int (nI (zPy pd ln r t q m).1)), (67, qzRr pa, h')) ∧ zRel h' (zPy pd ln r t q m).2 P n K ik pd 0 ∧ ∀ a, a ≠ 60 → a ≠ 61 → h' a = h a := by
  intro r
  induction r with
  | zero =>
    intro t q m h hr ht hA hR hT
    have w : ln ≤ t := by omega
    have h7 := hR.zp.2.1
    have l60 := hR.zp.2.2.1
    refine ⟨qzUp h 60 7 (nI 0), ?_, hR.out, fun a ha _ => qzUp_ne ha⟩
    show _ = some (some (Value.int (nI q)), (67, qzRr pa, qzUp h 60 7 (nI 0)))
    rw [eX3_play_24]
    simp (disch := first | assumption | omega | (refine nI_ne0 ?_ ?_ <;> omega) | exact ar_60 | exact ar_61 | exact ar_62 | exact ar_63 | exact ar_64 | exact ar_65 | exact ar_66 | (refine qi_61 ?_; omega) | (refine qi_62 ?_; omega) | (refine qi_63 ?_; omega) | (refine qi_64 ?_; omega) | (refine qi_65 ?_; omega) | (refine qi_66 ?_; omega) | exact ln0 | exact ln1 | exact ln2 | exact ln3 | exact ln4 | exact ln5 | exact nbf0 | exact nbf1 | exact nb0n | exact nb1n | (refine nn0 ?_ ?_ <;> omega) | exact nb0 | exact nb1 | decide) only [eX3_play_0, eX3_play_1, eX3_play_4, eX3_play_7, eX3_play_9, eX3_play_10, eX3_play_11, eX3_play_14, eX3_play_15, eX3_play_18, eX3_play_19, eX3_play_20, eX3_play_21, eX3_play_22, eX3_play_23, eX3_play_25, eX3_play_28, eX3_play_29, eX3_play_30, eX3_play_33, eX3_play_36, eX3_play_37, eX3_play_38, eX3_play_41, eX3_play_42, eX3_play_43, eX3_play_44, eX3_play_47, eX3_play_48, eX3_play_49, eX3_play_51, eX3_play_54, eX3_play_55, eX3_play_58, eX3_play_59, eX3_play_60, eX3_play_62, eX3_play_65, eX3_play_66, eX3_play_69, eX3_play_70, eX3_play_71, eX3_play_72, eX3_play_73, eX3_play_74, eX3_play_77, eX3_play_78, eX3_play_81, eX3_play_82, eX3_play_83, eX3_play_84, eX3_play_87, eX3_play_88, eX3_play_89, eX3_play_92, eX3_play_93, vrf_s, vrf_n, rr_60_0, rr_60_1, rr_60_2, rr_60_4, rr_60_6, rr_60_8, Option.bind_some, Option.toList_some, Option.toList_none, List.cons_append, List.nil_append, List.singleton_append, nI_add, nI_mul, nI_sub, nI_cl, li_0, li_1, li_2, li_3, li_4, li_5, li_6, li_7, li_8, li_9, li_10, li_11, li_12, li_13, li_14, li_15, li_16, li_17, li_18, li_19, li_20, li_21, li_22, li_23, li_24, li_25, li_26, li_27, li_28, li_29, li_30, li_31, li_32, li_33, li_34, li_35, li_36, li_37, li_38, li_39, li_40, li_41, li_42, li_43, li_44, li_45, li_46, li_47, li_48, li_49, li_50, li_51, li_52, li_53, li_54, li_55, li_56, li_57, li_58, li_59, li_60, li_61, li_97, li_98, li_102, li_103, li_108, li_114, li_120, li_126, li_360, li_480, li_1000, li_10000, h7, nI_le', w, nI_eq', eq_self, if_true, if_false, not_true_eq_false, not_false_eq_true, Nat.one_ne_zero]
  | succ r ih =>
    intro t q m h hr ht hA hR hT
    have h7 := hR.zp.2.1
    have l60 := hR.zp.2.2.1
    unfold zPy
    by_cases w : t < ln
    · have w' : ¬ ln ≤ t := by omega
      simp only [if_pos w]
      unfold zAc at hA
      rw [if_pos ⟨rfl, w⟩] at hA
      change (zAc (zCh pd ln) ln r (zTc (zCh pd ln) t)).1 = 1 at hA
      have hA1 : (zTc (zCh pd ln) t).1 = 1 := by
        have := (zTc_in (c := zCh pd ln) (s := t)).1
        by_cases z : (zTc (zCh pd ln) t).1 = 0
        · have := zAc_z (c := zCh pd ln) (ln := ln) r _ z; omega
        · omega
      obtain ⟨ok, e1⟩ := zTc_one hA1
      have e2 : (zTc (zCh pd ln) t).2 = t + zSt pd t := by rw [e1]
      rw [e1] at hA
      obtain ⟨h1, t1, r1, f1⟩ := rX3_makes (d := d) (pa := pa) hR hT w ok
      have p1 := r1.zp.1 t w
      have h71 := r1.zp.2.1
      have hT1 : zTB h1 (zMk m (pd t) (pd (t + 1))).2 := hT.mk hR.2.1 (f1 66 (by omega))
      rcases zMk_0 (m := m) (c := pd t) (c1 := pd (t + 1)) with ⟨g1, g2⟩ | ⟨g1, -⟩
      · rw [g2] at r1
        rw [g1] at t1
        have g3 : ¬ (zMk m (pd t) (pd (t + 1))).1 = 1 := by omega
        simp only [if_neg g3]
        refine ⟨qzUp h1 60 7 (nI 0), ?_, r1.out, fun a ha hb => (qzUp_ne ha).trans (f1 a hb)⟩
        rw [eX3_play_24]
        by_cases v1 : pd t = 98
        · rw [v1] at p1
          simp (disch := first | assumption | omega | (refine nI_ne0 ?_ ?_ <;> omega) | exact ar_60 | exact ar_61 | exact ar_62 | exact ar_63 | exact ar_64 | exact ar_65 | exact ar_66 | (refine qi_61 ?_; omega) | (refine qi_62 ?_; omega) | (refine qi_63 ?_; omega) | (refine qi_64 ?_; omega) | (refine qi_65 ?_; omega) | (refine qi_66 ?_; omega) | exact ln0 | exact ln1 | exact ln2 | exact ln3 | exact ln4 | exact ln5 | exact nbf0 | exact nbf1 | exact nb0n | exact nb1n | (refine nn0 ?_ ?_ <;> omega) | exact nb0 | exact nb1 | decide) only [eX3_play_0, eX3_play_1, eX3_play_4, eX3_play_7, eX3_play_9, eX3_play_10, eX3_play_11, eX3_play_14, eX3_play_15, eX3_play_18, eX3_play_19, eX3_play_20, eX3_play_21, eX3_play_22, eX3_play_23, eX3_play_25, eX3_play_28, eX3_play_29, eX3_play_30, eX3_play_33, eX3_play_36, eX3_play_37, eX3_play_38, eX3_play_41, eX3_play_42, eX3_play_43, eX3_play_44, eX3_play_47, eX3_play_48, eX3_play_49, eX3_play_51, eX3_play_54, eX3_play_55, eX3_play_58, eX3_play_59, eX3_play_60, eX3_play_62, eX3_play_65, eX3_play_66, eX3_play_69, eX3_play_70, eX3_play_71, eX3_play_72, eX3_play_73, eX3_play_74, eX3_play_77, eX3_play_78, eX3_play_81, eX3_play_82, eX3_play_83, eX3_play_84, eX3_play_87, eX3_play_88, eX3_play_89, eX3_play_92, eX3_play_93, vrf_s, vrf_n, rr_60_0, rr_60_1, rr_60_2, rr_60_4, rr_60_6, rr_60_8, Option.bind_some, Option.toList_some, Option.toList_none, List.cons_append, List.nil_append, List.singleton_append, nI_add, nI_mul, nI_sub, nI_cl, li_0, li_1, li_2, li_3, li_4, li_5, li_6, li_7, li_8, li_9, li_10, li_11, li_12, li_13, li_14, li_15, li_16, li_17, li_18, li_19, li_20, li_21, li_22, li_23, li_24, li_25, li_26, li_27, li_28, li_29, li_30, li_31, li_32, li_33, li_34, li_35, li_36, li_37, li_38, li_39, li_40, li_41, li_42, li_43, li_44, li_45, li_46, li_47, li_48, li_49, li_50, li_51, li_52, li_53, li_54, li_55, li_56, li_57, li_58, li_59, li_60, li_61, li_97, li_98, li_102, li_103, li_108, li_114, li_120, li_126, li_360, li_480, li_1000, li_10000, h7, h71, t1, p1, nI_le', nI_eq', w', nd_98_103, nd_103_98, nI_eq', eq_self, if_true, if_false, not_true_eq_false, not_false_eq_true, Nat.one_ne_zero]
          rw [eX3_play_24]
          simp (disch := first | assumption | omega | (refine nI_ne0 ?_ ?_ <;> omega) | exact ar_60 | exact ar_61 | exact ar_62 | exact ar_63 | exact ar_64 | exact ar_65 | exact ar_66 | (refine qi_61 ?_; omega) | (refine qi_62 ?_; omega) | (refine qi_63 ?_; omega) | (refine qi_64 ?_; omega) | (refine qi_65 ?_; omega) | (refine qi_66 ?_; omega) | exact ln0 | exact ln1 | exact ln2 | exact ln3 | exact ln4 | exact ln5 | exact nbf0 | exact nbf1 | exact nb0n | exact nb1n | (refine nn0 ?_ ?_ <;> omega) | exact nb0 | exact nb1 | decide) only [eX3_play_0, eX3_play_1, eX3_play_4, eX3_play_7, eX3_play_9, eX3_play_10, eX3_play_11, eX3_play_14, eX3_play_15, eX3_play_18, eX3_play_19, eX3_play_20, eX3_play_21, eX3_play_22, eX3_play_23, eX3_play_25, eX3_play_28, eX3_play_29, eX3_play_30, eX3_play_33, eX3_play_36, eX3_play_37, eX3_play_38, eX3_play_41, eX3_play_42, eX3_play_43, eX3_play_44, eX3_play_47, eX3_play_48, eX3_play_49, eX3_play_51, eX3_play_54, eX3_play_55, eX3_play_58, eX3_play_59, eX3_play_60, eX3_play_62, eX3_play_65, eX3_play_66, eX3_play_69, eX3_play_70, eX3_play_71, eX3_play_72, eX3_play_73, eX3_play_74, eX3_play_77, eX3_play_78, eX3_play_81, eX3_play_82, eX3_play_83, eX3_play_84, eX3_play_87, eX3_play_88, eX3_play_89, eX3_play_92, eX3_play_93, vrf_s, vrf_n, rr_60_0, rr_60_1, rr_60_2, rr_60_4, rr_60_6, rr_60_8, Option.bind_some, Option.toList_some, Option.toList_none, List.cons_append, List.nil_append, List.singleton_append, nI_add, nI_mul, nI_sub, nI_cl, li_0, li_1, li_2, li_3, li_4, li_5, li_6, li_7, li_8, li_9, li_10, li_11, li_12, li_13, li_14, li_15, li_16, li_17, li_18, li_19, li_20, li_21, li_22, li_23, li_24, li_25, li_26, li_27, li_28, li_29, li_30, li_31, li_32, li_33, li_34, li_35, li_36, li_37, li_38, li_39, li_40, li_41, li_42, li_43, li_44, li_45, li_46, li_47, li_48, li_49, li_50, li_51, li_52, li_53, li_54, li_55, li_56, li_57, li_58, li_59, li_60, li_61, li_97, li_98, li_102, li_103, li_108, li_114, li_120, li_126, li_360, li_480, li_1000, li_10000, Nat.add_zero, nI_eq', eq_self, if_true, if_false, not_true_eq_false, not_false_eq_true, Nat.one_ne_zero]
        · by_cases v2 : pd t = 103
          · rw [v2] at p1
            simp (disch := first | assumption | omega | (refine nI_ne0 ?_ ?_ <;> omega) | exact ar_60 | exact ar_61 | exact ar_62 | exact ar_63 | exact ar_64 | exact ar_65 | exact ar_66 | (refine qi_61 ?_; omega) | (refine qi_62 ?_; omega) | (refine qi_63 ?_; omega) | (refine qi_64 ?_; omega) | (refine qi_65 ?_; omega) | (refine qi_66 ?_; omega) | exact ln0 | exact ln1 | exact ln2 | exact ln3 | exact ln4 | exact ln5 | exact nbf0 | exact nbf1 | exact nb0n | exact nb1n | (refine nn0 ?_ ?_ <;> omega) | exact nb0 | exact nb1 | decide) only [eX3_play_0, eX3_play_1, eX3_play_4, eX3_play_7, eX3_play_9, eX3_play_10, eX3_play_11, eX3_play_14, eX3_play_15, eX3_play_18, eX3_play_19, eX3_play_20, eX3_play_21, eX3_play_22, eX3_play_23, eX3_play_25, eX3_play_28, eX3_play_29, eX3_play_30, eX3_play_33, eX3_play_36, eX3_play_37, eX3_play_38, eX3_play_41, eX3_play_42, eX3_play_43, eX3_play_44, eX3_play_47, eX3_play_48, eX3_play_49, eX3_play_51, eX3_play_54, eX3_play_55, eX3_play_58, eX3_play_59, eX3_play_60, eX3_play_62, eX3_play_65, eX3_play_66, eX3_play_69, eX3_play_70, eX3_play_71, eX3_play_72, eX3_play_73, eX3_play_74, eX3_play_77, eX3_play_78, eX3_play_81, eX3_play_82, eX3_play_83, eX3_play_84, eX3_play_87, eX3_play_88, eX3_play_89, eX3_play_92, eX3_play_93, vrf_s, vrf_n, rr_60_0, rr_60_1, rr_60_2, rr_60_4, rr_60_6, rr_60_8, Option.bind_some, Option.toList_some, Option.toList_none, List.cons_append, List.nil_append, List.singleton_append, nI_add, nI_mul, nI_sub, nI_cl, li_0, li_1, li_2, li_3, li_4, li_5, li_6, li_7, li_8, li_9, li_10, li_11, li_12, li_13, li_14, li_15, li_16, li_17, li_18, li_19, li_20, li_21, li_22, li_23, li_24, li_25, li_26, li_27, li_28, li_29, li_30, li_31, li_32, li_33, li_34, li_35, li_36, li_37, li_38, li_39, li_40, li_41, li_42, li_43, li_44, li_45, li_46, li_47, li_48, li_49, li_50, li_51, li_52, li_53, li_54, li_55, li_56, li_57, li_58, li_59, li_60, li_61, li_97, li_98, li_102, li_103, li_108, li_114, li_120, li_126, li_360, li_480, li_1000, li_10000, h7, h71, t1, p1, nI_le', nI_eq', w', nd_98_103, nd_103_98, nI_eq', eq_self, if_true, if_false, not_true_eq_false, not_false_eq_true, Nat.one_ne_zero]
            rw [eX3_play_24]
            simp (disch := first | assumption | omega | (refine nI_ne0 ?_ ?_ <;> omega) | exact ar_60 | exact ar_61 | exact ar_62 | exact ar_63 | exact ar_64 | exact ar_65 | exact ar_66 | (refine qi_61 ?_; omega) | (refine qi_62 ?_; omega) | (refine qi_63 ?_; omega) | (refine qi_64 ?_; omega) | (refine qi_65 ?_; omega) | (refine qi_66 ?_; omega) | exact ln0 | exact ln1 | exact ln2 | exact ln3 | exact ln4 | exact ln5 | exact nbf0 | exact nbf1 | exact nb0n | exact nb1n | (refine nn0 ?_ ?_ <;> omega) | exact nb0 | exact nb1 | decide) only [eX3_play_0, eX3_play_1, eX3_play_4, eX3_play_7, eX3_play_9, eX3_play_10, eX3_play_11, eX3_play_14, eX3_play_15, eX3_play_18, eX3_play_19, eX3_play_20, eX3_play_21, eX3_play_22, eX3_play_23, eX3_play_25, eX3_play_28, eX3_play_29, eX3_play_30, eX3_play_33, eX3_play_36, eX3_play_37, eX3_play_38, eX3_play_41, eX3_play_42, eX3_play_43, eX3_play_44, eX3_play_47, eX3_play_48, eX3_play_49, eX3_play_51, eX3_play_54, eX3_play_55, eX3_play_58, eX3_play_59, eX3_play_60, eX3_play_62, eX3_play_65, eX3_play_66, eX3_play_69, eX3_play_70, eX3_play_71, eX3_play_72, eX3_play_73, eX3_play_74, eX3_play_77, eX3_play_78, eX3_play_81, eX3_play_82, eX3_play_83, eX3_play_84, eX3_play_87, eX3_play_88, eX3_play_89, eX3_play_92, eX3_play_93, vrf_s, vrf_n, rr_60_0, rr_60_1, rr_60_2, rr_60_4, rr_60_6, rr_60_8, Option.bind_some, Option.toList_some, Option.toList_none, List.cons_append, List.nil_append, List.singleton_append, nI_add, nI_mul, nI_sub, nI_cl, li_0, li_1, li_2, li_3, li_4, li_5, li_6, li_7, li_8, li_9, li_10, li_11, li_12, li_13, li_14, li_15, li_16, li_17, li_18, li_19, li_20, li_21, li_22, li_23, li_24, li_25, li_26, li_27, li_28, li_29, li_30, li_31, li_32, li_33, li_34, li_35, li_36, li_37, li_38, li_39, li_40, li_41, li_42, li_43, li_44, li_45, li_46, li_47, li_48, li_49, li_50, li_51, li_52, li_53, li_54, li_55, li_56, li_57, li_58, li_59, li_60, li_61, li_97, li_98, li_102, li_103, li_108, li_114, li_120, li_126, li_360, li_480, li_1000, li_10000, Nat.add_zero, nI_eq', eq_self, if_true, if_false, not_true_eq_false, not_false_eq_true, Nat.one_ne_zero]
          · have vb : pd t ≤ 126 := (r1.zp.2.2.2 t w).2
            generalize pd t = v at p1 v1 v2 vb
            simp (disch := first | assumption | omega | (refine nI_ne0 ?_ ?_ <;> omega) | exact ar_60 | exact ar_61 | exact ar_62 | exact ar_63 | exact ar_64 | exact ar_65 | exact ar_66 | (refine qi_61 ?_; omega) | (refine qi_62 ?_; omega) | (refine qi_63 ?_; omega) | (refine qi_64 ?_; omega) | (refine qi_65 ?_; omega) | (refine qi_66 ?_; omega) | exact ln0 | exact ln1 | exact ln2 | exact ln3 | exact ln4 | exact ln5 | exact nbf0 | exact nbf1 | exact nb0n | exact nb1n | (refine nn0 ?_ ?_ <;> omega) | exact nb0 | exact nb1 | decide) only [eX3_play_0, eX3_play_1, eX3_play_4, eX3_play_7, eX3_play_9, eX3_play_10, eX3_play_11, eX3_play_14, eX3_play_15, eX3_play_18, eX3_play_19, eX3_play_20, eX3_play_21, eX3_play_22, eX3_play_23, eX3_play_25, eX3_play_28, eX3_play_29, eX3_play_30, eX3_play_33, eX3_play_36, eX3_play_37, eX3_play_38, eX3_play_41, eX3_play_42, eX3_play_43, eX3_play_44, eX3_play_47, eX3_play_48, eX3_play_49, eX3_play_51, eX3_play_54, eX3_play_55, eX3_play_58, eX3_play_59, eX3_play_60, eX3_play_62, eX3_play_65, eX3_play_66, eX3_play_69, eX3_play_70, eX3_play_71, eX3_play_72, eX3_play_73, eX3_play_74, eX3_play_77, eX3_play_78, eX3_play_81, eX3_play_82, eX3_play_83, eX3_play_84, eX3_play_87, eX3_play_88, eX3_play_89, eX3_play_92, eX3_play_93, vrf_s, vrf_n, rr_60_0, rr_60_1, rr_60_2, rr_60_4, rr_60_6, rr_60_8, Option.bind_some, Option.toList_some, Option.toList_none, List.cons_append, List.nil_append, List.singleton_append, nI_add, nI_mul, nI_sub, nI_cl, li_0, li_1, li_2, li_3, li_4, li_5, li_6, li_7, li_8, li_9, li_10, li_11, li_12, li_13, li_14, li_15, li_16, li_17, li_18, li_19, li_20, li_21, li_22, li_23, li_24, li_25, li_26, li_27, li_28, li_29, li_30, li_31, li_32, li_33, li_34, li_35, li_36, li_37, li_38, li_39, li_40, li_41, li_42, li_43, li_44, li_45, li_46, li_47, li_48, li_49, li_50, li_51, li_52, li_53, li_54, li_55, li_56, li_57, li_58, li_59, li_60, li_61, li_97, li_98, li_102, li_103, li_108, li_114, li_120, li_126, li_360, li_480, li_1000, li_10000, h7, h71, t1, p1, nI_le', nI_eq', w', v1, v2, nI_eq', eq_self, if_true, if_false, not_true_eq_false, not_false_eq_true, Nat.one_ne_zero]
            rw [eX3_play_24]
            simp (disch := first | assumption | omega | (refine nI_ne0 ?_ ?_ <;> omega) | exact ar_60 | exact ar_61 | exact ar_62 | exact ar_63 | exact ar_64 | exact ar_65 | exact ar_66 | (refine qi_61 ?_; omega) | (refine qi_62 ?_; omega) | (refine qi_63 ?_; omega) | (refine qi_64 ?_; omega) | (refine qi_65 ?_; omega) | (refine qi_66 ?_; omega) | exact ln0 | exact ln1 | exact ln2 | exact ln3 | exact ln4 | exact ln5 | exact nbf0 | exact nbf1 | exact nb0n | exact nb1n | (refine nn0 ?_ ?_ <;> omega) | exact nb0 | exact nb1 | decide) only [eX3_play_0, eX3_play_1, eX3_play_4, eX3_play_7, eX3_play_9, eX3_play_10, eX3_play_11, eX3_play_14, eX3_play_15, eX3_play_18, eX3_play_19, eX3_play_20, eX3_play_21, eX3_play_22, eX3_play_23, eX3_play_25, eX3_play_28, eX3_play_29, eX3_play_30, eX3_play_33, eX3_play_36, eX3_play_37, eX3_play_38, eX3_play_41, eX3_play_42, eX3_play_43, eX3_play_44, eX3_play_47, eX3_play_48, eX3_play_49, eX3_play_51, eX3_play_54, eX3_play_55, eX3_play_58, eX3_play_59, eX3_play_60, eX3_play_62, eX3_play_65, eX3_play_66, eX3_play_69, eX3_play_70, eX3_play_71, eX3_play_72, eX3_play_73, eX3_play_74, eX3_play_77, eX3_play_78, eX3_play_81, eX3_play_82, eX3_play_83, eX3_play_84, eX3_play_87, eX3_play_88, eX3_play_89, eX3_play_92, eX3_play_93, vrf_s, vrf_n, rr_60_0, rr_60_1, rr_60_2, rr_60_4, rr_60_6, rr_60_8, Option.bind_some, Option.toList_some, Option.toList_none, List.cons_append, List.nil_append, List.singleton_append, nI_add, nI_mul, nI_sub, nI_cl, li_0, li_1, li_2, li_3, li_4, li_5, li_6, li_7, li_8, li_9, li_10, li_11, li_12, li_13, li_14, li_15, li_16, li_17, li_18, li_19, li_20, li_21, li_22, li_23, li_24, li_25, li_26, li_27, li_28, li_29, li_30, li_31, li_32, li_33, li_34, li_35, li_36, li_37, li_38, li_39, li_40, li_41, li_42, li_43, li_44, li_45, li_46, li_47, li_48, li_49, li_50, li_51, li_52, li_53, li_54, li_55, li_56, li_57, li_58, li_59, li_60, li_61, li_97, li_98, li_102, li_103, li_108, li_114, li_120, li_126, li_360, li_480, li_1000, li_10000, Nat.add_zero, nI_eq', eq_self, if_true, if_false, not_true_eq_false, not_false_eq_true, Nat.one_ne_zero]
      · rw [g1] at t1
        simp only [if_pos g1]
        obtain ⟨h2, t2, r2, f2⟩ := ih (t + zSt pd t) (q + 1) _ h1 (by unfold zSt; split <;> omega) (by unfold zSt; split <;> omega) hA r1 hT1
        refine ⟨h2, ?_, r2, fun a ha hb => (f2 a ha hb).trans (f1 a hb)⟩
        rw [← t2, eX3_play_24]
        unfold zSt
        by_cases v1 : pd t = 98
        · rw [v1] at p1
          rw [if_pos (Or.inl v1)]
          simp (disch := first | assumption | omega | (refine nI_ne0 ?_ ?_ <;> omega) | exact ar_60 | exact ar_61 | exact ar_62 | exact ar_63 | exact ar_64 | exact ar_65 | exact ar_66 | (refine qi_61 ?_; omega) | (refine qi_62 ?_; omega) | (refine qi_63 ?_; omega) | (refine qi_64 ?_; omega) | (refine qi_65 ?_; omega) | (refine qi_66 ?_; omega) | exact ln0 | exact ln1 | exact ln2 | exact ln3 | exact ln4 | exact ln5 | exact nbf0 | exact nbf1 | exact nb0n | exact nb1n | (refine nn0 ?_ ?_ <;> omega) | exact nb0 | exact nb1 | decide) only [eX3_play_0, eX3_play_1, eX3_play_4, eX3_play_7, eX3_play_9, eX3_play_10, eX3_play_11, eX3_play_14, eX3_play_15, eX3_play_18, eX3_play_19, eX3_play_20, eX3_play_21, eX3_play_22, eX3_play_23, eX3_play_25, eX3_play_28, eX3_play_29, eX3_play_30, eX3_play_33, eX3_play_36, eX3_play_37, eX3_play_38, eX3_play_41, eX3_play_42, eX3_play_43, eX3_play_44, eX3_play_47, eX3_play_48, eX3_play_49, eX3_play_51, eX3_play_54, eX3_play_55, eX3_play_58, eX3_play_59, eX3_play_60, eX3_play_62, eX3_play_65, eX3_play_66, eX3_play_69, eX3_play_70, eX3_play_71, eX3_play_72, eX3_play_73, eX3_play_74, eX3_play_77, eX3_play_78, eX3_play_81, eX3_play_82, eX3_play_83, eX3_play_84, eX3_play_87, eX3_play_88, eX3_play_89, eX3_play_92, eX3_play_93, vrf_s, vrf_n, rr_60_0, rr_60_1, rr_60_2, rr_60_4, rr_60_6, rr_60_8, Option.bind_some, Option.toList_some, Option.toList_none, List.cons_append, List.nil_append, List.singleton_append, nI_add, nI_mul, nI_sub, nI_cl, li_0, li_1, li_2, li_3, li_4, li_5, li_6, li_7, li_8, li_9, li_10, li_11, li_12, li_13, li_14, li_15, li_16, li_17, li_18, li_19, li_20, li_21, li_22, li_23, li_24, li_25, li_26, li_27, li_28, li_29, li_30, li_31, li_32, li_33, li_34, li_35, li_36, li_37, li_38, li_39, li_40, li_41, li_42, li_43, li_44, li_45, li_46, li_47, li_48, li_49, li_50, li_51, li_52, li_53, li_54, li_55, li_56, li_57, li_58, li_59, li_60, li_61, li_97, li_98, li_102, li_103, li_108, li_114, li_120, li_126, li_360, li_480, li_1000, li_10000, h7, h71, t1, p1, nI_le', nI_eq', w', nd_98_103, nd_103_98, nI_eq', eq_self, if_true, if_false, not_true_eq_false, not_false_eq_true, Nat.one_ne_zero]
        · by_cases v2 : pd t = 103
          · rw [v2] at p1
            rw [if_pos (Or.inr v2)]
            simp (disch := first | assumption | omega | (refine nI_ne0 ?_ ?_ <;> omega) | exact ar_60 | exact ar_61 | exact ar_62 | exact ar_63 | exact ar_64 | exact ar_65 | exact ar_66 | (refine qi_61 ?_; omega) | (refine qi_62 ?_; omega) | (refine qi_63 ?_; omega) | (refine qi_64 ?_; omega) | (refine qi_65 ?_; omega) | (refine qi_66 ?_; omega) | exact ln0 | exact ln1 | exact ln2 | exact ln3 | exact ln4 | exact ln5 | exact nbf0 | exact nbf1 | exact nb0n | exact nb1n | (refine nn0 ?_ ?_ <;> omega) | exact nb0 | exact nb1 | decide) only [eX3_play_0, eX3_play_1, eX3_play_4, eX3_play_7, eX3_play_9, eX3_play_10, eX3_play_11, eX3_play_14, eX3_play_15, eX3_play_18, eX3_play_19, eX3_play_20, eX3_play_21, eX3_play_22, eX3_play_23, eX3_play_25, eX3_play_28, eX3_play_29, eX3_play_30, eX3_play_33, eX3_play_36, eX3_play_37, eX3_play_38, eX3_play_41, eX3_play_42, eX3_play_43, eX3_play_44, eX3_play_47, eX3_play_48, eX3_play_49, eX3_play_51, eX3_play_54, eX3_play_55, eX3_play_58, eX3_play_59, eX3_play_60, eX3_play_62, eX3_play_65, eX3_play_66, eX3_play_69, eX3_play_70, eX3_play_71, eX3_play_72, eX3_play_73, eX3_play_74, eX3_play_77, eX3_play_78, eX3_play_81, eX3_play_82, eX3_play_83, eX3_play_84, eX3_play_87, eX3_play_88, eX3_play_89, eX3_play_92, eX3_play_93, vrf_s, vrf_n, rr_60_0, rr_60_1, rr_60_2, rr_60_4, rr_60_6, rr_60_8, Option.bind_some, Option.toList_some, Option.toList_none, List.cons_append, List.nil_append, List.singleton_append, nI_add, nI_mul, nI_sub, nI_cl, li_0, li_1, li_2, li_3, li_4, li_5, li_6, li_7, li_8, li_9, li_10, li_11, li_12, li_13, li_14, li_15, li_16, li_17, li_18, li_19, li_20, li_21, li_22, li_23, li_24, li_25, li_26, li_27, li_28, li_29, li_30, li_31, li_32, li_33, li_34, li_35, li_36, li_37, li_38, li_39, li_40, li_41, li_42, li_43, li_44, li_45, li_46, li_47, li_48, li_49, li_50, li_51, li_52, li_53, li_54, li_55, li_56, li_57, li_58, li_59, li_60, li_61, li_97, li_98, li_102, li_103, li_108, li_114, li_120, li_126, li_360, li_480, li_1000, li_10000, h7, h71, t1, p1, nI_le', nI_eq', w', nd_98_103, nd_103_98, nI_eq', eq_self, if_true, if_false, not_true_eq_false, not_false_eq_true, Nat.one_ne_zero]
          · rw [if_neg (fun z => z.elim v1 v2)]
            have vb : pd t ≤ 126 := (r1.zp.2.2.2 t w).2
            generalize pd t = v at *
            simp (disch := first | assumption | omega | (refine nI_ne0 ?_ ?_ <;> omega) | exact ar_60 | exact ar_61 | exact ar_62 | exact ar_63 | exact ar_64 | exact ar_65 | exact ar_66 | (refine qi_61 ?_; omega) | (refine qi_62 ?_; omega) | (refine qi_63 ?_; omega) | (refine qi_64 ?_; omega) | (refine qi_65 ?_; omega) | (refine qi_66 ?_; omega) | exact ln0 | exact ln1 | exact ln2 | exact ln3 | exact ln4 | exact ln5 | exact nbf0 | exact nbf1 | exact nb0n | exact nb1n | (refine nn0 ?_ ?_ <;> omega) | exact nb0 | exact nb1 | decide) only [eX3_play_0, eX3_play_1, eX3_play_4, eX3_play_7, eX3_play_9, eX3_play_10, eX3_play_11, eX3_play_14, eX3_play_15, eX3_play_18, eX3_play_19, eX3_play_20, eX3_play_21, eX3_play_22, eX3_play_23, eX3_play_25, eX3_play_28, eX3_play_29, eX3_play_30, eX3_play_33, eX3_play_36, eX3_play_37, eX3_play_38, eX3_play_41, eX3_play_42, eX3_play_43, eX3_play_44, eX3_play_47, eX3_play_48, eX3_play_49, eX3_play_51, eX3_play_54, eX3_play_55, eX3_play_58, eX3_play_59, eX3_play_60, eX3_play_62, eX3_play_65, eX3_play_66, eX3_play_69, eX3_play_70, eX3_play_71, eX3_play_72, eX3_play_73, eX3_play_74, eX3_play_77, eX3_play_78, eX3_play_81, eX3_play_82, eX3_play_83, eX3_play_84, eX3_play_87, eX3_play_88, eX3_play_89, eX3_play_92, eX3_play_93, vrf_s, vrf_n, rr_60_0, rr_60_1, rr_60_2, rr_60_4, rr_60_6, rr_60_8, Option.bind_some, Option.toList_some, Option.toList_none, List.cons_append, List.nil_append, List.singleton_append, nI_add, nI_mul, nI_sub, nI_cl, li_0, li_1, li_2, li_3, li_4, li_5, li_6, li_7, li_8, li_9, li_10, li_11, li_12, li_13, li_14, li_15, li_16, li_17, li_18, li_19, li_20, li_21, li_22, li_23, li_24, li_25, li_26, li_27, li_28, li_29, li_30, li_31, li_32, li_33, li_34, li_35, li_36, li_37, li_38, li_39, li_40, li_41, li_42, li_43, li_44, li_45, li_46, li_47, li_48, li_49, li_50, li_51, li_52, li_53, li_54, li_55, li_56, li_57, li_58, li_59, li_60, li_61, li_97, li_98, li_102, li_103, li_108, li_114, li_120, li_126, li_360, li_480, li_1000, li_10000, h7, h71, t1, p1, nI_le', nI_eq', w', v1, v2, nI_eq', eq_self, if_true, if_false, not_true_eq_false, not_false_eq_true, Nat.one_ne_zero]
    · have w' : ln ≤ t := by omega
      simp only [if_neg w]
      refine ⟨qzUp h 60 7 (nI 0), ?_, hR.out, fun a ha _ => qzUp_ne ha⟩
      rw [eX3_play_24]
      simp (disch := first | assumption | omega | (refine nI_ne0 ?_ ?_ <;> omega) | exact ar_60 | exact ar_61 | exact ar_62 | exact ar_63 | exact ar_64 | exact ar_65 | exact ar_66 | (refine qi_61 ?_; omega) | (refine qi_62 ?_; omega) | (refine qi_63 ?_; omega) | (refine qi_64 ?_; omega) | (refine qi_65 ?_; omega) | (refine qi_66 ?_; omega) | exact ln0 | exact ln1 | exact ln2 | exact ln3 | exact ln4 | exact ln5 | exact nbf0 | exact nbf1 | exact nb0n | exact nb1n | (refine nn0 ?_ ?_ <;> omega) | exact nb0 | exact nb1 | decide) only [eX3_play_0, eX3_play_1, eX3_play_4, eX3_play_7, eX3_play_9, eX3_play_10, eX3_play_11, eX3_play_14, eX3_play_15, eX3_play_18, eX3_play_19, eX3_play_20, eX3_play_21, eX3_play_22, eX3_play_23, eX3_play_25, eX3_play_28, eX3_play_29, eX3_play_30, eX3_play_33, eX3_play_36, eX3_play_37, eX3_play_38, eX3_play_41, eX3_play_42, eX3_play_43, eX3_play_44, eX3_play_47, eX3_play_48, eX3_play_49, eX3_play_51, eX3_play_54, eX3_play_55, eX3_play_58, eX3_play_59, eX3_play_60, eX3_play_62, eX3_play_65, eX3_play_66, eX3_play_69, eX3_play_70, eX3_play_71, eX3_play_72, eX3_play_73, eX3_play_74, eX3_play_77, eX3_play_78, eX3_play_81, eX3_play_82, eX3_play_83, eX3_play_84, eX3_play_87, eX3_play_88, eX3_play_89, eX3_play_92, eX3_play_93, vrf_s, vrf_n, rr_60_0, rr_60_1, rr_60_2, rr_60_4, rr_60_6, rr_60_8, Option.bind_some, Option.toList_some, Option.toList_none, List.cons_append, List.nil_append, List.singleton_append, nI_add, nI_mul, nI_sub, nI_cl, li_0, li_1, li_2, li_3, li_4, li_5, li_6, li_7, li_8, li_9, li_10, li_11, li_12, li_13, li_14, li_15, li_16, li_17, li_18, li_19, li_20, li_21, li_22, li_23, li_24, li_25, li_26, li_27, li_28, li_29, li_30, li_31, li_32, li_33, li_34, li_35, li_36, li_37, li_38, li_39, li_40, li_41, li_42, li_43, li_44, li_45, li_46, li_47, li_48, li_49, li_50, li_51, li_52, li_53, li_54, li_55, li_56, li_57, li_58, li_59, li_60, li_61, li_97, li_98, li_102, li_103, li_108, li_114, li_120, li_126, li_360, li_480, li_1000, li_10000, h7, nI_le', w', nI_eq', eq_self, if_true, if_false, not_true_eq_false, not_false_eq_true, Nat.one_ne_zero]
theorem pX3_play_n (hR : zRel h m P n K ik pd ln) (hb : ¬ (zCu (zCh pd ln) ln).1 = 1) : ∃ h', qzC (d + 6) 129 [.ref 60] (67, qzRr pa, h) = some (some (.int (-nI 2)), (67, qzRr pa, h')) ∧ zRel h' m P n K ik pd ln ∧ zFr h h' := by
  obtain ⟨h', t, g1, g3⟩ := sX3_areCuts (d := d + 2) (pa := pa) hR.zp
  refine ⟨h', ?_, hR.sx g1, g1.fr⟩
  have zi := zCu_in (c := zCh pd ln) (ln := ln)
  change qzC (d + 2 + 3) 125 [.ref 60] (67, qzRr pa, h) = some (some (Value.int (nI (zCu (zCh pd ln) ln).1)), (67, qzRr pa, h')) at t
  rw [show (zCu (zCh pd ln) ln).1 = 0 by omega] at t
  simp (disch := first | assumption | omega | (refine nI_ne0 ?_ ?_ <;> omega) | exact ar_60 | exact ar_61 | exact ar_62 | exact ar_63 | exact ar_64 | exact ar_65 | exact ar_66 | (refine qi_61 ?_; omega) | (refine qi_62 ?_; omega) | (refine qi_63 ?_; omega) | (refine qi_64 ?_; omega) | (refine qi_65 ?_; omega) | (refine qi_66 ?_; omega) | exact ln0 | exact ln1 | exact ln2 | exact ln3 | exact ln4 | exact ln5 | exact nbf0 | exact nbf1 | exact nb0n | exact nb1n | (refine nn0 ?_ ?_ <;> omega) | exact nb0 | exact nb1 | decide) only [kX3_play, eX3_play_0, eX3_play_1, eX3_play_4, eX3_play_7, eX3_play_9, eX3_play_10, eX3_play_11, eX3_play_14, eX3_play_15, eX3_play_18, eX3_play_19, eX3_play_20, eX3_play_21, eX3_play_22, eX3_play_23, eX3_play_24, eX3_play_25, eX3_play_28, eX3_play_29, eX3_play_30, eX3_play_33, eX3_play_36, eX3_play_37, eX3_play_38, eX3_play_41, eX3_play_42, eX3_play_43, eX3_play_44, eX3_play_47, eX3_play_48, eX3_play_49, eX3_play_51, eX3_play_54, eX3_play_55, eX3_play_58, eX3_play_59, eX3_play_60, eX3_play_62, eX3_play_65, eX3_play_66, eX3_play_69, eX3_play_70, eX3_play_71, eX3_play_72, eX3_play_73, eX3_play_74, eX3_play_77, eX3_play_78, eX3_play_81, eX3_play_82, eX3_play_83, eX3_play_84, eX3_play_87, eX3_play_88, eX3_play_89, eX3_play_92, eX3_play_93, vrf_s, vrf_n, rr_60_0, rr_60_1, rr_60_2, rr_60_4, rr_60_6, rr_60_8, Option.bind_some, Option.toList_some, Option.toList_none, List.cons_append, List.nil_append, List.singleton_append, nI_add, nI_mul, nI_sub, nI_cl, li_0, li_1, li_2, li_3, li_4, li_5, li_6, li_7, li_8, li_9, li_10, li_11, li_12, li_13, li_14, li_15, li_16, li_17, li_18, li_19, li_20, li_21, li_22, li_23, li_24, li_25, li_26, li_27, li_28, li_29, li_30, li_31, li_32, li_33, li_34, li_35, li_36, li_37, li_38, li_39, li_40, li_41, li_42, li_43, li_44, li_45, li_46, li_47, li_48, li_49, li_50, li_51, li_52, li_53, li_54, li_55, li_56, li_57, li_58, li_59, li_60, li_61, li_97, li_98, li_102, li_103, li_108, li_114, li_120, li_126, li_360, li_480, li_1000, li_10000, t, nI_eq', eq_self, if_true, if_false, not_true_eq_false, not_false_eq_true, Nat.one_ne_zero]
theorem pX3_play (hR : zRel h m P n K ik pd ln) (hb : (zCu (zCh pd ln) ln).1 = 1) : ∃ h', qzC (d + 6) 129 [.ref 60] (67, qzRr pa, h) = some (some (.int (nI (zPy pd ln (ln + 1) 0 0 m).1)), (67, qzRr pa, h')) ∧ zRel h' ((zPy pd ln (ln + 1) 0 0 m).2) (zPush P n m) (min n 3 + 1) K ik pd 0 ∧ zFr h h' := by
  obtain ⟨h1, t1, g1, g3⟩ := sX3_areCuts (d := d + 2) (pa := pa) hR.zp
  change qzC (d + 2 + 3) 125 [.ref 60] (67, qzRr pa, h) = some (some (Value.int (nI (zCu (zCh pd ln) ln).1)), (67, qzRr pa, h1)) at t1
  rw [hb] at t1
  have hR1 := hR.sx g1
  obtain ⟨h2, t2, g2, a2⟩ := rX3_records (d := d + 4) (pa := pa) hR1
  obtain ⟨h3, t3, r3, a3, T3⟩ := rX3_laysLeads (d := d + 1) (pa := pa) g2
  have l60 := hR.zp.2.2.1
  have hA : (zAc (zCh pd ln) ln (ln + 1) (1, 0)).1 = 1 := by
    unfold zAc
    by_cases w : 0 < ln
    · rw [if_pos ⟨rfl, w⟩]; exact hb
    · exfalso
      have e : zTc (zCh pd ln) 0 = (0, 0) := by
        have e0 : zCh pd ln 0 = 0 := by unfold zCh; rw [if_neg w]
        unfold zTc
        rw [e0]
        rfl
      unfold zCu at hb
      rw [e] at hb
      have := zAc_z (c := zCh pd ln) (ln := ln) ln (0, 0) rfl
      omega
  obtain ⟨h4, t4, r4, a4⟩ := zPyLoop (d := d) (pa := pa) (ln + 1) 0 0 m h3 (by omega) (by omega) hA r3 T3
  refine ⟨h4, ?_, r4, fun a ha => by rw [a4 a (by omega) (by omega), a3 a (by omega), a2 a (by omega) (by omega)]; exact g1.1 a (by omega)⟩
  rw [← t4, kX3_play]
  simp (disch := first | assumption | omega | (refine nI_ne0 ?_ ?_ <;> omega) | exact ar_60 | exact ar_61 | exact ar_62 | exact ar_63 | exact ar_64 | exact ar_65 | exact ar_66 | (refine qi_61 ?_; omega) | (refine qi_62 ?_; omega) | (refine qi_63 ?_; omega) | (refine qi_64 ?_; omega) | (refine qi_65 ?_; omega) | (refine qi_66 ?_; omega) | exact ln0 | exact ln1 | exact ln2 | exact ln3 | exact ln4 | exact ln5 | exact nbf0 | exact nbf1 | exact nb0n | exact nb1n | (refine nn0 ?_ ?_ <;> omega) | exact nb0 | exact nb1 | decide) only [eX3_play_0, eX3_play_1, eX3_play_4, eX3_play_7, eX3_play_9, eX3_play_10, eX3_play_11, eX3_play_14, eX3_play_15, eX3_play_18, eX3_play_19, eX3_play_20, eX3_play_21, eX3_play_22, eX3_play_23, eX3_play_25, eX3_play_28, eX3_play_29, eX3_play_30, eX3_play_33, eX3_play_36, eX3_play_37, eX3_play_38, eX3_play_41, eX3_play_42, eX3_play_43, eX3_play_44, eX3_play_47, eX3_play_48, eX3_play_49, eX3_play_51, eX3_play_54, eX3_play_55, eX3_play_58, eX3_play_59, eX3_play_60, eX3_play_62, eX3_play_65, eX3_play_66, eX3_play_69, eX3_play_70, eX3_play_71, eX3_play_72, eX3_play_73, eX3_play_74, eX3_play_77, eX3_play_78, eX3_play_81, eX3_play_82, eX3_play_83, eX3_play_84, eX3_play_87, eX3_play_88, eX3_play_89, eX3_play_92, eX3_play_93, vrf_s, vrf_n, rr_60_0, rr_60_1, rr_60_2, rr_60_4, rr_60_6, rr_60_8, Option.bind_some, Option.toList_some, Option.toList_none, List.cons_append, List.nil_append, List.singleton_append, nI_add, nI_mul, nI_sub, nI_cl, li_0, li_1, li_2, li_3, li_4, li_5, li_6, li_7, li_8, li_9, li_10, li_11, li_12, li_13, li_14, li_15, li_16, li_17, li_18, li_19, li_20, li_21, li_22, li_23, li_24, li_25, li_26, li_27, li_28, li_29, li_30, li_31, li_32, li_33, li_34, li_35, li_36, li_37, li_38, li_39, li_40, li_41, li_42, li_43, li_44, li_45, li_46, li_47, li_48, li_49, li_50, li_51, li_52, li_53, li_54, li_55, li_56, li_57, li_58, li_59, li_60, li_61, li_97, li_98, li_102, li_103, li_108, li_114, li_120, li_126, li_360, li_480, li_1000, li_10000, t1, t2, t3, nI_eq', eq_self, if_true, if_false, not_true_eq_false, not_false_eq_true, Nat.one_ne_zero]
end REF19
