/-! the class: a game is copied -/
theorem qzUp_na {h : Nat → Nat → Int32} {a a' i : Nat} {v : Int32} (hne : ¬ a' = a) : qzUp h a i v a' = h a' := qzUp_ne hne
theorem cpG {a b N : Nat} (ha : rA a N) (hb : rA b N) (hn : N < 2147483648) : qzArr 4 a 67 = true ∧ qzArr 4 b 67 = true ∧ ¬ nI 0 < 0 ∧ ¬ nI 0 < 0 ∧ ¬ nI N < 0 ∧ (nI 0).toNatClampNeg + (nI N).toNatClampNeg ≤ (qzk b).2 ∧ (nI 0).toNatClampNeg + (nI N).toNatClampNeg ≤ (qzk a).2 ∧ ([] : List Value).length ≤ 8 := by
  have n0 : ¬ nI 0 < 0 := by decide
  have nN : ¬ nI N < 0 := by
    rw [show (0 : Int32) = nI 0 from rfl, nI_lt0 hn]; exact not_false
  refine ⟨ha.1, hb.1, n0, n0, nN, ?_, ?_, by decide⟩
  · rw [nI_cl (by omega), nI_cl hn, hb.2.1]; omega
  · rw [nI_cl (by omega), nI_cl hn, ha.2.1]; omega
/-- the cells after a copy -/
def zCf (h : Nat → Nat → Int32) (b e : Nat) : Nat → Nat → Int32 := (qzUp (qzUp (qzUp (qzUp (qzUr (qzUr (qzUr (qzUr (qzUr (qzUr h (b + 1) (va_cpy (h (e + 1)) (h (b + 1)) 0 0 20)) (b + 2) (va_cpy (h (e + 2)) (h (b + 2)) 0 0 3)) (b + 3) (va_cpy (h (e + 3)) (h (b + 3)) 0 0 20)) (b + 4) (va_cpy (h (e + 4)) (h (b + 4)) 0 0 20)) (b + 5) (va_cpy (h (e + 5)) (h (b + 5)) 0 0 20)) (b + 6) (va_cpy (h (e + 6)) (h (b + 6)) 0 0 20)) b 6 (h e 6)) b 7 (h e 7)) b 8 (h e 8)) b 9 (h e 9))
section CLS8
variable {d : Nat} {pa : Nat → Nat} {h : Nat → Nat → Int32} {b e : Nat} {m T : Nat → Nat}
theorem gX0_copyFrom (hb : gB b) (he : gB e) (hbe : b + 6 < e ∨ e + 6 < b) : qzC d 1 [.ref b, .ref e] (67, qzRr pa, h) = some (none, (67, qzRr pa, zCf h b e)) := by
  have b0 := aG_0 hb
  have b1 := aG_1 hb
  have b2 := aG_2 hb
  have b3 := aG_3 hb
  have b4 := aG_4 hb
  have b5 := aG_5 hb
  have e0 := aG_0 he
  have e1 := aG_1 he
  have e2 := aG_2 he
  have e3 := aG_3 he
  have e4 := aG_4 he
  have e5 := aG_5 he
  unfold zCf
  simp (disch := first | assumption | omega | (refine nI_ne0 ?_ ?_ <;> omega) | exact agG (by assumption) | exact cpG (by assumption) (by assumption) (by omega) | exact ar_0 | exact ar_22 | exact ar_23 | exact ar_24 | exact ar_28 | exact ln0 | exact ln1 | exact ln2 | exact ln3 | exact ln4 | exact ln5 | exact nbf0 | exact nbf1 | exact nb0n | exact nb1n | (refine nn0 ?_ ?_ <;> omega) | exact nb0 | exact nb1 | decide) only [kX0_copyFrom, eX0_copyFrom_0, eX0_copyFrom_1, eX0_copyFrom_4, eX0_copyFrom_5, eX0_copyFrom_6, eX0_copyFrom_9, eX0_copyFrom_10, eX0_copyFrom_12, eX0_copyFrom_15, eX0_copyFrom_16, eX0_copyFrom_19, eX0_copyFrom_20, eX0_copyFrom_21, eX0_copyFrom_24, eX0_copyFrom_25, eX0_copyFrom_26, eX0_copyFrom_29, eX0_copyFrom_30, eX0_copyFrom_33, eX0_copyFrom_34, eX0_copyFrom_35, eX0_copyFrom_38, eX0_copyFrom_39, eX0_copyFrom_41, eX0_copyFrom_44, eX0_copyFrom_45, eX0_copyFrom_48, eX0_copyFrom_49, eX0_copyFrom_50, eX0_copyFrom_53, eX0_copyFrom_54, eX0_copyFrom_56, eX0_copyFrom_59, eX0_copyFrom_60, eX0_copyFrom_63, eX0_copyFrom_64, eX0_copyFrom_65, eX0_copyFrom_68, eX0_copyFrom_69, eX0_copyFrom_71, eX0_copyFrom_74, eX0_copyFrom_75, eX0_copyFrom_78, eX0_copyFrom_79, eX0_copyFrom_80, eX0_copyFrom_83, eX0_copyFrom_84, eX0_copyFrom_86, eX0_copyFrom_89, eX0_copyFrom_90, eX0_copyFrom_91, eX0_copyFrom_94, eX0_copyFrom_97, eX0_copyFrom_98, eX0_copyFrom_99, eX0_copyFrom_102, eX0_copyFrom_105, eX0_copyFrom_106, eX0_copyFrom_107, eX0_copyFrom_110, eX0_copyFrom_113, eX0_copyFrom_114, eX0_copyFrom_115, eX0_copyFrom_118, eX0_copyFrom_121, vrf_s, vrf_n, rG_0, rG_1, rG_2, rG_3, rG_4, rG_5, rr_0_0, rr_0_1, rr_0_2, rr_0_4, rr_0_6, rr_0_8, rr_0_9, Option.bind_some, Option.toList_some, Option.toList_none, List.cons_append, List.nil_append, List.singleton_append, nI_add, nI_mul, nI_sub, nI_cl, li_0, li_1, li_2, li_3, li_4, li_5, li_6, li_7, li_8, li_9, li_10, li_11, li_12, li_13, li_14, li_15, li_16, li_17, li_18, li_19, li_20, li_21, li_22, li_23, li_24, li_25, li_26, li_27, li_28, li_29, li_30, li_31, li_32, li_33, li_34, li_35, li_36, li_37, li_38, li_39, li_40, li_41, li_42, li_43, li_44, li_45, li_46, li_47, li_48, li_49, li_50, li_51, li_52, li_53, li_54, li_55, li_56, li_57, li_58, li_59, li_60, li_61, li_97, li_98, li_102, li_103, li_108, li_114, li_120, li_126, li_360, li_480, li_1000, li_10000, qzUr_ne, qzUp_na, nI_eq', eq_self, if_true, if_false, not_true_eq_false, not_false_eq_true, Nat.one_ne_zero]
theorem gCf_rel (hbe : b + 6 < e ∨ e + 6 < b) (hg : gRel h e m T) (hi : zInv m) : gRel (zCf h b e) b m T := by
  obtain ⟨⟨g6, g7, g8, g9⟩, gc, gs, gp⟩ := hg
  have h20 := hi.1.2
  have h40 := hi.2.2.2.1
  refine ⟨⟨?_, ?_, ?_, ?_⟩, fun i hi2 => ?_, fun j hj => ?_, fun j hj => ?_⟩
  · rw [← g6]; simp [zCf, qzUp]
  · rw [← g7]; simp [zCf, qzUp]
  · rw [← g8]; simp [zCf, qzUp]
  · rw [← g9]; simp [zCf, qzUp]
  · rw [← gc i hi2]
    have l : i < 20 := by omega
    simp [zCf, qzUp, qzUr, va_cpy, l]
  · rw [← gs j hj]
    simp [zCf, qzUp, qzUr, va_cpy, hj]
  · obtain ⟨p1, p2, p3, p4⟩ := gp j hj
    have l : j < 20 := by omega
    rw [← p1, ← p2, ← p3, ← p4]
    simp [zCf, qzUp, qzUr, va_cpy, l]
theorem gCf_fr {a : Nat} (ha : a < b ∨ b + 6 < a) : zCf h b e a = h a := by
  funext i
  have n0 : ¬ a = b := by omega
  have n1 : ¬ a = b + 1 := by omega
  have n2 : ¬ a = b + 2 := by omega
  have n3 : ¬ a = b + 3 := by omega
  have n4 : ¬ a = b + 4 := by omega
  have n5 : ¬ a = b + 5 := by omega
  have n6 : ¬ a = b + 6 := by omega
  simp [zCf, qzUp, qzUr, n0, n1, n2, n3, n4, n5, n6]
end CLS8
