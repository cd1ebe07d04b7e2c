/-! the class: the choice of a cut -/
/-- the choice's state ahead of the place k -/
def zMst (v : Nat → Int) : Nat → Int
  | 0 => -1000000
  | n + 1 => (zSel v n).2
def zChn (G : Nat) (v : Nat → Int) : Nat → Int32
  | 0 => -nI 2
  | n + 1 => nI (zCd G (zSel v n).1)
theorem zStepA {G : Nat} {v : Nat → Int} {k : Nat} (hb : -1000 ≤ v k) (h : v k ≤ zMst v k) : zMst v (k + 1) = zMst v k ∧ zChn G v (k + 1) = zChn G v k := by
  cases k with
  | zero =>
    have : v 0 ≤ -1000000 := h
    omega
  | succ n =>
    have h2 : ¬ (zSel v n).2 < v (n + 1) := by
      have : v (n + 1) ≤ (zSel v n).2 := h
      omega
    have e : zSel v (n + 1) = zSel v n := by
      show (if (zSel v n).2 < v (n + 1) then (n + 1, v (n + 1)) else zSel v n) = _
      rw [if_neg h2]
    refine ⟨?_, ?_⟩
    · show (zSel v (n + 1)).2 = (zSel v n).2
      rw [e]
    · show nI (zCd G (zSel v (n + 1)).1) = nI (zCd G (zSel v n).1)
      rw [e]
theorem zStepB {G : Nat} {v : Nat → Int} {k : Nat} (h : ¬ v k ≤ zMst v k) : zMst v (k + 1) = v k ∧ zChn G v (k + 1) = nI (zCd G k) := by
  cases k with
  | zero => exact ⟨rfl, rfl⟩
  | succ n =>
    have h2 : (zSel v n).2 < v (n + 1) := by
      have : ¬ v (n + 1) ≤ (zSel v n).2 := h
      omega
    have e : zSel v (n + 1) = (n + 1, v (n + 1)) := by
      show (if (zSel v n).2 < v (n + 1) then (n + 1, v (n + 1)) else zSel v n) = _
      rw [if_pos h2]
    refine ⟨?_, ?_⟩
    · show (zSel v (n + 1)).2 = v (n + 1)
      rw [e]
    · show nI (zCd G (zSel v (n + 1)).1) = nI (zCd G (n + 1))
      rw [e]
theorem zMst_bd {v : Nat → Int} (hv : ∀ k, -1000 ≤ v k ∧ v k ≤ 1000) : ∀ k, -1000000 ≤ zMst v k ∧ zMst v k ≤ 1000 := by
  intro k
  cases k with
  | zero => exact ⟨Int.le_refl _, by show (-1000000 : Int) ≤ 1000; omega⟩
  | succ n =>
    show -1000000 ≤ (zSel v n).2 ∧ (zSel v n).2 ≤ 1000
    rw [zSel_in.2]
    have := hv (zSel v n).1
    omega
theorem zKn_at {G s j : Nat} (hs : s ≤ 1) (hj : j < G) : zKn G (s * G + j) = j + 1 ∧ zKb G (s * G + j) = 1 - s := by
  unfold zKn zKb
  rcases (by omega : s = 0 ∨ s = 1) with e | e
  · subst e
    rw [Nat.zero_mul, Nat.zero_add, Nat.mod_eq_of_lt hj, if_pos hj]
    exact ⟨rfl, rfl⟩
  · subst e
    rw [Nat.one_mul, Nat.add_mod_left, Nat.mod_eq_of_lt hj, if_neg (by omega)]
    exact ⟨rfl, rfl⟩
theorem zCd_Co {G k : Nat} : zCd G k = zCo (zKn G k) (zKb G k) := by
  unfold zCd zCo
  split <;> rfl
/-- the leads by rows stand, those by cuts hold, as do the other cells -/
def cF28 (h h' : Nat → Nat → Int32) : Prop := (∀ a, 24 ≤ a → a < 28 → h' a = h a) ∧ lOk h' 28 ∧ ∀ a, 60 ≤ a → h' a = h a
section CLS19
variable {d : Nat} {pa : Nat → Nat} {h : Nat → Nat → Int32} {m T : Nat → Nat} {P TP : Nat → Nat → Nat} {n : Nat} {K TK : Nat → Nat} {ik : Nat} {pd : Nat → Nat} {ln : Nat}
theorem zValAt {b s j w : Nat} (hb : gB b) (hw : w ≤ 1) (hs : s ≤ 1) (hj : j < min (m 2) (m 5)) (x10 x11 : Value) (X : Int32) (Y : Int32) : ∀ h : Nat → Nat → Int32, gS h b m T → lTab h 28 (zCol m) (m 6) (m 7) (m 5) (m 0) → ∃ h1, qzV (d + 44) 61 55 [.ref 0, .ref b, .int (nI w), .int (nI (zEn (m (28 + 6 * m 3 + 3)))), .int (nI (zEn (m (28 + 6 * (1 - m 3) + 3)))), .int (X), .int Y, .int (nI (min (m 2) (m 5))), .int (nI s), .int (nI (j + 1)), x10, x11] [] (67, qzRr pa, h) = qzV (d + 44) 61 114 [.ref 0, .ref b, .int (nI w), .int (nI (zEn (m (28 + 6 * m 3 + 3)))), .int (nI (zEn (m (28 + 6 * (1 - m 3) + 3)))), .int (X), .int Y, .int (nI (min (m 2) (m 5))), .int (nI s), .int (nI (j + 1)), .int (nI (zCd (min (m 2) (m 5)) (s * min (m 2) (m 5) + j))), x11] [.int (iI (zVal m w (s * min (m 2) (m 5) + j)))] (67, qzRr pa, h1) ∧ gS h1 b m T ∧ lTab h1 28 (zCol m) (m 6) (m 7) (m 5) (m 0) ∧ ∀ a, a ≠ 31 → h1 a = h a := by
  intro h hS hT
  have hz := hS.2.2
  have b20 : m 1 + m 2 ≤ 20 := by have := hz.1.2; have := hz.2.1; omega
  have hm := hz.2.1
  have m5 := hz.2.2.2.2.1
  have m3 : m 3 ≤ 1 := by have := hz.2.2.1; omega
  have o1 := (hz.2.2.2.2.2.2.2.2.1 (m 3) m3).2.2.2.1
  have o2 := (hz.2.2.2.2.2.2.2.2.1 (1 - m 3) (by omega)).2.2.2.1
  obtain ⟨⟨g6, g7, g8, g9⟩, gc, gs, gp⟩ := hS.1
  obtain ⟨kn, kb⟩ := zKn_at hs hj
  have ec : zCd (min (m 2) (m 5)) (s * min (m 2) (m 5) + j) = zCo (j + 1) (1 - s) := by rw [zCd_Co, kn, kb]
  have hc : ∀ hp, qzC (d + 43) 53 [.int (nI (j + 1)), .int (nI (1 - s))] hp = some (some (.int (nI (zCo (j + 1) (1 - s)))), hp) := fun hp => sX2_codeOf (by omega)
  have wj : ¬ min (m 2) (m 5) < j + 1 := by omega
  have e28 : lE 28 := Or.inr rfl
  have bG : min (m 2) (m 5) ≤ 5 := by omega
  have z2 := zEn_le o1
  have z3 := zEn_le o2
  rw [ec]
  rcases (by omega : w = 0 ∨ w = 1) with hw0 | hw1
  · subst hw0
    have t : ∃ h1, qzC (d + 43) 68 [.ref 28, .int (nI (m 1)), .int (nI (m 1 + m 2)), .int (nI (zEn (m (28 + 6 * m 3 + 3)))), .int (nI (zEn (m (28 + 6 * (1 - m 3) + 3)))), .int (nI (zCo (j + 1) (1 - s))), .int (nI 0)] (67, qzRr pa, h) = some (some (.int (iI (zCand (zCol m) (m 6) (m 7) (m 5) (m 1) (m 2) (zEx (zEn (m (28 + 6 * m 3 + 3)))) (zEx (zEn (m (28 + 6 * (1 - m 3) + 3)))) (j + 1) (1 - s)))), (67, qzRr pa, h1)) ∧ lTab h1 28 (zCol m) (m 6) (m 7) (m 5) (m 0) ∧ ∀ a, a ≠ 28 + 3 → h1 a = h a := lThrough2 (d := d + 38) (pa := pa) e28 hT (fun l' hl' d f own oth dep h => lInto e28 m5.1 l' l' (Nat.le_refl _) d f own oth dep h) (by omega) hm z2 z3 (k := j + 1) (b := 1 - s) (by omega) (by omega) (by omega) (by omega) (by omega)
    obtain ⟨h1, t1, t2, t3⟩ := t
    rw [zEx_En o1, zEx_En o2] at t1
    have eV : zVal m 0 (s * min (m 2) (m 5) + j) = zCand (zCol m) (m 6) (m 7) (m 5) (m 1) (m 2) (m (28 + 6 * m 3 + 3)) (m (28 + 6 * (1 - m 3) + 3)) (j + 1) (1 - s) := by
      unfold zVal
      rw [if_neg (by omega), kn, kb]
    rw [eV]
    refine ⟨h1, ?_, hS.fr (fun a a1 a2 => t3 a ?_), t2, t3⟩
    · rw [eX2_choice_55]
      clear eV ec t2 t3 kn kb hT hS gc gs gp
      generalize zCand (zCol m) (m 6) (m 7) (m 5) (m 1) (m 2) (m (28 + 6 * m 3 + 3)) (m (28 + 6 * (1 - m 3) + 3)) (j + 1) (1 - s) = V at *
      generalize zEn (m (28 + 6 * m 3 + 3)) = O1 at *
      generalize zEn (m (28 + 6 * (1 - m 3) + 3)) = O2 at *
      generalize min (m 2) (m 5) = G at *
      rcases (by omega : s = 0 ∨ s = 1) with e | e
      · subst e
        generalize zCo (j + 1) (1 - 0) = CO at *
        simp (disch := first | assumption | omega | (refine nI_ne0 ?_ ?_ <;> omega) | exact agG (by assumption) | exact agG (Or.inl rfl) | exact al22 | (refine qi_22 ?_; omega) | exact ar_0 | exact arE (by assumption) | (refine cpG ?_ ?_ ?_ <;> first | assumption | omega) | exact le67 | exact al23 | (refine qi_23 ?_; omega) | exact ar_22 | exact ar_23 | exact ar_24 | exact ar_28 | exact ln0 | exact ln1 | exact ln2 | exact ln3 | exact ln4 | exact ln5 | exact ln6 | exact ln7 | exact ln8 | exact nbf0 | exact nbf1 | exact nb0n | exact nb1n | (refine nn0 ?_ ?_ <;> omega) | exact nb0 | exact nb1 | decide) only [eX2_choice_0, eX2_choice_1, eX2_choice_4, eX2_choice_5, eX2_choice_8, eX2_choice_9, eX2_choice_10, eX2_choice_13, eX2_choice_16, eX2_choice_17, eX2_choice_18, eX2_choice_19, eX2_choice_20, eX2_choice_23, eX2_choice_24, eX2_choice_27, eX2_choice_29, eX2_choice_31, eX2_choice_33, eX2_choice_35, eX2_choice_37, eX2_choice_38, eX2_choice_41, eX2_choice_43, eX2_choice_44, eX2_choice_46, eX2_choice_48, eX2_choice_49, eX2_choice_52, eX2_choice_53, eX2_choice_57, eX2_choice_59, eX2_choice_62, eX2_choice_64, eX2_choice_66, eX2_choice_69, eX2_choice_70, eX2_choice_73, eX2_choice_74, eX2_choice_77, eX2_choice_79, eX2_choice_80, eX2_choice_81, eX2_choice_84, eX2_choice_85, eX2_choice_87, eX2_choice_90, eX2_choice_93, eX2_choice_94, eX2_choice_97, eX2_choice_98, eX2_choice_101, eX2_choice_102, eX2_choice_105, eX2_choice_106, eX2_choice_108, eX2_choice_110, eX2_choice_111, eX2_choice_116, eX2_choice_118, eX2_choice_120, eX2_choice_123, eX2_choice_125, eX2_choice_127, eX2_choice_129, eX2_choice_131, eX2_choice_134, eX2_choice_137, eX2_choice_140, eX2_choice_143, eX2_choice_145, vrf_s, vrf_n, rG_0, rG_1, rG_2, rG_3, rG_4, rG_5, rr_1_0, rr_1_1, rr_1_2, rr_1_3, rr_1_4, rr_1_5, rr_8_0, rr_8_1, rr_8_2, rr_8_3, rr_8_4, rr_8_5, rL_0, rL_1, rL_2, rr_0_0, rr_0_1, rr_0_2, rr_0_4, rr_0_6, rr_0_8, rr_0_9, Option.bind_some, Option.toList_some, Option.toList_none, List.cons_append, List.nil_append, List.singleton_append, nI_add, nI_mul, nI_sub, nI_cl, li_0, li_1, li_2, li_3, li_4, li_5, li_6, li_7, li_8, li_9, li_10, li_11, li_12, li_13, li_14, li_15, li_16, li_17, li_18, li_19, li_20, li_21, li_22, li_23, li_24, li_25, li_26, li_27, li_28, li_29, li_30, li_31, li_32, li_33, li_34, li_35, li_36, li_37, li_38, li_39, li_40, li_41, li_42, li_43, li_44, li_45, li_46, li_47, li_48, li_49, li_50, li_51, li_52, li_53, li_54, li_55, li_56, li_57, li_58, li_59, li_60, li_61, li_97, li_98, li_102, li_103, li_108, li_114, li_120, li_126, li_360, li_480, li_1000, li_10000, nI_lt', wj, hc, g7, g8, t1, Nat.sub_zero, Nat.sub_self, Nat.zero_ne_one, nI_eq', eq_self, if_true, if_false, not_true_eq_false, not_false_eq_true, Nat.one_ne_zero]
      · subst e
        generalize zCo (j + 1) (1 - 1) = CO at *
        simp (disch := first | assumption | omega | (refine nI_ne0 ?_ ?_ <;> omega) | exact agG (by assumption) | exact agG (Or.inl rfl) | exact al22 | (refine qi_22 ?_; omega) | exact ar_0 | exact arE (by assumption) | (refine cpG ?_ ?_ ?_ <;> first | assumption | omega) | exact le67 | exact al23 | (refine qi_23 ?_; omega) | exact ar_22 | exact ar_23 | exact ar_24 | exact ar_28 | exact ln0 | exact ln1 | exact ln2 | exact ln3 | exact ln4 | exact ln5 | exact ln6 | exact ln7 | exact ln8 | exact nbf0 | exact nbf1 | exact nb0n | exact nb1n | (refine nn0 ?_ ?_ <;> omega) | exact nb0 | exact nb1 | decide) only [eX2_choice_0, eX2_choice_1, eX2_choice_4, eX2_choice_5, eX2_choice_8, eX2_choice_9, eX2_choice_10, eX2_choice_13, eX2_choice_16, eX2_choice_17, eX2_choice_18, eX2_choice_19, eX2_choice_20, eX2_choice_23, eX2_choice_24, eX2_choice_27, eX2_choice_29, eX2_choice_31, eX2_choice_33, eX2_choice_35, eX2_choice_37, eX2_choice_38, eX2_choice_41, eX2_choice_43, eX2_choice_44, eX2_choice_46, eX2_choice_48, eX2_choice_49, eX2_choice_52, eX2_choice_53, eX2_choice_57, eX2_choice_59, eX2_choice_62, eX2_choice_64, eX2_choice_66, eX2_choice_69, eX2_choice_70, eX2_choice_73, eX2_choice_74, eX2_choice_77, eX2_choice_79, eX2_choice_80, eX2_choice_81, eX2_choice_84, eX2_choice_85, eX2_choice_87, eX2_choice_90, eX2_choice_93, eX2_choice_94, eX2_choice_97, eX2_choice_98, eX2_choice_101, eX2_choice_102, eX2_choice_105, eX2_choice_106, eX2_choice_108, eX2_choice_110, eX2_choice_111, eX2_choice_116, eX2_choice_118, eX2_choice_120, eX2_choice_123, eX2_choice_125, eX2_choice_127, eX2_choice_129, eX2_choice_131, eX2_choice_134, eX2_choice_137, eX2_choice_140, eX2_choice_143, eX2_choice_145, vrf_s, vrf_n, rG_0, rG_1, rG_2, rG_3, rG_4, rG_5, rr_1_0, rr_1_1, rr_1_2, rr_1_3, rr_1_4, rr_1_5, rr_8_0, rr_8_1, rr_8_2, rr_8_3, rr_8_4, rr_8_5, rL_0, rL_1, rL_2, rr_0_0, rr_0_1, rr_0_2, rr_0_4, rr_0_6, rr_0_8, rr_0_9, Option.bind_some, Option.toList_some, Option.toList_none, List.cons_append, List.nil_append, List.singleton_append, nI_add, nI_mul, nI_sub, nI_cl, li_0, li_1, li_2, li_3, li_4, li_5, li_6, li_7, li_8, li_9, li_10, li_11, li_12, li_13, li_14, li_15, li_16, li_17, li_18, li_19, li_20, li_21, li_22, li_23, li_24, li_25, li_26, li_27, li_28, li_29, li_30, li_31, li_32, li_33, li_34, li_35, li_36, li_37, li_38, li_39, li_40, li_41, li_42, li_43, li_44, li_45, li_46, li_47, li_48, li_49, li_50, li_51, li_52, li_53, li_54, li_55, li_56, li_57, li_58, li_59, li_60, li_61, li_97, li_98, li_102, li_103, li_108, li_114, li_120, li_126, li_360, li_480, li_1000, li_10000, nI_lt', wj, hc, g7, g8, t1, Nat.sub_self, Nat.zero_ne_one, Nat.one_ne_zero, nI_eq', eq_self, if_true, if_false, not_true_eq_false, not_false_eq_true, Nat.one_ne_zero]
    · rcases hb with e | e | e | e | e | e | e <;> omega
  · subst hw1
    have t := gX0_worthOfCut (d := d + 40) (pa := pa) (k := j + 1) (g := 1 - s) hb hS.1 hz hS.2.1 (by omega) (by omega) (by omega) (by omega)
    have eV : iI (zVal m 1 (s * min (m 2) (m 5) + j)) = nI (zGoW m (j + 1) (1 - s)) := by
      unfold zVal
      rw [if_pos rfl, kn, kb, iI_nat]
      rfl
    rw [eV]
    refine ⟨h, ?_, hS, hT, fun _ _ => rfl⟩
    rw [eX2_choice_55]
    clear eV ec kn kb hT hS gc gs gp
    generalize zGoW m (j + 1) (1 - s) = V at *
    generalize zEn (m (28 + 6 * m 3 + 3)) = O1 at *
    generalize zEn (m (28 + 6 * (1 - m 3) + 3)) = O2 at *
    generalize min (m 2) (m 5) = G at *
    rcases (by omega : s = 0 ∨ s = 1) with e | e
    · subst e
      generalize zCo (j + 1) (1 - 0) = CO at *
      simp (disch := first | assumption | omega | (refine nI_ne0 ?_ ?_ <;> omega) | exact agG (by assumption) | exact agG (Or.inl rfl) | exact al22 | (refine qi_22 ?_; omega) | exact ar_0 | exact arE (by assumption) | (refine cpG ?_ ?_ ?_ <;> first | assumption | omega) | exact le67 | exact al23 | (refine qi_23 ?_; omega) | exact ar_22 | exact ar_23 | exact ar_24 | exact ar_28 | exact ln0 | exact ln1 | exact ln2 | exact ln3 | exact ln4 | exact ln5 | exact ln6 | exact ln7 | exact ln8 | exact nbf0 | exact nbf1 | exact nb0n | exact nb1n | (refine nn0 ?_ ?_ <;> omega) | exact nb0 | exact nb1 | decide) only [eX2_choice_0, eX2_choice_1, eX2_choice_4, eX2_choice_5, eX2_choice_8, eX2_choice_9, eX2_choice_10, eX2_choice_13, eX2_choice_16, eX2_choice_17, eX2_choice_18, eX2_choice_19, eX2_choice_20, eX2_choice_23, eX2_choice_24, eX2_choice_27, eX2_choice_29, eX2_choice_31, eX2_choice_33, eX2_choice_35, eX2_choice_37, eX2_choice_38, eX2_choice_41, eX2_choice_43, eX2_choice_44, eX2_choice_46, eX2_choice_48, eX2_choice_49, eX2_choice_52, eX2_choice_53, eX2_choice_57, eX2_choice_59, eX2_choice_62, eX2_choice_64, eX2_choice_66, eX2_choice_69, eX2_choice_70, eX2_choice_73, eX2_choice_74, eX2_choice_77, eX2_choice_79, eX2_choice_80, eX2_choice_81, eX2_choice_84, eX2_choice_85, eX2_choice_87, eX2_choice_90, eX2_choice_93, eX2_choice_94, eX2_choice_97, eX2_choice_98, eX2_choice_101, eX2_choice_102, eX2_choice_105, eX2_choice_106, eX2_choice_108, eX2_choice_110, eX2_choice_111, eX2_choice_116, eX2_choice_118, eX2_choice_120, eX2_choice_123, eX2_choice_125, eX2_choice_127, eX2_choice_129, eX2_choice_131, eX2_choice_134, eX2_choice_137, eX2_choice_140, eX2_choice_143, eX2_choice_145, vrf_s, vrf_n, rG_0, rG_1, rG_2, rG_3, rG_4, rG_5, rr_1_0, rr_1_1, rr_1_2, rr_1_3, rr_1_4, rr_1_5, rr_8_0, rr_8_1, rr_8_2, rr_8_3, rr_8_4, rr_8_5, rL_0, rL_1, rL_2, rr_0_0, rr_0_1, rr_0_2, rr_0_4, rr_0_6, rr_0_8, rr_0_9, Option.bind_some, Option.toList_some, Option.toList_none, List.cons_append, List.nil_append, List.singleton_append, nI_add, nI_mul, nI_sub, nI_cl, li_0, li_1, li_2, li_3, li_4, li_5, li_6, li_7, li_8, li_9, li_10, li_11, li_12, li_13, li_14, li_15, li_16, li_17, li_18, li_19, li_20, li_21, li_22, li_23, li_24, li_25, li_26, li_27, li_28, li_29, li_30, li_31, li_32, li_33, li_34, li_35, li_36, li_37, li_38, li_39, li_40, li_41, li_42, li_43, li_44, li_45, li_46, li_47, li_48, li_49, li_50, li_51, li_52, li_53, li_54, li_55, li_56, li_57, li_58, li_59, li_60, li_61, li_97, li_98, li_102, li_103, li_108, li_114, li_120, li_126, li_360, li_480, li_1000, li_10000, nI_lt', wj, hc, t, Nat.sub_zero, Nat.one_ne_zero, nI_eq', eq_self, if_true, if_false, not_true_eq_false, not_false_eq_true, Nat.one_ne_zero]
    · subst e
      generalize zCo (j + 1) (1 - 1) = CO at *
      simp (disch := first | assumption | omega | (refine nI_ne0 ?_ ?_ <;> omega) | exact agG (by assumption) | exact agG (Or.inl rfl) | exact al22 | (refine qi_22 ?_; omega) | exact ar_0 | exact arE (by assumption) | (refine cpG ?_ ?_ ?_ <;> first | assumption | omega) | exact le67 | exact al23 | (refine qi_23 ?_; omega) | exact ar_22 | exact ar_23 | exact ar_24 | exact ar_28 | exact ln0 | exact ln1 | exact ln2 | exact ln3 | exact ln4 | exact ln5 | exact ln6 | exact ln7 | exact ln8 | exact nbf0 | exact nbf1 | exact nb0n | exact nb1n | (refine nn0 ?_ ?_ <;> omega) | exact nb0 | exact nb1 | decide) only [eX2_choice_0, eX2_choice_1, eX2_choice_4, eX2_choice_5, eX2_choice_8, eX2_choice_9, eX2_choice_10, eX2_choice_13, eX2_choice_16, eX2_choice_17, eX2_choice_18, eX2_choice_19, eX2_choice_20, eX2_choice_23, eX2_choice_24, eX2_choice_27, eX2_choice_29, eX2_choice_31, eX2_choice_33, eX2_choice_35, eX2_choice_37, eX2_choice_38, eX2_choice_41, eX2_choice_43, eX2_choice_44, eX2_choice_46, eX2_choice_48, eX2_choice_49, eX2_choice_52, eX2_choice_53, eX2_choice_57, eX2_choice_59, eX2_choice_62, eX2_choice_64, eX2_choice_66, eX2_choice_69, eX2_choice_70, eX2_choice_73, eX2_choice_74, eX2_choice_77, eX2_choice_79, eX2_choice_80, eX2_choice_81, eX2_choice_84, eX2_choice_85, eX2_choice_87, eX2_choice_90, eX2_choice_93, eX2_choice_94, eX2_choice_97, eX2_choice_98, eX2_choice_101, eX2_choice_102, eX2_choice_105, eX2_choice_106, eX2_choice_108, eX2_choice_110, eX2_choice_111, eX2_choice_116, eX2_choice_118, eX2_choice_120, eX2_choice_123, eX2_choice_125, eX2_choice_127, eX2_choice_129, eX2_choice_131, eX2_choice_134, eX2_choice_137, eX2_choice_140, eX2_choice_143, eX2_choice_145, vrf_s, vrf_n, rG_0, rG_1, rG_2, rG_3, rG_4, rG_5, rr_1_0, rr_1_1, rr_1_2, rr_1_3, rr_1_4, rr_1_5, rr_8_0, rr_8_1, rr_8_2, rr_8_3, rr_8_4, rr_8_5, rL_0, rL_1, rL_2, rr_0_0, rr_0_1, rr_0_2, rr_0_4, rr_0_6, rr_0_8, rr_0_9, Option.bind_some, Option.toList_some, Option.toList_none, List.cons_append, List.nil_append, List.singleton_append, nI_add, nI_mul, nI_sub, nI_cl, li_0, li_1, li_2, li_3, li_4, li_5, li_6, li_7, li_8, li_9, li_10, li_11, li_12, li_13, li_14, li_15, li_16, li_17, li_18, li_19, li_20, li_21, li_22, li_23, li_24, li_25, li_26, li_27, li_28, li_29, li_30, li_31, li_32, li_33, li_34, li_35, li_36, li_37, li_38, li_39, li_40, li_41, li_42, li_43, li_44, li_45, li_46, li_47, li_48, li_49, li_50, li_51, li_52, li_53, li_54, li_55, li_56, li_57, li_58, li_59, li_60, li_61, li_97, li_98, li_102, li_103, li_108, li_114, li_120, li_126, li_360, li_480, li_1000, li_10000, nI_lt', wj, hc, t, Nat.sub_self, Nat.one_ne_zero, nI_eq', eq_self, if_true, if_false, not_true_eq_false, not_false_eq_true, Nat.one_ne_zero]
theorem zChIn {b s w : Nat} (hb : gB b) (hw : w ≤ 1) (hs : s ≤ 1) : ∀ (r j : Nat), j + r = min (m 2) (m 5) → ∀ (h : Nat → Nat → Int32) (x10 x11 : Value), gS h b m T → lTab h 28 (zCol m) (m 6) (m 7) (m 5) (m 0) → ∃ h1 x9 x10' x11', qzV (d + 44) 61 55 [.ref 0, .ref b, .int (nI w), .int (nI (zEn (m (28 + 6 * m 3 + 3)))), .int (nI (zEn (m (28 + 6 * (1 - m 3) + 3)))), .int (zChn (min (m 2) (m 5)) (zVal m w) (s * min (m 2) (m 5) + j)), .int (iI (zMst (zVal m w) (s * min (m 2) (m 5) + j))), .int (nI (min (m 2) (m 5))), .int (nI s), .int (nI (j + 1)), x10, x11] [] (67, qzRr pa, h) = qzV (d + 44) 61 137 [.ref 0, .ref b, .int (nI w), .int (nI (zEn (m (28 + 6 * m 3 + 3)))), .int (nI (zEn (m (28 + 6 * (1 - m 3) + 3)))), .int (zChn (min (m 2) (m 5)) (zVal m w) (s * min (m 2) (m 5) + min (m 2) (m 5))), .int (iI (zMst (zVal m w) (s * min (m 2) (m 5) + min (m 2) (m 5)))), .int (nI (min (m 2) (m 5))), .int (nI s), x9, x10', x11'] [] (67, qzRr pa, h1) ∧ gS h1 b m T ∧ lTab h1 28 (zCol m) (m 6) (m 7) (m 5) (m 0) ∧ ∀ a, a ≠ 31 → h1 a = h a := by
  intro r
  induction r with
  | zero =>
    intro j hj h x10 x11 hS hT
    have ej : j = min (m 2) (m 5) := by omega
    have m5 := hS.2.2.2.2.2.2.1
    refine ⟨h, .int (nI (j + 1)), x10, x11, ?_, hS, hT, fun _ _ => rfl⟩
    rw [← ej, eX2_choice_55]
    have w1 : j < j + 1 := by omega
    have bj : j ≤ 5 := by omega
    simp (disch := first | assumption | omega | (refine nI_ne0 ?_ ?_ <;> omega) | exact agG (by assumption) | exact agG (Or.inl rfl) | exact al22 | (refine qi_22 ?_; omega) | exact ar_0 | exact arE (by assumption) | (refine cpG ?_ ?_ ?_ <;> first | assumption | omega) | exact le67 | exact al23 | (refine qi_23 ?_; omega) | exact ar_22 | exact ar_23 | exact ar_24 | exact ar_28 | exact ln0 | exact ln1 | exact ln2 | exact ln3 | exact ln4 | exact ln5 | exact ln6 | exact ln7 | exact ln8 | exact nbf0 | exact nbf1 | exact nb0n | exact nb1n | (refine nn0 ?_ ?_ <;> omega) | exact nb0 | exact nb1 | decide) only [eX2_choice_0, eX2_choice_1, eX2_choice_4, eX2_choice_5, eX2_choice_8, eX2_choice_9, eX2_choice_10, eX2_choice_13, eX2_choice_16, eX2_choice_17, eX2_choice_18, eX2_choice_19, eX2_choice_20, eX2_choice_23, eX2_choice_24, eX2_choice_27, eX2_choice_29, eX2_choice_31, eX2_choice_33, eX2_choice_35, eX2_choice_37, eX2_choice_38, eX2_choice_41, eX2_choice_43, eX2_choice_44, eX2_choice_46, eX2_choice_48, eX2_choice_49, eX2_choice_52, eX2_choice_53, eX2_choice_57, eX2_choice_59, eX2_choice_62, eX2_choice_64, eX2_choice_66, eX2_choice_69, eX2_choice_70, eX2_choice_73, eX2_choice_74, eX2_choice_77, eX2_choice_79, eX2_choice_80, eX2_choice_81, eX2_choice_84, eX2_choice_85, eX2_choice_87, eX2_choice_90, eX2_choice_93, eX2_choice_94, eX2_choice_97, eX2_choice_98, eX2_choice_101, eX2_choice_102, eX2_choice_105, eX2_choice_106, eX2_choice_108, eX2_choice_110, eX2_choice_111, eX2_choice_114, eX2_choice_116, eX2_choice_118, eX2_choice_120, eX2_choice_123, eX2_choice_125, eX2_choice_127, eX2_choice_129, eX2_choice_131, eX2_choice_134, eX2_choice_140, eX2_choice_143, eX2_choice_145, vrf_s, vrf_n, rG_0, rG_1, rG_2, rG_3, rG_4, rG_5, rr_1_0, rr_1_1, rr_1_2, rr_1_3, rr_1_4, rr_1_5, rr_8_0, rr_8_1, rr_8_2, rr_8_3, rr_8_4, rr_8_5, rL_0, rL_1, rL_2, rr_0_0, rr_0_1, rr_0_2, rr_0_4, rr_0_6, rr_0_8, rr_0_9, Option.bind_some, Option.toList_some, Option.toList_none, List.cons_append, List.nil_append, List.singleton_append, nI_add, nI_mul, nI_sub, nI_cl, li_0, li_1, li_2, li_3, li_4, li_5, li_6, li_7, li_8, li_9, li_10, li_11, li_12, li_13, li_14, li_15, li_16, li_17, li_18, li_19, li_20, li_21, li_22, li_23, li_24, li_25, li_26, li_27, li_28, li_29, li_30, li_31, li_32, li_33, li_34, li_35, li_36, li_37, li_38, li_39, li_40, li_41, li_42, li_43, li_44, li_45, li_46, li_47, li_48, li_49, li_50, li_51, li_52, li_53, li_54, li_55, li_56, li_57, li_58, li_59, li_60, li_61, li_97, li_98, li_102, li_103, li_108, li_114, li_120, li_126, li_360, li_480, li_1000, li_10000, nI_lt', w1, nI_eq', eq_self, if_true, if_false, not_true_eq_false, not_false_eq_true, Nat.one_ne_zero]
  | succ r ih =>
    intro j hj h x10 x11 hS hT
    have hz := hS.2.2
    have bv := fun k => zVal_bd (m := m) (g := w) (k := k) hz.2.2.2.2.2.1 hz.2.2.2.2.2.2.1 hz.2.2.2.2.1 (by omega) (by have := hz.1.2; have := hz.2.1; omega)
    have bm := zMst_bd bv (s * min (m 2) (m 5) + j)
    have bv1 := bv (s * min (m 2) (m 5) + j)
    obtain ⟨h1, e1, e3, e4, e5⟩ := zValAt (d := d) (pa := pa) (T := T) hb hw hs (j := j) (by omega) x10 x11 (zChn (min (m 2) (m 5)) (zVal m w) (s * min (m 2) (m 5) + j)) (iI (zMst (zVal m w) (s * min (m 2) (m 5) + j))) h hS hT
    have ek : s * min (m 2) (m 5) + (j + 1) = s * min (m 2) (m 5) + j + 1 := by omega
    by_cases q : zVal m w (s * min (m 2) (m 5) + j) ≤ zMst (zVal m w) (s * min (m 2) (m 5) + j)
    · obtain ⟨p1, p2⟩ := zStepA (G := min (m 2) (m 5)) bv1.1 q
      obtain ⟨h2, x9, y10, y11, f1, f2, f3, f4⟩ := ih (j + 1) (by omega) h1 (.int (nI (zCd (min (m 2) (m 5)) (s * min (m 2) (m 5) + j)))) (.int (iI (zVal m w (s * min (m 2) (m 5) + j)))) e3 e4
      refine ⟨h2, x9, y10, y11, ?_, f2, f3, fun a ha => (f4 a ha).trans (e5 a ha)⟩
      rw [e1, ← f1, ek, p1, p2]
      have q2 : iI (zVal m w (s * min (m 2) (m 5) + j)) ≤ iI (zMst (zVal m w) (s * min (m 2) (m 5) + j)) := (iI_le (by omega) (by omega)).mpr q
      clear e1 f1 ih p1 p2
      generalize iI (zVal m w (s * min (m 2) (m 5) + j)) = V at *
      generalize iI (zMst (zVal m w) (s * min (m 2) (m 5) + j)) = W at *
      simp (disch := first | assumption | omega | (refine nI_ne0 ?_ ?_ <;> omega) | exact agG (by assumption) | exact agG (Or.inl rfl) | exact al22 | (refine qi_22 ?_; omega) | exact ar_0 | exact arE (by assumption) | (refine cpG ?_ ?_ ?_ <;> first | assumption | omega) | exact le67 | exact al23 | (refine qi_23 ?_; omega) | exact ar_22 | exact ar_23 | exact ar_24 | exact ar_28 | exact ln0 | exact ln1 | exact ln2 | exact ln3 | exact ln4 | exact ln5 | exact ln6 | exact ln7 | exact ln8 | exact nbf0 | exact nbf1 | exact nb0n | exact nb1n | (refine nn0 ?_ ?_ <;> omega) | exact nb0 | exact nb1 | decide) only [eX2_choice_0, eX2_choice_1, eX2_choice_4, eX2_choice_5, eX2_choice_8, eX2_choice_9, eX2_choice_10, eX2_choice_13, eX2_choice_16, eX2_choice_17, eX2_choice_18, eX2_choice_19, eX2_choice_20, eX2_choice_23, eX2_choice_24, eX2_choice_27, eX2_choice_29, eX2_choice_31, eX2_choice_33, eX2_choice_35, eX2_choice_37, eX2_choice_38, eX2_choice_41, eX2_choice_43, eX2_choice_44, eX2_choice_46, eX2_choice_48, eX2_choice_49, eX2_choice_52, eX2_choice_53, eX2_choice_57, eX2_choice_59, eX2_choice_62, eX2_choice_64, eX2_choice_66, eX2_choice_69, eX2_choice_70, eX2_choice_73, eX2_choice_74, eX2_choice_77, eX2_choice_79, eX2_choice_80, eX2_choice_81, eX2_choice_84, eX2_choice_85, eX2_choice_87, eX2_choice_90, eX2_choice_93, eX2_choice_94, eX2_choice_97, eX2_choice_98, eX2_choice_101, eX2_choice_102, eX2_choice_105, eX2_choice_106, eX2_choice_108, eX2_choice_110, eX2_choice_111, eX2_choice_114, eX2_choice_116, eX2_choice_118, eX2_choice_120, eX2_choice_123, eX2_choice_125, eX2_choice_127, eX2_choice_129, eX2_choice_131, eX2_choice_134, eX2_choice_140, eX2_choice_143, eX2_choice_145, vrf_s, vrf_n, rG_0, rG_1, rG_2, rG_3, rG_4, rG_5, rr_1_0, rr_1_1, rr_1_2, rr_1_3, rr_1_4, rr_1_5, rr_8_0, rr_8_1, rr_8_2, rr_8_3, rr_8_4, rr_8_5, rL_0, rL_1, rL_2, rr_0_0, rr_0_1, rr_0_2, rr_0_4, rr_0_6, rr_0_8, rr_0_9, Option.bind_some, Option.toList_some, Option.toList_none, List.cons_append, List.nil_append, List.singleton_append, nI_add, nI_mul, nI_sub, nI_cl, li_0, li_1, li_2, li_3, li_4, li_5, li_6, li_7, li_8, li_9, li_10, li_11, li_12, li_13, li_14, li_15, li_16, li_17, li_18, li_19, li_20, li_21, li_22, li_23, li_24, li_25, li_26, li_27, li_28, li_29, li_30, li_31, li_32, li_33, li_34, li_35, li_36, li_37, li_38, li_39, li_40, li_41, li_42, li_43, li_44, li_45, li_46, li_47, li_48, li_49, li_50, li_51, li_52, li_53, li_54, li_55, li_56, li_57, li_58, li_59, li_60, li_61, li_97, li_98, li_102, li_103, li_108, li_114, li_120, li_126, li_360, li_480, li_1000, li_10000, q2, nI_eq', eq_self, if_true, if_false, not_true_eq_false, not_false_eq_true, Nat.one_ne_zero]
    · obtain ⟨p1, p2⟩ := zStepB (G := min (m 2) (m 5)) q
      obtain ⟨h2, x9, y10, y11, f1, f2, f3, f4⟩ := ih (j + 1) (by omega) h1 (.int (nI (zCd (min (m 2) (m 5)) (s * min (m 2) (m 5) + j)))) (.int (iI (zVal m w (s * min (m 2) (m 5) + j)))) e3 e4
      refine ⟨h2, x9, y10, y11, ?_, f2, f3, fun a ha => (f4 a ha).trans (e5 a ha)⟩
      rw [e1, ← f1, ek, p1, p2]
      have q2 : ¬ iI (zVal m w (s * min (m 2) (m 5) + j)) ≤ iI (zMst (zVal m w) (s * min (m 2) (m 5) + j)) := fun z => q ((iI_le (by omega) (by omega)).mp z)
      clear e1 f1 ih p1 p2
      generalize iI (zVal m w (s * min (m 2) (m 5) + j)) = V at *
      generalize iI (zMst (zVal m w) (s * min (m 2) (m 5) + j)) = W at *
      simp (disch := first | assumption | omega | (refine nI_ne0 ?_ ?_ <;> omega) | exact agG (by assumption) | exact agG (Or.inl rfl) | exact al22 | (refine qi_22 ?_; omega) | exact ar_0 | exact arE (by assumption) | (refine cpG ?_ ?_ ?_ <;> first | assumption | omega) | exact le67 | exact al23 | (refine qi_23 ?_; omega) | exact ar_22 | exact ar_23 | exact ar_24 | exact ar_28 | exact ln0 | exact ln1 | exact ln2 | exact ln3 | exact ln4 | exact ln5 | exact ln6 | exact ln7 | exact ln8 | exact nbf0 | exact nbf1 | exact nb0n | exact nb1n | (refine nn0 ?_ ?_ <;> omega) | exact nb0 | exact nb1 | decide) only [eX2_choice_0, eX2_choice_1, eX2_choice_4, eX2_choice_5, eX2_choice_8, eX2_choice_9, eX2_choice_10, eX2_choice_13, eX2_choice_16, eX2_choice_17, eX2_choice_18, eX2_choice_19, eX2_choice_20, eX2_choice_23, eX2_choice_24, eX2_choice_27, eX2_choice_29, eX2_choice_31, eX2_choice_33, eX2_choice_35, eX2_choice_37, eX2_choice_38, eX2_choice_41, eX2_choice_43, eX2_choice_44, eX2_choice_46, eX2_choice_48, eX2_choice_49, eX2_choice_52, eX2_choice_53, eX2_choice_57, eX2_choice_59, eX2_choice_62, eX2_choice_64, eX2_choice_66, eX2_choice_69, eX2_choice_70, eX2_choice_73, eX2_choice_74, eX2_choice_77, eX2_choice_79, eX2_choice_80, eX2_choice_81, eX2_choice_84, eX2_choice_85, eX2_choice_87, eX2_choice_90, eX2_choice_93, eX2_choice_94, eX2_choice_97, eX2_choice_98, eX2_choice_101, eX2_choice_102, eX2_choice_105, eX2_choice_106, eX2_choice_108, eX2_choice_110, eX2_choice_111, eX2_choice_114, eX2_choice_116, eX2_choice_118, eX2_choice_120, eX2_choice_123, eX2_choice_125, eX2_choice_127, eX2_choice_129, eX2_choice_131, eX2_choice_134, eX2_choice_140, eX2_choice_143, eX2_choice_145, vrf_s, vrf_n, rG_0, rG_1, rG_2, rG_3, rG_4, rG_5, rr_1_0, rr_1_1, rr_1_2, rr_1_3, rr_1_4, rr_1_5, rr_8_0, rr_8_1, rr_8_2, rr_8_3, rr_8_4, rr_8_5, rL_0, rL_1, rL_2, rr_0_0, rr_0_1, rr_0_2, rr_0_4, rr_0_6, rr_0_8, rr_0_9, Option.bind_some, Option.toList_some, Option.toList_none, List.cons_append, List.nil_append, List.singleton_append, nI_add, nI_mul, nI_sub, nI_cl, li_0, li_1, li_2, li_3, li_4, li_5, li_6, li_7, li_8, li_9, li_10, li_11, li_12, li_13, li_14, li_15, li_16, li_17, li_18, li_19, li_20, li_21, li_22, li_23, li_24, li_25, li_26, li_27, li_28, li_29, li_30, li_31, li_32, li_33, li_34, li_35, li_36, li_37, li_38, li_39, li_40, li_41, li_42, li_43, li_44, li_45, li_46, li_47, li_48, li_49, li_50, li_51, li_52, li_53, li_54, li_55, li_56, li_57, li_58, li_59, li_60, li_61, li_97, li_98, li_102, li_103, li_108, li_114, li_120, li_126, li_360, li_480, li_1000, li_10000, q2, nI_eq', eq_self, if_true, if_false, not_true_eq_false, not_false_eq_true, Nat.one_ne_zero]
theorem sX2_choice {b w : Nat} (hb : gB b) (hw : w ≤ 1) (hS : gS h b m T) (hl : lOk h 28) : ∃ h', qzC (d + 44) 61 [.ref 0, .ref b, .int (nI w)] (67, qzRr pa, h) = some (some (.int (if m 2 = 0 then -nI 2 else nI (zBest m w))), (67, qzRr pa, h')) ∧ lOk h' 28 ∧ ∀ a, (a < 28 ∨ 31 < a) → h' a = h a := by
  have e28 : lE 28 := Or.inr rfl
  have agb := agG hb
  have hz := hS.2.2
  have m3 : m 3 ≤ 1 := by have := hz.2.2.1; omega
  have m5 := hz.2.2.2.2.1
  obtain ⟨h1, t1, t2, t3⟩ := sX1_fitTo (d := d + 41) (pa := pa) e28 hb hl hS.1 hz
  have hfar := lE_far e28 hb
  have hS1 : gS h1 b m T := hS.fr (fun a a1 a2 => t3 a (by omega))
  have on := gX0_onTurn (d := d + 43) (pa := pa) hb hS1.1 hz
  have ho : qzC (d + 43) 11 [.ref b, .int (nI (m 3))] (67, qzRr pa, h1) = some (some (.int (nI (zEn (m (28 + 6 * m 3 + 3))))), (67, qzRr pa, h1)) := gX0_endOfCoat (d := d + 42) (pa := pa) hb hS1.1 hz hS1.2.1 m3
  have ho2 : qzC (d + 43) 11 [.ref b, .int (nI (1 - m 3))] (67, qzRr pa, h1) = some (some (.int (nI (zEn (m (28 + 6 * (1 - m 3) + 3))))), (67, qzRr pa, h1)) := gX0_endOfCoat (d := d + 42) (pa := pa) hb hS1.1 hz hS1.2.1 (by omega)
  have hlo : qzC (d + 43) 6 [.ref b] (67, qzRr pa, h1) = some (some (.int (nI (min (m 2) (m 5)))), (67, qzRr pa, h1)) := by
    rw [Nat.min_comm]
    exact gX0_longestCut (d := d + 42) (pa := pa) hb hS1.1 hz
  obtain ⟨h2, a9, a10, a11, u1, u2, u3, u4⟩ := zChIn (d := d) (pa := pa) hb hw (s := 0) (by omega) (min (m 2) (m 5)) 0 (by omega) h1 (.float 0) (.float 0) hS1 t2
  obtain ⟨h3, b9, b10, b11, v1, v2, v3, v4⟩ := zChIn (d := d) (pa := pa) hb hw (s := 1) (by omega) (min (m 2) (m 5)) 0 (by omega) h2 a10 a11 u2 u3
  refine ⟨h3, ?_, ⟨_, _, _, _, _, v3⟩, fun a ha => (v4 a (by omega)).trans ((u4 a (by omega)).trans (t3 a (by omega)))⟩
  have eF : zChn (min (m 2) (m 5)) (zVal m w) (1 * min (m 2) (m 5) + min (m 2) (m 5)) = if m 2 = 0 then -nI 2 else nI (zBest m w) := by
    by_cases q : m 2 = 0
    · rw [if_pos q, q, Nat.zero_min]
      rfl
    · rw [if_neg q]
      obtain ⟨k, hk⟩ : ∃ k, 1 * min (m 2) (m 5) + min (m 2) (m 5) = k + 1 := ⟨2 * min (m 2) (m 5) - 1, by omega⟩
      have hk2 : 2 * min (m 2) (m 5) - 1 = k := by omega
      rw [hk]
      show nI (zCd (min (m 2) (m 5)) (zSel (zVal m w) k).1) = _
      unfold zBest zBj
      rw [hk2]
  rw [← eF]
  have z0 : zChn (min (m 2) (m 5)) (zVal m w) (0 * min (m 2) (m 5) + 0) = -nI 2 := by rw [Nat.zero_mul]; rfl
  have y0 : zMst (zVal m w) (0 * min (m 2) (m 5) + 0) = -1000000 := by rw [Nat.zero_mul]; rfl
  rw [z0, y0] at u1
  rw [Nat.add_zero, Nat.one_mul] at v1
  rw [show 0 * min (m 2) (m 5) + min (m 2) (m 5) = min (m 2) (m 5) by omega] at u1
  rw [Nat.one_mul]
  have g2 : ((2 : Nat) ≤ 1) = False := by simp
  have g1 : ((2 : Nat) ≤ 0) = False := by simp
  clear eF z0 y0 u3 v3 t2 hS hS1 u2 v2 t3 u4 v4
  generalize zEn (m (28 + 6 * m 3 + 3)) = O1 at *
  generalize zEn (m (28 + 6 * (1 - m 3) + 3)) = O2 at *
  generalize zChn (min (m 2) (m 5)) (zVal m w) (min (m 2) (m 5) + min (m 2) (m 5)) = C2 at *
  generalize zChn (min (m 2) (m 5)) (zVal m w) (min (m 2) (m 5)) = C1 at *
  generalize zMst (zVal m w) (min (m 2) (m 5) + min (m 2) (m 5)) = M2 at *
  generalize zMst (zVal m w) (min (m 2) (m 5)) = M1 at *
  generalize hG : min (m 2) (m 5) = G at *
  rw [kX2_choice]
  have s1 : qzV (d + 44) 61 0 [.ref 0, .ref b, .int (nI w), .float 0, .float 0, .float 0, .float 0, .float 0, .float 0, .float 0, .float 0, .float 0] [] (67, qzRr pa, h) = qzV (d + 44) 61 55 [.ref 0, .ref b, .int (nI w), .int (nI O1), .int (nI O2), .int (-nI 2), .int (iI (-1000000)), .int (nI G), .int (nI 0), .int (nI (0 + 1)), .float 0, .float 0] [] (67, qzRr pa, h1) := by
    simp (disch := first | assumption | omega | (refine nI_ne0 ?_ ?_ <;> omega) | exact agG (by assumption) | exact agG (Or.inl rfl) | exact al22 | (refine qi_22 ?_; omega) | exact ar_0 | exact arE (by assumption) | (refine cpG ?_ ?_ ?_ <;> first | assumption | omega) | exact le67 | exact al23 | (refine qi_23 ?_; omega) | exact ar_22 | exact ar_23 | exact ar_24 | exact ar_28 | exact ln0 | exact ln1 | exact ln2 | exact ln3 | exact ln4 | exact ln5 | exact ln6 | exact ln7 | exact ln8 | exact nbf0 | exact nbf1 | exact nb0n | exact nb1n | (refine nn0 ?_ ?_ <;> omega) | exact nb0 | exact nb1 | decide) only [eX2_choice_0, eX2_choice_1, eX2_choice_4, eX2_choice_5, eX2_choice_8, eX2_choice_9, eX2_choice_10, eX2_choice_13, eX2_choice_16, eX2_choice_17, eX2_choice_18, eX2_choice_19, eX2_choice_20, eX2_choice_23, eX2_choice_24, eX2_choice_27, eX2_choice_29, eX2_choice_31, eX2_choice_33, eX2_choice_35, eX2_choice_37, eX2_choice_38, eX2_choice_41, eX2_choice_43, eX2_choice_44, eX2_choice_46, eX2_choice_48, eX2_choice_49, eX2_choice_52, eX2_choice_53, eX2_choice_57, eX2_choice_59, eX2_choice_62, eX2_choice_64, eX2_choice_66, eX2_choice_69, eX2_choice_70, eX2_choice_73, eX2_choice_74, eX2_choice_77, eX2_choice_79, eX2_choice_80, eX2_choice_81, eX2_choice_84, eX2_choice_85, eX2_choice_87, eX2_choice_90, eX2_choice_93, eX2_choice_94, eX2_choice_97, eX2_choice_98, eX2_choice_101, eX2_choice_102, eX2_choice_105, eX2_choice_106, eX2_choice_108, eX2_choice_110, eX2_choice_111, eX2_choice_114, eX2_choice_116, eX2_choice_118, eX2_choice_120, eX2_choice_123, eX2_choice_125, eX2_choice_127, eX2_choice_129, eX2_choice_131, eX2_choice_134, eX2_choice_137, eX2_choice_140, eX2_choice_143, eX2_choice_145, vrf_s, vrf_n, rG_0, rG_1, rG_2, rG_3, rG_4, rG_5, rr_1_0, rr_1_1, rr_1_2, rr_1_3, rr_1_4, rr_1_5, rr_8_0, rr_8_1, rr_8_2, rr_8_3, rr_8_4, rr_8_5, rL_0, rL_1, rL_2, rr_0_0, rr_0_1, rr_0_2, rr_0_4, rr_0_6, rr_0_8, rr_0_9, Option.bind_some, Option.toList_some, Option.toList_none, List.cons_append, List.nil_append, List.singleton_append, nI_add, nI_mul, nI_sub, nI_cl, li_0, li_1, li_2, li_3, li_4, li_5, li_6, li_7, li_8, li_9, li_10, li_11, li_12, li_13, li_14, li_15, li_16, li_17, li_18, li_19, li_20, li_21, li_22, li_23, li_24, li_25, li_26, li_27, li_28, li_29, li_30, li_31, li_32, li_33, li_34, li_35, li_36, li_37, li_38, li_39, li_40, li_41, li_42, li_43, li_44, li_45, li_46, li_47, li_48, li_49, li_50, li_51, li_52, li_53, li_54, li_55, li_56, li_57, li_58, li_59, li_60, li_61, li_97, li_98, li_102, li_103, li_108, li_114, li_120, li_126, li_360, li_480, li_1000, li_10000, on, ho, ho2, hlo, t1, nI_le', g1, liU, Nat.zero_add, nI_eq', eq_self, if_true, if_false, not_true_eq_false, not_false_eq_true, Nat.one_ne_zero]
  rw [s1, u1]
  have s2 : qzV (d + 44) 61 137 [.ref 0, .ref b, .int (nI w), .int (nI O1), .int (nI O2), .int C1, .int (iI M1), .int (nI G), .int (nI 0), a9, a10, a11] [] (67, qzRr pa, h2) = qzV (d + 44) 61 55 [.ref 0, .ref b, .int (nI w), .int (nI O1), .int (nI O2), .int C1, .int (iI M1), .int (nI G), .int (nI 1), .int (nI (0 + 1)), a10, a11] [] (67, qzRr pa, h2) := by
    simp (disch := first | assumption | omega | (refine nI_ne0 ?_ ?_ <;> omega) | exact agG (by assumption) | exact agG (Or.inl rfl) | exact al22 | (refine qi_22 ?_; omega) | exact ar_0 | exact arE (by assumption) | (refine cpG ?_ ?_ ?_ <;> first | assumption | omega) | exact le67 | exact al23 | (refine qi_23 ?_; omega) | exact ar_22 | exact ar_23 | exact ar_24 | exact ar_28 | exact ln0 | exact ln1 | exact ln2 | exact ln3 | exact ln4 | exact ln5 | exact ln6 | exact ln7 | exact ln8 | exact nbf0 | exact nbf1 | exact nb0n | exact nb1n | (refine nn0 ?_ ?_ <;> omega) | exact nb0 | exact nb1 | decide) only [eX2_choice_0, eX2_choice_1, eX2_choice_4, eX2_choice_5, eX2_choice_8, eX2_choice_9, eX2_choice_10, eX2_choice_13, eX2_choice_16, eX2_choice_17, eX2_choice_18, eX2_choice_19, eX2_choice_20, eX2_choice_23, eX2_choice_24, eX2_choice_27, eX2_choice_29, eX2_choice_31, eX2_choice_33, eX2_choice_35, eX2_choice_37, eX2_choice_38, eX2_choice_41, eX2_choice_43, eX2_choice_44, eX2_choice_46, eX2_choice_48, eX2_choice_49, eX2_choice_52, eX2_choice_53, eX2_choice_57, eX2_choice_59, eX2_choice_62, eX2_choice_64, eX2_choice_66, eX2_choice_69, eX2_choice_70, eX2_choice_73, eX2_choice_74, eX2_choice_77, eX2_choice_79, eX2_choice_80, eX2_choice_81, eX2_choice_84, eX2_choice_85, eX2_choice_87, eX2_choice_90, eX2_choice_93, eX2_choice_94, eX2_choice_97, eX2_choice_98, eX2_choice_101, eX2_choice_102, eX2_choice_105, eX2_choice_106, eX2_choice_108, eX2_choice_110, eX2_choice_111, eX2_choice_114, eX2_choice_116, eX2_choice_118, eX2_choice_120, eX2_choice_123, eX2_choice_125, eX2_choice_127, eX2_choice_129, eX2_choice_131, eX2_choice_134, eX2_choice_137, eX2_choice_140, eX2_choice_143, eX2_choice_145, vrf_s, vrf_n, rG_0, rG_1, rG_2, rG_3, rG_4, rG_5, rr_1_0, rr_1_1, rr_1_2, rr_1_3, rr_1_4, rr_1_5, rr_8_0, rr_8_1, rr_8_2, rr_8_3, rr_8_4, rr_8_5, rL_0, rL_1, rL_2, rr_0_0, rr_0_1, rr_0_2, rr_0_4, rr_0_6, rr_0_8, rr_0_9, Option.bind_some, Option.toList_some, Option.toList_none, List.cons_append, List.nil_append, List.singleton_append, nI_add, nI_mul, nI_sub, nI_cl, li_0, li_1, li_2, li_3, li_4, li_5, li_6, li_7, li_8, li_9, li_10, li_11, li_12, li_13, li_14, li_15, li_16, li_17, li_18, li_19, li_20, li_21, li_22, li_23, li_24, li_25, li_26, li_27, li_28, li_29, li_30, li_31, li_32, li_33, li_34, li_35, li_36, li_37, li_38, li_39, li_40, li_41, li_42, li_43, li_44, li_45, li_46, li_47, li_48, li_49, li_50, li_51, li_52, li_53, li_54, li_55, li_56, li_57, li_58, li_59, li_60, li_61, li_97, li_98, li_102, li_103, li_108, li_114, li_120, li_126, li_360, li_480, li_1000, li_10000, nI_le', g2, Nat.zero_add, nI_eq', eq_self, if_true, if_false, not_true_eq_false, not_false_eq_true, Nat.one_ne_zero]
  rw [s2, v1]
  simp (disch := first | assumption | omega | (refine nI_ne0 ?_ ?_ <;> omega) | exact agG (by assumption) | exact agG (Or.inl rfl) | exact al22 | (refine qi_22 ?_; omega) | exact ar_0 | exact arE (by assumption) | (refine cpG ?_ ?_ ?_ <;> first | assumption | omega) | exact le67 | exact al23 | (refine qi_23 ?_; omega) | exact ar_22 | exact ar_23 | exact ar_24 | exact ar_28 | exact ln0 | exact ln1 | exact ln2 | exact ln3 | exact ln4 | exact ln5 | exact ln6 | exact ln7 | exact ln8 | exact nbf0 | exact nbf1 | exact nb0n | exact nb1n | (refine nn0 ?_ ?_ <;> omega) | exact nb0 | exact nb1 | decide) only [eX2_choice_0, eX2_choice_1, eX2_choice_4, eX2_choice_5, eX2_choice_8, eX2_choice_9, eX2_choice_10, eX2_choice_13, eX2_choice_16, eX2_choice_17, eX2_choice_18, eX2_choice_19, eX2_choice_20, eX2_choice_23, eX2_choice_24, eX2_choice_27, eX2_choice_29, eX2_choice_31, eX2_choice_33, eX2_choice_35, eX2_choice_37, eX2_choice_38, eX2_choice_41, eX2_choice_43, eX2_choice_44, eX2_choice_46, eX2_choice_48, eX2_choice_49, eX2_choice_52, eX2_choice_53, eX2_choice_57, eX2_choice_59, eX2_choice_62, eX2_choice_64, eX2_choice_66, eX2_choice_69, eX2_choice_70, eX2_choice_73, eX2_choice_74, eX2_choice_77, eX2_choice_79, eX2_choice_80, eX2_choice_81, eX2_choice_84, eX2_choice_85, eX2_choice_87, eX2_choice_90, eX2_choice_93, eX2_choice_94, eX2_choice_97, eX2_choice_98, eX2_choice_101, eX2_choice_102, eX2_choice_105, eX2_choice_106, eX2_choice_108, eX2_choice_110, eX2_choice_111, eX2_choice_114, eX2_choice_116, eX2_choice_118, eX2_choice_120, eX2_choice_123, eX2_choice_125, eX2_choice_127, eX2_choice_129, eX2_choice_131, eX2_choice_134, eX2_choice_137, eX2_choice_140, eX2_choice_143, eX2_choice_145, vrf_s, vrf_n, rG_0, rG_1, rG_2, rG_3, rG_4, rG_5, rr_1_0, rr_1_1, rr_1_2, rr_1_3, rr_1_4, rr_1_5, rr_8_0, rr_8_1, rr_8_2, rr_8_3, rr_8_4, rr_8_5, rL_0, rL_1, rL_2, rr_0_0, rr_0_1, rr_0_2, rr_0_4, rr_0_6, rr_0_8, rr_0_9, Option.bind_some, Option.toList_some, Option.toList_none, List.cons_append, List.nil_append, List.singleton_append, nI_add, nI_mul, nI_sub, nI_cl, li_0, li_1, li_2, li_3, li_4, li_5, li_6, li_7, li_8, li_9, li_10, li_11, li_12, li_13, li_14, li_15, li_16, li_17, li_18, li_19, li_20, li_21, li_22, li_23, li_24, li_25, li_26, li_27, li_28, li_29, li_30, li_31, li_32, li_33, li_34, li_35, li_36, li_37, li_38, li_39, li_40, li_41, li_42, li_43, li_44, li_45, li_46, li_47, li_48, li_49, li_50, li_51, li_52, li_53, li_54, li_55, li_56, li_57, li_58, li_59, li_60, li_61, li_97, li_98, li_102, li_103, li_108, li_114, li_120, li_126, li_360, li_480, li_1000, li_10000, nI_le', Nat.le_refl, nI_eq', eq_self, if_true, if_false, not_true_eq_false, not_false_eq_true, Nat.one_ne_zero]
theorem sX2_leadGoneInto {b : Nat} (hb : gB b) (hS : gS h b m T) (hl : lOk h 28) : ∃ h', qzC (d + 45) 65 [.ref 0, .ref b] (67, qzRr pa, h) = some (some (.int (iI (zL (zCol m) (m 6) (m 7) (m 5) (m 1) (m 2) (m (28 + 6 * m 3 + 3)) (m (28 + 6 * (1 - m 3) + 3))))), (67, qzRr pa, h')) ∧ lOk h' 28 ∧ ∀ a, (a < 28 ∨ 31 < a) → h' a = h a := by
  have e28 : lE 28 := Or.inr rfl
  have agb := agG hb
  have hz := hS.2.2
  have b20 : m 1 + m 2 ≤ 20 := by have := hz.1.2; have := hz.2.1; omega
  have m3 : m 3 ≤ 1 := by have := hz.2.2.1; omega
  have m5 := hz.2.2.2.2.1
  have o1 := (hz.2.2.2.2.2.2.2.2.1 (m 3) m3).2.2.2.1
  have o2 := (hz.2.2.2.2.2.2.2.2.1 (1 - m 3) (by omega)).2.2.2.1
  obtain ⟨h1, t1, t2, t3⟩ := sX1_fitTo (d := d + 42) (pa := pa) e28 hb hl hS.1 hz
  have hfar := lE_far e28 hb
  have hS1 : gS h1 b m T := hS.fr (fun a a1 a2 => t3 a (by omega))
  have on := gX0_onTurn (d := d + 44) (pa := pa) hb hS1.1 hz
  have ho : qzC (d + 44) 11 [.ref b, .int (nI (m 3))] (67, qzRr pa, h1) = some (some (.int (nI (zEn (m (28 + 6 * m 3 + 3))))), (67, qzRr pa, h1)) := gX0_endOfCoat (d := d + 43) (pa := pa) hb hS1.1 hz hS1.2.1 m3
  have ho2 : qzC (d + 44) 11 [.ref b, .int (nI (1 - m 3))] (67, qzRr pa, h1) = some (some (.int (nI (zEn (m (28 + 6 * (1 - m 3) + 3))))), (67, qzRr pa, h1)) := gX0_endOfCoat (d := d + 43) (pa := pa) hb hS1.1 hz hS1.2.1 (by omega)
  obtain ⟨h2, u1, u2, u3⟩ := lInto (pa := pa) e28 m5.1 (m 2) (m 2) (Nat.le_refl _) (d + 40) (m 1) (zEn (m (28 + 6 * m 3 + 3))) (zEn (m (28 + 6 * (1 - m 3) + 3))) 0 h1 (by omega) hz.2.1 (zEn_le o1) (zEn_le o2) (by omega) t2
  rw [zEx_En o1, zEx_En o2] at u1
  replace u1 : qzC (d + 44) 67 [.ref 28, .int (nI (m 1)), .int (nI (m 1 + m 2)), .int (nI (zEn (m (28 + 6 * m 3 + 3)))), .int (nI (zEn (m (28 + 6 * (1 - m 3) + 3)))), .int (nI 0)] (67, qzRr pa, h1) = _ := u1
  obtain ⟨⟨g6, g7, g8, g9⟩, -, -, -⟩ := hS1.1
  refine ⟨h2, ?_, ⟨_, _, _, _, _, u2⟩, fun a ha => (u3 a (by omega)).trans (t3 a (by omega))⟩
  generalize zL (zCol m) (m 6) (m 7) (m 5) (m 1) (m 2) (m (28 + 6 * m 3 + 3)) (m (28 + 6 * (1 - m 3) + 3)) = V at *
  generalize zEn (m (28 + 6 * m 3 + 3)) = O1 at *
  generalize zEn (m (28 + 6 * (1 - m 3) + 3)) = O2 at *
  simp (disch := first | assumption | omega | (refine nI_ne0 ?_ ?_ <;> omega) | exact agG (by assumption) | exact agG (Or.inl rfl) | exact al22 | (refine qi_22 ?_; omega) | exact ar_0 | exact arE (by assumption) | (refine cpG ?_ ?_ ?_ <;> first | assumption | omega) | exact le67 | exact al23 | (refine qi_23 ?_; omega) | exact ar_22 | exact ar_23 | exact ar_24 | exact ar_28 | exact ln0 | exact ln1 | exact ln2 | exact ln3 | exact ln4 | exact ln5 | exact ln6 | exact ln7 | exact ln8 | exact nbf0 | exact nbf1 | exact nb0n | exact nb1n | (refine nn0 ?_ ?_ <;> omega) | exact nb0 | exact nb1 | decide) only [kX2_leadGoneInto, eX2_leadGoneInto_0, eX2_leadGoneInto_1, eX2_leadGoneInto_4, eX2_leadGoneInto_5, eX2_leadGoneInto_8, eX2_leadGoneInto_9, eX2_leadGoneInto_10, eX2_leadGoneInto_13, eX2_leadGoneInto_16, eX2_leadGoneInto_17, eX2_leadGoneInto_18, eX2_leadGoneInto_19, eX2_leadGoneInto_20, eX2_leadGoneInto_23, eX2_leadGoneInto_24, eX2_leadGoneInto_27, eX2_leadGoneInto_28, eX2_leadGoneInto_29, eX2_leadGoneInto_32, eX2_leadGoneInto_33, eX2_leadGoneInto_36, eX2_leadGoneInto_37, eX2_leadGoneInto_40, eX2_leadGoneInto_41, eX2_leadGoneInto_42, eX2_leadGoneInto_43, eX2_leadGoneInto_46, vrf_s, vrf_n, rG_0, rG_1, rG_2, rG_3, rG_4, rG_5, rr_1_0, rr_1_1, rr_1_2, rr_1_3, rr_1_4, rr_1_5, rr_8_0, rr_8_1, rr_8_2, rr_8_3, rr_8_4, rr_8_5, rL_0, rL_1, rL_2, rr_0_0, rr_0_1, rr_0_2, rr_0_4, rr_0_6, rr_0_8, rr_0_9, Option.bind_some, Option.toList_some, Option.toList_none, List.cons_append, List.nil_append, List.singleton_append, nI_add, nI_mul, nI_sub, nI_cl, li_0, li_1, li_2, li_3, li_4, li_5, li_6, li_7, li_8, li_9, li_10, li_11, li_12, li_13, li_14, li_15, li_16, li_17, li_18, li_19, li_20, li_21, li_22, li_23, li_24, li_25, li_26, li_27, li_28, li_29, li_30, li_31, li_32, li_33, li_34, li_35, li_36, li_37, li_38, li_39, li_40, li_41, li_42, li_43, li_44, li_45, li_46, li_47, li_48, li_49, li_50, li_51, li_52, li_53, li_54, li_55, li_56, li_57, li_58, li_59, li_60, li_61, li_97, li_98, li_102, li_103, li_108, li_114, li_120, li_126, li_360, li_480, li_1000, li_10000, t1, on, ho, ho2, g7, g8, u1, nI_eq', eq_self, if_true, if_false, not_true_eq_false, not_false_eq_true, Nat.one_ne_zero]
theorem sX2_leadOfCut {b k g : Nat} (hb : gB b) (hS : gS h b m T) (hl : lOk h 28) (hk : 1 ≤ k) (hk2 : k ≤ m 2) (hk5 : k ≤ 5) (hg : g ≤ 1) : ∃ h', qzC (d + 45) 66 [.ref 0, .ref b, .int (nI (zCo k g))] (67, qzRr pa, h) = some (some (.int (iI (zCand (zCol m) (m 6) (m 7) (m 5) (m 1) (m 2) (m (28 + 6 * m 3 + 3)) (m (28 + 6 * (1 - m 3) + 3)) k g))), (67, qzRr pa, h')) ∧ lOk h' 28 ∧ ∀ a, (a < 28 ∨ 31 < a) → h' a = h a := by
  have e28 : lE 28 := Or.inr rfl
  have agb := agG hb
  have hz := hS.2.2
  have b20 : m 1 + m 2 ≤ 20 := by have := hz.1.2; have := hz.2.1; omega
  have m3 : m 3 ≤ 1 := by have := hz.2.2.1; omega
  have m5 := hz.2.2.2.2.1
  have o1 := (hz.2.2.2.2.2.2.2.2.1 (m 3) m3).2.2.2.1
  have o2 := (hz.2.2.2.2.2.2.2.2.1 (1 - m 3) (by omega)).2.2.2.1
  obtain ⟨h1, t1, t2, t3⟩ := sX1_fitTo (d := d + 42) (pa := pa) e28 hb hl hS.1 hz
  have hfar := lE_far e28 hb
  have hS1 : gS h1 b m T := hS.fr (fun a a1 a2 => t3 a (by omega))
  have on := gX0_onTurn (d := d + 44) (pa := pa) hb hS1.1 hz
  have ho : qzC (d + 44) 11 [.ref b, .int (nI (m 3))] (67, qzRr pa, h1) = some (some (.int (nI (zEn (m (28 + 6 * m 3 + 3))))), (67, qzRr pa, h1)) := gX0_endOfCoat (d := d + 43) (pa := pa) hb hS1.1 hz hS1.2.1 m3
  have ho2 : qzC (d + 44) 11 [.ref b, .int (nI (1 - m 3))] (67, qzRr pa, h1) = some (some (.int (nI (zEn (m (28 + 6 * (1 - m 3) + 3))))), (67, qzRr pa, h1)) := gX0_endOfCoat (d := d + 43) (pa := pa) hb hS1.1 hz hS1.2.1 (by omega)
  have u0 : ∃ h2, qzC (d + 44) 68 [.ref 28, .int (nI (m 1)), .int (nI (m 1 + m 2)), .int (nI (zEn (m (28 + 6 * m 3 + 3)))), .int (nI (zEn (m (28 + 6 * (1 - m 3) + 3)))), .int (nI (zCo k g)), .int (nI 0)] (67, qzRr pa, h1) = some (some (.int (iI (zCand (zCol m) (m 6) (m 7) (m 5) (m 1) (m 2) (zEx (zEn (m (28 + 6 * m 3 + 3)))) (zEx (zEn (m (28 + 6 * (1 - m 3) + 3)))) k g))), (67, qzRr pa, h2)) ∧ lTab h2 28 (zCol m) (m 6) (m 7) (m 5) (m 0) ∧ ∀ a, a ≠ 28 + 3 → h2 a = h1 a := lThrough2 (d := d + 39) (pa := pa) e28 t2 (fun l' hl' d f own oth dep h => lInto e28 m5.1 l' l' (Nat.le_refl _) d f own oth dep h) (by omega) hz.2.1 (zEn_le o1) (zEn_le o2) hk hk5 hk2 hg (by omega)
  obtain ⟨h2, u1, u2, u3⟩ := u0
  rw [zEx_En o1, zEx_En o2] at u1
  obtain ⟨⟨g6, g7, g8, g9⟩, -, -, -⟩ := hS1.1
  refine ⟨h2, ?_, ⟨_, _, _, _, _, u2⟩, fun a ha => (u3 a (by omega)).trans (t3 a (by omega))⟩
  generalize zCand (zCol m) (m 6) (m 7) (m 5) (m 1) (m 2) (m (28 + 6 * m 3 + 3)) (m (28 + 6 * (1 - m 3) + 3)) k g = V at *
  generalize zEn (m (28 + 6 * m 3 + 3)) = O1 at *
  generalize zEn (m (28 + 6 * (1 - m 3) + 3)) = O2 at *
  simp (disch := first | assumption | omega | (refine nI_ne0 ?_ ?_ <;> omega) | exact agG (by assumption) | exact agG (Or.inl rfl) | exact al22 | (refine qi_22 ?_; omega) | exact ar_0 | exact arE (by assumption) | (refine cpG ?_ ?_ ?_ <;> first | assumption | omega) | exact le67 | exact al23 | (refine qi_23 ?_; omega) | exact ar_22 | exact ar_23 | exact ar_24 | exact ar_28 | exact ln0 | exact ln1 | exact ln2 | exact ln3 | exact ln4 | exact ln5 | exact ln6 | exact ln7 | exact ln8 | exact nbf0 | exact nbf1 | exact nb0n | exact nb1n | (refine nn0 ?_ ?_ <;> omega) | exact nb0 | exact nb1 | decide) only [kX2_leadOfCut, eX2_leadOfCut_0, eX2_leadOfCut_1, eX2_leadOfCut_4, eX2_leadOfCut_5, eX2_leadOfCut_8, eX2_leadOfCut_9, eX2_leadOfCut_10, eX2_leadOfCut_13, eX2_leadOfCut_16, eX2_leadOfCut_17, eX2_leadOfCut_18, eX2_leadOfCut_19, eX2_leadOfCut_20, eX2_leadOfCut_23, eX2_leadOfCut_24, eX2_leadOfCut_27, eX2_leadOfCut_29, eX2_leadOfCut_30, eX2_leadOfCut_33, eX2_leadOfCut_34, eX2_leadOfCut_37, eX2_leadOfCut_38, eX2_leadOfCut_41, eX2_leadOfCut_42, eX2_leadOfCut_44, eX2_leadOfCut_45, eX2_leadOfCut_46, eX2_leadOfCut_49, vrf_s, vrf_n, rG_0, rG_1, rG_2, rG_3, rG_4, rG_5, rr_1_0, rr_1_1, rr_1_2, rr_1_3, rr_1_4, rr_1_5, rr_8_0, rr_8_1, rr_8_2, rr_8_3, rr_8_4, rr_8_5, rL_0, rL_1, rL_2, rr_0_0, rr_0_1, rr_0_2, rr_0_4, rr_0_6, rr_0_8, rr_0_9, Option.bind_some, Option.toList_some, Option.toList_none, List.cons_append, List.nil_append, List.singleton_append, nI_add, nI_mul, nI_sub, nI_cl, li_0, li_1, li_2, li_3, li_4, li_5, li_6, li_7, li_8, li_9, li_10, li_11, li_12, li_13, li_14, li_15, li_16, li_17, li_18, li_19, li_20, li_21, li_22, li_23, li_24, li_25, li_26, li_27, li_28, li_29, li_30, li_31, li_32, li_33, li_34, li_35, li_36, li_37, li_38, li_39, li_40, li_41, li_42, li_43, li_44, li_45, li_46, li_47, li_48, li_49, li_50, li_51, li_52, li_53, li_54, li_55, li_56, li_57, li_58, li_59, li_60, li_61, li_97, li_98, li_102, li_103, li_108, li_114, li_120, li_126, li_360, li_480, li_1000, li_10000, t1, on, ho, ho2, g7, g8, u1, nI_eq', eq_self, if_true, if_false, not_true_eq_false, not_false_eq_true, Nat.one_ne_zero]
end CLS19
