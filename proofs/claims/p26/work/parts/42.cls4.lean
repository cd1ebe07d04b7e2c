/-! the class: a cut of a game -/
theorem qzUp_o {h : Nat → Nat → Int32} {a i a' j : Nat} {v : Int32} (hne : ¬ a' = a) : qzUp h a i v a' j = h a' j := by simp [qzUp, hne]
theorem qzUp_i {h : Nat → Nat → Int32} {a i j : Nat} {v : Int32} (hne : ¬ j = i) : qzUp h a i v a j = h a j := by simp [qzUp, hne]
theorem qzUp_s {h : Nat → Nat → Int32} {a i : Nat} {v : Int32} : qzUp h a i v a i = v := by simp [qzUp]
theorem nI_or1 : ∀ t, t < 8 → t % 2 = 0 → nI t ||| nI 1 = nI (t + 1) := by decide
/-- what the coat of the tailor on turn ends in, as the class tells it -/
def zEn (x : Nat) : Nat := if x = 0 then 6 else x - 1
/-- the cells after a cut -/
def zSw (h : Nat → Nat → Int32) (b : Nat) (m : Nat → Nat) (k g : Nat) : Nat → Nat → Int32 :=
  qzUp (qzUp (qzUp (qzUp (qzUp (qzUp (qzUp h (b + 3) (m 4) (nI (zGoA m k g))) (b + 4) (m 4) (nI k)) (b + 5) (m 4) (nI (zGoW m k g))) (b + 6) (m 4) (nI (if g = 0 then zTr (zCol m) (zGoA m k g) k (zEn (m (28 + 6 * m 3 + 3))) else zTr (zCol m) (zGoA m k g) k (zEn (m (28 + 6 * m 3 + 3))) + 1))) b 9 (nI (m 4 + 1))) b 7 (nI (if g = 0 then m 1 else m 1 + k))) b 8 (nI (if g = 0 then m 1 + m 2 - k else m 1 + m 2))
section CLS5
variable {d : Nat} {pa : Nat → Nat} {h : Nat → Nat → Int32} {b : Nat} {m T : Nat → Nat} {k g : Nat}
theorem sX2_put20 {a j : Nat} {x : Int32} (ha : rA a 20) (hk : j < 20) : qzC d 85 [.ref a, .int (nI j), .int x] (67, qzRr pa, h) = some (none, (67, qzRr pa, qzUp h a j x)) := by
  exact sX2_put ha hk
theorem gX0_worthOfCut (hb : gB b) (hg : gRel h b m T) (hi : zInv m) (hI : gInv m T) (hk : 1 ≤ k) (hk2 : k ≤ m 2) (hk5 : k ≤ 5) (hg1 : g ≤ 1) : qzC (d + 3) 7 [.ref b, .int (nI (zCo k g))] (67, qzRr pa, h) = some (some (.int (nI (zGoW m k g))), (67, qzRr pa, h)) := by
  have h2 := hi.1.2
  have h3 := hi.2.1
  have ht1 : m 3 ≤ 1 := by have := hi.2.2.1; omega
  have hL := (hi.2.2.2.2.2.2.2.2.1 (m 3) ht1).2.2.2.1
  obtain ⟨⟨g6, g7, g8, g9⟩, gc, gs, gp⟩ := id hg
  have b0 := aG_0 hb
  have b1 := aG_1 hb
  have hA : zGoA m k g + k ≤ m 1 + m 2 := by unfold zGoA; split <;> omega
  have f1 := sX2_sizeOf (d := d + 1) (hp := (67, qzRr pa, h)) hk hk5 hg1
  have f2 := sX2_pieceStart (d := d) (hp := (67, qzRr pa, h)) hk hk5 hg1 (f := m 1) (e := m 1 + m 2) (by omega)
  change qzC (d + 2) 56 [.int (nI (m 1)), .int (nI (m 1 + m 2)), .int (nI (zCo k g))] (67, qzRr pa, h) = some (some (.int (nI (zGoA m k g))), (67, qzRr pa, h)) at f2
  have f3 := gX0_onTurn (d := d + 2) (pa := pa) hb hg hi
  have f4 := gX0_endOfCoat (d := d + 1) (pa := pa) hb hg hi hI ht1
  change qzC (d + 1 + 1) 11 [.ref b, .int (nI (m 3))] (67, qzRr pa, h) = some (some (.int (nI (zEn (m (28 + 6 * m 3 + 3))))), (67, qzRr pa, h)) at f4
  have hE6 : zEn (m (28 + 6 * m 3 + 3)) ≤ 6 := by unfold zEn; split <;> omega
  have hc5 : ∀ i, zGoA m k g ≤ i → i < zGoA m k g + k → m (8 + i) ≤ 5 := fun i _ h2 => hi.2.2.2.2.2.2.2.1 i (by omega)
  have f5 := sX2_traitsOf (d := d) (pa := pa) (c := zCol m) (s := zGoA m k g) (k := k) b0 (by omega) (fun i _ h2 => gc i (by omega)) hc5 hk hE6
  have hz := zTr_in (c := zCol m) (s := zGoA m k g) (k := k) (E := zEn (m (28 + 6 * m 3 + 3)))
  have f6 := sX2_worthOf (d := d + 1) (pa := pa) (h := h) (k := k) (F := m 6) (M := m 7) (tr := zTr (zCol m) (zGoA m k g) k (zEn (m (28 + 6 * m 3 + 3)))) b1 (gs 1 (by omega)) (gs 2 (by omega)) (by omega)
  have hs5 := hc5 (zGoA m k g) (Nat.le_refl _) (by omega)
  rw [zWt_eq (Lc := m (28 + 6 * m 3 + 3)) (by
    unfold zEn
    show m (8 + zGoA m k g) = _ ↔ m (28 + 6 * m 3 + 3) = m (8 + zGoA m k g) + 1
    split <;> omega)] at f6
  change qzC (d + 1 + 1) 70 [.int (nI k), .int (nI (zTr (zCol m) (zGoA m k g) k (zEn (m (28 + 6 * m 3 + 3))))), .ref (b + 2)] (67, qzRr pa, h) = some (some (.int (nI (zGoW m k g))), (67, qzRr pa, h)) at f6
  clear hA hz hs5 hc5 gc gs gp hI hi hL
  generalize zGoW m k g = W at *
  generalize zTr (zCol m) (zGoA m k g) k (zEn (m (28 + 6 * m 3 + 3))) = tr at *
  generalize zEn (m (28 + 6 * m 3 + 3)) = E at *
  generalize zGoA m k g = A at *
  simp (disch := first | assumption | omega | (refine nI_ne0 ?_ ?_ <;> omega) | exact agG (by assumption) | exact ar_0 | exact ar_22 | exact ar_23 | exact ar_24 | exact ar_28 | exact ln0 | exact ln1 | exact ln2 | exact ln3 | exact ln4 | exact ln5 | exact nbf0 | exact nbf1 | exact nb0n | exact nb1n | (refine nn0 ?_ ?_ <;> omega) | exact nb0 | exact nb1 | decide) only [kX0_worthOfCut, eX0_worthOfCut_0, eX0_worthOfCut_1, eX0_worthOfCut_4, eX0_worthOfCut_5, eX0_worthOfCut_6, eX0_worthOfCut_9, eX0_worthOfCut_10, eX0_worthOfCut_13, eX0_worthOfCut_14, eX0_worthOfCut_17, eX0_worthOfCut_18, eX0_worthOfCut_19, eX0_worthOfCut_20, eX0_worthOfCut_23, eX0_worthOfCut_24, eX0_worthOfCut_25, eX0_worthOfCut_26, eX0_worthOfCut_27, eX0_worthOfCut_30, eX0_worthOfCut_33, eX0_worthOfCut_36, eX0_worthOfCut_37, eX0_worthOfCut_40, eX0_worthOfCut_43, vrf_s, vrf_n, rG_0, rG_1, rG_2, rG_3, rG_4, rG_5, rr_0_0, rr_0_1, rr_0_2, rr_0_4, rr_0_6, rr_0_8, rr_0_9, Option.bind_some, Option.toList_some, Option.toList_none, List.cons_append, List.nil_append, List.singleton_append, nI_add, nI_mul, nI_sub, nI_cl, li_0, li_1, li_2, li_3, li_4, li_5, li_6, li_7, li_8, li_9, li_10, li_11, li_12, li_13, li_14, li_15, li_16, li_17, li_18, li_19, li_20, li_21, li_22, li_23, li_24, li_25, li_26, li_27, li_28, li_29, li_30, li_31, li_32, li_33, li_34, li_35, li_36, li_37, li_38, li_39, li_40, li_41, li_42, li_43, li_44, li_45, li_46, li_47, li_48, li_49, li_50, li_51, li_52, li_53, li_54, li_55, li_56, li_57, li_58, li_59, li_60, li_61, li_97, li_98, li_102, li_103, li_108, li_114, li_120, li_126, li_360, li_480, li_1000, li_10000, g7, g8, f1, f2, f3, f4, f5, f6, nI_eq', eq_self, if_true, if_false, not_true_eq_false, not_false_eq_true, Nat.one_ne_zero]
theorem gX0_sew (hb : gB b) (hg : gRel h b m T) (hi : zInv m) (hI : gInv m T) (hk : 1 ≤ k) (hk2 : k ≤ m 2) (hk5 : k ≤ 5) (hg1 : g ≤ 1) : qzC (d + 3) 8 [.ref b, .int (nI (zCo k g))] (67, qzRr pa, h) = some (some (.int (nI (zGoW m k g))), (67, qzRr pa, zSw h b m k g)) := by
  have h2 := hi.1.2
  have h3 := hi.2.1
  have ht1 : m 3 ≤ 1 := by have := hi.2.2.1; omega
  have hL := (hi.2.2.2.2.2.2.2.2.1 (m 3) ht1).2.2.2.1
  obtain ⟨⟨g6, g7, g8, g9⟩, gc, gs, gp⟩ := id hg
  have b0 := aG_0 hb
  have b1 := aG_1 hb
  have hA : zGoA m k g + k ≤ m 1 + m 2 := by unfold zGoA; split <;> omega
  have f1 := sX2_sizeOf (d := d + 1) (hp := (67, qzRr pa, h)) hk hk5 hg1
  have f2 := sX2_pieceStart (d := d) (hp := (67, qzRr pa, h)) hk hk5 hg1 (f := m 1) (e := m 1 + m 2) (by omega)
  change qzC (d + 2) 56 [.int (nI (m 1)), .int (nI (m 1 + m 2)), .int (nI (zCo k g))] (67, qzRr pa, h) = some (some (.int (nI (zGoA m k g))), (67, qzRr pa, h)) at f2
  have f3 := gX0_onTurn (d := d + 2) (pa := pa) hb hg hi
  have f4 := gX0_endOfCoat (d := d + 1) (pa := pa) hb hg hi hI ht1
  change qzC (d + 1 + 1) 11 [.ref b, .int (nI (m 3))] (67, qzRr pa, h) = some (some (.int (nI (zEn (m (28 + 6 * m 3 + 3))))), (67, qzRr pa, h)) at f4
  have hE6 : zEn (m (28 + 6 * m 3 + 3)) ≤ 6 := by unfold zEn; split <;> omega
  have hc5 : ∀ i, zGoA m k g ≤ i → i < zGoA m k g + k → m (8 + i) ≤ 5 := fun i _ h2 => hi.2.2.2.2.2.2.2.1 i (by omega)
  have f5 := sX2_traitsOf (d := d) (pa := pa) (c := zCol m) (s := zGoA m k g) (k := k) b0 (by omega) (fun i _ h2 => gc i (by omega)) hc5 hk hE6
  have hz := zTr_in (c := zCol m) (s := zGoA m k g) (k := k) (E := zEn (m (28 + 6 * m 3 + 3)))
  have f6 := sX2_worthOf (d := d + 1) (pa := pa) (h := h) (k := k) (F := m 6) (M := m 7) (tr := zTr (zCol m) (zGoA m k g) k (zEn (m (28 + 6 * m 3 + 3)))) b1 (gs 1 (by omega)) (gs 2 (by omega)) (by omega)
  have hs5 := hc5 (zGoA m k g) (Nat.le_refl _) (by omega)
  rw [zWt_eq (Lc := m (28 + 6 * m 3 + 3)) (by
    unfold zEn
    show m (8 + zGoA m k g) = _ ↔ m (28 + 6 * m 3 + 3) = m (8 + zGoA m k g) + 1
    split <;> omega)] at f6
  change qzC (d + 1 + 1) 70 [.int (nI k), .int (nI (zTr (zCol m) (zGoA m k g) k (zEn (m (28 + 6 * m 3 + 3))))), .ref (b + 2)] (67, qzRr pa, h) = some (some (.int (nI (zGoW m k g))), (67, qzRr pa, h)) at f6
  have h4 : m 4 < 20 := by have := hi.2.2.2.1; omega
  have b2 := aG_2 hb
  have b3 := aG_3 hb
  have b4 := aG_4 hb
  have b5 := aG_5 hb
  have f7 : ∀ h : Nat → Nat → Int32, qzC (d + 2) 54 [.int (nI (zCo k g))] (67, qzRr pa, h) = some (some (.int (nI g)), (67, qzRr pa, h)) := fun h => sX2_isFromLeft hk hk5 hg1
  have f8 : ∀ h : Nat → Nat → Int32, qzC (d + 2) 57 [.int (nI (m 1)), .int (nI (zCo k g))] (67, qzRr pa, h) = some (some (.int (nI (if g = 0 then m 1 else m 1 + k))), (67, qzRr pa, h)) := fun h => sX2_restStart (e := 0) hk hk5 hg1
  have f9 : ∀ h : Nat → Nat → Int32, qzC (d + 2) 58 [.int (nI (m 1 + m 2)), .int (nI (zCo k g))] (67, qzRr pa, h) = some (some (.int (nI (if g = 0 then m 1 + m 2 - k else m 1 + m 2))), (67, qzRr pa, h)) := fun h => sX2_restEnd (f := 0) hk hk5 hg1 (by omega)
  have fo := nI_or1 (zTr (zCol m) (zGoA m k g) k (zEn (m (28 + 6 * m 3 + 3)))) (by omega) hz.2.1
  clear hA hz hs5 hc5 gc gs gp hI hi hL
  unfold zSw
  generalize zGoW m k g = W at *
  generalize zTr (zCol m) (zGoA m k g) k (zEn (m (28 + 6 * m 3 + 3))) = tr at *
  generalize zEn (m (28 + 6 * m 3 + 3)) = E at *
  generalize zGoA m k g = A at *
  generalize hC : zCo k g = C at *
  rcases (by omega : g = 0 ∨ g = 1) with e | e
  · subst e
    simp only [if_pos] at f8 f9 ⊢
    simp (disch := first | assumption | omega | (refine nI_ne0 ?_ ?_ <;> omega) | exact agG (by assumption) | exact ar_0 | exact ar_22 | exact ar_23 | exact ar_24 | exact ar_28 | exact ln0 | exact ln1 | exact ln2 | exact ln3 | exact ln4 | exact ln5 | exact nbf0 | exact nbf1 | exact nb0n | exact nb1n | (refine nn0 ?_ ?_ <;> omega) | exact nb0 | exact nb1 | decide) only [kX0_sew, eX0_sew_0, eX0_sew_1, eX0_sew_4, eX0_sew_5, eX0_sew_6, eX0_sew_9, eX0_sew_10, eX0_sew_13, eX0_sew_14, eX0_sew_17, eX0_sew_18, eX0_sew_19, eX0_sew_22, eX0_sew_23, eX0_sew_24, eX0_sew_25, eX0_sew_26, eX0_sew_29, eX0_sew_32, eX0_sew_35, eX0_sew_37, eX0_sew_38, eX0_sew_40, eX0_sew_41, eX0_sew_44, eX0_sew_47, eX0_sew_49, eX0_sew_50, eX0_sew_53, eX0_sew_54, eX0_sew_57, eX0_sew_58, eX0_sew_61, eX0_sew_62, eX0_sew_65, eX0_sew_66, eX0_sew_69, eX0_sew_70, eX0_sew_73, eX0_sew_74, eX0_sew_77, eX0_sew_78, eX0_sew_81, eX0_sew_83, eX0_sew_86, eX0_sew_87, eX0_sew_90, eX0_sew_91, eX0_sew_94, eX0_sew_95, eX0_sew_98, eX0_sew_101, eX0_sew_103, eX0_sew_104, eX0_sew_105, eX0_sew_108, eX0_sew_110, eX0_sew_113, eX0_sew_114, eX0_sew_115, eX0_sew_118, eX0_sew_119, eX0_sew_120, eX0_sew_123, eX0_sew_124, eX0_sew_125, eX0_sew_128, eX0_sew_129, eX0_sew_132, eX0_sew_135, eX0_sew_136, eX0_sew_137, eX0_sew_140, eX0_sew_141, eX0_sew_144, eX0_sew_147, eX0_sew_149, vrf_s, vrf_n, rG_0, rG_1, rG_2, rG_3, rG_4, rG_5, rr_0_0, rr_0_1, rr_0_2, rr_0_4, rr_0_6, rr_0_8, rr_0_9, Option.bind_some, Option.toList_some, Option.toList_none, List.cons_append, List.nil_append, List.singleton_append, nI_add, nI_mul, nI_sub, nI_cl, li_0, li_1, li_2, li_3, li_4, li_5, li_6, li_7, li_8, li_9, li_10, li_11, li_12, li_13, li_14, li_15, li_16, li_17, li_18, li_19, li_20, li_21, li_22, li_23, li_24, li_25, li_26, li_27, li_28, li_29, li_30, li_31, li_32, li_33, li_34, li_35, li_36, li_37, li_38, li_39, li_40, li_41, li_42, li_43, li_44, li_45, li_46, li_47, li_48, li_49, li_50, li_51, li_52, li_53, li_54, li_55, li_56, li_57, li_58, li_59, li_60, li_61, li_97, li_98, li_102, li_103, li_108, li_114, li_120, li_126, li_360, li_480, li_1000, li_10000, g7, g8, g9, f1, f2, f3, f4, f5, f6, f7, f8, f9, fo, sX2_put20, qzUp_o, qzUp_i, qzUp_s, nI_eq', eq_self, if_true, if_false, not_true_eq_false, not_false_eq_true, Nat.one_ne_zero]
  · subst e
    have n10 : ¬ (1 : Nat) = 0 := by decide
    simp only [if_neg n10] at f8 f9 ⊢
    simp (disch := first | assumption | omega | (refine nI_ne0 ?_ ?_ <;> omega) | exact agG (by assumption) | exact ar_0 | exact ar_22 | exact ar_23 | exact ar_24 | exact ar_28 | exact ln0 | exact ln1 | exact ln2 | exact ln3 | exact ln4 | exact ln5 | exact nbf0 | exact nbf1 | exact nb0n | exact nb1n | (refine nn0 ?_ ?_ <;> omega) | exact nb0 | exact nb1 | decide) only [kX0_sew, eX0_sew_0, eX0_sew_1, eX0_sew_4, eX0_sew_5, eX0_sew_6, eX0_sew_9, eX0_sew_10, eX0_sew_13, eX0_sew_14, eX0_sew_17, eX0_sew_18, eX0_sew_19, eX0_sew_22, eX0_sew_23, eX0_sew_24, eX0_sew_25, eX0_sew_26, eX0_sew_29, eX0_sew_32, eX0_sew_35, eX0_sew_37, eX0_sew_38, eX0_sew_40, eX0_sew_41, eX0_sew_44, eX0_sew_47, eX0_sew_49, eX0_sew_50, eX0_sew_53, eX0_sew_54, eX0_sew_57, eX0_sew_58, eX0_sew_61, eX0_sew_62, eX0_sew_65, eX0_sew_66, eX0_sew_69, eX0_sew_70, eX0_sew_73, eX0_sew_74, eX0_sew_77, eX0_sew_78, eX0_sew_81, eX0_sew_83, eX0_sew_86, eX0_sew_87, eX0_sew_90, eX0_sew_91, eX0_sew_94, eX0_sew_95, eX0_sew_98, eX0_sew_101, eX0_sew_103, eX0_sew_104, eX0_sew_105, eX0_sew_108, eX0_sew_110, eX0_sew_113, eX0_sew_114, eX0_sew_115, eX0_sew_118, eX0_sew_119, eX0_sew_120, eX0_sew_123, eX0_sew_124, eX0_sew_125, eX0_sew_128, eX0_sew_129, eX0_sew_132, eX0_sew_135, eX0_sew_136, eX0_sew_137, eX0_sew_140, eX0_sew_141, eX0_sew_144, eX0_sew_147, eX0_sew_149, vrf_s, vrf_n, rG_0, rG_1, rG_2, rG_3, rG_4, rG_5, rr_0_0, rr_0_1, rr_0_2, rr_0_4, rr_0_6, rr_0_8, rr_0_9, Option.bind_some, Option.toList_some, Option.toList_none, List.cons_append, List.nil_append, List.singleton_append, nI_add, nI_mul, nI_sub, nI_cl, li_0, li_1, li_2, li_3, li_4, li_5, li_6, li_7, li_8, li_9, li_10, li_11, li_12, li_13, li_14, li_15, li_16, li_17, li_18, li_19, li_20, li_21, li_22, li_23, li_24, li_25, li_26, li_27, li_28, li_29, li_30, li_31, li_32, li_33, li_34, li_35, li_36, li_37, li_38, li_39, li_40, li_41, li_42, li_43, li_44, li_45, li_46, li_47, li_48, li_49, li_50, li_51, li_52, li_53, li_54, li_55, li_56, li_57, li_58, li_59, li_60, li_61, li_97, li_98, li_102, li_103, li_108, li_114, li_120, li_126, li_360, li_480, li_1000, li_10000, g7, g8, g9, f1, f2, f3, f4, f5, f6, f7, f8, f9, fo, sX2_put20, qzUp_o, qzUp_i, qzUp_s, nI_eq', eq_self, if_true, if_false, not_true_eq_false, not_false_eq_true, Nat.one_ne_zero]
end CLS5
