/-! the class: a game against the numbers of the reference -/
/-- where the reference keeps the piece of a cut -/
def zQ (j : Nat) : Nat := 40 + 40 * (j % 2) + 4 * (j / 2)
/-- the numbers of one tailor's pieces, in all -/
def zSm (v : Nat → Nat) (t : Nat) : Nat → Nat
  | 0 => 0
  | n + 1 => zSm v t n + (if n % 2 = t then v n else 0)
/-- a Game is the numbers m; T: the traits of its pieces -/
def gRel (h : Nat → Nat → Int32) (b : Nat) (m T : Nat → Nat) : Prop := gN h b (m 0) (m 1) (m 1 + m 2) (m 4) ∧ (∀ i, i < m 0 → h (b + 1) i = nI (m (8 + i))) ∧ (∀ k, k < 3 → h (b + 2) k = nI (m (5 + k))) ∧
  ∀ j, j < m 4 → h (b + 3) j = nI (m (zQ j)) ∧ h (b + 4) j = nI (m (zQ j + 1)) ∧ h (b + 5) j = nI (m (zQ j + 2)) ∧ h (b + 6) j = nI (T j)
/-- the coats are what the pieces say -/
def gInv (m T : Nat → Nat) : Prop := (∀ j, j < m 4 → 1 ≤ m (zQ j + 1) ∧ m (zQ j) + m (zQ j + 1) ≤ m 0 ∧ (m (zQ j) + m (zQ j + 1) ≤ m 1 ∨ m 1 + m 2 ≤ m (zQ j)) ∧ T j ≤ 7 ∧ T j % 2 = m (zQ j + 3)) ∧
  ∀ t, t ≤ 1 → m (28 + 6 * t + 0) = zSm (fun j => m (zQ j + 2)) t (m 4) ∧ m (28 + 6 * t + 2) = zSm (fun j => m (zQ j + 1)) t (m 4) ∧ m (28 + 6 * t + 4) = zSm (fun j => if T j &&& 2 = 0 then 0 else 1) t (m 4) ∧ m (28 + 6 * t + 5) = zSm (fun j => if T j &&& 4 = 0 then 0 else 1) t (m 4) ∧
    ((m 4 + 1 - t) / 2 = 0 → m (28 + 6 * t + 3) = 0) ∧ ((m 4 + 1 - t) / 2 ≠ 0 → m (28 + 6 * t + 3) = m (8 + (m (zQ (2 * ((m 4 + 1 - t) / 2 - 1) + t)) + m (zQ (2 * ((m 4 + 1 - t) / 2 - 1) + t) + 1) - 1)) + 1)
theorem nI_and1 : ∀ n, n < 21 → nI n &&& nI 1 = nI (n % 2) := by decide
theorem nI_and : ∀ a, a < 8 → ∀ b, b < 8 → nI a &&& nI b = nI (a &&& b) := by decide
theorem zSm_end {v : Nat → Nat} {t c i : Nat} (h1 : c ≤ i) (h2 : i ≤ c + 1) (h3 : i % 2 = t) : zSm v t i = zSm v t c := by
  rcases (by omega : i = c ∨ i = c + 1) with e | e
  · rw [e]
  · rw [e]
    show zSm v t c + (if c % 2 = t then v c else 0) = _
    rw [if_neg (by omega)]
    rfl
theorem zSm_two {v : Nat → Nat} {t i : Nat} (h3 : i % 2 = t) : zSm v t (i + 2) = zSm v t i + v i := by
  show zSm v t i + (if i % 2 = t then v i else 0) + (if (i + 1) % 2 = t then v (i + 1) else 0) = _
  rw [if_pos h3, if_neg (by omega)]
  rfl
section CLS3
variable {d : Nat} {pa : Nat → Nat} {h : Nat → Nat → Int32} {b : Nat} {m T : Nat → Nat}
theorem gX0_onTurn (hb : gB b) (hg : gRel h b m T) (hi : zInv m) : qzC d 5 [.ref b] (67, qzRr pa, h) = some (some (.int (nI (m 3))), (67, qzRr pa, h)) := by
  obtain ⟨⟨g6, g7, g8, g9⟩, -, -, -⟩ := hg
  have e := nI_and1 (m 4) (by have := hi.1.2; have := hi.2.2.2.1; omega)
  rw [← hi.2.2.1] at e
  simp (disch := first | assumption | omega | (refine nI_ne0 ?_ ?_ <;> omega) | exact agG (by assumption) | exact ar_0 | exact ar_22 | exact ar_23 | exact ar_24 | exact ar_28 | exact ln0 | exact ln1 | exact ln2 | exact ln3 | exact ln4 | exact ln5 | exact nbf0 | exact nbf1 | exact nb0n | exact nb1n | (refine nn0 ?_ ?_ <;> omega) | exact nb0 | exact nb1 | decide) only [kX0_onTurn, eX0_onTurn_0, eX0_onTurn_1, eX0_onTurn_4, eX0_onTurn_5, eX0_onTurn_6, vrf_s, vrf_n, rG_0, rG_1, rG_2, rG_3, rG_4, rG_5, rr_0_0, rr_0_1, rr_0_2, rr_0_4, rr_0_6, rr_0_8, rr_0_9, Option.bind_some, Option.toList_some, Option.toList_none, List.cons_append, List.nil_append, List.singleton_append, nI_add, nI_mul, nI_sub, nI_cl, li_0, li_1, li_2, li_3, li_4, li_5, li_6, li_7, li_8, li_9, li_10, li_11, li_12, li_13, li_14, li_15, li_16, li_17, li_18, li_19, li_20, li_21, li_22, li_23, li_24, li_25, li_26, li_27, li_28, li_29, li_30, li_31, li_32, li_33, li_34, li_35, li_36, li_37, li_38, li_39, li_40, li_41, li_42, li_43, li_44, li_45, li_46, li_47, li_48, li_49, li_50, li_51, li_52, li_53, li_54, li_55, li_56, li_57, li_58, li_59, li_60, li_61, li_97, li_98, li_102, li_103, li_108, li_114, li_120, li_126, li_360, li_480, li_1000, li_10000, g9, e, nI_eq', eq_self, if_true, if_false, not_true_eq_false, not_false_eq_true, Nat.one_ne_zero]
theorem gX0_longestCut (hb : gB b) (hg : gRel h b m T) (hi : zInv m) : qzC (d + 1) 6 [.ref b] (67, qzRr pa, h) = some (some (.int (nI (min (m 5) (m 2)))), (67, qzRr pa, h)) := by
  have hr := gX0_remaining (d := d) (pa := pa) hb hg.1 (by omega)
  rw [Nat.add_sub_cancel_left] at hr
  have h2 := hi.1.2
  have h3 := hi.2.1
  have h5 := hi.2.2.2.2.1.2
  have a1 := aG_1 hb
  have ha := sX2_at (d := d) (pa := pa) (h := h) (k := 0) a1 (by omega)
  have s0 := hg.2.2.1 0 (by omega)
  by_cases q : m 2 < m 5
  · rw [show min (m 5) (m 2) = m 2 by omega]
    simp (disch := first | assumption | omega | (refine nI_ne0 ?_ ?_ <;> omega) | exact agG (by assumption) | exact ar_0 | exact ar_22 | exact ar_23 | exact ar_24 | exact ar_28 | exact ln0 | exact ln1 | exact ln2 | exact ln3 | exact ln4 | exact ln5 | exact nbf0 | exact nbf1 | exact nb0n | exact nb1n | (refine nn0 ?_ ?_ <;> omega) | exact nb0 | exact nb1 | decide) only [kX0_longestCut, eX0_longestCut_0, eX0_longestCut_1, eX0_longestCut_4, eX0_longestCut_5, eX0_longestCut_8, eX0_longestCut_9, eX0_longestCut_12, eX0_longestCut_15, vrf_s, vrf_n, rG_0, rG_1, rG_2, rG_3, rG_4, rG_5, rr_0_0, rr_0_1, rr_0_2, rr_0_4, rr_0_6, rr_0_8, rr_0_9, Option.bind_some, Option.toList_some, Option.toList_none, List.cons_append, List.nil_append, List.singleton_append, nI_add, nI_mul, nI_sub, nI_cl, li_0, li_1, li_2, li_3, li_4, li_5, li_6, li_7, li_8, li_9, li_10, li_11, li_12, li_13, li_14, li_15, li_16, li_17, li_18, li_19, li_20, li_21, li_22, li_23, li_24, li_25, li_26, li_27, li_28, li_29, li_30, li_31, li_32, li_33, li_34, li_35, li_36, li_37, li_38, li_39, li_40, li_41, li_42, li_43, li_44, li_45, li_46, li_47, li_48, li_49, li_50, li_51, li_52, li_53, li_54, li_55, li_56, li_57, li_58, li_59, li_60, li_61, li_97, li_98, li_102, li_103, li_108, li_114, li_120, li_126, li_360, li_480, li_1000, li_10000, hr, ha, s0, nI_lt', q, Nat.add_zero, nI_eq', eq_self, if_true, if_false, not_true_eq_false, not_false_eq_true, Nat.one_ne_zero]
  · rw [show min (m 5) (m 2) = m 5 by omega]
    simp (disch := first | assumption | omega | (refine nI_ne0 ?_ ?_ <;> omega) | exact agG (by assumption) | exact ar_0 | exact ar_22 | exact ar_23 | exact ar_24 | exact ar_28 | exact ln0 | exact ln1 | exact ln2 | exact ln3 | exact ln4 | exact ln5 | exact nbf0 | exact nbf1 | exact nb0n | exact nb1n | (refine nn0 ?_ ?_ <;> omega) | exact nb0 | exact nb1 | decide) only [kX0_longestCut, eX0_longestCut_0, eX0_longestCut_1, eX0_longestCut_4, eX0_longestCut_5, eX0_longestCut_8, eX0_longestCut_9, eX0_longestCut_12, eX0_longestCut_15, vrf_s, vrf_n, rG_0, rG_1, rG_2, rG_3, rG_4, rG_5, rr_0_0, rr_0_1, rr_0_2, rr_0_4, rr_0_6, rr_0_8, rr_0_9, Option.bind_some, Option.toList_some, Option.toList_none, List.cons_append, List.nil_append, List.singleton_append, nI_add, nI_mul, nI_sub, nI_cl, li_0, li_1, li_2, li_3, li_4, li_5, li_6, li_7, li_8, li_9, li_10, li_11, li_12, li_13, li_14, li_15, li_16, li_17, li_18, li_19, li_20, li_21, li_22, li_23, li_24, li_25, li_26, li_27, li_28, li_29, li_30, li_31, li_32, li_33, li_34, li_35, li_36, li_37, li_38, li_39, li_40, li_41, li_42, li_43, li_44, li_45, li_46, li_47, li_48, li_49, li_50, li_51, li_52, li_53, li_54, li_55, li_56, li_57, li_58, li_59, li_60, li_61, li_97, li_98, li_102, li_103, li_108, li_114, li_120, li_126, li_360, li_480, li_1000, li_10000, hr, ha, s0, nI_lt', q, Nat.add_zero, nI_eq', eq_self, if_true, if_false, not_true_eq_false, not_false_eq_true, Nat.one_ne_zero]
theorem gX0_endOfCoat (hb : gB b) (hg : gRel h b m T) (hi : zInv m) (hI : gInv m T) {t : Nat} (ht : t ≤ 1) : qzC (d + 1) 11 [.ref b, .int (nI t)] (67, qzRr pa, h) = some (some (.int (nI (if m (28 + 6 * t + 3) = 0 then 6 else m (28 + 6 * t + 3) - 1))), (67, qzRr pa, h)) := by
  have h2 := hi.1.2
  have h4 : m 4 ≤ 20 := by have := hi.2.2.2.1; omega
  have hp := gX0_piecesOf (d := d) (pa := pa) hb hg.1 ht (by omega)
  obtain ⟨i1, i2⟩ := hI
  obtain ⟨-, -, -, -, j5, j6⟩ := i2 t ht
  have b0 := aG_0 hb
  have b2 := aG_2 hb
  have b3 := aG_3 hb
  by_cases q : (m 4 + 1 - t) / 2 = 0
  · rw [if_pos (j5 q)]
    rw [q] at hp
    simp (disch := first | assumption | omega | (refine nI_ne0 ?_ ?_ <;> omega) | exact agG (by assumption) | exact ar_0 | exact ar_22 | exact ar_23 | exact ar_24 | exact ar_28 | exact ln0 | exact ln1 | exact ln2 | exact ln3 | exact ln4 | exact ln5 | exact nbf0 | exact nbf1 | exact nb0n | exact nb1n | (refine nn0 ?_ ?_ <;> omega) | exact nb0 | exact nb1 | decide) only [kX0_endOfCoat, eX0_endOfCoat_0, eX0_endOfCoat_1, eX0_endOfCoat_2, eX0_endOfCoat_5, eX0_endOfCoat_6, eX0_endOfCoat_7, eX0_endOfCoat_10, eX0_endOfCoat_12, eX0_endOfCoat_13, eX0_endOfCoat_14, eX0_endOfCoat_15, eX0_endOfCoat_16, eX0_endOfCoat_17, eX0_endOfCoat_18, eX0_endOfCoat_19, eX0_endOfCoat_20, eX0_endOfCoat_21, eX0_endOfCoat_22, eX0_endOfCoat_25, eX0_endOfCoat_26, eX0_endOfCoat_29, eX0_endOfCoat_30, eX0_endOfCoat_33, eX0_endOfCoat_34, eX0_endOfCoat_37, eX0_endOfCoat_38, eX0_endOfCoat_41, eX0_endOfCoat_42, eX0_endOfCoat_43, eX0_endOfCoat_44, eX0_endOfCoat_47, vrf_s, vrf_n, rG_0, rG_1, rG_2, rG_3, rG_4, rG_5, rr_0_0, rr_0_1, rr_0_2, rr_0_4, rr_0_6, rr_0_8, rr_0_9, Option.bind_some, Option.toList_some, Option.toList_none, List.cons_append, List.nil_append, List.singleton_append, nI_add, nI_mul, nI_sub, nI_cl, li_0, li_1, li_2, li_3, li_4, li_5, li_6, li_7, li_8, li_9, li_10, li_11, li_12, li_13, li_14, li_15, li_16, li_17, li_18, li_19, li_20, li_21, li_22, li_23, li_24, li_25, li_26, li_27, li_28, li_29, li_30, li_31, li_32, li_33, li_34, li_35, li_36, li_37, li_38, li_39, li_40, li_41, li_42, li_43, li_44, li_45, li_46, li_47, li_48, li_49, li_50, li_51, li_52, li_53, li_54, li_55, li_56, li_57, li_58, li_59, li_60, li_61, li_97, li_98, li_102, li_103, li_108, li_114, li_120, li_126, li_360, li_480, li_1000, li_10000, hp, nI_lt', Nat.lt_irrefl, nI_eq', eq_self, if_true, if_false, not_true_eq_false, not_false_eq_true, Nat.one_ne_zero]
  · have j7 := j6 q
    rw [if_neg (by omega), j7, Nat.add_sub_cancel]
    have hj : 2 * ((m 4 + 1 - t) / 2 - 1) + t < m 4 := by omega
    have q1 : 1 ≤ (m 4 + 1 - t) / 2 := by omega
    have q0 : 0 < (m 4 + 1 - t) / 2 := by omega
    clear j5 j6 j7 i2
    generalize hP : (m 4 + 1 - t) / 2 = p at *
    obtain ⟨k1, k2, k3, k4, k5⟩ := i1 _ hj
    obtain ⟨p1, p2, p3, p4⟩ := hg.2.2.2 _ hj
    have c1 := hg.2.1 (m (zQ (2 * (p - 1) + t)) + m (zQ (2 * (p - 1) + t) + 1) - 1) (by omega)
    have e1 := sX2_at (d := d) (pa := pa) (h := h) (k := 2 * (p - 1) + t) b2 (by omega)
    have e2 := sX2_at (d := d) (pa := pa) (h := h) (k := 2 * (p - 1) + t) b3 (by omega)
    have e3 := sX2_at (d := d) (pa := pa) (h := h) (k := m (zQ (2 * (p - 1) + t)) + m (zQ (2 * (p - 1) + t) + 1) - 1) b0 (by omega)
    rw [p1] at e1
    rw [p2] at e2
    rw [c1] at e3
    generalize m (8 + (m (zQ (2 * (p - 1) + t)) + m (zQ (2 * (p - 1) + t) + 1) - 1)) = C at *
    generalize m (zQ (2 * (p - 1) + t)) = F at *
    generalize m (zQ (2 * (p - 1) + t) + 1) = S at *
    simp (disch := first | assumption | omega | (refine nI_ne0 ?_ ?_ <;> omega) | exact agG (by assumption) | exact ar_0 | exact ar_22 | exact ar_23 | exact ar_24 | exact ar_28 | exact ln0 | exact ln1 | exact ln2 | exact ln3 | exact ln4 | exact ln5 | exact nbf0 | exact nbf1 | exact nb0n | exact nb1n | (refine nn0 ?_ ?_ <;> omega) | exact nb0 | exact nb1 | decide) only [kX0_endOfCoat, eX0_endOfCoat_0, eX0_endOfCoat_1, eX0_endOfCoat_2, eX0_endOfCoat_5, eX0_endOfCoat_6, eX0_endOfCoat_7, eX0_endOfCoat_10, eX0_endOfCoat_12, eX0_endOfCoat_13, eX0_endOfCoat_14, eX0_endOfCoat_15, eX0_endOfCoat_16, eX0_endOfCoat_17, eX0_endOfCoat_18, eX0_endOfCoat_19, eX0_endOfCoat_20, eX0_endOfCoat_21, eX0_endOfCoat_22, eX0_endOfCoat_25, eX0_endOfCoat_26, eX0_endOfCoat_29, eX0_endOfCoat_30, eX0_endOfCoat_33, eX0_endOfCoat_34, eX0_endOfCoat_37, eX0_endOfCoat_38, eX0_endOfCoat_41, eX0_endOfCoat_42, eX0_endOfCoat_43, eX0_endOfCoat_44, eX0_endOfCoat_47, vrf_s, vrf_n, rG_0, rG_1, rG_2, rG_3, rG_4, rG_5, rr_0_0, rr_0_1, rr_0_2, rr_0_4, rr_0_6, rr_0_8, rr_0_9, Option.bind_some, Option.toList_some, Option.toList_none, List.cons_append, List.nil_append, List.singleton_append, nI_add, nI_mul, nI_sub, nI_cl, li_0, li_1, li_2, li_3, li_4, li_5, li_6, li_7, li_8, li_9, li_10, li_11, li_12, li_13, li_14, li_15, li_16, li_17, li_18, li_19, li_20, li_21, li_22, li_23, li_24, li_25, li_26, li_27, li_28, li_29, li_30, li_31, li_32, li_33, li_34, li_35, li_36, li_37, li_38, li_39, li_40, li_41, li_42, li_43, li_44, li_45, li_46, li_47, li_48, li_49, li_50, li_51, li_52, li_53, li_54, li_55, li_56, li_57, li_58, li_59, li_60, li_61, li_97, li_98, li_102, li_103, li_108, li_114, li_120, li_126, li_360, li_480, li_1000, li_10000, hp, nI_lt', q0, e1, e2, e3, nI_eq', eq_self, if_true, if_false, not_true_eq_false, not_false_eq_true, Nat.one_ne_zero]
theorem zSmLoop {a cu : Nat} (hb : gB b) (ha : rA a 20) (hc : h b 9 = nI cu) (hc2 : cu ≤ 20) {v : Nat → Nat} (hv : ∀ j, j < cu → h a j = nI (v j)) {t : Nat} (ht : t ≤ 1) : ∀ (r i : Nat), cu ≤ i + 2 * r → i ≤ cu + 1 → i % 2 = t → qzV (d + 1) 12 5 [.ref b, .ref a, .int (nI t), .int (nI (zSm v t i)), .int (nI i)] [] (67, qzRr pa, h) = some (some (.int (nI (zSm v t cu))), (67, qzRr pa, h)) := by
  intro r
  induction r with
  | zero =>
    intro i h1 h2 h3
    have w : cu ≤ i := by omega
    have e := zSm_end (v := v) w h2 h3
    rw [eX0_sumOfCoat_5]
    simp (disch := first | assumption | omega | (refine nI_ne0 ?_ ?_ <;> omega) | exact agG (by assumption) | exact ar_0 | exact ar_22 | exact ar_23 | exact ar_24 | exact ar_28 | exact ln0 | exact ln1 | exact ln2 | exact ln3 | exact ln4 | exact ln5 | exact nbf0 | exact nbf1 | exact nb0n | exact nb1n | (refine nn0 ?_ ?_ <;> omega) | exact nb0 | exact nb1 | decide) only [eX0_sumOfCoat_0, eX0_sumOfCoat_1, eX0_sumOfCoat_2, eX0_sumOfCoat_3, eX0_sumOfCoat_7, eX0_sumOfCoat_8, eX0_sumOfCoat_11, eX0_sumOfCoat_14, eX0_sumOfCoat_15, eX0_sumOfCoat_16, eX0_sumOfCoat_18, eX0_sumOfCoat_21, eX0_sumOfCoat_22, eX0_sumOfCoat_23, eX0_sumOfCoat_26, eX0_sumOfCoat_29, eX0_sumOfCoat_30, vrf_s, vrf_n, rG_0, rG_1, rG_2, rG_3, rG_4, rG_5, rr_0_0, rr_0_1, rr_0_2, rr_0_4, rr_0_6, rr_0_8, rr_0_9, Option.bind_some, Option.toList_some, Option.toList_none, List.cons_append, List.nil_append, List.singleton_append, nI_add, nI_mul, nI_sub, nI_cl, li_0, li_1, li_2, li_3, li_4, li_5, li_6, li_7, li_8, li_9, li_10, li_11, li_12, li_13, li_14, li_15, li_16, li_17, li_18, li_19, li_20, li_21, li_22, li_23, li_24, li_25, li_26, li_27, li_28, li_29, li_30, li_31, li_32, li_33, li_34, li_35, li_36, li_37, li_38, li_39, li_40, li_41, li_42, li_43, li_44, li_45, li_46, li_47, li_48, li_49, li_50, li_51, li_52, li_53, li_54, li_55, li_56, li_57, li_58, li_59, li_60, li_61, li_97, li_98, li_102, li_103, li_108, li_114, li_120, li_126, li_360, li_480, li_1000, li_10000, hc, nI_le', w, e, nI_eq', eq_self, if_true, if_false, not_true_eq_false, not_false_eq_true, Nat.one_ne_zero]
  | succ r ih =>
    intro i h1 h2 h3
    rw [eX0_sumOfCoat_5]
    by_cases w : cu ≤ i
    · have e := zSm_end (v := v) w h2 h3
      simp (disch := first | assumption | omega | (refine nI_ne0 ?_ ?_ <;> omega) | exact agG (by assumption) | exact ar_0 | exact ar_22 | exact ar_23 | exact ar_24 | exact ar_28 | exact ln0 | exact ln1 | exact ln2 | exact ln3 | exact ln4 | exact ln5 | exact nbf0 | exact nbf1 | exact nb0n | exact nb1n | (refine nn0 ?_ ?_ <;> omega) | exact nb0 | exact nb1 | decide) only [eX0_sumOfCoat_0, eX0_sumOfCoat_1, eX0_sumOfCoat_2, eX0_sumOfCoat_3, eX0_sumOfCoat_7, eX0_sumOfCoat_8, eX0_sumOfCoat_11, eX0_sumOfCoat_14, eX0_sumOfCoat_15, eX0_sumOfCoat_16, eX0_sumOfCoat_18, eX0_sumOfCoat_21, eX0_sumOfCoat_22, eX0_sumOfCoat_23, eX0_sumOfCoat_26, eX0_sumOfCoat_29, eX0_sumOfCoat_30, vrf_s, vrf_n, rG_0, rG_1, rG_2, rG_3, rG_4, rG_5, rr_0_0, rr_0_1, rr_0_2, rr_0_4, rr_0_6, rr_0_8, rr_0_9, Option.bind_some, Option.toList_some, Option.toList_none, List.cons_append, List.nil_append, List.singleton_append, nI_add, nI_mul, nI_sub, nI_cl, li_0, li_1, li_2, li_3, li_4, li_5, li_6, li_7, li_8, li_9, li_10, li_11, li_12, li_13, li_14, li_15, li_16, li_17, li_18, li_19, li_20, li_21, li_22, li_23, li_24, li_25, li_26, li_27, li_28, li_29, li_30, li_31, li_32, li_33, li_34, li_35, li_36, li_37, li_38, li_39, li_40, li_41, li_42, li_43, li_44, li_45, li_46, li_47, li_48, li_49, li_50, li_51, li_52, li_53, li_54, li_55, li_56, li_57, li_58, li_59, li_60, li_61, li_97, li_98, li_102, li_103, li_108, li_114, li_120, li_126, li_360, li_480, li_1000, li_10000, hc, nI_le', w, e, nI_eq', eq_self, if_true, if_false, not_true_eq_false, not_false_eq_true, Nat.one_ne_zero]
    · have hk := sX2_at (d := d) (pa := pa) (h := h) (k := i) ha (by omega)
      rw [hv i (by omega)] at hk
      have g := ih (i + 2) (by omega) (by omega) (by omega)
      rw [zSm_two h3] at g
      rw [← g]
      simp (disch := first | assumption | omega | (refine nI_ne0 ?_ ?_ <;> omega) | exact agG (by assumption) | exact ar_0 | exact ar_22 | exact ar_23 | exact ar_24 | exact ar_28 | exact ln0 | exact ln1 | exact ln2 | exact ln3 | exact ln4 | exact ln5 | exact nbf0 | exact nbf1 | exact nb0n | exact nb1n | (refine nn0 ?_ ?_ <;> omega) | exact nb0 | exact nb1 | decide) only [eX0_sumOfCoat_0, eX0_sumOfCoat_1, eX0_sumOfCoat_2, eX0_sumOfCoat_3, eX0_sumOfCoat_7, eX0_sumOfCoat_8, eX0_sumOfCoat_11, eX0_sumOfCoat_14, eX0_sumOfCoat_15, eX0_sumOfCoat_16, eX0_sumOfCoat_18, eX0_sumOfCoat_21, eX0_sumOfCoat_22, eX0_sumOfCoat_23, eX0_sumOfCoat_26, eX0_sumOfCoat_29, eX0_sumOfCoat_30, vrf_s, vrf_n, rG_0, rG_1, rG_2, rG_3, rG_4, rG_5, rr_0_0, rr_0_1, rr_0_2, rr_0_4, rr_0_6, rr_0_8, rr_0_9, Option.bind_some, Option.toList_some, Option.toList_none, List.cons_append, List.nil_append, List.singleton_append, nI_add, nI_mul, nI_sub, nI_cl, li_0, li_1, li_2, li_3, li_4, li_5, li_6, li_7, li_8, li_9, li_10, li_11, li_12, li_13, li_14, li_15, li_16, li_17, li_18, li_19, li_20, li_21, li_22, li_23, li_24, li_25, li_26, li_27, li_28, li_29, li_30, li_31, li_32, li_33, li_34, li_35, li_36, li_37, li_38, li_39, li_40, li_41, li_42, li_43, li_44, li_45, li_46, li_47, li_48, li_49, li_50, li_51, li_52, li_53, li_54, li_55, li_56, li_57, li_58, li_59, li_60, li_61, li_97, li_98, li_102, li_103, li_108, li_114, li_120, li_126, li_360, li_480, li_1000, li_10000, hc, nI_le', w, hk, nI_eq', eq_self, if_true, if_false, not_true_eq_false, not_false_eq_true, Nat.one_ne_zero]
theorem gX0_sumOfCoat {a cu : Nat} (hb : gB b) (ha : rA a 20) (hc : h b 9 = nI cu) (hc2 : cu ≤ 20) {v : Nat → Nat} (hv : ∀ j, j < cu → h a j = nI (v j)) {t : Nat} (ht : t ≤ 1) : qzC (d + 1) 12 [.ref b, .ref a, .int (nI t)] (67, qzRr pa, h) = some (some (.int (nI (zSm v t cu))), (67, qzRr pa, h)) := by
  have g0 : zSm v t t = 0 := by
    rcases (by omega : t = 0 ∨ t = 1) with e | e
    · subst e; rfl
    · subst e; rfl
  by_cases q : cu + 1 < t
  · omega
  · have g := zSmLoop (d := d) (pa := pa) hb ha hc hc2 hv ht 20 t (by omega) (by omega) (by omega)
    rw [g0] at g
    rw [← g]
    simp (disch := first | assumption | omega | (refine nI_ne0 ?_ ?_ <;> omega) | exact agG (by assumption) | exact ar_0 | exact ar_22 | exact ar_23 | exact ar_24 | exact ar_28 | exact ln0 | exact ln1 | exact ln2 | exact ln3 | exact ln4 | exact ln5 | exact nbf0 | exact nbf1 | exact nb0n | exact nb1n | (refine nn0 ?_ ?_ <;> omega) | exact nb0 | exact nb1 | decide) only [kX0_sumOfCoat, eX0_sumOfCoat_0, eX0_sumOfCoat_1, eX0_sumOfCoat_2, eX0_sumOfCoat_3, eX0_sumOfCoat_7, eX0_sumOfCoat_8, eX0_sumOfCoat_11, eX0_sumOfCoat_14, eX0_sumOfCoat_15, eX0_sumOfCoat_16, eX0_sumOfCoat_18, eX0_sumOfCoat_21, eX0_sumOfCoat_22, eX0_sumOfCoat_23, eX0_sumOfCoat_26, eX0_sumOfCoat_29, eX0_sumOfCoat_30, vrf_s, vrf_n, rG_0, rG_1, rG_2, rG_3, rG_4, rG_5, rr_0_0, rr_0_1, rr_0_2, rr_0_4, rr_0_6, rr_0_8, rr_0_9, Option.bind_some, Option.toList_some, Option.toList_none, List.cons_append, List.nil_append, List.singleton_append, nI_add, nI_mul, nI_sub, nI_cl, li_0, li_1, li_2, li_3, li_4, li_5, li_6, li_7, li_8, li_9, li_10, li_11, li_12, li_13, li_14, li_15, li_16, li_17, li_18, li_19, li_20, li_21, li_22, li_23, li_24, li_25, li_26, li_27, li_28, li_29, li_30, li_31, li_32, li_33, li_34, li_35, li_36, li_37, li_38, li_39, li_40, li_41, li_42, li_43, li_44, li_45, li_46, li_47, li_48, li_49, li_50, li_51, li_52, li_53, li_54, li_55, li_56, li_57, li_58, li_59, li_60, li_61, li_97, li_98, li_102, li_103, li_108, li_114, li_120, li_126, li_360, li_480, li_1000, li_10000, nI_eq', eq_self, if_true, if_false, not_true_eq_false, not_false_eq_true, Nat.one_ne_zero]
theorem zPwLoop {cu tr : Nat} (hb : gB b) (hc : h b 9 = nI cu) (hc2 : cu ≤ 20) (hT : ∀ j, j < cu → h (b + 6) j = nI (T j)) (hT7 : ∀ j, j < cu → T j ≤ 7) (htr : tr ≤ 7) {t : Nat} (ht : t ≤ 1) : ∀ (r i : Nat), cu ≤ i + 2 * r → i ≤ cu + 1 → i % 2 = t → qzV (d + 1) 13 5 [.ref b, .int (nI tr), .int (nI t), .int (nI (zSm (fun j => if T j &&& tr = 0 then 0 else 1) t i)), .int (nI i)] [] (67, qzRr pa, h) = some (some (.int (nI (zSm (fun j => if T j &&& tr = 0 then 0 else 1) t cu))), (67, qzRr pa, h)) := by
  intro r
  have b5 := aG_5 hb
  induction r with
  | zero =>
    intro i h1 h2 h3
    have w : cu ≤ i := by omega
    have e := zSm_end (v := fun j => if T j &&& tr = 0 then 0 else 1) w h2 h3
    rw [e, eX0_piecesWith_5]
    generalize zSm (fun j => if T j &&& tr = 0 then 0 else 1) t cu = y
    simp (disch := first | assumption | omega | (refine nI_ne0 ?_ ?_ <;> omega) | exact agG (by assumption) | exact ar_0 | exact ar_22 | exact ar_23 | exact ar_24 | exact ar_28 | exact ln0 | exact ln1 | exact ln2 | exact ln3 | exact ln4 | exact ln5 | exact nbf0 | exact nbf1 | exact nb0n | exact nb1n | (refine nn0 ?_ ?_ <;> omega) | exact nb0 | exact nb1 | decide) only [eX0_piecesWith_0, eX0_piecesWith_1, eX0_piecesWith_2, eX0_piecesWith_3, eX0_piecesWith_7, eX0_piecesWith_8, eX0_piecesWith_11, eX0_piecesWith_14, eX0_piecesWith_15, eX0_piecesWith_18, eX0_piecesWith_20, eX0_piecesWith_23, eX0_piecesWith_24, eX0_piecesWith_25, eX0_piecesWith_28, eX0_piecesWith_31, eX0_piecesWith_34, eX0_piecesWith_37, eX0_piecesWith_38, vrf_s, vrf_n, rG_0, rG_1, rG_2, rG_3, rG_4, rG_5, rr_0_0, rr_0_1, rr_0_2, rr_0_4, rr_0_6, rr_0_8, rr_0_9, Option.bind_some, Option.toList_some, Option.toList_none, List.cons_append, List.nil_append, List.singleton_append, nI_add, nI_mul, nI_sub, nI_cl, li_0, li_1, li_2, li_3, li_4, li_5, li_6, li_7, li_8, li_9, li_10, li_11, li_12, li_13, li_14, li_15, li_16, li_17, li_18, li_19, li_20, li_21, li_22, li_23, li_24, li_25, li_26, li_27, li_28, li_29, li_30, li_31, li_32, li_33, li_34, li_35, li_36, li_37, li_38, li_39, li_40, li_41, li_42, li_43, li_44, li_45, li_46, li_47, li_48, li_49, li_50, li_51, li_52, li_53, li_54, li_55, li_56, li_57, li_58, li_59, li_60, li_61, li_97, li_98, li_102, li_103, li_108, li_114, li_120, li_126, li_360, li_480, li_1000, li_10000, hc, nI_le', w, nI_eq', eq_self, if_true, if_false, not_true_eq_false, not_false_eq_true, Nat.one_ne_zero]
  | succ r ih =>
    intro i h1 h2 h3
    by_cases w : cu ≤ i
    · have e := zSm_end (v := fun j => if T j &&& tr = 0 then 0 else 1) w h2 h3
      rw [e, eX0_piecesWith_5]
      generalize zSm (fun j => if T j &&& tr = 0 then 0 else 1) t cu = y
      simp (disch := first | assumption | omega | (refine nI_ne0 ?_ ?_ <;> omega) | exact agG (by assumption) | exact ar_0 | exact ar_22 | exact ar_23 | exact ar_24 | exact ar_28 | exact ln0 | exact ln1 | exact ln2 | exact ln3 | exact ln4 | exact ln5 | exact nbf0 | exact nbf1 | exact nb0n | exact nb1n | (refine nn0 ?_ ?_ <;> omega) | exact nb0 | exact nb1 | decide) only [eX0_piecesWith_0, eX0_piecesWith_1, eX0_piecesWith_2, eX0_piecesWith_3, eX0_piecesWith_7, eX0_piecesWith_8, eX0_piecesWith_11, eX0_piecesWith_14, eX0_piecesWith_15, eX0_piecesWith_18, eX0_piecesWith_20, eX0_piecesWith_23, eX0_piecesWith_24, eX0_piecesWith_25, eX0_piecesWith_28, eX0_piecesWith_31, eX0_piecesWith_34, eX0_piecesWith_37, eX0_piecesWith_38, vrf_s, vrf_n, rG_0, rG_1, rG_2, rG_3, rG_4, rG_5, rr_0_0, rr_0_1, rr_0_2, rr_0_4, rr_0_6, rr_0_8, rr_0_9, Option.bind_some, Option.toList_some, Option.toList_none, List.cons_append, List.nil_append, List.singleton_append, nI_add, nI_mul, nI_sub, nI_cl, li_0, li_1, li_2, li_3, li_4, li_5, li_6, li_7, li_8, li_9, li_10, li_11, li_12, li_13, li_14, li_15, li_16, li_17, li_18, li_19, li_20, li_21, li_22, li_23, li_24, li_25, li_26, li_27, li_28, li_29, li_30, li_31, li_32, li_33, li_34, li_35, li_36, li_37, li_38, li_39, li_40, li_41, li_42, li_43, li_44, li_45, li_46, li_47, li_48, li_49, li_50, li_51, li_52, li_53, li_54, li_55, li_56, li_57, li_58, li_59, li_60, li_61, li_97, li_98, li_102, li_103, li_108, li_114, li_120, li_126, li_360, li_480, li_1000, li_10000, hc, nI_le', w, nI_eq', eq_self, if_true, if_false, not_true_eq_false, not_false_eq_true, Nat.one_ne_zero]
    · have hk := sX2_at (d := d) (pa := pa) (h := h) (k := i) b5 (by omega)
      rw [hT i (by omega)] at hk
      have ea := nI_and (T i) (by have := hT7 i (by omega); omega) tr (by omega)
      have el : T i &&& tr < 8 := Nat.and_lt_two_pow (n := 3) (T i) (by omega)
      have g := ih (i + 2) (by omega) (by omega) (by omega)
      rw [zSm_two h3] at g
      rw [← g, eX0_piecesWith_5]
      generalize zSm (fun j => if T j &&& tr = 0 then 0 else 1) t i = y
      by_cases z : T i &&& tr = 0
      · simp only [if_pos z]
        rw [z] at ea
        simp (disch := first | assumption | omega | (refine nI_ne0 ?_ ?_ <;> omega) | exact agG (by assumption) | exact ar_0 | exact ar_22 | exact ar_23 | exact ar_24 | exact ar_28 | exact ln0 | exact ln1 | exact ln2 | exact ln3 | exact ln4 | exact ln5 | exact nbf0 | exact nbf1 | exact nb0n | exact nb1n | (refine nn0 ?_ ?_ <;> omega) | exact nb0 | exact nb1 | decide) only [eX0_piecesWith_0, eX0_piecesWith_1, eX0_piecesWith_2, eX0_piecesWith_3, eX0_piecesWith_7, eX0_piecesWith_8, eX0_piecesWith_11, eX0_piecesWith_14, eX0_piecesWith_15, eX0_piecesWith_18, eX0_piecesWith_20, eX0_piecesWith_23, eX0_piecesWith_24, eX0_piecesWith_25, eX0_piecesWith_28, eX0_piecesWith_31, eX0_piecesWith_34, eX0_piecesWith_37, eX0_piecesWith_38, vrf_s, vrf_n, rG_0, rG_1, rG_2, rG_3, rG_4, rG_5, rr_0_0, rr_0_1, rr_0_2, rr_0_4, rr_0_6, rr_0_8, rr_0_9, Option.bind_some, Option.toList_some, Option.toList_none, List.cons_append, List.nil_append, List.singleton_append, nI_add, nI_mul, nI_sub, nI_cl, li_0, li_1, li_2, li_3, li_4, li_5, li_6, li_7, li_8, li_9, li_10, li_11, li_12, li_13, li_14, li_15, li_16, li_17, li_18, li_19, li_20, li_21, li_22, li_23, li_24, li_25, li_26, li_27, li_28, li_29, li_30, li_31, li_32, li_33, li_34, li_35, li_36, li_37, li_38, li_39, li_40, li_41, li_42, li_43, li_44, li_45, li_46, li_47, li_48, li_49, li_50, li_51, li_52, li_53, li_54, li_55, li_56, li_57, li_58, li_59, li_60, li_61, li_97, li_98, li_102, li_103, li_108, li_114, li_120, li_126, li_360, li_480, li_1000, li_10000, hc, nI_le', w, hk, ea, Nat.add_zero, nI_eq', eq_self, if_true, if_false, not_true_eq_false, not_false_eq_true, Nat.one_ne_zero]
      · simp only [if_neg z]
        generalize T i &&& tr = u at *
        simp (disch := first | assumption | omega | (refine nI_ne0 ?_ ?_ <;> omega) | exact agG (by assumption) | exact ar_0 | exact ar_22 | exact ar_23 | exact ar_24 | exact ar_28 | exact ln0 | exact ln1 | exact ln2 | exact ln3 | exact ln4 | exact ln5 | exact nbf0 | exact nbf1 | exact nb0n | exact nb1n | (refine nn0 ?_ ?_ <;> omega) | exact nb0 | exact nb1 | decide) only [eX0_piecesWith_0, eX0_piecesWith_1, eX0_piecesWith_2, eX0_piecesWith_3, eX0_piecesWith_7, eX0_piecesWith_8, eX0_piecesWith_11, eX0_piecesWith_14, eX0_piecesWith_15, eX0_piecesWith_18, eX0_piecesWith_20, eX0_piecesWith_23, eX0_piecesWith_24, eX0_piecesWith_25, eX0_piecesWith_28, eX0_piecesWith_31, eX0_piecesWith_34, eX0_piecesWith_37, eX0_piecesWith_38, vrf_s, vrf_n, rG_0, rG_1, rG_2, rG_3, rG_4, rG_5, rr_0_0, rr_0_1, rr_0_2, rr_0_4, rr_0_6, rr_0_8, rr_0_9, Option.bind_some, Option.toList_some, Option.toList_none, List.cons_append, List.nil_append, List.singleton_append, nI_add, nI_mul, nI_sub, nI_cl, li_0, li_1, li_2, li_3, li_4, li_5, li_6, li_7, li_8, li_9, li_10, li_11, li_12, li_13, li_14, li_15, li_16, li_17, li_18, li_19, li_20, li_21, li_22, li_23, li_24, li_25, li_26, li_27, li_28, li_29, li_30, li_31, li_32, li_33, li_34, li_35, li_36, li_37, li_38, li_39, li_40, li_41, li_42, li_43, li_44, li_45, li_46, li_47, li_48, li_49, li_50, li_51, li_52, li_53, li_54, li_55, li_56, li_57, li_58, li_59, li_60, li_61, li_97, li_98, li_102, li_103, li_108, li_114, li_120, li_126, li_360, li_480, li_1000, li_10000, hc, nI_le', w, hk, ea, z, nI_eq', eq_self, if_true, if_false, not_true_eq_false, not_false_eq_true, Nat.one_ne_zero]
theorem gX0_piecesWith {cu tr : Nat} (hb : gB b) (hc : h b 9 = nI cu) (hc2 : cu ≤ 20) (hT : ∀ j, j < cu → h (b + 6) j = nI (T j)) (hT7 : ∀ j, j < cu → T j ≤ 7) (htr : tr ≤ 7) {t : Nat} (ht : t ≤ 1) : qzC (d + 1) 13 [.ref b, .int (nI tr), .int (nI t)] (67, qzRr pa, h) = some (some (.int (nI (zSm (fun j => if T j &&& tr = 0 then 0 else 1) t cu))), (67, qzRr pa, h)) := by
  have g0 : zSm (fun j => if T j &&& tr = 0 then 0 else 1) t t = 0 := by
    rcases (by omega : t = 0 ∨ t = 1) with e | e
    · subst e; rfl
    · subst e; rfl
  have g := zPwLoop (d := d) (pa := pa) hb hc hc2 hT hT7 htr ht 20 t (by omega) (by omega) (by omega)
  rw [g0] at g
  rw [← g]
  simp (disch := first | assumption | omega | (refine nI_ne0 ?_ ?_ <;> omega) | exact agG (by assumption) | exact ar_0 | exact ar_22 | exact ar_23 | exact ar_24 | exact ar_28 | exact ln0 | exact ln1 | exact ln2 | exact ln3 | exact ln4 | exact ln5 | exact nbf0 | exact nbf1 | exact nb0n | exact nb1n | (refine nn0 ?_ ?_ <;> omega) | exact nb0 | exact nb1 | decide) only [kX0_piecesWith, eX0_piecesWith_0, eX0_piecesWith_1, eX0_piecesWith_2, eX0_piecesWith_3, eX0_piecesWith_7, eX0_piecesWith_8, eX0_piecesWith_11, eX0_piecesWith_14, eX0_piecesWith_15, eX0_piecesWith_18, eX0_piecesWith_20, eX0_piecesWith_23, eX0_piecesWith_24, eX0_piecesWith_25, eX0_piecesWith_28, eX0_piecesWith_31, eX0_piecesWith_34, eX0_piecesWith_37, eX0_piecesWith_38, vrf_s, vrf_n, rG_0, rG_1, rG_2, rG_3, rG_4, rG_5, rr_0_0, rr_0_1, rr_0_2, rr_0_4, rr_0_6, rr_0_8, rr_0_9, Option.bind_some, Option.toList_some, Option.toList_none, List.cons_append, List.nil_append, List.singleton_append, nI_add, nI_mul, nI_sub, nI_cl, li_0, li_1, li_2, li_3, li_4, li_5, li_6, li_7, li_8, li_9, li_10, li_11, li_12, li_13, li_14, li_15, li_16, li_17, li_18, li_19, li_20, li_21, li_22, li_23, li_24, li_25, li_26, li_27, li_28, li_29, li_30, li_31, li_32, li_33, li_34, li_35, li_36, li_37, li_38, li_39, li_40, li_41, li_42, li_43, li_44, li_45, li_46, li_47, li_48, li_49, li_50, li_51, li_52, li_53, li_54, li_55, li_56, li_57, li_58, li_59, li_60, li_61, li_97, li_98, li_102, li_103, li_108, li_114, li_120, li_126, li_360, li_480, li_1000, li_10000, nI_eq', eq_self, if_true, if_false, not_true_eq_false, not_false_eq_true, Nat.one_ne_zero]
end CLS3
