/-! the reference: load -/
/-- a colour of the bolt that was read -/
def zLc (c : Nat → Nat) (q ph L k : Nat) : Nat := if k < q then c ((k + ph) % L) - 97 else 0
def zLd1 (c : Nat → Nat) (q ph L : Nat) (m : Nat → Nat) : Nat → Nat := fun i => if i = 0 then q else if 8 ≤ i ∧ i < 28 then zLc c q ph L (i - 8) else m i
theorem zLt_let {c : Nat → Nat} : ∀ (r s : Nat), ∀ j, s ≤ j → j < zLt c r s → 97 ≤ c j ∧ c j ≤ 102 := by
  intro r
  induction r with
  | zero => intro s j h1 h2; unfold zLt at h2; omega
  | succ r ih =>
    intro s j h1 h2
    unfold zLt at h2
    by_cases w : 97 ≤ c s ∧ c s ≤ 102
    · rw [if_pos w] at h2
      by_cases e : j = s
      · subst e; exact w
      · exact ih (s + 1) j (by omega) h2
    · rw [if_neg w] at h2; omega
theorem zMn_one {c : Nat → Nat} {a t : Nat} (ha : 1 ≤ a) : 1 ≤ (zMn c a t).1 := by
  unfold zMn
  split
  · rename_i w; show 1 ≤ 10 * a + c t - 48; omega
  · exact ha
theorem zPl_ph {c : Nat → Nat} {L t : Nat} (hL : L ≤ 6) : (zPl c L t).2.2 ≤ 9 := by
  unfold zPl
  split
  · split
    · rename_i w; show c (t + 1) - 48 ≤ 9; omega
    · exact Nat.zero_le _
  · exact Nat.zero_le _
theorem zRu_one {c : Nat → Nat} {L s : Nat} (hL : L ≤ 6) (h1 : (zRu c L s).1 = 1) : 1 ≤ (zRu c L s).2.2.1 ∧ (zRu c L s).2.2.2 ≤ 9 := by
  unfold zRu at h1 ⊢
  by_cases w : 48 + 1 ≤ c (s + 1) ∧ c (s + 1) ≤ 48 + 9
  · simp only [if_pos w]
    exact ⟨zMn_one (by omega), zPl_ph hL⟩
  · simp only [if_neg w] at h1
    exact absurd h1 (by decide)
theorem zBo_one {c : Nat → Nat} (h1 : (zBo c).1 = 1) : 1 ≤ (zBo c).2.2.1 ∧ (zBo c).2.2.2 ≤ 9 ∧ 1 ≤ zLt c 19 1 ∧ zLt c 19 1 ≤ 20 ∧ ∀ j, j < zLt c 19 1 → 97 ≤ c j ∧ c j ≤ 102 := by
  have hl := zLt_in (c := c) (r := 19) (s := 1)
  by_cases w : 97 ≤ c 0 ∧ c 0 ≤ 102
  · have e : zBo c = zBr c (zLt c 19 1) := by unfold zBo; rw [if_pos w]
    have l0 : ∀ j, j < zLt c 19 1 → 97 ≤ c j ∧ c j ≤ 102 := fun j hj => by
      by_cases e : j = 0
      · subst e; exact w
      · exact zLt_let 19 1 j (by omega) hj
    rw [e] at h1 ⊢
    unfold zBr at h1 ⊢
    by_cases z : zLt c 19 1 ≤ 6 ∧ c (zLt c 19 1) = 42
    · rw [if_pos z] at h1 ⊢
      have := zRu_one z.1 h1
      exact ⟨this.1, this.2, by omega, by omega, l0⟩
    · rw [if_neg z]
      exact ⟨hl.1, Nat.zero_le _, by omega, by omega, l0⟩
  · have e : zBo c = (0, 0, 0, 0) := by unfold zBo; rw [if_neg w]
    rw [e] at h1
    exact absurd h1 (by decide)
theorem zBk_inv2 {m : Nat → Nat} (h0 : 1 ≤ m 0 ∧ m 0 ≤ 20) (h5 : 1 ≤ m 5 ∧ m 5 ≤ 5) (h6 : m 6 ≤ 9) (h7 : m 7 ≤ 9) (h8 : ∀ i, i < 20 → m (8 + i) ≤ 5) : zInv (zBk m 120) := by
  refine ⟨?_, ?_, ?_, ?_, ?_, ?_, ?_, fun i hi => ?_, fun t htt => ?_, fun i hi hi2 => ?_⟩
  · simp [zBk]; omega
  · simp [zBk]
  · simp [zBk]
  · simp [zBk]
  · simp [zBk]; omega
  · simp [zBk]; omega
  · simp [zBk]; omega
  · have : zBk m 120 (8 + i) = m (8 + i) := by unfold zBk; rw [if_neg (by omega), if_neg (by omega)]
    rw [this]; exact h8 i hi
  · have e : ∀ w, w ≤ 5 → zBk m 120 (28 + 6 * t + w) = 0 := fun w hw => by unfold zBk; rw [if_pos (by omega)]
    have e4 : zBk m 120 4 = 0 := by simp [zBk]
    rw [e 0 (by omega), e 1 (by omega), e 2 (by omega), e 3 (by omega), e 4 (by omega), e 5 (by omega), e4]
    omega
  · unfold zBk; rw [if_pos (by omega)]; omega
section REF17
variable {d : Nat} {pa : Nat → Nat} {h : Nat → Nat → Int32} {m : Nat → Nat} {P : Nat → Nat → Nat} {n : Nat} {K : Nat → Nat} {ik : Nat} {pd : Nat → Nat} {ln : Nat}
theorem sX3_beginsAgain (hs : ∀ i, i < 120 → h 61 i = nI (m i)) : ∃ h', qzC d 90 [.ref 60] (67, qzRr pa, h) = some (none, (67, qzRr pa, h')) ∧ (∀ i, i < 120 → h' 61 i = nI (zBk m 120 i)) ∧ ∀ a, a ≠ 61 → h' a = h a := by
  have hs0 : ∀ i, i < 120 → (qzUp (qzUp (qzUp (qzUp h 61 1 (nI 0)) 61 2 (nI (m 0))) 61 3 (nI 0)) 61 4 (nI 0)) 61 i = nI (zBk m 28 i) := by
    intro i hi
    have q := hs i hi
    unfold zBk
    by_cases c1 : i = 1
    · subst c1; simp [qzUp]
    · by_cases c2 : i = 2
      · subst c2; simp [qzUp]
      · by_cases c3 : i = 3
        · subst c3; simp [qzUp]
        · by_cases c4 : i = 4
          · subst c4; simp [qzUp]
          · have c6 : ¬ (i = 1 ∨ i = 3 ∨ i = 4 ∨ (28 ≤ i ∧ i < 28)) := by omega
            rw [if_neg c6, if_neg c2, ← q]
            simp [qzUp, c1, c2, c3, c4]
  obtain ⟨h', e1, e2, e3⟩ := zBgLoop (d := d) (pa := pa) (m := m) 92 28 rfl (Nat.le_refl _) _ hs0
  refine ⟨h', ?_, e2, fun a ha => (e3 a ha).trans (by simp only [qzUp_ne ha])⟩
  have h00 : qzUp h 61 1 (nI 0) 61 0 = nI (m 0) := by simp [qzUp, hs 0 (by omega)]
  rw [← e1, kX3_beginsAgain]
  simp (disch := first | assumption | omega | (refine nI_ne0 ?_ ?_ <;> omega) | exact ar_60 | exact ar_61 | exact ar_62 | exact ar_63 | exact ar_64 | exact ar_65 | exact ar_66 | (refine qi_61 ?_; omega) | (refine qi_62 ?_; omega) | (refine qi_63 ?_; omega) | (refine qi_64 ?_; omega) | (refine qi_65 ?_; omega) | (refine qi_66 ?_; omega) | exact ln0 | exact ln1 | exact ln2 | exact ln3 | exact ln4 | exact ln5 | exact nbf0 | exact nbf1 | exact nb0n | exact nb1n | (refine nn0 ?_ ?_ <;> omega) | exact nb0 | exact nb1 | decide) only [eX3_beginsAgain_0, eX3_beginsAgain_1, eX3_beginsAgain_4, eX3_beginsAgain_5, eX3_beginsAgain_6, eX3_beginsAgain_7, eX3_beginsAgain_8, eX3_beginsAgain_11, eX3_beginsAgain_12, eX3_beginsAgain_13, eX3_beginsAgain_16, eX3_beginsAgain_17, eX3_beginsAgain_18, eX3_beginsAgain_19, eX3_beginsAgain_20, eX3_beginsAgain_23, eX3_beginsAgain_24, eX3_beginsAgain_25, eX3_beginsAgain_26, eX3_beginsAgain_27, eX3_beginsAgain_30, eX3_beginsAgain_31, eX3_beginsAgain_32, eX3_beginsAgain_33, eX3_beginsAgain_35, eX3_beginsAgain_37, eX3_beginsAgain_39, eX3_beginsAgain_42, eX3_beginsAgain_43, eX3_beginsAgain_46, eX3_beginsAgain_47, eX3_beginsAgain_48, eX3_beginsAgain_49, eX3_beginsAgain_52, eX3_beginsAgain_55, vrf_s, vrf_n, rr_60_0, rr_60_1, rr_60_2, rr_60_4, rr_60_6, rr_60_8, Option.bind_some, Option.toList_some, Option.toList_none, List.cons_append, List.nil_append, List.singleton_append, nI_add, nI_mul, nI_sub, nI_cl, li_0, li_1, li_2, li_3, li_4, li_5, li_6, li_7, li_8, li_9, li_10, li_11, li_12, li_13, li_14, li_15, li_16, li_17, li_18, li_19, li_20, li_21, li_22, li_23, li_24, li_25, li_26, li_27, li_28, li_29, li_30, li_31, li_32, li_33, li_34, li_35, li_36, li_37, li_38, li_39, li_40, li_41, li_42, li_43, li_44, li_45, li_46, li_47, li_48, li_49, li_50, li_51, li_52, li_53, li_54, li_55, li_56, li_57, li_58, li_59, li_60, li_61, li_97, li_98, li_102, li_103, li_108, li_114, li_120, li_126, li_360, li_480, li_1000, li_10000, h00]
theorem zLdLoop {c : Nat → Nat} {q ph L : Nat} (hq : q ≤ 20) (hph : ph ≤ 9) (hL1 : 1 ≤ L) (hL2 : L ≤ 60) (hlet : ∀ j, j < L → 97 ≤ c j ∧ c j ≤ 102) : ∀ (r k : Nat), k + r = 20 → ∀ h : Nat → Nat → Int32, (∀ j, j < L → h 65 j = nI (c j)) → h 60 12 = nI q → h 60 13 = nI ph → h 60 11 = nI L → ∃ h', qzV d 127 26 [.ref 60, .int (nI k)] [] (67, qzRr pa, h) = qzV d 127 78 [.ref 60, .int (nI 20)] [] (67, qzRr pa, h') ∧ (∀ i, k ≤ i → i < 20 → h' 61 (8 + i) = nI (zLc c q ph L i)) ∧ (∀ j, (j < 8 + k ∨ 28 ≤ j) → h' 61 j = h 61 j) ∧ ∀ a, a ≠ 61 → h' a = h a := by
  intro r
  induction r with
  | zero =>
    intro k hk h h65 h12 h13 h11
    have e : k = 20 := by omega
    subst e
    refine ⟨h, ?_, fun i h1 h2 => by omega, fun _ _ => rfl, fun _ _ => rfl⟩
    rw [eX3_load_26]
    simp (disch := first | assumption | omega | (refine nI_ne0 ?_ ?_ <;> omega) | exact ar_60 | exact ar_61 | exact ar_62 | exact ar_63 | exact ar_64 | exact ar_65 | exact ar_66 | (refine qi_61 ?_; omega) | (refine qi_62 ?_; omega) | (refine qi_63 ?_; omega) | (refine qi_64 ?_; omega) | (refine qi_65 ?_; omega) | (refine qi_66 ?_; omega) | exact ln0 | exact ln1 | exact ln2 | exact ln3 | exact ln4 | exact ln5 | exact nbf0 | exact nbf1 | exact nb0n | exact nb1n | (refine nn0 ?_ ?_ <;> omega) | exact nb0 | exact nb1 | decide) only [eX3_load_0, eX3_load_1, eX3_load_4, eX3_load_7, eX3_load_9, eX3_load_10, eX3_load_11, eX3_load_14, eX3_load_15, eX3_load_18, eX3_load_19, eX3_load_20, eX3_load_23, eX3_load_24, eX3_load_25, eX3_load_27, eX3_load_29, eX3_load_32, eX3_load_33, eX3_load_36, eX3_load_38, eX3_load_39, eX3_load_40, eX3_load_41, eX3_load_42, eX3_load_45, eX3_load_48, eX3_load_49, eX3_load_52, eX3_load_53, eX3_load_54, eX3_load_57, eX3_load_58, eX3_load_59, eX3_load_62, eX3_load_63, eX3_load_64, eX3_load_66, eX3_load_67, eX3_load_70, eX3_load_71, eX3_load_72, eX3_load_75, eX3_load_79, eX3_load_82, eX3_load_83, eX3_load_84, eX3_load_87, eX3_load_88, eX3_load_91, eX3_load_92, eX3_load_93, vrf_s, vrf_n, rr_60_0, rr_60_1, rr_60_2, rr_60_4, rr_60_6, rr_60_8, Option.bind_some, Option.toList_some, Option.toList_none, List.cons_append, List.nil_append, List.singleton_append, nI_add, nI_mul, nI_sub, nI_cl, li_0, li_1, li_2, li_3, li_4, li_5, li_6, li_7, li_8, li_9, li_10, li_11, li_12, li_13, li_14, li_15, li_16, li_17, li_18, li_19, li_20, li_21, li_22, li_23, li_24, li_25, li_26, li_27, li_28, li_29, li_30, li_31, li_32, li_33, li_34, li_35, li_36, li_37, li_38, li_39, li_40, li_41, li_42, li_43, li_44, li_45, li_46, li_47, li_48, li_49, li_50, li_51, li_52, li_53, li_54, li_55, li_56, li_57, li_58, li_59, li_60, li_61, li_97, li_98, li_102, li_103, li_108, li_114, li_120, li_126, li_360, li_480, li_1000, li_10000, nI_le', Nat.le_refl, nI_eq', eq_self, if_true, if_false, not_true_eq_false, not_false_eq_true, Nat.one_ne_zero]
  | succ r ih =>
    intro k hk h h65 h12 h13 h11
    have hk1 : ¬ 20 ≤ k := by omega
    have hx : (k + ph) % L < L := Nat.mod_lt _ (by omega)
    have hxl := hlet _ hx
    have hx5 := h65 _ hx
    obtain ⟨h', e1, e2, e3, e4⟩ := ih (k + 1) (by omega) (qzUp h 61 (8 + k) (nI (zLc c q ph L k))) (fun j hj => by rw [qzUp_ne (by omega)]; exact h65 j hj) (by rw [qzUp_ne (by omega)]; exact h12) (by rw [qzUp_ne (by omega)]; exact h13) (by rw [qzUp_ne (by omega)]; exact h11)
    refine ⟨h', ?_, fun i h1 h2 => ?_, fun j hj => ?_, fun a ha => (e4 a ha).trans (qzUp_ne ha)⟩
    · rw [← e1, eX3_load_26]
      unfold zLc
      by_cases w : k < q
      · have w' : ¬ q ≤ k := by omega
        rw [if_pos w]
        generalize hI : (k + ph) % L = I at *
        generalize c I = v at *
        simp (disch := first | assumption | omega | (refine nI_ne0 ?_ ?_ <;> omega) | exact ar_60 | exact ar_61 | exact ar_62 | exact ar_63 | exact ar_64 | exact ar_65 | exact ar_66 | (refine qi_61 ?_; omega) | (refine qi_62 ?_; omega) | (refine qi_63 ?_; omega) | (refine qi_64 ?_; omega) | (refine qi_65 ?_; omega) | (refine qi_66 ?_; omega) | exact ln0 | exact ln1 | exact ln2 | exact ln3 | exact ln4 | exact ln5 | exact nbf0 | exact nbf1 | exact nb0n | exact nb1n | (refine nn0 ?_ ?_ <;> omega) | exact nb0 | exact nb1 | decide) only [eX3_load_0, eX3_load_1, eX3_load_4, eX3_load_7, eX3_load_9, eX3_load_10, eX3_load_11, eX3_load_14, eX3_load_15, eX3_load_18, eX3_load_19, eX3_load_20, eX3_load_23, eX3_load_24, eX3_load_25, eX3_load_27, eX3_load_29, eX3_load_32, eX3_load_33, eX3_load_36, eX3_load_38, eX3_load_39, eX3_load_40, eX3_load_41, eX3_load_42, eX3_load_45, eX3_load_48, eX3_load_49, eX3_load_52, eX3_load_53, eX3_load_54, eX3_load_57, eX3_load_58, eX3_load_59, eX3_load_62, eX3_load_63, eX3_load_64, eX3_load_66, eX3_load_67, eX3_load_70, eX3_load_71, eX3_load_72, eX3_load_75, eX3_load_79, eX3_load_82, eX3_load_83, eX3_load_84, eX3_load_87, eX3_load_88, eX3_load_91, eX3_load_92, eX3_load_93, vrf_s, vrf_n, rr_60_0, rr_60_1, rr_60_2, rr_60_4, rr_60_6, rr_60_8, Option.bind_some, Option.toList_some, Option.toList_none, List.cons_append, List.nil_append, List.singleton_append, nI_add, nI_mul, nI_sub, nI_cl, li_0, li_1, li_2, li_3, li_4, li_5, li_6, li_7, li_8, li_9, li_10, li_11, li_12, li_13, li_14, li_15, li_16, li_17, li_18, li_19, li_20, li_21, li_22, li_23, li_24, li_25, li_26, li_27, li_28, li_29, li_30, li_31, li_32, li_33, li_34, li_35, li_36, li_37, li_38, li_39, li_40, li_41, li_42, li_43, li_44, li_45, li_46, li_47, li_48, li_49, li_50, li_51, li_52, li_53, li_54, li_55, li_56, li_57, li_58, li_59, li_60, li_61, li_97, li_98, li_102, li_103, li_108, li_114, li_120, li_126, li_360, li_480, li_1000, li_10000, nI_le', nI_rem, hI, hx5, h12, h13, h11, hk1, w', nI_eq', eq_self, if_true, if_false, not_true_eq_false, not_false_eq_true, Nat.one_ne_zero]
      · have w' : q ≤ k := by omega
        rw [if_neg w]
        simp (disch := first | assumption | omega | (refine nI_ne0 ?_ ?_ <;> omega) | exact ar_60 | exact ar_61 | exact ar_62 | exact ar_63 | exact ar_64 | exact ar_65 | exact ar_66 | (refine qi_61 ?_; omega) | (refine qi_62 ?_; omega) | (refine qi_63 ?_; omega) | (refine qi_64 ?_; omega) | (refine qi_65 ?_; omega) | (refine qi_66 ?_; omega) | exact ln0 | exact ln1 | exact ln2 | exact ln3 | exact ln4 | exact ln5 | exact nbf0 | exact nbf1 | exact nb0n | exact nb1n | (refine nn0 ?_ ?_ <;> omega) | exact nb0 | exact nb1 | decide) only [eX3_load_0, eX3_load_1, eX3_load_4, eX3_load_7, eX3_load_9, eX3_load_10, eX3_load_11, eX3_load_14, eX3_load_15, eX3_load_18, eX3_load_19, eX3_load_20, eX3_load_23, eX3_load_24, eX3_load_25, eX3_load_27, eX3_load_29, eX3_load_32, eX3_load_33, eX3_load_36, eX3_load_38, eX3_load_39, eX3_load_40, eX3_load_41, eX3_load_42, eX3_load_45, eX3_load_48, eX3_load_49, eX3_load_52, eX3_load_53, eX3_load_54, eX3_load_57, eX3_load_58, eX3_load_59, eX3_load_62, eX3_load_63, eX3_load_64, eX3_load_66, eX3_load_67, eX3_load_70, eX3_load_71, eX3_load_72, eX3_load_75, eX3_load_79, eX3_load_82, eX3_load_83, eX3_load_84, eX3_load_87, eX3_load_88, eX3_load_91, eX3_load_92, eX3_load_93, vrf_s, vrf_n, rr_60_0, rr_60_1, rr_60_2, rr_60_4, rr_60_6, rr_60_8, Option.bind_some, Option.toList_some, Option.toList_none, List.cons_append, List.nil_append, List.singleton_append, nI_add, nI_mul, nI_sub, nI_cl, li_0, li_1, li_2, li_3, li_4, li_5, li_6, li_7, li_8, li_9, li_10, li_11, li_12, li_13, li_14, li_15, li_16, li_17, li_18, li_19, li_20, li_21, li_22, li_23, li_24, li_25, li_26, li_27, li_28, li_29, li_30, li_31, li_32, li_33, li_34, li_35, li_36, li_37, li_38, li_39, li_40, li_41, li_42, li_43, li_44, li_45, li_46, li_47, li_48, li_49, li_50, li_51, li_52, li_53, li_54, li_55, li_56, li_57, li_58, li_59, li_60, li_61, li_97, li_98, li_102, li_103, li_108, li_114, li_120, li_126, li_360, li_480, li_1000, li_10000, nI_le', h12, h13, h11, hk1, w', nI_eq', eq_self, if_true, if_false, not_true_eq_false, not_false_eq_true, Nat.one_ne_zero]
    · by_cases e : i = k
      · subst e
        rw [e3 _ (Or.inl (by omega))]
        simp [qzUp]
      · exact e2 i (by omega) h2
    · rw [e3 j (by omega)]
      simp [qzUp]
      omega
theorem pX3_load_n (hR : zRel h m P n K ik pd ln) (hb : ¬ ((zBo (zCh pd ln)).1 = 1 ∧ (zBo (zCh pd ln)).2.1 = ln)) : ∃ h', qzC (d + 4) 127 [.ref 60] (67, qzRr pa, h) = some (some (.int (-nI 2)), (67, qzRr pa, h')) ∧ zRel h' m P n K ik pd ln ∧ zFr h h' := by
  obtain ⟨h', t, g1, g2⟩ := sX3_isBolt (d := d) (pa := pa) hR.zp
  refine ⟨h', ?_, hR.sx g1, g1.fr⟩
  rw [if_neg hb] at t
  simp (disch := first | assumption | omega | (refine nI_ne0 ?_ ?_ <;> omega) | exact ar_60 | exact ar_61 | exact ar_62 | exact ar_63 | exact ar_64 | exact ar_65 | exact ar_66 | (refine qi_61 ?_; omega) | (refine qi_62 ?_; omega) | (refine qi_63 ?_; omega) | (refine qi_64 ?_; omega) | (refine qi_65 ?_; omega) | (refine qi_66 ?_; omega) | exact ln0 | exact ln1 | exact ln2 | exact ln3 | exact ln4 | exact ln5 | exact nbf0 | exact nbf1 | exact nb0n | exact nb1n | (refine nn0 ?_ ?_ <;> omega) | exact nb0 | exact nb1 | decide) only [kX3_load, eX3_load_0, eX3_load_1, eX3_load_4, eX3_load_7, eX3_load_9, eX3_load_10, eX3_load_11, eX3_load_14, eX3_load_15, eX3_load_18, eX3_load_19, eX3_load_20, eX3_load_23, eX3_load_24, eX3_load_25, eX3_load_26, eX3_load_27, eX3_load_29, eX3_load_32, eX3_load_33, eX3_load_36, eX3_load_38, eX3_load_39, eX3_load_40, eX3_load_41, eX3_load_42, eX3_load_45, eX3_load_48, eX3_load_49, eX3_load_52, eX3_load_53, eX3_load_54, eX3_load_57, eX3_load_58, eX3_load_59, eX3_load_62, eX3_load_63, eX3_load_64, eX3_load_66, eX3_load_67, eX3_load_70, eX3_load_71, eX3_load_72, eX3_load_75, eX3_load_78, eX3_load_79, eX3_load_82, eX3_load_83, eX3_load_84, eX3_load_87, eX3_load_88, eX3_load_91, eX3_load_92, eX3_load_93, vrf_s, vrf_n, rr_60_0, rr_60_1, rr_60_2, rr_60_4, rr_60_6, rr_60_8, Option.bind_some, Option.toList_some, Option.toList_none, List.cons_append, List.nil_append, List.singleton_append, nI_add, nI_mul, nI_sub, nI_cl, li_0, li_1, li_2, li_3, li_4, li_5, li_6, li_7, li_8, li_9, li_10, li_11, li_12, li_13, li_14, li_15, li_16, li_17, li_18, li_19, li_20, li_21, li_22, li_23, li_24, li_25, li_26, li_27, li_28, li_29, li_30, li_31, li_32, li_33, li_34, li_35, li_36, li_37, li_38, li_39, li_40, li_41, li_42, li_43, li_44, li_45, li_46, li_47, li_48, li_49, li_50, li_51, li_52, li_53, li_54, li_55, li_56, li_57, li_58, li_59, li_60, li_61, li_97, li_98, li_102, li_103, li_108, li_114, li_120, li_126, li_360, li_480, li_1000, li_10000, t, nI_eq', eq_self, if_true, if_false, not_true_eq_false, not_false_eq_true, Nat.one_ne_zero]
theorem pX3_load (hR : zRel h m P n K ik pd ln) (hb : (zBo (zCh pd ln)).1 = 1 ∧ (zBo (zCh pd ln)).2.1 = ln) : ∃ h', qzC (d + 4) 127 [.ref 60] (67, qzRr pa, h) = some (some (.int (nI (zBo (zCh pd ln)).2.2.1)), (67, qzRr pa, h')) ∧ zRel h' (zBk (zLd1 (zCh pd ln) (zBo (zCh pd ln)).2.2.1 (zBo (zCh pd ln)).2.2.2 (zLt (zCh pd ln) 19 1) m) 120) (zPush P n m) (min n 3 + 1) K ik pd 0 ∧ zFr h h' := by
  obtain ⟨h1, t1, x1, f1, s1, w1⟩ := sX3_isBolt (d := d) (pa := pa) hR.zp
  rw [if_pos hb] at t1
  obtain ⟨w11, w12, w13⟩ := w1 hb.1
  obtain ⟨b1, b2, b3, b4, b5⟩ := zBo_one hb.1
  have b6 := (zBo_in (c := zCh pd ln)).2.2
  have hR1 := hR.sx x1
  obtain ⟨h2, t2, g2, a0⟩ := rX3_records (d := d + 2) (pa := pa) hR1
  obtain ⟨h3, t3, -, a2, -⟩ := sX3_records (d := d + 2) (pa := pa) (h := h1) hR1.2.2.1.2.2.1 hR1.2.2.1.2.1
  have e23 : h3 = h2 := by
    rw [t2] at t3
    injection t3 with t3; injection t3 with _ t3; injection t3 with _ t3; injection t3 with _ t3
    exact t3.symm
  subst e23
  have v11 := (a2 11 (by omega)).trans w11
  have v12 := (a2 12 (by omega)).trans w12
  have v13 := (a2 13 (by omega)).trans w13
  have hin : ∀ j, j < zLt (zCh pd ln) 19 1 → j < ln := fun j hj => by
    have := (b5 j hj).1
    unfold zCh at this
    split at this
    · assumption
    · omega
  have v65 : ∀ j, j < zLt (zCh pd ln) 19 1 → h3 65 j = nI (zCh pd ln j) := fun j hj => by
    have e : zCh pd ln j = pd j := by unfold zCh; rw [if_pos (hin j hj)]
    rw [e]; exact g2.zp.1 j (hin j hj)
  have hms := g2.1
  have hmi := g2.2.1
  have hD : zLd1 = zLd1 := rfl
  generalize hQ : (zBo (zCh pd ln)).2.2.1 = q at *
  generalize hP : (zBo (zCh pd ln)).2.2.2 = ph at *
  generalize hL : zLt (zCh pd ln) 19 1 = L at *
  obtain ⟨h4, t4, l1, l2, l3⟩ := zLdLoop (d := d + 4) (pa := pa) (c := zCh pd ln) (q := q) (ph := ph) (L := L) b6 b2 b3 (by omega) b5 20 0 rfl (qzUp h3 61 0 (nI q)) (fun j hj => by rw [qzUp_ne (by omega)]; exact v65 j hj) (by rw [qzUp_ne (by omega)]; exact v12) (by rw [qzUp_ne (by omega)]; exact v13) (by rw [qzUp_ne (by omega)]; exact v11)
  have hs4 : ∀ i, i < 120 → h4 61 i = nI (zLd1 (zCh pd ln) q ph L m i) := fun i hi => by
    unfold zLd1
    by_cases c0 : i = 0
    · subst c0
      rw [if_pos rfl, l2 0 (Or.inl (by omega))]
      simp [qzUp]
    · rw [if_neg c0]
      by_cases c8 : 8 ≤ i ∧ i < 28
      · rw [if_pos c8]
        have := l1 (i - 8) (by omega) (by omega)
        rwa [show 8 + (i - 8) = i by omega] at this
      · rw [if_neg c8, l2 i (by omega), ← hms i hi]
        simp [qzUp, c0]
  obtain ⟨h5, t5, y1, y2⟩ := sX3_beginsAgain (d := d + 3) (pa := pa) hs4
  have hz : zInv (zBk (zLd1 (zCh pd ln) q ph L m) 120) := by
    obtain ⟨i0, i1, i3, i4, i5, i6, i7, i8, it, ip⟩ := hmi
    refine zBk_inv2 (by simp [zLd1]; omega) (by simp [zLd1]; omega) (by simp [zLd1]; omega) (by simp [zLd1]; omega) (fun i hi => ?_)
    unfold zLd1
    rw [if_neg (by omega), if_pos (by omega)]
    unfold zLc
    split
    · have := b5 ((8 + i - 8 + ph) % L) (Nat.mod_lt _ (by omega))
      omega
    · omega
  have r5 := g2.s (h' := h5) y1 hz (fun a ha _ => by rw [y2 a ha, l3 a ha, qzUp_ne ha])
  have r6 : zRel (qzUp h5 60 7 (nI 0)) (zBk (zLd1 (zCh pd ln) q ph L m) 120) (zPush P n m) (min n 3 + 1) K ik pd 0 := r5.pad (fun a ha _ => qzUp_ne ha) (fun j hj => by simp [qzUp, hj]) (by simp [qzUp]) (by omega) (fun i hi => absurd hi (Nat.not_lt_zero _)) (fun i hi => absurd hi (Nat.not_lt_zero _))
  have y0 : h5 61 0 = nI q := by rw [y1 0 (by omega)]; simp [zBk, zLd1]
  refine ⟨qzUp h5 60 7 (nI 0), ?_, r6, fun a ha => by rw [qzUp_ne (by omega), y2 a (by omega), l3 a (by omega), qzUp_ne (by omega), a0 a (by omega) (by omega)]; exact x1.1 a (by omega)⟩
  have y00 : qzUp h5 60 7 (nI 0) 61 0 = nI q := by rw [qzUp_ne (by omega)]; exact y0
  rw [kX3_load]
  simp (disch := first | assumption | omega | (refine nI_ne0 ?_ ?_ <;> omega) | exact ar_60 | exact ar_61 | exact ar_62 | exact ar_63 | exact ar_64 | exact ar_65 | exact ar_66 | (refine qi_61 ?_; omega) | (refine qi_62 ?_; omega) | (refine qi_63 ?_; omega) | (refine qi_64 ?_; omega) | (refine qi_65 ?_; omega) | (refine qi_66 ?_; omega) | exact ln0 | exact ln1 | exact ln2 | exact ln3 | exact ln4 | exact ln5 | exact nbf0 | exact nbf1 | exact nb0n | exact nb1n | (refine nn0 ?_ ?_ <;> omega) | exact nb0 | exact nb1 | decide) only [eX3_load_0, eX3_load_1, eX3_load_4, eX3_load_7, eX3_load_9, eX3_load_10, eX3_load_11, eX3_load_14, eX3_load_15, eX3_load_18, eX3_load_19, eX3_load_20, eX3_load_23, eX3_load_24, eX3_load_25, eX3_load_27, eX3_load_29, eX3_load_32, eX3_load_33, eX3_load_36, eX3_load_38, eX3_load_39, eX3_load_40, eX3_load_41, eX3_load_42, eX3_load_45, eX3_load_48, eX3_load_49, eX3_load_52, eX3_load_53, eX3_load_54, eX3_load_57, eX3_load_58, eX3_load_59, eX3_load_62, eX3_load_63, eX3_load_64, eX3_load_66, eX3_load_67, eX3_load_70, eX3_load_71, eX3_load_72, eX3_load_75, eX3_load_78, eX3_load_79, eX3_load_82, eX3_load_83, eX3_load_84, eX3_load_87, eX3_load_88, eX3_load_91, eX3_load_92, eX3_load_93, vrf_s, vrf_n, rr_60_0, rr_60_1, rr_60_2, rr_60_4, rr_60_6, rr_60_8, Option.bind_some, Option.toList_some, Option.toList_none, List.cons_append, List.nil_append, List.singleton_append, nI_add, nI_mul, nI_sub, nI_cl, li_0, li_1, li_2, li_3, li_4, li_5, li_6, li_7, li_8, li_9, li_10, li_11, li_12, li_13, li_14, li_15, li_16, li_17, li_18, li_19, li_20, li_21, li_22, li_23, li_24, li_25, li_26, li_27, li_28, li_29, li_30, li_31, li_32, li_33, li_34, li_35, li_36, li_37, li_38, li_39, li_40, li_41, li_42, li_43, li_44, li_45, li_46, li_47, li_48, li_49, li_50, li_51, li_52, li_53, li_54, li_55, li_56, li_57, li_58, li_59, li_60, li_61, li_97, li_98, li_102, li_103, li_108, li_114, li_120, li_126, li_360, li_480, li_1000, li_10000, t1, t2, v12, t4, t5, y00, nI_eq', eq_self, if_true, if_false, not_true_eq_false, not_false_eq_true, Nat.one_ne_zero]
end REF17
