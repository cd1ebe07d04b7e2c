/-! the class: its whole state as numbers -/
/-- where a Game of the history lies -/
def pB (b : Nat) : Prop := b = 32 ∨ b = 39 ∨ b = 46 ∨ b = 53
theorem pB.g {b : Nat} (h : pB b) : gB b := by
  rcases h with rfl | rfl | rfl | rfl
  · exact Or.inr (Or.inr (Or.inr (Or.inl rfl)))
  · exact Or.inr (Or.inr (Or.inr (Or.inr (Or.inl rfl))))
  · exact Or.inr (Or.inr (Or.inr (Or.inr (Or.inr (Or.inl rfl)))))
  · exact Or.inr (Or.inr (Or.inr (Or.inr (Or.inr (Or.inr rfl)))))
theorem pB.far {b e : Nat} (hb : pB b) (he : pB e) (hne : b ≠ e) : b + 6 < e ∨ e + 6 < b := by
  rcases hb with rfl | rfl | rfl | rfl <;> rcases he with rfl | rfl | rfl | rfl <;> first | (exact absurd rfl hne) | omega
/-- a Game that is the numbers m -/
def gS (h : Nat → Nat → Int32) (b : Nat) (m T : Nat → Nat) : Prop := gRel h b m T ∧ gInv m T ∧ zInv m
theorem gS.fr {h h' : Nat → Nat → Int32} {b : Nat} {m T : Nat → Nat} (hs : gS h b m T) (hf : ∀ a, b ≤ a → a ≤ b + 6 → h' a = h a) : gS h' b m T := by
  obtain ⟨⟨⟨g6, g7, g8, g9⟩, gc, gs, gp⟩, hi, hz⟩ := hs
  have e0 := hf b (by omega) (by omega)
  have e1 := hf (b + 1) (by omega) (by omega)
  have e2 := hf (b + 2) (by omega) (by omega)
  have e3 := hf (b + 3) (by omega) (by omega)
  have e4 := hf (b + 4) (by omega) (by omega)
  have e5 := hf (b + 5) (by omega) (by omega)
  have e6 := hf (b + 6) (by omega) (by omega)
  unfold gS gRel gN
  rw [e0, e1, e2, e3, e4, e5, e6]
  exact ⟨⟨⟨g6, g7, g8, g9⟩, gc, gs, gp⟩, hi, hz⟩
def cR2 (h : Nat → Nat → Int32) (pa : Nat → Nat) (P TP : Nat → Nat → Nat) (n : Nat) : Prop := h 0 5 = nI n ∧ n ≤ 4 ∧ (∀ k, k < 4 → pB (pa k)) ∧ (∀ j k, j < 4 → k < 4 → pa j = pa k → j = k) ∧ ∀ k, k < n → gS h (pa k) (P k) (TP k)
def cR3 (h : Nat → Nat → Int32) (K TK : Nat → Nat) (ik : Nat) : Prop := h 0 3 = nI ik ∧ ik ≤ 1 ∧ (ik = 1 → gS h 15 K TK)
def cR4 (h : Nat → Nat → Int32) (pd : Nat → Nat) (ln : Nat) : Prop := (∀ i, i < ln → h 23 i = nI (pd i)) ∧ h 0 7 = nI ln ∧ ln ≤ 60 ∧ ∀ i, i < ln → 33 ≤ pd i ∧ pd i ≤ 126
/-- the class's state is the same numbers (but for its tables of leads) -/
def cRel (h : Nat → Nat → Int32) (pa : Nat → Nat) (m T : Nat → Nat) (P TP : Nat → Nat → Nat) (n : Nat) (K TK : Nat → Nat) (ik : Nat) (pd : Nat → Nat) (ln : Nat) : Prop := gS h 1 m T ∧ cR2 h pa P TP n ∧ cR3 h K TK ik ∧ cR4 h pd ln
section CLS10
variable {d : Nat} {pa : Nat → Nat} {h : Nat → Nat → Int32} {m T : Nat → Nat} {P TP : Nat → Nat → Nat} {n : Nat} {K TK : Nat → Nat} {ik : Nat} {pd : Nat → Nat} {ln : Nat}
theorem zRec16 (hn : n < 4) (h5 : h 0 5 = nI n) (g : gB (pa n)) (hd : 1 + 6 < pa n) : qzV (d + 1) 51 16 [.ref 0, .float 0] [] (67, qzRr pa, h) = some (none, (67, qzRr pa, qzUp (zCf h (pa n) 1) 0 5 (nI (n + 1)))) := by
  have hp := sX2_pastAt (d := d) (pa := pa) (h := h) hn
  have hc := gX0_copyFrom (d := d) (pa := pa) (h := h) (b := pa n) (e := 1) g (Or.inl rfl) (Or.inr hd)
  have h5' : zCf h (pa n) 1 0 5 = nI n := by rw [gCf_fr (by omega)]; exact h5
  simp (disch := first | assumption | omega | (refine nI_ne0 ?_ ?_ <;> omega) | exact agG (by assumption) | exact agG (Or.inl rfl) | exact al22 | (refine qi_22 ?_; omega) | exact ar_0 | exact ar_22 | exact ar_23 | exact ar_24 | exact ar_28 | exact ln0 | exact ln1 | exact ln2 | exact ln3 | exact ln4 | exact ln5 | exact nbf0 | exact nbf1 | exact nb0n | exact nb1n | (refine nn0 ?_ ?_ <;> omega) | exact nb0 | exact nb1 | decide) only [eX2_record_0, eX2_record_0N, eX2_record_1, eX2_record_4, eX2_record_4N, eX2_record_5, eX2_record_8, eX2_record_9, eX2_record_12, eX2_record_12N, eX2_record_13, eX2_record_16, eX2_record_16N, eX2_record_17, eX2_record_17N, eX2_record_18, eX2_record_21, eX2_record_24, eX2_record_24N, eX2_record_25, eX2_record_25N, eX2_record_26, eX2_record_26N, eX2_record_29, eX2_record_29N, eX2_record_30, eX2_record_30N, eX2_record_31, eX2_record_34, eX2_record_37, eX2_record_37N, eX2_record_38, eX2_record_39, eX2_record_42, eX2_record_43, eX2_record_44, eX2_record_47, vrf_s, vrf_n, rG_0, rG_1, rG_2, rG_3, rG_4, rG_5, rr_0_0, rr_0_1, rr_0_2, rr_0_4, rr_0_6, rr_0_8, rr_0_9, Option.bind_some, Option.toList_some, Option.toList_none, List.cons_append, List.nil_append, List.singleton_append, nI_add, nI_mul, nI_sub, nI_cl, li_0, li_1, li_2, li_3, li_4, li_5, li_6, li_7, li_8, li_9, li_10, li_11, li_12, li_13, li_14, li_15, li_16, li_17, li_18, li_19, li_20, li_21, li_22, li_23, li_24, li_25, li_26, li_27, li_28, li_29, li_30, li_31, li_32, li_33, li_34, li_35, li_36, li_37, li_38, li_39, li_40, li_41, li_42, li_43, li_44, li_45, li_46, li_47, li_48, li_49, li_50, li_51, li_52, li_53, li_54, li_55, li_56, li_57, li_58, li_59, li_60, li_61, li_97, li_98, li_102, li_103, li_108, li_114, li_120, li_126, li_360, li_480, li_1000, li_10000, hp, hc, h5, h5', kz22, nI_of20, nI_lt', hn, rr_22, nI_eq', eq_self, if_true, if_false, not_true_eq_false, not_false_eq_true, Nat.one_ne_zero]
theorem zPush_lo {P : Nat → Nat → Nat} {n k : Nat} {m : Nat → Nat} (c : n < 4) (hk : k < n) : zPush P n m k = P k := by
  funext i
  unfold zPush
  rw [if_pos c, if_neg (by omega)]
theorem zPush_hi {P : Nat → Nat → Nat} {n k : Nat} {m : Nat → Nat} (c : n = 4) (hk : k < 3) : zPush P n m k = P (k + 1) := by
  funext i
  unfold zPush
  rw [if_neg (by omega), if_neg (by omega)]
theorem zPush_at {P : Nat → Nat → Nat} {n : Nat} {m : Nat → Nat} (c : n ≤ 4) : zPush P n m (min n 3) = m := by
  funext i
  unfold zPush
  by_cases q : n < 4
  · rw [if_pos q, if_pos (by omega)]
  · rw [if_neg q, if_pos (by omega)]
theorem zRot_at {pa : Nat → Nat} {k : Nat} (hk : k < 4) : zRot pa k = pa (if k = 3 then 0 else k + 1) := by
  unfold zRot
  rcases (by omega : k = 0 ∨ k = 1 ∨ k = 2 ∨ k = 3) with e | e | e | e <;> subst e <;> rfl
theorem zRec0 {x : Value} (hR : cR2 h pa P TP n) : ∃ (pa' : Nat → Nat) (h1 : Nat → Nat → Int32), qzC (d + 2) 51 [.ref 0] (67, qzRr pa, h) = qzV (d + 2) 51 16 [.ref 0, .float 0] [] (67, qzRr pa', h1) ∧ h1 0 5 = nI (min n 3) ∧ (∀ k, k < 4 → pB (pa' k)) ∧ (∀ j k, j < 4 → k < 4 → pa' j = pa' k → j = k) ∧ (∀ k, k < min n 3 → gS h (pa' k) (zPush P n m k) (zPush TP n T k)) ∧ (∀ a, a ≠ 0 → h1 a = h a) ∧ ∀ j, j ≠ 5 → h1 0 j = h 0 j := by
  obtain ⟨p1, p2, p3, p4, p5⟩ := hR
  by_cases c : n < 4
  · refine ⟨pa, h, ?_, by rw [p1]; congr 1; omega, p3, p4, fun k hk => ?_, fun _ _ => rfl, fun _ _ => rfl⟩
    · simp (disch := first | assumption | omega | (refine nI_ne0 ?_ ?_ <;> omega) | exact agG (by assumption) | exact agG (Or.inl rfl) | exact al22 | (refine qi_22 ?_; omega) | exact ar_0 | exact ar_22 | exact ar_23 | exact ar_24 | exact ar_28 | exact ln0 | exact ln1 | exact ln2 | exact ln3 | exact ln4 | exact ln5 | exact nbf0 | exact nbf1 | exact nb0n | exact nb1n | (refine nn0 ?_ ?_ <;> omega) | exact nb0 | exact nb1 | decide) only [kX2_record, eX2_record_0, eX2_record_0N, eX2_record_1, eX2_record_4, eX2_record_4N, eX2_record_5, eX2_record_8, eX2_record_9, eX2_record_12, eX2_record_12N, eX2_record_13, eX2_record_16N, eX2_record_17, eX2_record_17N, eX2_record_18, eX2_record_21, eX2_record_24, eX2_record_24N, eX2_record_25, eX2_record_25N, eX2_record_26, eX2_record_26N, eX2_record_29, eX2_record_29N, eX2_record_30, eX2_record_30N, eX2_record_31, eX2_record_34, eX2_record_37, eX2_record_37N, eX2_record_38, eX2_record_39, eX2_record_42, eX2_record_43, eX2_record_44, eX2_record_47, vrf_s, vrf_n, rG_0, rG_1, rG_2, rG_3, rG_4, rG_5, rr_0_0, rr_0_1, rr_0_2, rr_0_4, rr_0_6, rr_0_8, rr_0_9, Option.bind_some, Option.toList_some, Option.toList_none, List.cons_append, List.nil_append, List.singleton_append, nI_add, nI_mul, nI_sub, nI_cl, li_0, li_1, li_2, li_3, li_4, li_5, li_6, li_7, li_8, li_9, li_10, li_11, li_12, li_13, li_14, li_15, li_16, li_17, li_18, li_19, li_20, li_21, li_22, li_23, li_24, li_25, li_26, li_27, li_28, li_29, li_30, li_31, li_32, li_33, li_34, li_35, li_36, li_37, li_38, li_39, li_40, li_41, li_42, li_43, li_44, li_45, li_46, li_47, li_48, li_49, li_50, li_51, li_52, li_53, li_54, li_55, li_56, li_57, li_58, li_59, li_60, li_61, li_97, li_98, li_102, li_103, li_108, li_114, li_120, li_126, li_360, li_480, li_1000, li_10000, p1, kz22, nI_of20, nI_lt', c, nI_eq', eq_self, if_true, if_false, not_true_eq_false, not_false_eq_true, Nat.one_ne_zero]
    · rw [zPush_lo c (by omega), zPush_lo c (by omega)]
      exact p5 k (by omega)
  · have c4 : n = 4 := by omega
    have hd := sX2_dropOldest (d := d) (pa := pa) (h := h) (p3 0 (by omega)).g (p3 1 (by omega)).g (p3 2 (by omega)).g (p3 3 (by omega)).g
    refine ⟨zRot pa, qzUp h 0 5 (nI 3), ?_, ?_, fun k hk => ?_, fun j k hj hk e => ?_, fun k hk => ?_, fun a ha => qzUp_ne ha, fun j hj => by simp [qzUp, hj]⟩
    · simp (disch := first | assumption | omega | (refine nI_ne0 ?_ ?_ <;> omega) | exact agG (by assumption) | exact agG (Or.inl rfl) | exact al22 | (refine qi_22 ?_; omega) | exact ar_0 | exact ar_22 | exact ar_23 | exact ar_24 | exact ar_28 | exact ln0 | exact ln1 | exact ln2 | exact ln3 | exact ln4 | exact ln5 | exact nbf0 | exact nbf1 | exact nb0n | exact nb1n | (refine nn0 ?_ ?_ <;> omega) | exact nb0 | exact nb1 | decide) only [kX2_record, eX2_record_0, eX2_record_0N, eX2_record_1, eX2_record_4, eX2_record_4N, eX2_record_5, eX2_record_8, eX2_record_9, eX2_record_12, eX2_record_12N, eX2_record_13, eX2_record_16N, eX2_record_17, eX2_record_17N, eX2_record_18, eX2_record_21, eX2_record_24, eX2_record_24N, eX2_record_25, eX2_record_25N, eX2_record_26, eX2_record_26N, eX2_record_29, eX2_record_29N, eX2_record_30, eX2_record_30N, eX2_record_31, eX2_record_34, eX2_record_37, eX2_record_37N, eX2_record_38, eX2_record_39, eX2_record_42, eX2_record_43, eX2_record_44, eX2_record_47, vrf_s, vrf_n, rG_0, rG_1, rG_2, rG_3, rG_4, rG_5, rr_0_0, rr_0_1, rr_0_2, rr_0_4, rr_0_6, rr_0_8, rr_0_9, Option.bind_some, Option.toList_some, Option.toList_none, List.cons_append, List.nil_append, List.singleton_append, nI_add, nI_mul, nI_sub, nI_cl, li_0, li_1, li_2, li_3, li_4, li_5, li_6, li_7, li_8, li_9, li_10, li_11, li_12, li_13, li_14, li_15, li_16, li_17, li_18, li_19, li_20, li_21, li_22, li_23, li_24, li_25, li_26, li_27, li_28, li_29, li_30, li_31, li_32, li_33, li_34, li_35, li_36, li_37, li_38, li_39, li_40, li_41, li_42, li_43, li_44, li_45, li_46, li_47, li_48, li_49, li_50, li_51, li_52, li_53, li_54, li_55, li_56, li_57, li_58, li_59, li_60, li_61, li_97, li_98, li_102, li_103, li_108, li_114, li_120, li_126, li_360, li_480, li_1000, li_10000, p1, hd, c4, kz22, nI_of20, nI_lt', Nat.lt_irrefl, nI_eq', eq_self, if_true, if_false, not_true_eq_false, not_false_eq_true, Nat.one_ne_zero]
    · rw [show min n 3 = 3 by omega]; simp [qzUp]
    · rw [zRot_at hk]; exact p3 _ (by split <;> omega)
    · rw [zRot_at hj, zRot_at hk] at e
      have := p4 _ _ (by split <;> omega) (by split <;> omega) e
      split at this <;> split at this <;> omega
    · rw [zPush_hi c4 (by omega), zPush_hi c4 (by omega), zRot_at (by omega), if_neg (by omega)]
      exact p5 (k + 1) (by omega)
theorem rX2_record (hR : cRel h pa m T P TP n K TK ik pd ln) : ∃ h' pa', qzC (d + 2) 51 [.ref 0] (67, qzRr pa, h) = some (none, (67, qzRr pa', h')) ∧ cRel h' pa' m T (zPush P n m) (zPush TP n T) (min n 3 + 1) K TK ik pd ln ∧ (∀ a, a ≠ 0 → a < 32 → h' a = h a) ∧ (∀ a, 60 ≤ a → h' a = h a) ∧ ∀ j, j ≠ 5 → h' 0 j = h 0 j := by
  obtain ⟨hm, hp, ⟨s1, s2, s3⟩, t1, t2, t3, t4⟩ := hR
  have hn4 := hp.2.1
  obtain ⟨pa', h1, e1, q1, q2, q3, q4, q5, q6⟩ := zRec0 (d := d) (m := m) (T := T) (x := .null) hp
  have pn := q2 (min n 3) (by omega)
  have pn32 : 32 ≤ pa' (min n 3) ∧ pa' (min n 3) ≤ 53 := by rcases pn with e | e | e | e <;> omega
  have e2 := zRec16 (d := d + 1) (pa := pa') (h := h1) (n := min n 3) (by omega) q1 pn.g (by omega)
  have hm1 : gS h1 1 m T := hm.fr (fun a a1 a2 => q5 a (by omega))
  have f0 : ∀ a, a ≠ 0 → a < 32 → qzUp (zCf h1 (pa' (min n 3)) 1) 0 5 (nI (min n 3 + 1)) a = h a := fun a a1 a2 => by rw [qzUp_ne a1, gCf_fr (by omega), q5 a a1]
  have f1 : ∀ a, 60 ≤ a → qzUp (zCf h1 (pa' (min n 3)) 1) 0 5 (nI (min n 3 + 1)) a = h a := fun a a1 => by rw [qzUp_ne (by omega), gCf_fr (by omega), q5 a (by omega)]
  have f2 : ∀ j, j ≠ 5 → qzUp (zCf h1 (pa' (min n 3)) 1) 0 5 (nI (min n 3 + 1)) 0 j = h 0 j := fun j hj => by
    rw [← q6 j hj]
    have e : zCf h1 (pa' (min n 3)) 1 0 j = h1 0 j := by rw [gCf_fr (by omega)]
    rw [← e]
    simp [qzUp, hj]
  refine ⟨qzUp (zCf h1 (pa' (min n 3)) 1) 0 5 (nI (min n 3 + 1)), pa', e1.trans e2, ⟨hm.fr (fun a a1 a2 => f0 a (by omega) (by omega)), ⟨by simp [qzUp], by omega, q2, q3, fun k hk => ?_⟩, ⟨by rw [f2 3 (by omega)]; exact s1, s2, fun z => (s3 z).fr (fun a a1 a2 => f0 a (by omega) (by omega))⟩, by rw [f0 23 (by omega) (by omega)]; exact t1, by rw [f2 7 (by omega)]; exact t2, t3, t4⟩, f0, f1, f2⟩
  by_cases c : k = min n 3
  · subst c
    rw [zPush_at hn4, zPush_at hn4]
    have g0 : gS (zCf h1 (pa' (min n 3)) 1) (pa' (min n 3)) m T := ⟨gCf_rel (Or.inr (by omega)) hm1.1 hm.2.2, hm.2.1, hm.2.2⟩
    exact g0.fr (fun a a1 a2 => qzUp_ne (by omega))
  · have pk := q2 k (by omega)
    have pk32 : 32 ≤ pa' k ∧ pa' k ≤ 53 := by rcases pk with e | e | e | e <;> omega
    have far := pk.far pn (fun e => c (q3 k (min n 3) (by omega) (by omega) e))
    have g0 := q4 k (by omega)
    exact g0.fr (fun a a1 a2 => by rw [qzUp_ne (by omega), gCf_fr (by omega), q5 a (by omega)])
end CLS10
