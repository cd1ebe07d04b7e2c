/-! best leads, as numbers -/
def iI (z : Int) : Int32 := Int32.ofInt z
theorem iI_nat {n : Nat} : nI n = iI (n : Int) := rfl
theorem iI_toInt {z : Int} (h1 : -2147483648 ≤ z) (h2 : z < 2147483648) : (iI z).toInt = z := by
  unfold iI
  rw [Int32.toInt_ofInt]
  have e : Int32.size = 4294967296 := rfl
  rw [e]
  exact Int.bmod_eq_of_le (by omega) (by omega)
theorem iI_sub {a b : Int} : iI a - iI b = iI (a - b) := (Int32.ofInt_sub a b).symm
theorem iI_add {a b : Int} : iI a + iI b = iI (a + b) := (Int32.ofInt_add a b).symm
theorem iI_le {a b : Int} (ha : -2147483648 ≤ a ∧ a < 2147483648) (hb : -2147483648 ≤ b ∧ b < 2147483648) : iI a ≤ iI b ↔ a ≤ b := by
  rw [Int32.le_iff_toInt_le, iI_toInt ha.1 ha.2, iI_toInt hb.1 hb.2]
theorem iI_lt {a b : Int} (ha : -2147483648 ≤ a ∧ a < 2147483648) (hb : -2147483648 ≤ b ∧ b < 2147483648) : iI a < iI b ↔ a < b := by
  rw [Int32.lt_iff_toInt_lt, iI_toInt ha.1 ha.2, iI_toInt hb.1 hb.2]
theorem iI_eq {a b : Int} (ha : -2147483648 ≤ a ∧ a < 2147483648) (hb : -2147483648 ≤ b ∧ b < 2147483648) : iI a = iI b ↔ a = b := by
  rw [← Int32.toInt_inj, iI_toInt ha.1 ha.2, iI_toInt hb.1 hb.2]
def zMx (b : Int) (g : Nat → Int) : Nat → Int
  | 0 => b
  | n + 1 => max (zMx b g n) (g (n + 1))
theorem zMx_congr {b : Int} {g g' : Nat → Int} : ∀ {n : Nat}, (∀ k, 1 ≤ k → k ≤ n → g k = g' k) → zMx b g n = zMx b g' n
  | 0, _ => rfl
  | n + 1, h => by
    unfold zMx
    rw [zMx_congr (fun k h1 h2 => h k h1 (by omega)), h (n + 1) (by omega) (Nat.le_refl _)]
theorem zMx_ge {b : Int} {g : Nat → Int} : ∀ {n : Nat}, b ≤ zMx b g n
  | 0 => Int.le_refl _
  | n + 1 => Int.le_trans (zMx_ge (n := n)) (Int.le_max_left _ _)
theorem zMx_le {b : Int} {g : Nat → Int} {u : Int} : ∀ {n : Nat}, b ≤ u → (∀ k, 1 ≤ k → k ≤ n → g k ≤ u) → zMx b g n ≤ u
  | 0, hb, _ => hb
  | n + 1, hb, h => Int.max_le.mpr ⟨zMx_le hb (fun k h1 h2 => h k h1 (by omega)), h (n + 1) (by omega) (Nat.le_refl _)⟩
theorem zMx_at {b : Int} {g : Nat → Int} : ∀ {n k : Nat}, 1 ≤ k → k ≤ n → g k ≤ zMx b g n
  | 0, k, h1, h2 => by omega
  | n + 1, k, h1, h2 => by
    unfold zMx
    by_cases h : k = n + 1
    · subst h; exact Int.le_max_right _ _
    · exact Int.le_trans (zMx_at h1 (by omega)) (Int.le_max_left _ _)
def zLd (c : Nat → Nat) (F M G : Nat) : Nat → Nat → Nat → Nat → Nat → Int
  | 0, _, _, _, _ => 0
  | u + 1, f, l, own, oth => if l = 0 then 0 else zMx (-10000) (fun k => max ((zWo c F M f k own : Int) - zLd c F M G u (f + k) (l - k) oth (c (f + k - 1) + 1)) ((zWo c F M (f + l - k) k own : Int) - zLd c F M G u f (l - k) oth (c (f + l - 1) + 1))) (min l G)
theorem zLd_fuel {c : Nat → Nat} {F M G : Nat} : ∀ (u v f l own oth : Nat), l ≤ u → l ≤ v → zLd c F M G u f l own oth = zLd c F M G v f l own oth := by
  intro u
  induction u with
  | zero =>
    intro v f l own oth h1 h2
    have : l = 0 := by omega
    subst this
    cases v with
    | zero => rfl
    | succ v => unfold zLd; rw [if_pos rfl]
  | succ u ih =>
    intro v f l own oth h1 h2
    cases v with
    | zero =>
      have : l = 0 := by omega
      subst this
      unfold zLd; rw [if_pos rfl]
    | succ v =>
      unfold zLd
      by_cases hl : l = 0
      · rw [if_pos hl, if_pos hl]
      · rw [if_neg hl, if_neg hl]
        refine zMx_congr (fun k k1 k2 => ?_)
        rw [ih v (f + k) (l - k) _ _ (by omega) (by omega), ih v f (l - k) _ _ (by omega) (by omega)]
def zL (c : Nat → Nat) (F M G f l own oth : Nat) : Int := zLd c F M G l f l own oth
/-- the lead with a cut of k stripes, from the left (b = 1) or from the right -/
def zCand (c : Nat → Nat) (F M G f l own oth k b : Nat) : Int := if b = 1 then (zWo c F M f k own : Int) - zL c F M G (f + k) (l - k) oth (c (f + k - 1) + 1) else (zWo c F M (f + l - k) k own : Int) - zL c F M G f (l - k) oth (c (f + l - 1) + 1)
def zBoth (c : Nat → Nat) (F M G f l own oth k : Nat) : Int := max (zCand c F M G f l own oth k 1) (zCand c F M G f l own oth k 0)
theorem zL_0 {c : Nat → Nat} {F M G f own oth : Nat} : zL c F M G f 0 own oth = 0 := rfl
theorem zL_eq {c : Nat → Nat} {F M G f l own oth : Nat} (hl : 0 < l) : zL c F M G f l own oth = zMx (-10000) (zBoth c F M G f l own oth) (min l G) := by
  obtain ⟨u, rfl⟩ : ∃ u, l = u + 1 := ⟨l - 1, by omega⟩
  unfold zL
  rw [zLd, if_neg (by omega)]
  refine zMx_congr (fun k k1 k2 => ?_)
  unfold zBoth zCand zL
  rw [if_pos rfl, if_neg (by omega)]
  rw [zLd_fuel u (u + 1 - k) (f + k) (u + 1 - k) _ _ (by omega) (Nat.le_refl _), zLd_fuel u (u + 1 - k) f (u + 1 - k) _ _ (by omega) (Nat.le_refl _)]
theorem zWo_le {c : Nat → Nat} {F M a n L : Nat} (hF : F ≤ 9) (hM : M ≤ 9) : zWo c F M a n L ≤ n + 18 ∧ n ≤ zWo c F M a n L := by
  unfold zWo
  split <;> split <;> omega
theorem zL_bd {c : Nat → Nat} {F M G : Nat} (hF : F ≤ 9) (hM : M ≤ 9) (hG : 1 ≤ G) : ∀ (n l f own oth : Nat), l ≤ n → -(19 * (l : Int)) ≤ zL c F M G f l own oth ∧ zL c F M G f l own oth ≤ 19 * (l : Int) := by
  intro n
  induction n with
  | zero =>
    intro l f own oth h
    have : l = 0 := by omega
    subst this
    rw [zL_0]; omega
  | succ n ih =>
    intro l f own oth h
    by_cases hl : l = 0
    · subst hl; rw [zL_0]; omega
    · have hc : ∀ k b, 1 ≤ k → k ≤ l → b ≤ 1 → -(19 * (l : Int)) ≤ zCand c F M G f l own oth k b ∧ zCand c F M G f l own oth k b ≤ 19 * (l : Int) := by
        intro k b k1 k2 hb
        unfold zCand
        split
        · have h1 := ih (l - k) (f + k) oth (c (f + k - 1) + 1) (by omega)
          have h2 := zWo_le (c := c) (a := f) (n := k) (L := own) hF hM
          have e : ((l - k : Nat) : Int) = (l : Int) - k := by omega
          rw [e] at h1
          omega
        · have h1 := ih (l - k) f oth (c (f + l - 1) + 1) (by omega)
          have h2 := zWo_le (c := c) (a := f + l - k) (n := k) (L := own) hF hM
          have e : ((l - k : Nat) : Int) = (l : Int) - k := by omega
          rw [e] at h1
          omega
      rw [zL_eq (by omega)]
      have hm : 1 ≤ min l G := by omega
      refine ⟨?_, ?_⟩
      · have h1 := (hc 1 1 (by omega) (by omega) (by omega)).1
        have h2 : zCand c F M G f l own oth 1 1 ≤ zBoth c F M G f l own oth 1 := Int.le_max_left _ _
        have h3 := zMx_at (b := -10000) (g := zBoth c F M G f l own oth) (n := min l G) (k := 1) (by omega) hm
        omega
      · refine zMx_le (by omega) (fun k k1 k2 => ?_)
        exact Int.max_le.mpr ⟨(hc k 1 k1 (by omega) (by omega)).2, (hc k 0 k1 (by omega) (by omega)).2⟩
theorem zCand_bd {c : Nat → Nat} {F M G : Nat} (hF : F ≤ 9) (hM : M ≤ 9) (hG : 1 ≤ G) {f l own oth k b : Nat} (k1 : 1 ≤ k) (k2 : k ≤ l) : -(19 * (l : Int)) ≤ zCand c F M G f l own oth k b ∧ zCand c F M G f l own oth k b ≤ 19 * (l : Int) := by
  unfold zCand
  split
  · have h1 := zL_bd (c := c) hF hM hG (l - k) (l - k) (f + k) oth (c (f + k - 1) + 1) (by omega)
    have h2 := zWo_le (c := c) (a := f) (n := k) (L := own) hF hM
    have e : ((l - k : Nat) : Int) = (l : Int) - k := by omega
    rw [e] at h1
    omega
  · have h1 := zL_bd (c := c) hF hM hG (l - k) (l - k) f oth (c (f + l - 1) + 1) (by omega)
    have h2 := zWo_le (c := c) (a := f + l - k) (n := k) (L := own) hF hM
    have e : ((l - k : Nat) : Int) = (l : Int) - k := by omega
    rw [e] at h1
    omega
def zRowTab : List (Nat × Nat) := (List.range 20).flatMap (fun l => (List.range (20 - l)).map (fun f => (f, l + 1)))
theorem zRow_tab : ∀ l, l < 21 → 1 ≤ l → ∀ f, f < 21 → f + l ≤ 20 → (zRowTab.getD (zRow f l) (99, 99)).1 = f ∧ (zRowTab.getD (zRow f l) (99, 99)).2 = l := by decide +kernel
theorem zRow_lt : ∀ l, l < 21 → 1 ≤ l → ∀ f, f < 21 → f + l ≤ 20 → zRow f l < 210 := by decide +kernel
theorem zRow_inj {f l f' l' : Nat} (h1 : 1 ≤ l) (h2 : f + l ≤ 20) (h3 : 1 ≤ l') (h4 : f' + l' ≤ 20) (h : zRow f l = zRow f' l') : f = f' ∧ l = l' := by
  have e1 := zRow_tab l (by omega) h1 f (by omega) h2
  have e2 := zRow_tab l' (by omega) h3 f' (by omega) h4
  rw [h] at e1
  exact ⟨e1.1.symm.trans e2.1, e1.2.symm.trans e2.2⟩
/-- the place of a lead in the reference's table -/
def zAt (f l own oth : Nat) : Nat := 49 * zRow f l + 7 * own + oth
theorem zAt_inj {f l a b f' l' a' b' : Nat} (h1 : 1 ≤ l) (h2 : f + l ≤ 20) (h3 : 1 ≤ l') (h4 : f' + l' ≤ 20) (ha : a ≤ 6) (hb : b ≤ 6) (ha' : a' ≤ 6) (hb' : b' ≤ 6) (h : zAt f l a b = zAt f' l' a' b') : f = f' ∧ l = l' ∧ a = a' ∧ b = b' := by
  unfold zAt at h
  have e := zRow_inj (f := f) (l := l) (f' := f') (l' := l') h1 h2 h3 h4 (by omega)
  omega
theorem zAt_lt {f l a b : Nat} (h1 : 1 ≤ l) (h2 : f + l ≤ 20) (ha : a ≤ 6) (hb : b ≤ 6) : zAt f l a b < 10290 := by
  have := zRow_lt l (by omega) h1 f (by omega) h2
  unfold zAt
  omega
section REF2
variable {d : Nat} {pa : Nat → Nat} {h : Nat → Nat → Int32} {m : Nat → Nat}
theorem sX3_leadAt {f l own oth : Nat} (hfl : f + l ≤ 20) (ho : own ≤ 6) (ho2 : oth ≤ 6) (htb : h 66 (zAt f l own oth) = iI (zL (zCol m) (m 6) (m 7) (m 5) f l own oth) ∨ l = 0) : qzC (d + 1) 101 [.ref 60, .int (nI f), .int (nI l), .int (nI own), .int (nI oth)] (67, qzRr pa, h) = some (some (.int (iI (zL (zCol m) (m 6) (m 7) (m 5) f l own oth))), (67, qzRr pa, h)) := by
  by_cases hl : l = 0
  · subst hl
    rw [zL_0]
    simp (disch := first | assumption | exact ar_60 | exact ar_61 | exact ar_62 | exact ar_63 | exact ar_64 | exact ar_65 | exact ar_66 | (refine qi_61 ?_; omega) | (refine qi_62 ?_; omega) | (refine qi_63 ?_; omega) | (refine qi_64 ?_; omega) | (refine qi_65 ?_; omega) | (refine qi_66 ?_; omega) | exact ln0 | exact ln1 | exact ln2 | exact ln3 | exact ln4 | exact ln5 | exact nb0n | exact nb1n | (refine nn0 ?_ ?_ <;> omega) | exact nb0 | exact nb1 | omega | decide) only [kX3_leadAt, eX3_leadAt_0, eX3_leadAt_1, eX3_leadAt_4, eX3_leadAt_5, eX3_leadAt_8, eX3_leadAt_9, eX3_leadAt_12, eX3_leadAt_14, eX3_leadAt_15, eX3_leadAt_16, eX3_leadAt_19, eX3_leadAt_20, eX3_leadAt_22, eX3_leadAt_23, eX3_leadAt_24, eX3_leadAt_25, eX3_leadAt_27, eX3_leadAt_28, eX3_leadAt_29, vrf_s, vrf_n, rr_60_0, rr_60_1, rr_60_2, rr_60_4, rr_60_6, rr_60_8, Option.bind_some, Option.toList_some, Option.toList_none, List.cons_append, List.nil_append, List.singleton_append, nI_add, nI_mul, nI_sub, nI_cl, li_0, li_1, li_2, li_3, li_4, li_5, li_6, li_7, li_8, li_9, li_10, li_11, li_12, li_13, li_14, li_15, li_16, li_17, li_18, li_19, li_20, li_21, li_22, li_23, li_24, li_25, li_26, li_27, li_28, li_29, li_30, li_31, li_32, li_33, li_34, li_35, li_36, li_37, li_38, li_39, li_40, li_41, li_42, li_43, li_44, li_45, li_46, li_47, li_48, li_49, li_50, li_51, li_52, li_53, li_54, li_55, li_56, li_57, li_58, li_59, li_60, li_61, li_97, li_98, li_102, li_103, li_108, li_114, li_120, li_126, li_360, li_480, li_1000, li_10000, nI_eq', not_true_eq_false, if_false, eq_self]
    rfl
  · have ht := htb.resolve_right hl
    have hq := zAt_lt (f := f) (l := l) (a := own) (b := oth) (by omega) hfl ho ho2
    have hl1 : 1 ≤ l := by omega
    have hl2 : l ≤ 20 := by omega
    have hf2 : f ≤ 20 := by omega
    unfold zAt at hq ht
    simp (disch := first | assumption | exact ar_60 | exact ar_61 | exact ar_62 | exact ar_63 | exact ar_64 | exact ar_65 | exact ar_66 | (refine qi_61 ?_; omega) | (refine qi_62 ?_; omega) | (refine qi_63 ?_; omega) | (refine qi_64 ?_; omega) | (refine qi_65 ?_; omega) | (refine qi_66 ?_; omega) | exact ln0 | exact ln1 | exact ln2 | exact ln3 | exact ln4 | exact ln5 | exact nb0n | exact nb1n | (refine nn0 ?_ ?_ <;> omega) | exact nb0 | exact nb1 | omega | decide) only [kX3_leadAt, eX3_leadAt_0, eX3_leadAt_1, eX3_leadAt_4, eX3_leadAt_5, eX3_leadAt_8, eX3_leadAt_9, eX3_leadAt_12, eX3_leadAt_14, eX3_leadAt_15, eX3_leadAt_16, eX3_leadAt_19, eX3_leadAt_20, eX3_leadAt_22, eX3_leadAt_23, eX3_leadAt_24, eX3_leadAt_25, eX3_leadAt_27, eX3_leadAt_28, eX3_leadAt_29, vrf_s, vrf_n, rr_60_0, rr_60_1, rr_60_2, rr_60_4, rr_60_6, rr_60_8, Option.bind_some, Option.toList_some, Option.toList_none, List.cons_append, List.nil_append, List.singleton_append, nI_add, nI_mul, nI_sub, nI_cl, li_0, li_1, li_2, li_3, li_4, li_5, li_6, li_7, li_8, li_9, li_10, li_11, li_12, li_13, li_14, li_15, li_16, li_17, li_18, li_19, li_20, li_21, li_22, li_23, li_24, li_25, li_26, li_27, li_28, li_29, li_30, li_31, li_32, li_33, li_34, li_35, li_36, li_37, li_38, li_39, li_40, li_41, li_42, li_43, li_44, li_45, li_46, li_47, li_48, li_49, li_50, li_51, li_52, li_53, li_54, li_55, li_56, li_57, li_58, li_59, li_60, li_61, li_97, li_98, li_102, li_103, li_108, li_114, li_120, li_126, li_360, li_480, li_1000, li_10000, nI_eq', hl, hq, ht, sX3_rowOf, not_false_eq_true, if_true]
theorem sX3_leadBy (hs : ∀ i, i < 120 → h 61 i = nI (m i)) (hm : ∀ i, i < 120 → m i < 1000000) (h6 : m 6 ≤ 9) (h7 : m 7 ≤ 9) (hcol : ∀ i, i < 20 → m (8 + i) ≤ 5) {f l own oth k b n w : Nat} (hfl : f + l ≤ 20) (hw : f + l ≤ w) (ho : own ≤ 6) (ho2 : oth ≤ 6) (k1 : 1 ≤ k) (k2 : k ≤ l) (hb : b ≤ 1) (hn : l ≤ n) (htb : ∀ f l own oth, 1 ≤ l → l < n → f + l ≤ 20 → f + l ≤ w → own ≤ 6 → oth ≤ 6 → h 66 (zAt f l own oth) = iI (zL (zCol m) (m 6) (m 7) (m 5) f l own oth)) : qzC (d + 2) 103 [.ref 60, .int (nI f), .int (nI l), .int (nI own), .int (nI oth), .int (nI k), .int (nI b)] (67, qzRr pa, h) = some (some (.int (iI (zCand (zCol m) (m 6) (m 7) (m 5) f l own oth k b))), (67, qzRr pa, h)) := by
  rcases (by omega : b = 0 ∨ b = 1) with rfl | rfl
  · have hc := hcol (f + l - 1) (by omega)
    have e1 : 8 + (f + l - k) + k - 1 = 8 + (f + l - 1) := by omega
    have e2 : k ≤ f + l := by omega
    have ht : h 66 (zAt f (l - k) oth (m (8 + (f + l - 1)) + 1)) = iI (zL (zCol m) (m 6) (m 7) (m 5) f (l - k) oth (m (8 + (f + l - 1)) + 1)) ∨ l - k = 0 := by
      by_cases hz : l - k = 0
      · exact Or.inr hz
      · exact Or.inl (htb _ _ _ _ (by omega) (by omega) (by omega) (by omega) ho2 (by omega))
    have hA := sX3_leadAt (d := d) (pa := pa) (f := f) (l := l - k) (own := oth) (oth := m (8 + (f + l - 1)) + 1) (by omega) ho2 (by omega) ht
    have hW := sX3_worthOf (d := d) (pa := pa) hs hm (a := f + l - k) (n := k) (L := own) (by omega) (by omega) (by omega)
    simp (disch := first | assumption | exact ar_60 | exact ar_61 | exact ar_62 | exact ar_63 | exact ar_64 | exact ar_65 | exact ar_66 | (refine qi_61 ?_; omega) | (refine qi_62 ?_; omega) | (refine qi_63 ?_; omega) | (refine qi_64 ?_; omega) | (refine qi_65 ?_; omega) | (refine qi_66 ?_; omega) | exact ln0 | exact ln1 | exact ln2 | exact ln3 | exact ln4 | exact ln5 | exact nb0n | exact nb1n | (refine nn0 ?_ ?_ <;> omega) | exact nb0 | exact nb1 | omega | decide) only [kX3_leadBy, eX3_leadBy_0, eX3_leadBy_1, eX3_leadBy_2, eX3_leadBy_4, eX3_leadBy_6, eX3_leadBy_9, eX3_leadBy_11, eX3_leadBy_12, eX3_leadBy_15, eX3_leadBy_17, eX3_leadBy_19, eX3_leadBy_20, eX3_leadBy_22, eX3_leadBy_23, eX3_leadBy_24, eX3_leadBy_25, eX3_leadBy_26, eX3_leadBy_27, eX3_leadBy_28, eX3_leadBy_30, eX3_leadBy_31, eX3_leadBy_33, eX3_leadBy_35, eX3_leadBy_36, eX3_leadBy_39, eX3_leadBy_40, eX3_leadBy_42, eX3_leadBy_45, eX3_leadBy_46, eX3_leadBy_48, eX3_leadBy_49, eX3_leadBy_52, eX3_leadBy_53, eX3_leadBy_54, eX3_leadBy_56, eX3_leadBy_57, eX3_leadBy_59, eX3_leadBy_61, eX3_leadBy_64, eX3_leadBy_65, vrf_s, vrf_n, rr_60_0, rr_60_1, rr_60_2, rr_60_4, rr_60_6, rr_60_8, Option.bind_some, Option.toList_some, Option.toList_none, List.cons_append, List.nil_append, List.singleton_append, nI_add, nI_mul, nI_sub, nI_cl, li_0, li_1, li_2, li_3, li_4, li_5, li_6, li_7, li_8, li_9, li_10, li_11, li_12, li_13, li_14, li_15, li_16, li_17, li_18, li_19, li_20, li_21, li_22, li_23, li_24, li_25, li_26, li_27, li_28, li_29, li_30, li_31, li_32, li_33, li_34, li_35, li_36, li_37, li_38, li_39, li_40, li_41, li_42, li_43, li_44, li_45, li_46, li_47, li_48, li_49, li_50, li_51, li_52, li_53, li_54, li_55, li_56, li_57, li_58, li_59, li_60, li_61, li_97, li_98, li_102, li_103, li_108, li_114, li_120, li_126, li_360, li_480, li_1000, li_10000, nI_eq', hs, e1, hA, hW, sX3_firstOf e2, if_true, if_false, eq_self, Nat.one_ne_zero, iI_nat (n := zWo _ _ _ _ _ _), iI_sub]
    rfl
  · have hc := hcol (f + k - 1) (by omega)
    have e1 : 8 + f + k - 1 = 8 + (f + k - 1) := by omega
    have e2 : k ≤ f + l := by omega
    have ht : h 66 (zAt (f + k) (l - k) oth (m (8 + (f + k - 1)) + 1)) = iI (zL (zCol m) (m 6) (m 7) (m 5) (f + k) (l - k) oth (m (8 + (f + k - 1)) + 1)) ∨ l - k = 0 := by
      by_cases hz : l - k = 0
      · exact Or.inr hz
      · exact Or.inl (htb _ _ _ _ (by omega) (by omega) (by omega) (by omega) ho2 (by omega))
    have hA := sX3_leadAt (d := d) (pa := pa) (f := f + k) (l := l - k) (own := oth) (oth := m (8 + (f + k - 1)) + 1) (by omega) ho2 (by omega) ht
    have hW := sX3_worthOf (d := d) (pa := pa) hs hm (a := f) (n := k) (L := own) (by omega) (by omega) (by omega)
    simp (disch := first | assumption | exact ar_60 | exact ar_61 | exact ar_62 | exact ar_63 | exact ar_64 | exact ar_65 | exact ar_66 | (refine qi_61 ?_; omega) | (refine qi_62 ?_; omega) | (refine qi_63 ?_; omega) | (refine qi_64 ?_; omega) | (refine qi_65 ?_; omega) | (refine qi_66 ?_; omega) | exact ln0 | exact ln1 | exact ln2 | exact ln3 | exact ln4 | exact ln5 | exact nb0n | exact nb1n | (refine nn0 ?_ ?_ <;> omega) | exact nb0 | exact nb1 | omega | decide) only [kX3_leadBy, eX3_leadBy_0, eX3_leadBy_1, eX3_leadBy_2, eX3_leadBy_4, eX3_leadBy_6, eX3_leadBy_9, eX3_leadBy_11, eX3_leadBy_12, eX3_leadBy_15, eX3_leadBy_17, eX3_leadBy_19, eX3_leadBy_20, eX3_leadBy_22, eX3_leadBy_23, eX3_leadBy_24, eX3_leadBy_25, eX3_leadBy_26, eX3_leadBy_27, eX3_leadBy_28, eX3_leadBy_30, eX3_leadBy_31, eX3_leadBy_33, eX3_leadBy_35, eX3_leadBy_36, eX3_leadBy_39, eX3_leadBy_40, eX3_leadBy_42, eX3_leadBy_45, eX3_leadBy_46, eX3_leadBy_48, eX3_leadBy_49, eX3_leadBy_52, eX3_leadBy_53, eX3_leadBy_54, eX3_leadBy_56, eX3_leadBy_57, eX3_leadBy_59, eX3_leadBy_61, eX3_leadBy_64, eX3_leadBy_65, vrf_s, vrf_n, rr_60_0, rr_60_1, rr_60_2, rr_60_4, rr_60_6, rr_60_8, Option.bind_some, Option.toList_some, Option.toList_none, List.cons_append, List.nil_append, List.singleton_append, nI_add, nI_mul, nI_sub, nI_cl, li_0, li_1, li_2, li_3, li_4, li_5, li_6, li_7, li_8, li_9, li_10, li_11, li_12, li_13, li_14, li_15, li_16, li_17, li_18, li_19, li_20, li_21, li_22, li_23, li_24, li_25, li_26, li_27, li_28, li_29, li_30, li_31, li_32, li_33, li_34, li_35, li_36, li_37, li_38, li_39, li_40, li_41, li_42, li_43, li_44, li_45, li_46, li_47, li_48, li_49, li_50, li_51, li_52, li_53, li_54, li_55, li_56, li_57, li_58, li_59, li_60, li_61, li_97, li_98, li_102, li_103, li_108, li_114, li_120, li_126, li_360, li_480, li_1000, li_10000, nI_eq', hs, e1, hA, hW, sX3_firstOf e2, if_true, if_false, eq_self, Nat.one_ne_zero, iI_nat (n := zWo _ _ _ _ _ _), iI_sub]
    rfl
end REF2
