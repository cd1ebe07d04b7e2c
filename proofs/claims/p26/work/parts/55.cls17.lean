/-! the class: leads gone into -/
theorem zMx_base {b b' : Int} {g : Nat → Int} (h1 : b ≤ g 1) (h2 : b' ≤ g 1) : ∀ n, 1 ≤ n → zMx b g n = zMx b' g n := by
  intro n
  induction n with
  | zero => intro h; omega
  | succ n ih =>
    intro _
    show max (zMx b g n) (g (n + 1)) = max (zMx b' g n) (g (n + 1))
    by_cases q : n = 0
    · subst q
      show max b (g 1) = max b' (g 1)
      rw [Int.max_eq_right h1, Int.max_eq_right h2]
    · rw [ih (by omega)]
theorem iMax {a b : Int} (ha : -2000000 ≤ a ∧ a ≤ 2000000) (hb : -2000000 ≤ b ∧ b ≤ 2000000) : (if iI a < iI b then iI b else iI a) = iI (max a b) := by
  by_cases q : a < b
  · rw [if_pos ((iI_lt (by omega) (by omega)).mpr q), Int.max_eq_right (by omega)]
  · rw [if_neg (fun z => q ((iI_lt (by omega) (by omega)).mp z)), Int.max_eq_left (by omega)]
theorem nI_iI {a : Nat} {z : Int} : nI a - iI z = iI ((a : Int) - z) := by
  rw [iI_nat, iI_sub]
theorem iI_0 : nI 0 = iI 0 := rfl
theorem lTab.keep {h : Nat → Nat → Int32} {e : Nat} {c : Nat → Nat} {F M G st f en own oth : Nat} (hl : lTab h e c F M G st) (h1 : f < en) (h2 : en ≤ st) (h3 : own ≤ 6) (h4 : oth ≤ 6) : lTab (qzUp h (e + 3) (zPc f en own oth) (iI (zL c F M G f (en - f) (zEx own) (zEx oth)))) e c F M G st := by
  obtain ⟨l1, l2, l3, l4, l5, l6⟩ := hl
  refine ⟨by rw [qzUp_ne (by omega)]; exact l1, l2, fun i hi => by rw [qzUp_ne (by omega)]; exact l3 i hi, by rw [qzUp_ne (by omega)]; exact l4, l5, fun f' en' own' oth' g1 g2 g3 g4 => ?_⟩
  by_cases q : zPc f' en' own' oth' = zPc f en own oth
  · obtain ⟨r1, r2, r3, r4⟩ := zPc_inj g1 (by omega) h1 (by omega) g3 g4 h3 h4 q
    subst r1 r2 r3 r4
    exact Or.inr (by simp [qzUp])
  · have e0 : qzUp h (e + 3) (zPc f en own oth) (iI (zL c F M G f (en - f) (zEx own) (zEx oth))) (e + 3) (zPc f' en' own' oth') = h (e + 3) (zPc f' en' own' oth') := by simp [qzUp, q]
    rw [e0]
    exact l6 f' en' own' oth' g1 g2 g3 g4
section CLS18
variable {d : Nat} {pa : Nat → Nat} {h : Nat → Nat → Int32} {m T : Nat → Nat} {e : Nat} {c : Nat → Nat} {F M G st : Nat}
theorem lThrough (he : lE e) (hT : lTab h e c F M G st) {f l own oth dep k b : Nat} (hl : f + l ≤ st) (ho : own ≤ 6) (ho2 : oth ≤ 6) (hk : 1 ≤ k) (hk5 : k ≤ 5) (hkl : k ≤ l) (hb : b ≤ 1) (hd : dep ≤ 100) {h' : Nat → Nat → Int32} (ih : qzC (d + 2) 67 [.ref e, .int (nI (if b = 0 then f else f + k)), .int (nI (if b = 0 then f + l - k else f + l)), .int (nI oth), .int (nI (c ((if b = 0 then f + l - k else f) + k - 1))), .int (nI (dep + 1))] (67, qzRr pa, h) = some (some (.int (iI (zL c F M G (if b = 0 then f else f + k) (l - k) (zEx oth) (zEx (c ((if b = 0 then f + l - k else f) + k - 1)))))), (67, qzRr pa, h'))) : qzC (d + 3) 68 [.ref e, .int (nI f), .int (nI (f + l)), .int (nI own), .int (nI oth), .int (nI (zCo k b)), .int (nI dep)] (67, qzRr pa, h) = some (some (.int (iI (zCand c F M G f l (zEx own) (zEx oth) k b))), (67, qzRr pa, h')) := by
  obtain ⟨l1, l2, l3, ⟨l4, l5, l6⟩, ⟨b1, b2, b3⟩, l7⟩ := hT
  have c1 := sX2_sizeOf (d := d + 1) (hp := (67, qzRr pa, h)) hk hk5 hb
  have c2 := sX2_pieceStart (d := d) (hp := (67, qzRr pa, h)) (f := f) (e := f + l) hk hk5 hb (by omega)
  have c6 := sX2_restStart (d := d) (hp := (67, qzRr pa, h)) (f := f) (e := f + l) hk hk5 hb
  have c7 := sX2_restEnd (d := d) (hp := (67, qzRr pa, h)) (f := f) (e := f + l) hk hk5 hb (by omega)
  have hsr : (if b = 0 then f + l - k else f) + k ≤ f + l := by split <;> omega
  have hcc : zCand c F M G f l (zEx own) (zEx oth) k b = ((zWo c F M (if b = 0 then f + l - k else f) k (zEx own) : Nat) : Int) - zL c F M G (if b = 0 then f else f + k) (l - k) (zEx oth) (zEx (c ((if b = 0 then f + l - k else f) + k - 1))) := by
    have hx : ∀ i, i < st → zEx (c i) = c i + 1 := fun i hi => by
      have := (l3 i hi).2
      unfold zEx
      rw [if_neg (by omega)]
    unfold zCand
    rcases (by omega : b = 0 ∨ b = 1) with z | z
    · subst z
      rw [if_neg (by omega), if_pos rfl, if_pos rfl, hx _ (by omega), show f + l - k + k - 1 = f + l - 1 by omega]
    · subst z
      rw [if_pos rfl, if_neg (by omega), if_neg (by omega), hx _ (by omega)]
  rw [hcc]
  have c3 := sX2_traitsOf (d := d) (pa := pa) (h := h) (lE_0 he) (s := (if b = 0 then f + l - k else f)) (k := k) (c := c) (by omega) (fun i h1 h2 => (l3 i (by omega)).1) (fun i h1 h2 => (l3 i (by omega)).2) hk ho
  have ht := zTr_in (c := c) (s := (if b = 0 then f + l - k else f)) (k := k) (E := own)
  have c4 := sX2_worthOf (d := d + 1) (pa := pa) (h := h) (k := k) (tr := zTr c (if b = 0 then f + l - k else f) k own) (lE_1 he) l5 l6 (by omega)
  have hE : c (if b = 0 then f + l - k else f) = own ↔ zEx own = c (if b = 0 then f + l - k else f) + 1 := by
    have := (l3 (if b = 0 then f + l - k else f) (by omega)).2
    unfold zEx
    constructor
    · intro z; rw [if_neg (by omega)]; omega
    · intro z; split at z <;> omega
  rw [zWt_eq hE] at c4
  have c5 := sX2_at (d := d + 2) (pa := pa) (h := h) (k := (if b = 0 then f + l - k else f) + k - 1) (lE_0 he) (by omega)
  rw [(l3 _ (by omega)).1] at c5
  clear hcc l3 l7 ht hE l4 l5 l6 l1
  generalize hs0 : (if b = 0 then f + l - k else f) = S at *
  generalize c (S + k - 1) = C at *
  generalize zTr c S k own = TT at *
  generalize zWo c F M S k (zEx own) = W at *
  generalize (if b = 0 then f else f + k) = RS at *
  generalize (if b = 0 then f + l - k else f + l) = RE at *
  generalize zL c F M G RS (l - k) (zEx oth) (zEx C) = Z at *
  generalize zCo k b = CO at *
  simp (disch := first | assumption | omega | (refine nI_ne0 ?_ ?_ <;> omega) | exact agG (by assumption) | exact agG (Or.inl rfl) | exact al22 | (refine qi_22 ?_; omega) | exact ar_0 | exact arE (by assumption) | (refine cpG ?_ ?_ ?_ <;> first | assumption | omega) | exact le67 | exact al23 | (refine qi_23 ?_; omega) | exact ar_22 | exact ar_23 | exact ar_24 | exact ar_28 | exact ln0 | exact ln1 | exact ln2 | exact ln3 | exact ln4 | exact ln5 | exact ln6 | exact ln7 | exact ln8 | exact nbf0 | exact nbf1 | exact nb0n | exact nb1n | (refine nn0 ?_ ?_ <;> omega) | exact nb0 | exact nb1 | decide) only [kX2_goThrough, eX2_goThrough_0, eX2_goThrough_2, eX2_goThrough_5, eX2_goThrough_7, eX2_goThrough_8, eX2_goThrough_9, eX2_goThrough_11, eX2_goThrough_14, eX2_goThrough_16, eX2_goThrough_18, eX2_goThrough_19, eX2_goThrough_22, eX2_goThrough_24, eX2_goThrough_26, eX2_goThrough_27, eX2_goThrough_30, eX2_goThrough_31, eX2_goThrough_34, eX2_goThrough_37, eX2_goThrough_39, eX2_goThrough_40, eX2_goThrough_43, eX2_goThrough_45, eX2_goThrough_47, eX2_goThrough_48, eX2_goThrough_49, eX2_goThrough_50, eX2_goThrough_53, eX2_goThrough_55, eX2_goThrough_57, eX2_goThrough_58, eX2_goThrough_59, eX2_goThrough_61, eX2_goThrough_64, eX2_goThrough_65, eX2_goThrough_67, eX2_goThrough_70, eX2_goThrough_72, eX2_goThrough_74, eX2_goThrough_76, eX2_goThrough_77, eX2_goThrough_78, eX2_goThrough_81, eX2_goThrough_82, vrf_s, vrf_n, rG_0, rG_1, rG_2, rG_3, rG_4, rG_5, rr_1_0, rr_1_1, rr_1_2, rr_1_3, rr_1_4, rr_1_5, rr_8_0, rr_8_1, rr_8_2, rr_8_3, rr_8_4, rr_8_5, rL_0, rL_1, rL_2, rr_0_0, rr_0_1, rr_0_2, rr_0_4, rr_0_6, rr_0_8, rr_0_9, Option.bind_some, Option.toList_some, Option.toList_none, List.cons_append, List.nil_append, List.singleton_append, nI_add, nI_mul, nI_sub, nI_cl, li_0, li_1, li_2, li_3, li_4, li_5, li_6, li_7, li_8, li_9, li_10, li_11, li_12, li_13, li_14, li_15, li_16, li_17, li_18, li_19, li_20, li_21, li_22, li_23, li_24, li_25, li_26, li_27, li_28, li_29, li_30, li_31, li_32, li_33, li_34, li_35, li_36, li_37, li_38, li_39, li_40, li_41, li_42, li_43, li_44, li_45, li_46, li_47, li_48, li_49, li_50, li_51, li_52, li_53, li_54, li_55, li_56, li_57, li_58, li_59, li_60, li_61, li_97, li_98, li_102, li_103, li_108, li_114, li_120, li_126, li_360, li_480, li_1000, li_10000, c1, c2, c3, c4, c5, c6, c7, ih, nI_iI, nI_eq', eq_self, if_true, if_false, not_true_eq_false, not_false_eq_true, Nat.one_ne_zero]
theorem lThrough2 (he : lE e) (hT : lTab h e c F M G st) {f l own oth dep k b : Nat} (ih : (∀ l', l' < l → ∀ (d f own oth dep : Nat) (h : Nat → Nat → Int32), 2 * l' ≤ d → f + l' ≤ st → own ≤ 6 → oth ≤ 6 → dep + l' ≤ 20 → lTab h e c F M G st → ∃ h', qzC (d + 4) 67 [.ref e, .int (nI f), .int (nI (f + l')), .int (nI own), .int (nI oth), .int (nI dep)] (67, qzRr pa, h) = some (some (.int (iI (zL c F M G f l' (zEx own) (zEx oth)))), (67, qzRr pa, h')) ∧ lTab h' e c F M G st ∧ ∀ a, a ≠ e + 3 → h' a = h a)) (hd2 : 2 * l ≤ d + 2) (hl : f + l ≤ st) (ho : own ≤ 6) (ho2 : oth ≤ 6) (hk : 1 ≤ k) (hk5 : k ≤ 5) (hkl : k ≤ l) (hb : b ≤ 1) (hd : dep + l ≤ 20) : ∃ h', qzC (d + 5) 68 [.ref e, .int (nI f), .int (nI (f + l)), .int (nI own), .int (nI oth), .int (nI (zCo k b)), .int (nI dep)] (67, qzRr pa, h) = some (some (.int (iI (zCand c F M G f l (zEx own) (zEx oth) k b))), (67, qzRr pa, h')) ∧ lTab h' e c F M G st ∧ ∀ a, a ≠ e + 3 → h' a = h a := by
  have hst := hT.2.1
  have hc := fun i (hi : i < st) => (hT.2.2.1 i hi).2
  have hC : c ((if b = 0 then f + l - k else f) + k - 1) ≤ 6 := by
    have := hc ((if b = 0 then f + l - k else f) + k - 1) (by split <;> omega)
    omega
  obtain ⟨h', e1, e2, e3⟩ := ih (l - k) (by omega) d (if b = 0 then f else f + k) oth (c ((if b = 0 then f + l - k else f) + k - 1)) (dep + 1) h (by omega) (by split <;> omega) ho2 hC (by omega) hT
  refine ⟨h', ?_, e2, e3⟩
  have ee : (if b = 0 then f else f + k) + (l - k) = (if b = 0 then f + l - k else f + l) := by split <;> omega
  rw [ee] at e1
  exact lThrough (d := d + 2) he hT hl ho ho2 hk hk5 hkl hb (by omega) e1
theorem lIntoLoop (he : lE e) {f l own oth dep : Nat} (ih : (∀ l', l' < l → ∀ (d f own oth dep : Nat) (h : Nat → Nat → Int32), 2 * l' ≤ d → f + l' ≤ st → own ≤ 6 → oth ≤ 6 → dep + l' ≤ 20 → lTab h e c F M G st → ∃ h', qzC (d + 4) 67 [.ref e, .int (nI f), .int (nI (f + l')), .int (nI own), .int (nI oth), .int (nI dep)] (67, qzRr pa, h) = some (some (.int (iI (zL c F M G f l' (zEx own) (zEx oth)))), (67, qzRr pa, h')) ∧ lTab h' e c F M G st ∧ ∀ a, a ≠ e + 3 → h' a = h a)) (hd2 : 2 * l ≤ d + 2) (h1 : 1 ≤ l) (hl : f + l ≤ st) (ho : own ≤ 6) (ho2 : oth ≤ 6) (hd : dep + l ≤ 20) (hG : 1 ≤ G) : ∀ (r j : Nat), j + r = min l G → ∀ h : Nat → Nat → Int32, lTab h e c F M G st → ∃ h' x8, qzV (d + 6) 67 54 [.ref e, .int (nI f), .int (nI (f + l)), .int (nI own), .int (nI oth), .int (nI dep), .int (iI (zMx (-1000000) (zBoth c F M G f l (zEx own) (zEx oth)) j)), .int (nI (min l G)), .int (nI (j + 1))] [] (67, qzRr pa, h) = qzV (d + 6) 67 115 [.ref e, .int (nI f), .int (nI (f + l)), .int (nI own), .int (nI oth), .int (nI dep), .int (iI (zMx (-1000000) (zBoth c F M G f l (zEx own) (zEx oth)) (min l G))), .int (nI (min l G)), x8] [] (67, qzRr pa, h') ∧ lTab h' e c F M G st ∧ ∀ a, a ≠ e + 3 → h' a = h a := by
  intro r
  induction r with
  | zero =>
    intro j hj h hT
    have ej : j = min l G := by omega
    have g5 := hT.2.2.2.2.1.1
    rw [← ej]
    have w : j < j + 1 := by omega
    refine ⟨h, .int (nI (j + 1)), ?_, hT, fun _ _ => rfl⟩
    rw [eX2_goInto_54]
    have bj : j ≤ 20 := by have := hT.2.1; omega
    generalize zMx (-1000000) (zBoth c F M G f l (zEx own) (zEx oth)) j = Z
    simp (disch := first | assumption | omega | (refine nI_ne0 ?_ ?_ <;> omega) | exact agG (by assumption) | exact agG (Or.inl rfl) | exact al22 | (refine qi_22 ?_; omega) | exact ar_0 | exact arE (by assumption) | (refine cpG ?_ ?_ ?_ <;> first | assumption | omega) | exact le67 | exact al23 | (refine qi_23 ?_; omega) | exact ar_22 | exact ar_23 | exact ar_24 | exact ar_28 | exact ln0 | exact ln1 | exact ln2 | exact ln3 | exact ln4 | exact ln5 | exact ln6 | exact ln7 | exact ln8 | exact nbf0 | exact nbf1 | exact nb0n | exact nb1n | (refine nn0 ?_ ?_ <;> omega) | exact nb0 | exact nb1 | decide) only [eX2_goInto_0, eX2_goInto_1, eX2_goInto_2, eX2_goInto_5, eX2_goInto_7, eX2_goInto_9, eX2_goInto_12, eX2_goInto_13, eX2_goInto_14, eX2_goInto_15, eX2_goInto_16, eX2_goInto_17, eX2_goInto_18, eX2_goInto_20, eX2_goInto_23, eX2_goInto_25, eX2_goInto_27, eX2_goInto_29, eX2_goInto_32, eX2_goInto_34, eX2_goInto_35, eX2_goInto_36, eX2_goInto_39, eX2_goInto_40, eX2_goInto_43, eX2_goInto_44, eX2_goInto_45, eX2_goInto_46, eX2_goInto_49, eX2_goInto_51, eX2_goInto_52, eX2_goInto_56, eX2_goInto_58, eX2_goInto_61, eX2_goInto_63, eX2_goInto_64, eX2_goInto_65, eX2_goInto_66, eX2_goInto_67, eX2_goInto_69, eX2_goInto_71, eX2_goInto_72, eX2_goInto_75, eX2_goInto_77, eX2_goInto_80, eX2_goInto_83, eX2_goInto_85, eX2_goInto_87, eX2_goInto_88, eX2_goInto_89, eX2_goInto_90, eX2_goInto_91, eX2_goInto_93, eX2_goInto_95, eX2_goInto_96, eX2_goInto_99, eX2_goInto_101, eX2_goInto_104, eX2_goInto_107, eX2_goInto_109, eX2_goInto_112, eX2_goInto_116, eX2_goInto_117, eX2_goInto_118, eX2_goInto_119, eX2_goInto_121, eX2_goInto_123, eX2_goInto_126, eX2_goInto_128, vrf_s, vrf_n, rG_0, rG_1, rG_2, rG_3, rG_4, rG_5, rr_1_0, rr_1_1, rr_1_2, rr_1_3, rr_1_4, rr_1_5, rr_8_0, rr_8_1, rr_8_2, rr_8_3, rr_8_4, rr_8_5, rL_0, rL_1, rL_2, rr_0_0, rr_0_1, rr_0_2, rr_0_4, rr_0_6, rr_0_8, rr_0_9, Option.bind_some, Option.toList_some, Option.toList_none, List.cons_append, List.nil_append, List.singleton_append, nI_add, nI_mul, nI_sub, nI_cl, li_0, li_1, li_2, li_3, li_4, li_5, li_6, li_7, li_8, li_9, li_10, li_11, li_12, li_13, li_14, li_15, li_16, li_17, li_18, li_19, li_20, li_21, li_22, li_23, li_24, li_25, li_26, li_27, li_28, li_29, li_30, li_31, li_32, li_33, li_34, li_35, li_36, li_37, li_38, li_39, li_40, li_41, li_42, li_43, li_44, li_45, li_46, li_47, li_48, li_49, li_50, li_51, li_52, li_53, li_54, li_55, li_56, li_57, li_58, li_59, li_60, li_61, li_97, li_98, li_102, li_103, li_108, li_114, li_120, li_126, li_360, li_480, li_1000, li_10000, nI_lt', w, nI_eq', eq_self, if_true, if_false, not_true_eq_false, not_false_eq_true, Nat.one_ne_zero]
  | succ r ihr =>
    intro j hj h hT
    have hst := hT.2.1
    have g5 := hT.2.2.2.2.1.1
    have f9 := hT.2.2.2.2.1.2.1
    have m9 := hT.2.2.2.2.1.2.2
    have w : ¬ min l G < j + 1 := by omega
    have bG : min l G ≤ 5 := by omega
    obtain ⟨h1', t1, t2, t3⟩ := lThrough2 (d := d) (pa := pa) he hT ih hd2 hl ho ho2 (k := j + 1) (b := 1) (by omega) (by omega) (by omega) (by omega) hd
    obtain ⟨h2', u1, u2, u3⟩ := lThrough2 (d := d) (pa := pa) he t2 ih hd2 hl ho ho2 (k := j + 1) (b := 0) (by omega) (by omega) (by omega) (by omega) hd
    obtain ⟨h3', v1, v2, v3, v4⟩ := ihr (j + 1) (by omega) h2' u2
    refine ⟨h3', v1, ?_, v3, fun a ha => (v4 a ha).trans ((u3 a ha).trans (t3 a ha))⟩
    rw [← v2, eX2_goInto_54]
    have bA := zCand_bd (c := c) (F := F) (M := M) (G := G) f9 m9 hG (f := f) (l := l) (own := zEx own) (oth := zEx oth) (k := j + 1) (b := 1) (by omega) (by omega)
    have bB := zCand_bd (c := c) (F := F) (M := M) (G := G) f9 m9 hG (f := f) (l := l) (own := zEx own) (oth := zEx oth) (k := j + 1) (b := 0) (by omega) (by omega)
    have bX : -1000000 ≤ zMx (-1000000) (zBoth c F M G f l (zEx own) (zEx oth)) j ∧ zMx (-1000000) (zBoth c F M G f l (zEx own) (zEx oth)) j ≤ 1000 := by
      refine ⟨zMx_ge, zMx_le (by omega) (fun k k1 k2 => Int.max_le.mpr ⟨?_, ?_⟩)⟩
      · have := (zCand_bd (c := c) (F := F) (M := M) (G := G) f9 m9 hG (f := f) (l := l) (own := zEx own) (oth := zEx oth) (k := k) (b := 1) (by omega) (by omega)).2
        omega
      · have := (zCand_bd (c := c) (F := F) (M := M) (G := G) f9 m9 hG (f := f) (l := l) (own := zEx own) (oth := zEx oth) (k := k) (b := 0) (by omega) (by omega)).2
        omega
    have eM : zMx (-1000000) (zBoth c F M G f l (zEx own) (zEx oth)) (j + 1) = max (max (zMx (-1000000) (zBoth c F M G f l (zEx own) (zEx oth)) j) (zCand c F M G f l (zEx own) (zEx oth) (j + 1) 1)) (zCand c F M G f l (zEx own) (zEx oth) (j + 1) 0) := by
      show max _ (max _ _) = _
      omega
    rw [eM]
    have k1 : ∀ hp, qzC (d + 5) 53 [.int (nI (j + 1)), .int (nI 1)] hp = some (some (.int (nI (zCo (j + 1) 1))), hp) := fun hp => sX2_codeOf (by omega)
    have k0 : ∀ hp, qzC (d + 5) 53 [.int (nI (j + 1)), .int (nI 0)] hp = some (some (.int (nI (zCo (j + 1) 0))), hp) := fun hp => sX2_codeOf (by omega)
    clear eM v2 ihr ih
    generalize zMx (-1000000) (zBoth c F M G f l (zEx own) (zEx oth)) j = X at *
    generalize zCand c F M G f l (zEx own) (zEx oth) (j + 1) 1 = A at *
    generalize zCand c F M G f l (zEx own) (zEx oth) (j + 1) 0 = B at *
    have i1 := iMax (a := X) (b := A) (by omega) (by omega)
    have i2 := iMax (a := max X A) (b := B) (by omega) (by omega)
    generalize zCo (j + 1) 1 = C1 at *
    generalize zCo (j + 1) 0 = C0 at *
    generalize min l G = GG at *
    simp (disch := first | assumption | omega | (refine nI_ne0 ?_ ?_ <;> omega) | exact agG (by assumption) | exact agG (Or.inl rfl) | exact al22 | (refine qi_22 ?_; omega) | exact ar_0 | exact arE (by assumption) | (refine cpG ?_ ?_ ?_ <;> first | assumption | omega) | exact le67 | exact al23 | (refine qi_23 ?_; omega) | exact ar_22 | exact ar_23 | exact ar_24 | exact ar_28 | exact ln0 | exact ln1 | exact ln2 | exact ln3 | exact ln4 | exact ln5 | exact ln6 | exact ln7 | exact ln8 | exact nbf0 | exact nbf1 | exact nb0n | exact nb1n | (refine nn0 ?_ ?_ <;> omega) | exact nb0 | exact nb1 | decide) only [eX2_goInto_0, eX2_goInto_1, eX2_goInto_2, eX2_goInto_5, eX2_goInto_7, eX2_goInto_9, eX2_goInto_12, eX2_goInto_13, eX2_goInto_14, eX2_goInto_15, eX2_goInto_16, eX2_goInto_17, eX2_goInto_18, eX2_goInto_20, eX2_goInto_23, eX2_goInto_25, eX2_goInto_27, eX2_goInto_29, eX2_goInto_32, eX2_goInto_34, eX2_goInto_35, eX2_goInto_36, eX2_goInto_39, eX2_goInto_40, eX2_goInto_43, eX2_goInto_44, eX2_goInto_45, eX2_goInto_46, eX2_goInto_49, eX2_goInto_51, eX2_goInto_52, eX2_goInto_56, eX2_goInto_58, eX2_goInto_61, eX2_goInto_63, eX2_goInto_64, eX2_goInto_65, eX2_goInto_66, eX2_goInto_67, eX2_goInto_69, eX2_goInto_71, eX2_goInto_72, eX2_goInto_75, eX2_goInto_77, eX2_goInto_80, eX2_goInto_83, eX2_goInto_85, eX2_goInto_87, eX2_goInto_88, eX2_goInto_89, eX2_goInto_90, eX2_goInto_91, eX2_goInto_93, eX2_goInto_95, eX2_goInto_96, eX2_goInto_99, eX2_goInto_101, eX2_goInto_104, eX2_goInto_107, eX2_goInto_109, eX2_goInto_112, eX2_goInto_116, eX2_goInto_117, eX2_goInto_118, eX2_goInto_119, eX2_goInto_121, eX2_goInto_123, eX2_goInto_126, eX2_goInto_128, vrf_s, vrf_n, rG_0, rG_1, rG_2, rG_3, rG_4, rG_5, rr_1_0, rr_1_1, rr_1_2, rr_1_3, rr_1_4, rr_1_5, rr_8_0, rr_8_1, rr_8_2, rr_8_3, rr_8_4, rr_8_5, rL_0, rL_1, rL_2, rr_0_0, rr_0_1, rr_0_2, rr_0_4, rr_0_6, rr_0_8, rr_0_9, Option.bind_some, Option.toList_some, Option.toList_none, List.cons_append, List.nil_append, List.singleton_append, nI_add, nI_mul, nI_sub, nI_cl, li_0, li_1, li_2, li_3, li_4, li_5, li_6, li_7, li_8, li_9, li_10, li_11, li_12, li_13, li_14, li_15, li_16, li_17, li_18, li_19, li_20, li_21, li_22, li_23, li_24, li_25, li_26, li_27, li_28, li_29, li_30, li_31, li_32, li_33, li_34, li_35, li_36, li_37, li_38, li_39, li_40, li_41, li_42, li_43, li_44, li_45, li_46, li_47, li_48, li_49, li_50, li_51, li_52, li_53, li_54, li_55, li_56, li_57, li_58, li_59, li_60, li_61, li_97, li_98, li_102, li_103, li_108, li_114, li_120, li_126, li_360, li_480, li_1000, li_10000, nI_lt', w, k1, k0, t1, u1, i1, i2, nI_eq', eq_self, if_true, if_false, not_true_eq_false, not_false_eq_true, Nat.one_ne_zero]
theorem lInto (he : lE e) (hG : 1 ≤ G) : ∀ (n l : Nat), l ≤ n → ∀ (d f own oth dep : Nat) (h : Nat → Nat → Int32), 2 * l ≤ d → f + l ≤ st → own ≤ 6 → oth ≤ 6 → dep + l ≤ 20 → lTab h e c F M G st → ∃ h', qzC (d + 4) 67 [.ref e, .int (nI f), .int (nI (f + l)), .int (nI own), .int (nI oth), .int (nI dep)] (67, qzRr pa, h) = some (some (.int (iI (zL c F M G f l (zEx own) (zEx oth)))), (67, qzRr pa, h')) ∧ lTab h' e c F M G st ∧ ∀ a, a ≠ e + 3 → h' a = h a := by
  intro n
  induction n with
  | zero =>
    intro l hn d f own oth dep h hd hl ho ho2 hdep hT
    have e0 : l = 0 := by omega
    subst e0
    have hst := hT.2.1
    have q : f + 0 ≤ f := Nat.le_refl _
    refine ⟨h, ?_, hT, fun _ _ => rfl⟩
    rw [zL_0, ← iI_0]
    simp (disch := first | assumption | omega | (refine nI_ne0 ?_ ?_ <;> omega) | exact agG (by assumption) | exact agG (Or.inl rfl) | exact al22 | (refine qi_22 ?_; omega) | exact ar_0 | exact arE (by assumption) | (refine cpG ?_ ?_ ?_ <;> first | assumption | omega) | exact le67 | exact al23 | (refine qi_23 ?_; omega) | exact ar_22 | exact ar_23 | exact ar_24 | exact ar_28 | exact ln0 | exact ln1 | exact ln2 | exact ln3 | exact ln4 | exact ln5 | exact ln6 | exact ln7 | exact ln8 | exact nbf0 | exact nbf1 | exact nb0n | exact nb1n | (refine nn0 ?_ ?_ <;> omega) | exact nb0 | exact nb1 | decide) only [kX2_goInto, eX2_goInto_0, eX2_goInto_1, eX2_goInto_2, eX2_goInto_5, eX2_goInto_7, eX2_goInto_9, eX2_goInto_12, eX2_goInto_13, eX2_goInto_14, eX2_goInto_15, eX2_goInto_16, eX2_goInto_17, eX2_goInto_18, eX2_goInto_20, eX2_goInto_23, eX2_goInto_25, eX2_goInto_27, eX2_goInto_29, eX2_goInto_32, eX2_goInto_34, eX2_goInto_35, eX2_goInto_36, eX2_goInto_39, eX2_goInto_40, eX2_goInto_43, eX2_goInto_44, eX2_goInto_45, eX2_goInto_46, eX2_goInto_49, eX2_goInto_51, eX2_goInto_52, eX2_goInto_54, eX2_goInto_56, eX2_goInto_58, eX2_goInto_61, eX2_goInto_63, eX2_goInto_64, eX2_goInto_65, eX2_goInto_66, eX2_goInto_67, eX2_goInto_69, eX2_goInto_71, eX2_goInto_72, eX2_goInto_75, eX2_goInto_77, eX2_goInto_80, eX2_goInto_83, eX2_goInto_85, eX2_goInto_87, eX2_goInto_88, eX2_goInto_89, eX2_goInto_90, eX2_goInto_91, eX2_goInto_93, eX2_goInto_95, eX2_goInto_96, eX2_goInto_99, eX2_goInto_101, eX2_goInto_104, eX2_goInto_107, eX2_goInto_109, eX2_goInto_112, eX2_goInto_115, eX2_goInto_116, eX2_goInto_117, eX2_goInto_118, eX2_goInto_119, eX2_goInto_121, eX2_goInto_123, eX2_goInto_126, eX2_goInto_128, vrf_s, vrf_n, rG_0, rG_1, rG_2, rG_3, rG_4, rG_5, rr_1_0, rr_1_1, rr_1_2, rr_1_3, rr_1_4, rr_1_5, rr_8_0, rr_8_1, rr_8_2, rr_8_3, rr_8_4, rr_8_5, rL_0, rL_1, rL_2, rr_0_0, rr_0_1, rr_0_2, rr_0_4, rr_0_6, rr_0_8, rr_0_9, Option.bind_some, Option.toList_some, Option.toList_none, List.cons_append, List.nil_append, List.singleton_append, nI_add, nI_mul, nI_sub, nI_cl, li_0, li_1, li_2, li_3, li_4, li_5, li_6, li_7, li_8, li_9, li_10, li_11, li_12, li_13, li_14, li_15, li_16, li_17, li_18, li_19, li_20, li_21, li_22, li_23, li_24, li_25, li_26, li_27, li_28, li_29, li_30, li_31, li_32, li_33, li_34, li_35, li_36, li_37, li_38, li_39, li_40, li_41, li_42, li_43, li_44, li_45, li_46, li_47, li_48, li_49, li_50, li_51, li_52, li_53, li_54, li_55, li_56, li_57, li_58, li_59, li_60, li_61, li_97, li_98, li_102, li_103, li_108, li_114, li_120, li_126, li_360, li_480, li_1000, li_10000, nI_le', q, nI_eq', eq_self, if_true, if_false, not_true_eq_false, not_false_eq_true, Nat.one_ne_zero]
  | succ n ihn =>
    intro l hn d f own oth dep h hd hl ho ho2 hdep hT
    by_cases e0 : l = 0
    · subst e0
      have hst := hT.2.1
      have q : f + 0 ≤ f := Nat.le_refl _
      refine ⟨h, ?_, hT, fun _ _ => rfl⟩
      rw [zL_0, ← iI_0]
      simp (disch := first | assumption | omega | (refine nI_ne0 ?_ ?_ <;> omega) | exact agG (by assumption) | exact agG (Or.inl rfl) | exact al22 | (refine qi_22 ?_; omega) | exact ar_0 | exact arE (by assumption) | (refine cpG ?_ ?_ ?_ <;> first | assumption | omega) | exact le67 | exact al23 | (refine qi_23 ?_; omega) | exact ar_22 | exact ar_23 | exact ar_24 | exact ar_28 | exact ln0 | exact ln1 | exact ln2 | exact ln3 | exact ln4 | exact ln5 | exact ln6 | exact ln7 | exact ln8 | exact nbf0 | exact nbf1 | exact nb0n | exact nb1n | (refine nn0 ?_ ?_ <;> omega) | exact nb0 | exact nb1 | decide) only [kX2_goInto, eX2_goInto_0, eX2_goInto_1, eX2_goInto_2, eX2_goInto_5, eX2_goInto_7, eX2_goInto_9, eX2_goInto_12, eX2_goInto_13, eX2_goInto_14, eX2_goInto_15, eX2_goInto_16, eX2_goInto_17, eX2_goInto_18, eX2_goInto_20, eX2_goInto_23, eX2_goInto_25, eX2_goInto_27, eX2_goInto_29, eX2_goInto_32, eX2_goInto_34, eX2_goInto_35, eX2_goInto_36, eX2_goInto_39, eX2_goInto_40, eX2_goInto_43, eX2_goInto_44, eX2_goInto_45, eX2_goInto_46, eX2_goInto_49, eX2_goInto_51, eX2_goInto_52, eX2_goInto_54, eX2_goInto_56, eX2_goInto_58, eX2_goInto_61, eX2_goInto_63, eX2_goInto_64, eX2_goInto_65, eX2_goInto_66, eX2_goInto_67, eX2_goInto_69, eX2_goInto_71, eX2_goInto_72, eX2_goInto_75, eX2_goInto_77, eX2_goInto_80, eX2_goInto_83, eX2_goInto_85, eX2_goInto_87, eX2_goInto_88, eX2_goInto_89, eX2_goInto_90, eX2_goInto_91, eX2_goInto_93, eX2_goInto_95, eX2_goInto_96, eX2_goInto_99, eX2_goInto_101, eX2_goInto_104, eX2_goInto_107, eX2_goInto_109, eX2_goInto_112, eX2_goInto_115, eX2_goInto_116, eX2_goInto_117, eX2_goInto_118, eX2_goInto_119, eX2_goInto_121, eX2_goInto_123, eX2_goInto_126, eX2_goInto_128, vrf_s, vrf_n, rG_0, rG_1, rG_2, rG_3, rG_4, rG_5, rr_1_0, rr_1_1, rr_1_2, rr_1_3, rr_1_4, rr_1_5, rr_8_0, rr_8_1, rr_8_2, rr_8_3, rr_8_4, rr_8_5, rL_0, rL_1, rL_2, rr_0_0, rr_0_1, rr_0_2, rr_0_4, rr_0_6, rr_0_8, rr_0_9, Option.bind_some, Option.toList_some, Option.toList_none, List.cons_append, List.nil_append, List.singleton_append, nI_add, nI_mul, nI_sub, nI_cl, li_0, li_1, li_2, li_3, li_4, li_5, li_6, li_7, li_8, li_9, li_10, li_11, li_12, li_13, li_14, li_15, li_16, li_17, li_18, li_19, li_20, li_21, li_22, li_23, li_24, li_25, li_26, li_27, li_28, li_29, li_30, li_31, li_32, li_33, li_34, li_35, li_36, li_37, li_38, li_39, li_40, li_41, li_42, li_43, li_44, li_45, li_46, li_47, li_48, li_49, li_50, li_51, li_52, li_53, li_54, li_55, li_56, li_57, li_58, li_59, li_60, li_61, li_97, li_98, li_102, li_103, li_108, li_114, li_120, li_126, li_360, li_480, li_1000, li_10000, nI_le', q, nI_eq', eq_self, if_true, if_false, not_true_eq_false, not_false_eq_true, Nat.one_ne_zero]
    · have hst := hT.2.1
      obtain ⟨d, rfl⟩ : ∃ d', d = d' + 2 := ⟨d - 2, by omega⟩
      show ∃ h', qzC (d + 6) 67 _ _ = _ ∧ _
      have g5 := hT.2.2.2.2.1.1
      have f9 := hT.2.2.2.2.1.2.1
      have m9 := hT.2.2.2.2.1.2.2
      have q1 : ¬ f + l ≤ f := by omega
      have q2 : dep ≤ 20 := by omega
      have tl := sX1_told (d := d + 4) (pa := pa) (h := h) he (f := f) (en := f + l) (own := own) (oth := oth) (by omega) (by omega) ho ho2
      have bL := zL_bd (c := c) (F := F) (M := M) (G := G) f9 m9 hG l l f (zEx own) (zEx oth) (Nat.le_refl _)
      rcases hT.2.2.2.2.2 f (f + l) own oth (by omega) hl ho ho2 with z | z
      · rw [z] at tl
        have hset := sX2_at (d := d + 5) (pa := pa) (h := h) (k := 0) (lE_1 he) (by omega)
        rw [hT.2.2.2.1.1] at hset
        obtain ⟨h', x8, e1, e2, e3⟩ := lIntoLoop (d := d) (pa := pa) he (f := f) (l := l) (own := own) (oth := oth) (dep := dep) (fun l' hl' d f own oth dep h => ihn l' (by omega) d f own oth dep h) (by omega) (by omega) hl ho ho2 hdep hG (min l G) 0 (by omega) h hT
        have eB : zMx (-1000000) (zBoth c F M G f l (zEx own) (zEx oth)) (min l G) = zL c F M G f l (zEx own) (zEx oth) := by
          have h1 := (zCand_bd (c := c) (F := F) (M := M) (G := G) f9 m9 hG (f := f) (l := l) (own := zEx own) (oth := zEx oth) (k := 1) (b := 1) (by omega) (by omega)).1
          have h2 : zCand c F M G f l (zEx own) (zEx oth) 1 1 ≤ zBoth c F M G f l (zEx own) (zEx oth) 1 := Int.le_max_left _ _
          rw [zL_eq (by omega)]
          exact zMx_base (by omega) (by omega) _ (by omega)
        rw [eB] at e1
        have kp := sX1_keep (d := d + 4) (pa := pa) (h := h') (x := iI (zL c F M G f l (zEx own) (zEx oth))) he (f := f) (en := f + l) (own := own) (oth := oth) (by omega) (by omega) ho ho2
        have lk := e2.keep (f := f) (en := f + l) (own := own) (oth := oth) (by omega) hl ho ho2
        rw [Nat.add_sub_cancel_left] at lk
        refine ⟨_, ?_, lk, fun a ha => (qzUp_ne ha).trans (e3 a ha)⟩
        have e0' : zMx (-1000000) (zBoth c F M G f l (zEx own) (zEx oth)) 0 = -1000000 := rfl
        rw [e0'] at e1
        have eF : f + l - f = l := by omega
        clear eB lk e2 bL ihn
        generalize zL c F M G f l (zEx own) (zEx oth) = Z at *
        have e5 : qzC (d + 6) 67 [.ref e, .int (nI f), .int (nI (f + l)), .int (nI own), .int (nI oth), .int (nI dep)] (67, qzRr pa, h) = qzV (d + 6) 67 54 [.ref e, .int (nI f), .int (nI (f + l)), .int (nI own), .int (nI oth), .int (nI dep), .int (iI (-1000000)), .int (nI (min l G)), .int (nI (0 + 1))] [] (67, qzRr pa, h) := by
          by_cases y : l < G
          · rw [show min l G = l by omega]
            simp (disch := first | assumption | omega | (refine nI_ne0 ?_ ?_ <;> omega) | exact agG (by assumption) | exact agG (Or.inl rfl) | exact al22 | (refine qi_22 ?_; omega) | exact ar_0 | exact arE (by assumption) | (refine cpG ?_ ?_ ?_ <;> first | assumption | omega) | exact le67 | exact al23 | (refine qi_23 ?_; omega) | exact ar_22 | exact ar_23 | exact ar_24 | exact ar_28 | exact ln0 | exact ln1 | exact ln2 | exact ln3 | exact ln4 | exact ln5 | exact ln6 | exact ln7 | exact ln8 | exact nbf0 | exact nbf1 | exact nb0n | exact nb1n | (refine nn0 ?_ ?_ <;> omega) | exact nb0 | exact nb1 | decide) only [kX2_goInto, eX2_goInto_0, eX2_goInto_1, eX2_goInto_2, eX2_goInto_5, eX2_goInto_7, eX2_goInto_9, eX2_goInto_12, eX2_goInto_13, eX2_goInto_14, eX2_goInto_15, eX2_goInto_16, eX2_goInto_17, eX2_goInto_18, eX2_goInto_20, eX2_goInto_23, eX2_goInto_25, eX2_goInto_27, eX2_goInto_29, eX2_goInto_32, eX2_goInto_34, eX2_goInto_35, eX2_goInto_36, eX2_goInto_39, eX2_goInto_40, eX2_goInto_43, eX2_goInto_44, eX2_goInto_45, eX2_goInto_46, eX2_goInto_49, eX2_goInto_51, eX2_goInto_52, eX2_goInto_56, eX2_goInto_58, eX2_goInto_61, eX2_goInto_63, eX2_goInto_64, eX2_goInto_65, eX2_goInto_66, eX2_goInto_67, eX2_goInto_69, eX2_goInto_71, eX2_goInto_72, eX2_goInto_75, eX2_goInto_77, eX2_goInto_80, eX2_goInto_83, eX2_goInto_85, eX2_goInto_87, eX2_goInto_88, eX2_goInto_89, eX2_goInto_90, eX2_goInto_91, eX2_goInto_93, eX2_goInto_95, eX2_goInto_96, eX2_goInto_99, eX2_goInto_101, eX2_goInto_104, eX2_goInto_107, eX2_goInto_109, eX2_goInto_112, eX2_goInto_115, eX2_goInto_116, eX2_goInto_117, eX2_goInto_118, eX2_goInto_119, eX2_goInto_121, eX2_goInto_123, eX2_goInto_126, eX2_goInto_128, vrf_s, vrf_n, rG_0, rG_1, rG_2, rG_3, rG_4, rG_5, rr_1_0, rr_1_1, rr_1_2, rr_1_3, rr_1_4, rr_1_5, rr_8_0, rr_8_1, rr_8_2, rr_8_3, rr_8_4, rr_8_5, rL_0, rL_1, rL_2, rr_0_0, rr_0_1, rr_0_2, rr_0_4, rr_0_6, rr_0_8, rr_0_9, Option.bind_some, Option.toList_some, Option.toList_none, List.cons_append, List.nil_append, List.singleton_append, nI_add, nI_mul, nI_sub, nI_cl, li_0, li_1, li_2, li_3, li_4, li_5, li_6, li_7, li_8, li_9, li_10, li_11, li_12, li_13, li_14, li_15, li_16, li_17, li_18, li_19, li_20, li_21, li_22, li_23, li_24, li_25, li_26, li_27, li_28, li_29, li_30, li_31, li_32, li_33, li_34, li_35, li_36, li_37, li_38, li_39, li_40, li_41, li_42, li_43, li_44, li_45, li_46, li_47, li_48, li_49, li_50, li_51, li_52, li_53, li_54, li_55, li_56, li_57, li_58, li_59, li_60, li_61, li_97, li_98, li_102, li_103, li_108, li_114, li_120, li_126, li_360, li_480, li_1000, li_10000, nI_le', nI_lt', q1, q2, liU, tl, hset, eF, y, Nat.zero_add, nI_eq', eq_self, if_true, if_false, not_true_eq_false, not_false_eq_true, Nat.one_ne_zero]
          · rw [show min l G = G by omega]
            simp (disch := first | assumption | omega | (refine nI_ne0 ?_ ?_ <;> omega) | exact agG (by assumption) | exact agG (Or.inl rfl) | exact al22 | (refine qi_22 ?_; omega) | exact ar_0 | exact arE (by assumption) | (refine cpG ?_ ?_ ?_ <;> first | assumption | omega) | exact le67 | exact al23 | (refine qi_23 ?_; omega) | exact ar_22 | exact ar_23 | exact ar_24 | exact ar_28 | exact ln0 | exact ln1 | exact ln2 | exact ln3 | exact ln4 | exact ln5 | exact ln6 | exact ln7 | exact ln8 | exact nbf0 | exact nbf1 | exact nb0n | exact nb1n | (refine nn0 ?_ ?_ <;> omega) | exact nb0 | exact nb1 | decide) only [kX2_goInto, eX2_goInto_0, eX2_goInto_1, eX2_goInto_2, eX2_goInto_5, eX2_goInto_7, eX2_goInto_9, eX2_goInto_12, eX2_goInto_13, eX2_goInto_14, eX2_goInto_15, eX2_goInto_16, eX2_goInto_17, eX2_goInto_18, eX2_goInto_20, eX2_goInto_23, eX2_goInto_25, eX2_goInto_27, eX2_goInto_29, eX2_goInto_32, eX2_goInto_34, eX2_goInto_35, eX2_goInto_36, eX2_goInto_39, eX2_goInto_40, eX2_goInto_43, eX2_goInto_44, eX2_goInto_45, eX2_goInto_46, eX2_goInto_49, eX2_goInto_51, eX2_goInto_52, eX2_goInto_56, eX2_goInto_58, eX2_goInto_61, eX2_goInto_63, eX2_goInto_64, eX2_goInto_65, eX2_goInto_66, eX2_goInto_67, eX2_goInto_69, eX2_goInto_71, eX2_goInto_72, eX2_goInto_75, eX2_goInto_77, eX2_goInto_80, eX2_goInto_83, eX2_goInto_85, eX2_goInto_87, eX2_goInto_88, eX2_goInto_89, eX2_goInto_90, eX2_goInto_91, eX2_goInto_93, eX2_goInto_95, eX2_goInto_96, eX2_goInto_99, eX2_goInto_101, eX2_goInto_104, eX2_goInto_107, eX2_goInto_109, eX2_goInto_112, eX2_goInto_115, eX2_goInto_116, eX2_goInto_117, eX2_goInto_118, eX2_goInto_119, eX2_goInto_121, eX2_goInto_123, eX2_goInto_126, eX2_goInto_128, vrf_s, vrf_n, rG_0, rG_1, rG_2, rG_3, rG_4, rG_5, rr_1_0, rr_1_1, rr_1_2, rr_1_3, rr_1_4, rr_1_5, rr_8_0, rr_8_1, rr_8_2, rr_8_3, rr_8_4, rr_8_5, rL_0, rL_1, rL_2, rr_0_0, rr_0_1, rr_0_2, rr_0_4, rr_0_6, rr_0_8, rr_0_9, Option.bind_some, Option.toList_some, Option.toList_none, List.cons_append, List.nil_append, List.singleton_append, nI_add, nI_mul, nI_sub, nI_cl, li_0, li_1, li_2, li_3, li_4, li_5, li_6, li_7, li_8, li_9, li_10, li_11, li_12, li_13, li_14, li_15, li_16, li_17, li_18, li_19, li_20, li_21, li_22, li_23, li_24, li_25, li_26, li_27, li_28, li_29, li_30, li_31, li_32, li_33, li_34, li_35, li_36, li_37, li_38, li_39, li_40, li_41, li_42, li_43, li_44, li_45, li_46, li_47, li_48, li_49, li_50, li_51, li_52, li_53, li_54, li_55, li_56, li_57, li_58, li_59, li_60, li_61, li_97, li_98, li_102, li_103, li_108, li_114, li_120, li_126, li_360, li_480, li_1000, li_10000, nI_le', nI_lt', q1, q2, liU, tl, hset, eF, y, Nat.zero_add, nI_eq', eq_self, if_true, if_false, not_true_eq_false, not_false_eq_true, Nat.one_ne_zero]
        rw [e5, e1]
        generalize min l G = GG at *
        simp (disch := first | assumption | omega | (refine nI_ne0 ?_ ?_ <;> omega) | exact agG (by assumption) | exact agG (Or.inl rfl) | exact al22 | (refine qi_22 ?_; omega) | exact ar_0 | exact arE (by assumption) | (refine cpG ?_ ?_ ?_ <;> first | assumption | omega) | exact le67 | exact al23 | (refine qi_23 ?_; omega) | exact ar_22 | exact ar_23 | exact ar_24 | exact ar_28 | exact ln0 | exact ln1 | exact ln2 | exact ln3 | exact ln4 | exact ln5 | exact ln6 | exact ln7 | exact ln8 | exact nbf0 | exact nbf1 | exact nb0n | exact nb1n | (refine nn0 ?_ ?_ <;> omega) | exact nb0 | exact nb1 | decide) only [eX2_goInto_0, eX2_goInto_1, eX2_goInto_2, eX2_goInto_5, eX2_goInto_7, eX2_goInto_9, eX2_goInto_12, eX2_goInto_13, eX2_goInto_14, eX2_goInto_15, eX2_goInto_16, eX2_goInto_17, eX2_goInto_18, eX2_goInto_20, eX2_goInto_23, eX2_goInto_25, eX2_goInto_27, eX2_goInto_29, eX2_goInto_32, eX2_goInto_34, eX2_goInto_35, eX2_goInto_36, eX2_goInto_39, eX2_goInto_40, eX2_goInto_43, eX2_goInto_44, eX2_goInto_45, eX2_goInto_46, eX2_goInto_49, eX2_goInto_51, eX2_goInto_52, eX2_goInto_56, eX2_goInto_58, eX2_goInto_61, eX2_goInto_63, eX2_goInto_64, eX2_goInto_65, eX2_goInto_66, eX2_goInto_67, eX2_goInto_69, eX2_goInto_71, eX2_goInto_72, eX2_goInto_75, eX2_goInto_77, eX2_goInto_80, eX2_goInto_83, eX2_goInto_85, eX2_goInto_87, eX2_goInto_88, eX2_goInto_89, eX2_goInto_90, eX2_goInto_91, eX2_goInto_93, eX2_goInto_95, eX2_goInto_96, eX2_goInto_99, eX2_goInto_101, eX2_goInto_104, eX2_goInto_107, eX2_goInto_109, eX2_goInto_112, eX2_goInto_115, eX2_goInto_116, eX2_goInto_117, eX2_goInto_118, eX2_goInto_119, eX2_goInto_121, eX2_goInto_123, eX2_goInto_126, eX2_goInto_128, vrf_s, vrf_n, rG_0, rG_1, rG_2, rG_3, rG_4, rG_5, rr_1_0, rr_1_1, rr_1_2, rr_1_3, rr_1_4, rr_1_5, rr_8_0, rr_8_1, rr_8_2, rr_8_3, rr_8_4, rr_8_5, rL_0, rL_1, rL_2, rr_0_0, rr_0_1, rr_0_2, rr_0_4, rr_0_6, rr_0_8, rr_0_9, Option.bind_some, Option.toList_some, Option.toList_none, List.cons_append, List.nil_append, List.singleton_append, nI_add, nI_mul, nI_sub, nI_cl, li_0, li_1, li_2, li_3, li_4, li_5, li_6, li_7, li_8, li_9, li_10, li_11, li_12, li_13, li_14, li_15, li_16, li_17, li_18, li_19, li_20, li_21, li_22, li_23, li_24, li_25, li_26, li_27, li_28, li_29, li_30, li_31, li_32, li_33, li_34, li_35, li_36, li_37, li_38, li_39, li_40, li_41, li_42, li_43, li_44, li_45, li_46, li_47, li_48, li_49, li_50, li_51, li_52, li_53, li_54, li_55, li_56, li_57, li_58, li_59, li_60, li_61, li_97, li_98, li_102, li_103, li_108, li_114, li_120, li_126, li_360, li_480, li_1000, li_10000, kp, nI_eq', eq_self, if_true, if_false, not_true_eq_false, not_false_eq_true, Nat.one_ne_zero]
      · rw [z, Nat.add_sub_cancel_left] at tl
        refine ⟨h, ?_, hT, fun _ _ => rfl⟩
        have nu : ¬ iI (zL c F M G f l (zEx own) (zEx oth)) = iI (-1000000) := fun y => by
          have := (iI_eq (by omega) (by omega)).mp y
          omega
        clear ihn
        generalize zL c F M G f l (zEx own) (zEx oth) = Z at *
        simp (disch := first | assumption | omega | (refine nI_ne0 ?_ ?_ <;> omega) | exact agG (by assumption) | exact agG (Or.inl rfl) | exact al22 | (refine qi_22 ?_; omega) | exact ar_0 | exact arE (by assumption) | (refine cpG ?_ ?_ ?_ <;> first | assumption | omega) | exact le67 | exact al23 | (refine qi_23 ?_; omega) | exact ar_22 | exact ar_23 | exact ar_24 | exact ar_28 | exact ln0 | exact ln1 | exact ln2 | exact ln3 | exact ln4 | exact ln5 | exact ln6 | exact ln7 | exact ln8 | exact nbf0 | exact nbf1 | exact nb0n | exact nb1n | (refine nn0 ?_ ?_ <;> omega) | exact nb0 | exact nb1 | decide) only [kX2_goInto, eX2_goInto_0, eX2_goInto_1, eX2_goInto_2, eX2_goInto_5, eX2_goInto_7, eX2_goInto_9, eX2_goInto_12, eX2_goInto_13, eX2_goInto_14, eX2_goInto_15, eX2_goInto_16, eX2_goInto_17, eX2_goInto_18, eX2_goInto_20, eX2_goInto_23, eX2_goInto_25, eX2_goInto_27, eX2_goInto_29, eX2_goInto_32, eX2_goInto_34, eX2_goInto_35, eX2_goInto_36, eX2_goInto_39, eX2_goInto_40, eX2_goInto_43, eX2_goInto_44, eX2_goInto_45, eX2_goInto_46, eX2_goInto_49, eX2_goInto_51, eX2_goInto_52, eX2_goInto_54, eX2_goInto_56, eX2_goInto_58, eX2_goInto_61, eX2_goInto_63, eX2_goInto_64, eX2_goInto_65, eX2_goInto_66, eX2_goInto_67, eX2_goInto_69, eX2_goInto_71, eX2_goInto_72, eX2_goInto_75, eX2_goInto_77, eX2_goInto_80, eX2_goInto_83, eX2_goInto_85, eX2_goInto_87, eX2_goInto_88, eX2_goInto_89, eX2_goInto_90, eX2_goInto_91, eX2_goInto_93, eX2_goInto_95, eX2_goInto_96, eX2_goInto_99, eX2_goInto_101, eX2_goInto_104, eX2_goInto_107, eX2_goInto_109, eX2_goInto_112, eX2_goInto_115, eX2_goInto_116, eX2_goInto_117, eX2_goInto_118, eX2_goInto_119, eX2_goInto_121, eX2_goInto_123, eX2_goInto_126, eX2_goInto_128, vrf_s, vrf_n, rG_0, rG_1, rG_2, rG_3, rG_4, rG_5, rr_1_0, rr_1_1, rr_1_2, rr_1_3, rr_1_4, rr_1_5, rr_8_0, rr_8_1, rr_8_2, rr_8_3, rr_8_4, rr_8_5, rL_0, rL_1, rL_2, rr_0_0, rr_0_1, rr_0_2, rr_0_4, rr_0_6, rr_0_8, rr_0_9, Option.bind_some, Option.toList_some, Option.toList_none, List.cons_append, List.nil_append, List.singleton_append, nI_add, nI_mul, nI_sub, nI_cl, li_0, li_1, li_2, li_3, li_4, li_5, li_6, li_7, li_8, li_9, li_10, li_11, li_12, li_13, li_14, li_15, li_16, li_17, li_18, li_19, li_20, li_21, li_22, li_23, li_24, li_25, li_26, li_27, li_28, li_29, li_30, li_31, li_32, li_33, li_34, li_35, li_36, li_37, li_38, li_39, li_40, li_41, li_42, li_43, li_44, li_45, li_46, li_47, li_48, li_49, li_50, li_51, li_52, li_53, li_54, li_55, li_56, li_57, li_58, li_59, li_60, li_61, li_97, li_98, li_102, li_103, li_108, li_114, li_120, li_126, li_360, li_480, li_1000, li_10000, nI_le', q1, q2, liU, tl, nu, nI_eq', eq_self, if_true, if_false, not_true_eq_false, not_false_eq_true, Nat.one_ne_zero]
end CLS18
