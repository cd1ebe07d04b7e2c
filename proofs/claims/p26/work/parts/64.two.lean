/-! each public call, of the class and of the reference: the same answer, the same numbers after -/
theorem zRel.fr {h h' : Nat → Nat → Int32} {m : Nat → Nat} {P : Nat → Nat → Nat} {n : Nat} {K : Nat → Nat} {ik : Nat} {pd : Nat → Nat} {ln : Nat} (hR : zRel h m P n K ik pd ln) (hf : ∀ a, 60 ≤ a → h' a = h a) : zRel h' m P n K ik pd ln := by
  have e0 := hf 60 (by omega)
  have e1 := hf 61 (by omega)
  have e3 := hf 63 (by omega)
  have e4 := hf 64 (by omega)
  have e5 := hf 65 (by omega)
  unfold zRel zR1 zR2 zR3 zR4 at *
  rw [e0, e1, e3, e4, e5]
  exact hR
theorem cRel.fr60 {h h' : Nat → Nat → Int32} {pa : Nat → Nat} {m T : Nat → Nat} {P TP : Nat → Nat → Nat} {n : Nat} {K TK : Nat → Nat} {ik : Nat} {pd : Nat → Nat} {ln : Nat} (hR : cRel h pa m T P TP n K TK ik pd ln) (hf : ∀ a, a < 60 → h' a = h a) : cRel h' pa m T P TP n K TK ik pd ln := by
  obtain ⟨hm, ⟨p1, p2, p3, p4, p5⟩, ⟨s1, s2, s3⟩, t1, t2, t3, t4⟩ := hR
  have f0 := hf 0 (by omega)
  refine ⟨hm.fr (fun a a1 a2 => hf a (by omega)), ⟨by rw [f0]; exact p1, p2, p3, p4, fun k hk => (p5 k hk).fr (fun a a1 a2 => hf a ?_)⟩, ⟨by rw [f0]; exact s1, s2, fun z => (s3 z).fr (fun a a1 a2 => hf a (by omega))⟩, by rw [hf 23 (by omega)]; exact t1, by rw [f0]; exact t2, t3, t4⟩
  have := p3 k (by omega)
  rcases this with e | e | e | e <;> omega
/-- both stand for the same numbers -/
def lwI (pa : Nat → Nat) (h : Nat → Nat → Int32) (ln : Nat) : Prop := ∃ (m T : Nat → Nat) (P TP : Nat → Nat → Nat) (n : Nat) (K TK : Nat → Nat) (ik : Nat) (pd : Nat → Nat), cRel h pa m T P TP n K TK ik pd ln ∧ zRel h m P n K ik pd ln ∧ lOk h 24 ∧ lOk h 28
/-- a call of the class, then the same of the reference -/
def lwT (mj1 mj2 : Nat) (as : List Value) (pa : Nat → Nat) (h : Nat → Nat → Int32) (ln : Nat) (eq : Prop) : Prop := ∃ (v v' : Int32) (pa1 : Nat → Nat) (h1 h2 : Nat → Nat → Int32) (ln' : Nat), qzC 60 mj1 (.ref 0 :: as) (67, qzRr pa, h) = some (some (.int v), (67, qzRr pa1, h1)) ∧ qzC 60 mj2 (.ref 60 :: as) (67, qzRr pa1, h1) = some (some (.int v'), (67, qzRr pa1, h2)) ∧ lwI pa1 h2 ln' ∧ (eq → v = v')
section LWT
variable {pa : Nat → Nat} {h : Nat → Nat → Int32} {m T m' : Nat → Nat} {P TP P' : Nat → Nat → Nat} {n n' : Nat} {K TK K' : Nat → Nat} {ik ik' : Nat} {pd pd' : Nat → Nat} {ln ln' : Nat} {eq : Prop} {as : List Value} {mj1 mj2 : Nat}
theorem lwT.mk {v v' : Int32} (he : eq → v = v') (hz : zRel h m P n K ik pd ln)
    (C : ∃ (h1 : Nat → Nat → Int32) (pa1 T' : Nat → Nat) (TP' : Nat → Nat → Nat) (TK' : Nat → Nat), qzC 60 mj1 (.ref 0 :: as) (67, qzRr pa, h) = some (some (.int v), (67, qzRr pa1, h1)) ∧ cRel h1 pa1 m' T' P' TP' n' K' TK' ik' pd' ln' ∧ lOk h1 24 ∧ lOk h1 28 ∧ ∀ a, 60 ≤ a → h1 a = h a)
    (Z : ∀ (h1 : Nat → Nat → Int32) (pa1 : Nat → Nat), zRel h1 m P n K ik pd ln → ∃ h2, qzC 60 mj2 (.ref 60 :: as) (67, qzRr pa1, h1) = some (some (.int v'), (67, qzRr pa1, h2)) ∧ zRel h2 m' P' n' K' ik' pd' ln' ∧ zFr h1 h2) : lwT mj1 mj2 as pa h ln eq := by
  obtain ⟨h1, pa1, T', TP', TK', e1, c1, l1, l2, f1⟩ := C
  obtain ⟨h2, e2, z2, f2⟩ := Z h1 pa1 (hz.fr f1)
  exact ⟨v, v', pa1, h1, h2, ln', e1, e2, ⟨m', T', P', TP', n', K', TK', ik', pd', c1.fr60 f2, z2, l1.fr (fun a a1 a2 => f2 a (by omega)), l2.fr (fun a a1 a2 => f2 a (by omega))⟩, he⟩
/-- nothing changes but the tables -/
theorem lwT.same {v v' : Int32} (he : eq → v = v') (hc : cRel h pa m T P TP n K TK ik pd ln) (hz : zRel h m P n K ik pd ln) (h24 : lOk h 24) (h28 : lOk h 28) (e1 : qzC 60 mj1 (.ref 0 :: as) (67, qzRr pa, h) = some (some (.int v), (67, qzRr pa, h)))
    (e2 : ∀ (h1 : Nat → Nat → Int32) (pa1 : Nat → Nat), zRel h1 m P n K ik pd ln → qzC 60 mj2 (.ref 60 :: as) (67, qzRr pa1, h1) = some (some (.int v'), (67, qzRr pa1, h1))) : lwT mj1 mj2 as pa h ln eq :=
  lwT.mk he hz ⟨h, pa, T, TP, TK, e1, hc, h24, h28, fun _ _ => rfl⟩ (fun h1 pa1 z => ⟨h1, e2 h1 pa1 z, z, fun _ _ => rfl⟩)
/-- an Int32 is without, or it is a number within -/
theorem vSplit (l u : Nat) (hl : l < 2147483648) (hu : u < 2147483648) (v : Int32) : (v < nI l ∨ nI u < v) ∨ ∃ k, l ≤ k ∧ k ≤ u ∧ v = nI k := by
  by_cases h1 : v < nI l
  · exact Or.inl (Or.inl h1)
  · by_cases h2 : nI u < v
    · exact Or.inl (Or.inr h2)
    · exact Or.inr (vIn hl hu h1 h2)
theorem cFr.l {h' : Nat → Nat → Int32} (hf : cFr h h') (h24 : lOk h 24) (h28 : lOk h 28) : lOk h' 24 ∧ lOk h' 28 ∧ ∀ a, 60 ≤ a → h' a = h a := ⟨h24.fr (fun a a1 a2 => hf.1 a (by omega) (by omega)), h28.fr (fun a a1 a2 => hf.1 a (by omega) (by omega)), hf.2⟩
theorem cF28.l {h' : Nat → Nat → Int32} (hf : cF28 h h') (h24 : lOk h 24) : lOk h' 24 ∧ lOk h' 28 ∧ ∀ a, 60 ≤ a → h' a = h a := ⟨h24.fr (fun a a1 a2 => hf.1 a (by omega) (by omega)), hf.2⟩
theorem cF24.l {h' : Nat → Nat → Int32} (hf : cF24 h h') (h28 : lOk h 28) : lOk h' 24 ∧ lOk h' 28 ∧ ∀ a, 60 ≤ a → h' a = h a := ⟨hf.2.1, h28.fr (fun a a1 a2 => hf.1 a (by omega) (by omega)), hf.2.2⟩
theorem fr22 {h' : Nat → Nat → Int32} (hf : ∀ a, 22 ≤ a → a < 32 → h' a = h a) (hg : ∀ a, 60 ≤ a → h' a = h a) (h24 : lOk h 24) (h28 : lOk h 28) : lOk h' 24 ∧ lOk h' 28 ∧ ∀ a, 60 ≤ a → h' a = h a := ⟨h24.fr (fun a a1 a2 => hf a (by omega) (by omega)), h28.fr (fun a a1 a2 => hf a (by omega) (by omega)), hg⟩
theorem fr8 {h' : Nat → Nat → Int32} (hf : ∀ a, 8 ≤ a → a < 32 → h' a = h a) (hg : ∀ a, 60 ≤ a → h' a = h a) (h24 : lOk h 24) (h28 : lOk h 28) : lOk h' 24 ∧ lOk h' 28 ∧ ∀ a, 60 ≤ a → h' a = h a := fr22 (fun a a1 a2 => hf a (by omega) a2) hg h24 h28
end LWT
section LWO
variable {pa : Nat → Nat} {h : Nat → Nat → Int32} {ln : Nat}
theorem lwO_cut (hI : lwI pa h ln) (X : Int32) {G : Int32} (hG : ∃ g, g ≤ 1 ∧ G = nI g) : lwT 25 110 [.int X, .int G] pa h ln (True) := by
  obtain ⟨m, T, P, TP, n, K, TK, ik, pd, hc, hz, h24, h28⟩ := hI
  obtain ⟨g, hg, rfl⟩ : ∃ g, g ≤ 1 ∧ G = nI g := hG
  rcases vSplit 1 5 (by omega) (by omega) X with e | ⟨k, k1, k5, rfl⟩
  · exact lwT.same (fun _ => rfl) hc hz h24 h28 (pX2_cut_e (d := 56) X g e) (fun h1 pa1 z1 => pX3_cut_e (d := 56) X g e)
  · by_cases hq : k ≤ m 2 ∧ k ≤ m 5
    · exact lwT.mk (fun _ => rfl) hz (by
        obtain ⟨h1, pa1, e, c, f⟩ := pX2_cut (d := 56) hc k1 hq.1 hq.2 hg
        exact ⟨h1, pa1, _, _, _, e, c, fr8 f.1 f.2 h24 h28⟩)
        (fun h1 pa1 z1 => pX3_cut (d := 56) z1 k1 hq.1 hq.2 hg)
    · exact lwT.same (fun _ => rfl) hc hz h24 h28 (pX2_cut_n (d := 56) hc k1 k5 hq) (fun h1 pa1 z1 => pX3_cut_n (d := 56) z1 k1 k5 hq)
theorem lwO_best (hI : lwI pa h ln)  : lwT 26 111 [] pa h ln (True) := by
  obtain ⟨m, T, P, TP, n, K, TK, ik, pd, hc, hz, h24, h28⟩ := hI
  by_cases h2 : m 2 = 0
  · exact lwT.mk (fun _ => rfl) hz (by
      obtain ⟨h1, e, c, f⟩ := pX2_best_n (d := 14) hc h28 h2
      exact ⟨h1, pa, _, _, _, e, c, f.l h24⟩) (fun h1 pa1 z1 => ⟨h1, pX3_best_n (d := 54) z1 h2, z1, fun _ _ => rfl⟩)
  · exact lwT.mk (fun _ => rfl) hz (by
      obtain ⟨h1, pa1, e, c, f⟩ := pX2_best (d := 14) hc h28 (by omega)
      exact ⟨h1, pa1, _, _, _, e, c, f.l h24⟩) (fun h1 pa1 z1 => pX3_best (d := 54) z1 (by omega))
theorem lwO_greedy (hI : lwI pa h ln)  : lwT 27 112 [] pa h ln (True) := by
  obtain ⟨m, T, P, TP, n, K, TK, ik, pd, hc, hz, h24, h28⟩ := hI
  by_cases h2 : m 2 = 0
  · exact lwT.mk (fun _ => rfl) hz (by
      obtain ⟨h1, e, c, f⟩ := pX2_greedy_n (d := 14) hc h28 h2
      exact ⟨h1, pa, _, _, _, e, c, f.l h24⟩) (fun h1 pa1 z1 => ⟨h1, pX3_greedy_n (d := 54) z1 h2, z1, fun _ _ => rfl⟩)
  · exact lwT.mk (fun _ => rfl) hz (by
      obtain ⟨h1, pa1, e, c, f⟩ := pX2_greedy (d := 14) hc h28 (by omega)
      exact ⟨h1, pa1, _, _, _, e, c, f.l h24⟩) (fun h1 pa1 z1 => pX3_greedy (d := 54) z1 (by omega))
theorem lwO_again (hI : lwI pa h ln)  : lwT 28 113 [] pa h ln (True) := by
  obtain ⟨m, T, P, TP, n, K, TK, ik, pd, hc, hz, h24, h28⟩ := hI
  exact lwT.mk (fun _ => rfl) hz (by
    obtain ⟨h1, pa1, e, c, f⟩ := pX2_again (d := 57) hc
    exact ⟨h1, pa1, _, _, _, e, c, fr8 f.1 f.2 h24 h28⟩)
    (fun h1 pa1 z1 => pX3_again (d := 58) z1)
theorem lwO_mirror (hI : lwI pa h ln)  : lwT 29 114 [] pa h ln (True) := by
  obtain ⟨m, T, P, TP, n, K, TK, ik, pd, hc, hz, h24, h28⟩ := hI
  exact lwT.mk (fun _ => rfl) hz (by
    obtain ⟨h1, pa1, e, c, f⟩ := pX2_mirror (d := 57) hc
    exact ⟨h1, pa1, _, _, _, e, c, f.l h24 h28⟩)
    (fun h1 pa1 z1 => pX3_mirror (d := 58) z1)
theorem lwO_set (hI : lwI pa h ln) (X Y : Int32) : lwT 30 115 [.int X, .int Y] pa h ln (True) := by
  obtain ⟨m, T, P, TP, n, K, TK, ik, pd, hc, hz, h24, h28⟩ := hI
  rcases vSplit 0 2 (by omega) (by omega) X with e | ⟨k, k1, k2, rfl⟩
  · exact lwT.same (fun _ => rfl) hc hz h24 h28 (pX2_set_e (d := 59) X Y e) (fun h1 pa1 z1 => pX3_set_e (d := 58) X Y e)
  · rcases vSplit (if k = 0 then 1 else 0) (if k = 0 then 5 else 9) (by split <;> omega) (by split <;> omega) Y with e | ⟨q, q1, q2, rfl⟩
    · exact lwT.same (fun _ => rfl) hc hz h24 h28 (pX2_set_e2 (d := 59) k Y k2 e) (fun h1 pa1 z1 => pX3_set_e2 (d := 58) k Y k2 e)
    · exact lwT.mk (fun _ => rfl) hz (by
        obtain ⟨h1, pa1, e, c, f⟩ := pX2_set (d := 57) hc k2 q1 q2
        exact ⟨h1, pa1, _, _, _, e, c, f.l h24 h28⟩)
        (fun h1 pa1 z1 => pX3_set (d := 58) z1 k2 q1 q2)
theorem lwO_append (hI : lwI pa h ln) (X : Int32) : lwT 31 116 [.int X] pa h ln (True) := by
  obtain ⟨m, T, P, TP, n, K, TK, ik, pd, hc, hz, h24, h28⟩ := hI
  rcases vSplit 33 126 (by omega) (by omega) X with e | ⟨k, k1, k2, rfl⟩
  · exact lwT.same (fun _ => rfl) hc hz h24 h28 (pX2_append_e (d := 60) X e) (fun h1 pa1 z1 => pX3_append_e (d := 59) X e)
  · by_cases hl : ln = 60
    · exact lwT.same (fun _ => rfl) hc hz h24 h28 (pX2_append_l (d := 60) hc k1 k2 hl) (fun h1 pa1 z1 => pX3_append_l (d := 59) z1 k1 k2 hl)
    · have hl2 : ln < 60 := by
        have := hc.2.2.2.2.2.1
        omega
      exact lwT.mk (fun _ => rfl) hz (by
        obtain ⟨h1, e, c, f⟩ := pX2_append (d := 60) hc k1 k2 hl2
        exact ⟨h1, pa, _, _, _, e, c, f.l h24 h28⟩)
        (fun h1 pa1 z1 => pX3_append (d := 59) z1 k1 k2 hl2)
theorem lwO_clear (hI : lwI pa h ln)  : lwT 32 117 [] pa h ln (True) := by
  obtain ⟨m, T, P, TP, n, K, TK, ik, pd, hc, hz, h24, h28⟩ := hI
  exact lwT.mk (fun _ => rfl) hz (by
    obtain ⟨h1, e, c, f⟩ := pX2_clear (d := 60) hc
    exact ⟨h1, pa, _, _, _, e, c, f.l h24 h28⟩)
    (fun h1 pa1 z1 => pX3_clear (d := 60) z1)
theorem lwO_fault (hI : lwI pa h ln) (X : Int32) : lwT 33 126 [.int X] pa h ln (ln < 60) := by
  obtain ⟨m, T, P, TP, n, K, TK, ik, pd, hc, hz, h24, h28⟩ := hI
  rcases vSplit 0 1 (by omega) (by omega) X with e | ⟨k, k1, k2, rfl⟩
  · exact lwT.same (fun _ => rfl) hc hz h24 h28 (pX2_fault_e (d := 59) X e) (fun h1 pa1 z1 => pX3_fault_e (d := 59) X e)
  · rcases (by omega : k = 0 ∨ k = 1) with e | e <;> subst e
    · exact lwT.mk (fun _ => rfl) hz ⟨h, pa, T, TP, TK, pX2_fault_0 (d := 55) hc, hc, h24, h28, fun _ _ => rfl⟩ (fun h1 pa1 z1 => pX3_fault_0 (d := 56) z1)
    · obtain ⟨v, e, q⟩ := pX2_fault_1 (d := 57) hc
      exact lwT.mk q hz ⟨h, pa, T, TP, TK, e, hc, h24, h28, fun _ _ => rfl⟩ (fun h1 pa1 z1 => pX3_fault_1 (d := 56) z1)
theorem lwO_load (hI : lwI pa h ln)  : lwT 34 127 [] pa h ln (True) := by
  obtain ⟨m, T, P, TP, n, K, TK, ik, pd, hc, hz, h24, h28⟩ := hI
  by_cases hb : (zBo (zCh pd ln)).1 = 1 ∧ (zBo (zCh pd ln)).2.1 = ln
  · exact lwT.mk (fun _ => rfl) hz (by
      obtain ⟨h1, pa1, e, c, f⟩ := pX2_load (d := 55) hc hb
      exact ⟨h1, pa1, _, _, _, e, c, f.l h24 h28⟩)
      (fun h1 pa1 z1 => pX3_load (d := 56) z1 hb)
  · exact lwT.mk (fun _ => rfl) hz ⟨h, pa, T, TP, TK, pX2_load_n (d := 55) hc hb, hc, h24, h28, fun _ _ => rfl⟩ (fun h1 pa1 z1 => pX3_load_n (d := 56) z1 hb)
theorem lwO_play (hI : lwI pa h ln)  : lwT 35 129 [] pa h ln (True) := by
  obtain ⟨m, T, P, TP, n, K, TK, ik, pd, hc, hz, h24, h28⟩ := hI
  by_cases hb : (zCu (zCh pd ln) ln).1 = 1
  · exact lwT.mk (fun _ => rfl) hz (by
      obtain ⟨h1, pa1, T', e, c, f⟩ := pX2_play (d := 14) hc h28 hb
      exact ⟨h1, pa1, _, _, _, e, c, f.l h24⟩) (fun h1 pa1 z1 => pX3_play (d := 54) z1 hb)
  · exact lwT.mk (fun _ => rfl) hz ⟨h, pa, T, TP, TK, pX2_play_n (d := 14) hc hb, hc, h24, h28, fun _ _ => rfl⟩ (fun h1 pa1 z1 => pX3_play_n (d := 54) z1 hb)
theorem lwO_stripe (hI : lwI pa h ln) (X : Int32) : lwT 36 130 [.int X] pa h ln (True) := by
  obtain ⟨m, T, P, TP, n, K, TK, ik, pd, hc, hz, h24, h28⟩ := hI
  have hm := hz.2.1.1
  rcases vSplit 0 (m 0 - 1) (by omega) (by omega) X with e | ⟨k, k1, k2, rfl⟩
  · exact lwT.same (fun _ => rfl) hc hz h24 h28 (pX2_stripe_e (d := 59) hc X e) (fun h1 pa1 z1 => pX3_stripe_e (d := 59) z1 X e)
  · exact lwT.same (fun _ => rfl) hc hz h24 h28 (pX2_stripe (d := 59) hc (by omega)) (fun h1 pa1 z1 => pX3_stripe (d := 59) z1 (by omega))
theorem lwO_coat (hI : lwI pa h ln) (X Y : Int32) : lwT 37 131 [.int X, .int Y] pa h ln (True) := by
  obtain ⟨m, T, P, TP, n, K, TK, ik, pd, hc, hz, h24, h28⟩ := hI
  rcases vSplit 0 1 (by omega) (by omega) X with e | ⟨k, k1, k2, rfl⟩
  · exact lwT.same (fun _ => rfl) hc hz h24 h28 (pX2_coat_e1 (d := 58) X Y e) (fun h1 pa1 z1 => pX3_coat_e1 (d := 59) X Y e)
  · rcases vSplit 0 5 (by omega) (by omega) Y with e | ⟨q, q1, q2, rfl⟩
    · exact lwT.same (fun _ => rfl) hc hz h24 h28 (pX2_coat_e2 (d := 58) k Y k2 e) (fun h1 pa1 z1 => pX3_coat_e2 (d := 59) k Y k2 e)
    · by_cases q3 : q = 3
      · subst q3
        exact lwT.same (fun _ => rfl) hc hz h24 h28 (pX2_coat_3 (d := 58) hc k2) (fun h1 pa1 z1 => pX3_coat_3 (d := 59) z1 k2)
      · exact lwT.same (fun _ => rfl) hc hz h24 h28 (pX2_coat (d := 58) hc k2 q2 q3) (fun h1 pa1 z1 => pX3_coat (d := 59) z1 k2 q2 q3)
theorem lwO_piece (hI : lwI pa h ln) (X Y Z : Int32) : lwT 38 132 [.int X, .int Y, .int Z] pa h ln (True) := by
  obtain ⟨m, T, P, TP, n, K, TK, ik, pd, hc, hz, h24, h28⟩ := hI
  rcases vSplit 0 1 (by omega) (by omega) X with e | ⟨k, k1, k2, rfl⟩
  · exact lwT.same (fun _ => rfl) hc hz h24 h28 (pX2_piece_e1 (d := 58) X Y Z e) (fun h1 pa1 z1 => pX3_piece_e1 (d := 59) X Y Z e)
  · rcases vSplit 0 2147483647 (by omega) (by omega) Y with e | ⟨q, q1, q2, rfl⟩
    · have e' : Y < nI 0 := by
        rcases e with e | e
        · exact e
        · rw [Int32.lt_iff_toInt_lt, show (nI 2147483647).toInt = 2147483647 by decide] at e
          have := Int32.toInt_lt Y
          omega
      exact lwT.same (fun _ => rfl) hc hz h24 h28 (pX2_piece_e2 (d := 58) k Y Z k2 e') (fun h1 pa1 z1 => pX3_piece_e2 (d := 59) k Y Z k2 e')
    · rcases vSplit 0 3 (by omega) (by omega) Z with e | ⟨u, u1, u2, rfl⟩
      · exact lwT.same (fun _ => rfl) hc hz h24 h28 (pX2_piece_e3 (d := 58) k q Z k2 (by omega) e) (fun h1 pa1 z1 => pX3_piece_e3 (d := 59) k q Z k2 (by omega) e)
      · exact lwT.same (fun _ => rfl) hc hz h24 h28 (pX2_piece (d := 58) hc k2 (by omega) u2) (fun h1 pa1 z1 => pX3_piece (d := 59) z1 k2 (by omega) u2)
theorem lwO_count (hI : lwI pa h ln) (X : Int32) : lwT 39 137 [.int X] pa h ln (True) := by
  obtain ⟨m, T, P, TP, n, K, TK, ik, pd, hc, hz, h24, h28⟩ := hI
  rcases vSplit 0 13 (by omega) (by omega) X with e | ⟨k, k1, k2, rfl⟩
  · have e' : X.toInt < 0 ∨ 13 < X.toInt := by
      rcases e with e | e
      · exact Or.inl (by rw [Int32.lt_iff_toInt_lt, show (nI 0).toInt = 0 by decide] at e; exact e)
      · exact Or.inr (by rw [Int32.lt_iff_toInt_lt, show (nI 13).toInt = 13 by decide] at e; exact e)
    exact lwT.same (fun _ => rfl) hc hz h24 h28 (pX2_count_e (d := 57) hc X e') (fun h1 pa1 z1 => pX3_count_e (d := 58) X e')
  · rcases (by omega : k = 0 ∨ k = 1 ∨ k = 2 ∨ k = 3 ∨ k = 4 ∨ k = 5 ∨ k = 6 ∨ k = 7 ∨ k = 8 ∨ k = 9 ∨ k = 10 ∨ k = 11 ∨ k = 12 ∨ k = 13) with e | e | e | e | e | e | e | e | e | e | e | e | e | e <;> subst e
    · exact lwT.same (fun _ => rfl) hc hz h24 h28 (pX2_count_0 (d := 57) hc) (fun h1 pa1 z1 => pX3_count_0 (d := 58) z1)
    · exact lwT.same (fun _ => rfl) hc hz h24 h28 (pX2_count_1 (d := 57) hc) (fun h1 pa1 z1 => pX3_count_1 (d := 58) z1)
    · exact lwT.same (fun _ => rfl) hc hz h24 h28 (pX2_count_2 (d := 57) hc) (fun h1 pa1 z1 => pX3_count_2 (d := 58) z1)
    · exact lwT.same (fun _ => rfl) hc hz h24 h28 (pX2_count_3 (d := 57) hc) (fun h1 pa1 z1 => pX3_count_3 (d := 58) z1)
    · exact lwT.same (fun _ => rfl) hc hz h24 h28 (pX2_count_4 (d := 57) hc) (fun h1 pa1 z1 => pX3_count_4 (d := 58) z1)
    · exact lwT.same (fun _ => rfl) hc hz h24 h28 (pX2_count_5 (d := 57) hc) (fun h1 pa1 z1 => pX3_count_5 (d := 58) z1)
    · exact lwT.same (fun _ => rfl) hc hz h24 h28 (pX2_count_6 (d := 57) hc) (fun h1 pa1 z1 => pX3_count_6 (d := 58) z1)
    · exact lwT.same (fun _ => rfl) hc hz h24 h28 (pX2_count_7 (d := 57) hc) (fun h1 pa1 z1 => pX3_count_7 (d := 58) z1)
    · obtain ⟨w1, e1, z1⟩ := pX2_count_8 (d := 57) hc
      refine lwT.same (v' := nI w1) (fun _ => rfl) hc hz h24 h28 e1 (fun h1 pa1 z2 => ?_)
      obtain ⟨w2, e2, z3⟩ := pX3_count_8 (d := 58) (pa := pa1) z2
      rw [zLf_uniq z1 z3]
      exact e2
    · exact lwT.same (fun _ => rfl) hc hz h24 h28 (pX2_count_9 (d := 57) hc) (fun h1 pa1 z1 => pX3_count_9 (d := 58) z1)
    · exact lwT.same (fun _ => rfl) hc hz h24 h28 (pX2_count_10 (d := 57) hc) (fun h1 pa1 z1 => pX3_count_10 (d := 58) z1)
    · exact lwT.same (fun _ => rfl) hc hz h24 h28 (pX2_count_11 (d := 57) hc) (fun h1 pa1 z1 => pX3_count_11 (d := 58) z1)
    · exact lwT.same (fun _ => rfl) hc hz h24 h28 (pX2_count_12 (d := 57) hc) (fun h1 pa1 z1 => pX3_count_12 (d := 58) z1)
    · exact lwT.same (fun _ => rfl) hc hz h24 h28 (pX2_count_13 (d := 57) hc) (fun h1 pa1 z1 => pX3_count_13 (d := 58) z1)
theorem lwO_left (hI : lwI pa h ln) (X : Int32) : lwT 40 138 [.int X] pa h ln (True) := by
  obtain ⟨m, T, P, TP, n, K, TK, ik, pd, hc, hz, h24, h28⟩ := hI
  rcases vSplit 0 5 (by omega) (by omega) X with e | ⟨k, k1, k2, rfl⟩
  · exact lwT.same (fun _ => rfl) hc hz h24 h28 (pX2_left_e (d := 58) X e) (fun h1 pa1 z1 => pX3_left_e (d := 59) X e)
  · exact lwT.same (fun _ => rfl) hc hz h24 h28 (pX2_left (d := 58) hc k2) (fun h1 pa1 z1 => pX3_left (d := 59) z1 k2)
theorem lwO_worth (hI : lwI pa h ln) (X : Int32) {G : Int32} (hG : ∃ g, g ≤ 1 ∧ G = nI g) : lwT 41 139 [.int X, .int G] pa h ln (True) := by
  obtain ⟨m, T, P, TP, n, K, TK, ik, pd, hc, hz, h24, h28⟩ := hI
  obtain ⟨g, hg, rfl⟩ : ∃ g, g ≤ 1 ∧ G = nI g := hG
  rcases vSplit 1 5 (by omega) (by omega) X with e | ⟨k, k1, k5, rfl⟩
  · exact lwT.same (fun _ => rfl) hc hz h24 h28 (pX2_worth_e (d := 56) X g e) (fun h1 pa1 z1 => pX3_worth_e (d := 56) X g e)
  · by_cases hq : k ≤ m 2 ∧ k ≤ m 5
    · exact lwT.same (fun _ => rfl) hc hz h24 h28 (pX2_worth (d := 56) hc k1 hq.1 hq.2 hg) (fun h1 pa1 z1 => pX3_worth (d := 56) z1 k1 hq.1 hq.2 hg)
    · exact lwT.same (fun _ => rfl) hc hz h24 h28 (pX2_worth_n (d := 56) hc k1 k5 hq) (fun h1 pa1 z1 => pX3_worth_n (d := 56) z1 k1 k5 hq)
theorem lwO_lead (hI : lwI pa h ln) (X : Int32) : lwT 42 140 [.int X] pa h ln (True) := by
  obtain ⟨m, T, P, TP, n, K, TK, ik, pd, hc, hz, h24, h28⟩ := hI
  rcases vSplit 0 1 (by omega) (by omega) X with e | ⟨k, k1, k2, rfl⟩
  · exact lwT.same (fun _ => rfl) hc hz h24 h28 (pX2_lead_e (d := 14) X e) (fun h1 pa1 z1 => pX3_lead_e (d := 55) X e)
  · rcases (by omega : k = 0 ∨ k = 1) with e | e <;> subst e
    · exact lwT.mk (fun _ => rfl) hz (by
        obtain ⟨h1, e, c, f⟩ := pX2_lead_0 (d := 54) hc h24
        exact ⟨h1, pa, _, _, _, e, c, f.l h28⟩) (fun h1 pa1 z1 => pX3_lead (d := 55) z1 k2)
    · exact lwT.mk (fun _ => rfl) hz (by
        obtain ⟨h1, e, c, f⟩ := pX2_lead_1 (d := 14) hc h28
        exact ⟨h1, pa, _, _, _, e, c, f.l h24⟩) (fun h1 pa1 z1 => pX3_lead (d := 55) z1 k2)
theorem lwO_leadWith (hI : lwI pa h ln) (X : Int32) {G : Int32} (hG : ∃ g, g ≤ 1 ∧ G = nI g) : lwT 43 141 [.int X, .int G] pa h ln (True) := by
  obtain ⟨m, T, P, TP, n, K, TK, ik, pd, hc, hz, h24, h28⟩ := hI
  obtain ⟨g, hg, rfl⟩ : ∃ g, g ≤ 1 ∧ G = nI g := hG
  rcases vSplit 1 5 (by omega) (by omega) X with e | ⟨k, k1, k5, rfl⟩
  · exact lwT.same (fun _ => rfl) hc hz h24 h28 (pX2_leadWith_e (d := 14) X g e) (fun h1 pa1 z1 => pX3_leadWith_e (d := 55) X g e)
  · by_cases hq : k ≤ m 2 ∧ k ≤ m 5
    · exact lwT.mk (fun _ => rfl) hz (by
        obtain ⟨h1, e, c, f⟩ := pX2_leadWith (d := 14) hc h28 k1 hq.1 hq.2 hg
        exact ⟨h1, pa, _, _, _, e, c, f.l h24⟩) (fun h1 pa1 z1 => pX3_leadWith (d := 55) z1 k1 hq.1 hq.2 hg)
    · exact lwT.same (fun _ => rfl) hc hz h24 h28 (pX2_leadWith_n (d := 14) hc k1 k5 hq) (fun h1 pa1 z1 => pX3_leadWith_n (d := 55) z1 k1 k5 hq)
theorem lwO_bestCut (hI : lwI pa h ln)  : lwT 44 142 [] pa h ln (True) := by
  obtain ⟨m, T, P, TP, n, K, TK, ik, pd, hc, hz, h24, h28⟩ := hI
  obtain ⟨h1, e, c, f⟩ := pX2_bestCut (d := 15) hc h28
  by_cases h2 : m 2 = 0
  · rw [if_pos h2] at e
    exact lwT.mk (fun _ => rfl) hz ⟨h1, pa, _, _, _, e, c, f.l h24⟩ (fun h1 pa1 z1 => ⟨h1, pX3_bestCut_n (d := 55) z1 h2, z1, fun _ _ => rfl⟩)
  · rw [if_neg h2] at e
    exact lwT.mk (fun _ => rfl) hz ⟨h1, pa, _, _, _, e, c, f.l h24⟩ (fun h1 pa1 z1 => pX3_bestCut (d := 55) z1 (by omega))
theorem lwO_ended (hI : lwI pa h ln) (X Y Z : Int32) : lwT 45 143 [.int X, .int Y, .int Z] pa h ln (True) := by
  obtain ⟨m, T, P, TP, n, K, TK, ik, pd, hc, hz, h24, h28⟩ := hI
  rcases vSplit 0 1 (by omega) (by omega) X with e | ⟨k, k1, k2, rfl⟩
  · exact lwT.same (fun _ => rfl) hc hz h24 h28 (pX2_ended_e1 (d := 59) X Y Z e) (fun h1 pa1 z1 => pX3_ended_e1 (d := 59) X Y Z e)
  · rcases vSplit 0 1 (by omega) (by omega) Y with e | ⟨q, q1, q2, rfl⟩
    · exact lwT.same (fun _ => rfl) hc hz h24 h28 (pX2_ended_e2 (d := 59) k Y Z k2 e) (fun h1 pa1 z1 => pX3_ended_e2 (d := 59) k Y Z k2 e)
    · rcases vSplit 0 2 (by omega) (by omega) Z with e | ⟨u, u1, u2, rfl⟩
      · exact lwT.same (fun _ => rfl) hc hz h24 h28 (pX2_ended_e3 (d := 59) k q Z k2 q2 e) (fun h1 pa1 z1 => pX3_ended_e3 (d := 59) k q Z k2 q2 e)
      · by_cases e2 : u = 2
        · subst e2
          exact lwT.mk (fun _ => rfl) hz (by
            obtain ⟨h1, e, c, f⟩ := pX2_ended_2 (d := 13) hc h28 k2 q2
            exact ⟨h1, pa, _, _, _, e, c, f.l h24⟩) (fun h1 pa1 z1 => pX3_ended_2 (d := 55) z1 k2 q2)
        · exact lwT.mk (fun _ => rfl) hz (by
            obtain ⟨h1, e, c, f⟩ := pX2_ended (d := 13) hc h28 k2 q2 (by omega : u ≤ 1)
            exact ⟨h1, pa, _, _, _, e, c, f.l h24⟩) (fun h1 pa1 z1 => pX3_ended (d := 55) z1 k2 q2 (by omega))
theorem lwO_undo (hI : lwI pa h ln)  : lwT 47 145 [] pa h ln (True) := by
  obtain ⟨m, T, P, TP, n, K, TK, ik, pd, hc, hz, h24, h28⟩ := hI
  by_cases hn : n = 0
  · exact lwT.same (fun _ => rfl) hc hz h24 h28 (pX2_undo_n (d := 57) hc hn) (fun h1 pa1 z1 => pX3_undo_n (d := 58) z1 hn)
  · exact lwT.mk (fun _ => rfl) hz (by
      obtain ⟨h1, e, c, f⟩ := pX2_undo (d := 57) hc (by omega)
      exact ⟨h1, pa, _, _, _, e, c, fr22 f.1 f.2 h24 h28⟩) (fun h1 pa1 z1 => pX3_undo (d := 58) z1 (by omega))
theorem lwO_save (hI : lwI pa h ln)  : lwT 48 146 [] pa h ln (True) := by
  obtain ⟨m, T, P, TP, n, K, TK, ik, pd, hc, hz, h24, h28⟩ := hI
  exact lwT.mk (fun _ => rfl) hz (by
    obtain ⟨h1, e, c, f⟩ := pX2_save (d := 57) hc
    exact ⟨h1, pa, _, _, _, e, c, fr22 f.1 f.2 h24 h28⟩) (fun h1 pa1 z1 => pX3_save (d := 59) z1)
theorem lwO_restore (hI : lwI pa h ln)  : lwT 49 147 [] pa h ln (True) := by
  obtain ⟨m, T, P, TP, n, K, TK, ik, pd, hc, hz, h24, h28⟩ := hI
  have hk : ik = 0 ∨ ik = 1 := by
    have := hc.2.2.1.2.1
    omega
  rcases hk with hk | hk
  · exact lwT.same (fun _ => rfl) hc hz h24 h28 (pX2_restore_n (d := 57) hc hk) (fun h1 pa1 z1 => pX3_restore_n (d := 58) z1 hk)
  · exact lwT.mk (fun _ => rfl) hz (by
      obtain ⟨h1, pa1, e, c, f⟩ := pX2_restore (d := 57) hc hk
      exact ⟨h1, pa1, _, _, _, e, c, fr22 f.1 f.2 h24 h28⟩) (fun h1 pa1 z1 => pX3_restore (d := 58) z1 hk)
end LWO
