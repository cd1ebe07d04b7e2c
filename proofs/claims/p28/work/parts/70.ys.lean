/-! the class's state as the law sees it, and each call of it -/
def yS (pa : Nat → Nat) (h : Nat → Nat → Int32) (m : Nat → Nat) (P : Nat → Nat → Nat) (n : Nat) (K : Nat → Nat) (ik : Nat) (pd : Nat → Nat) (ln : Nat) : Prop := ∃ (T : Nat → Nat) (TP : Nat → Nat → Nat) (TK : Nat → Nat), cRel h pa m T P TP n K TK ik pd ln ∧ lOk h 24 ∧ lOk h 28
section YS
variable {pa : Nat → Nat} {h : Nat → Nat → Int32} {m : Nat → Nat} {P : Nat → Nat → Nat} {n : Nat} {K : Nat → Nat} {ik : Nat} {pd : Nat → Nat} {ln : Nat}
theorem yFr {h' : Nat → Nat → Int32} (hf : cFr h h') (h24 : lOk h 24) (h28 : lOk h 28) : lOk h' 24 ∧ lOk h' 28 := ⟨h24.fr (fun a a1 a2 => hf.1 a (by omega) (by omega)), h28.fr (fun a a1 a2 => hf.1 a (by omega) (by omega))⟩
theorem yF28 {h' : Nat → Nat → Int32} (hf : cF28 h h') (h24 : lOk h 24) : lOk h' 24 ∧ lOk h' 28 := ⟨h24.fr (fun a a1 a2 => hf.1 a (by omega) (by omega)), hf.2.1⟩
theorem yF24 {h' : Nat → Nat → Int32} (hf : cF24 h h') (h28 : lOk h 28) : lOk h' 24 ∧ lOk h' 28 := ⟨hf.2.1, h28.fr (fun a a1 a2 => hf.1 a (by omega) (by omega))⟩
theorem yF22 {h' : Nat → Nat → Int32} (hf : ∀ a, 22 ≤ a → a < 32 → h' a = h a) (h24 : lOk h 24) (h28 : lOk h 28) : lOk h' 24 ∧ lOk h' 28 := ⟨h24.fr (fun a a1 a2 => hf a (by omega) (by omega)), h28.fr (fun a a1 a2 => hf a (by omega) (by omega))⟩
theorem yF8 {h' : Nat → Nat → Int32} (hf : ∀ a, 8 ≤ a → a < 32 → h' a = h a) (h24 : lOk h 24) (h28 : lOk h 28) : lOk h' 24 ∧ lOk h' 28 := yF22 (fun a a1 a2 => hf a (by omega) a2) h24 h28
theorem yS.inv (hS : yS pa h m P n K ik pd ln) : zInv m := by
  obtain ⟨T, TP, TK, hc, -⟩ := hS
  exact hc.1.2.2
theorem yS.g (hS : yS pa h m P n K ik pd ln) : ∃ T, gInv m T := by
  obtain ⟨T, TP, TK, hc, -⟩ := hS
  exact ⟨T, hc.1.2.1⟩
theorem yS.n4 (hS : yS pa h m P n K ik pd ln) : n ≤ 4 := by
  obtain ⟨T, TP, TK, hc, -⟩ := hS
  exact hc.2.1.2.1
theorem yS.l60 (hS : yS pa h m P n K ik pd ln) : ln ≤ 60 := by
  obtain ⟨T, TP, TK, hc, -⟩ := hS
  exact hc.2.2.2.2.2.1
theorem yS.ik1 (hS : yS pa h m P n K ik pd ln) : ik ≤ 1 := by
  obtain ⟨T, TP, TK, hc, -⟩ := hS
  exact hc.2.2.1.2.1
/-- the longest row that folds -/
noncomputable def zLw (m : Nat → Nat) : Nat := @dite _ (∃ w, zLf m w (m 1 + m 2) 0) (Classical.propDecidable _) (fun h => Classical.choose h) (fun _ => 0)
theorem zLw_of {w : Nat} (hw : zLf m w (m 1 + m 2) 0) : zLw m = w := by
  unfold zLw
  split
  · rename_i hx
    exact zLf_uniq (Classical.choose_spec hx) hw
  · rename_i hx
    exact absurd ⟨w, hw⟩ hx
theorem yS.lw (hS : yS pa h m P n K ik pd ln) : zLf m (zLw m) (m 1 + m 2) 0 := by
  obtain ⟨T, TP, TK, hc, -⟩ := hS
  obtain ⟨w, -, hw⟩ := pX2_count_8 (d := 57) hc
  rw [zLw_of hw]
  exact hw
noncomputable def yCn (m : Nat → Nat) (i : Nat) : Int32 := match i with
  | 0 => nI (m 0)
  | 1 => nI (m 2)
  | 2 => if m 2 = 0 then -nI 4 else nI (m 1)
  | 3 => if m 2 = 0 then -nI 4 else nI (m 1 + m 2 - 1)
  | 4 => if m 2 = 0 then -nI 4 else nI (m 3)
  | 5 => nI (m 4)
  | 6 => nI (zChg m)
  | 7 => nI (zCols m)
  | 8 => nI (zLw m)
  | 9 => nI (m 5)
  | 10 => nI (m 6)
  | _ => nI (m 7)
def yCo (m : Nat → Nat) (t w : Nat) : Int32 := if w = 3 then (if m (28 + 6 * t + 3) = 0 then -nI 4 else nI (m (28 + 6 * t + 3) - 1)) else nI (m (28 + 6 * t + w))
theorem yc_count_0 (hS : yS pa h m P n K ik pd ln) : qzC 60 39 [.ref 0, .int (nI 0)] (60, qzRr pa, h) = some (some (.int (nI (m 0))), (60, qzRr pa, h)) := by
  obtain ⟨T, TP, TK, hc, h24, h28⟩ := hS
  exact pX2_count_0 (d := 57) hc
theorem yc_count_1 (hS : yS pa h m P n K ik pd ln) : qzC 60 39 [.ref 0, .int (nI 1)] (60, qzRr pa, h) = some (some (.int (nI (m 2))), (60, qzRr pa, h)) := by
  obtain ⟨T, TP, TK, hc, h24, h28⟩ := hS
  exact pX2_count_1 (d := 57) hc
theorem yc_count_2 (hS : yS pa h m P n K ik pd ln) : qzC 60 39 [.ref 0, .int (nI 2)] (60, qzRr pa, h) = some (some (.int (if m 2 = 0 then -nI 4 else nI (m 1))), (60, qzRr pa, h)) := by
  obtain ⟨T, TP, TK, hc, h24, h28⟩ := hS
  exact pX2_count_2 (d := 57) hc
theorem yc_count_3 (hS : yS pa h m P n K ik pd ln) : qzC 60 39 [.ref 0, .int (nI 3)] (60, qzRr pa, h) = some (some (.int (if m 2 = 0 then -nI 4 else nI (m 1 + m 2 - 1))), (60, qzRr pa, h)) := by
  obtain ⟨T, TP, TK, hc, h24, h28⟩ := hS
  exact pX2_count_3 (d := 57) hc
theorem yc_count_4 (hS : yS pa h m P n K ik pd ln) : qzC 60 39 [.ref 0, .int (nI 4)] (60, qzRr pa, h) = some (some (.int (if m 2 = 0 then -nI 4 else nI (m 3))), (60, qzRr pa, h)) := by
  obtain ⟨T, TP, TK, hc, h24, h28⟩ := hS
  exact pX2_count_4 (d := 57) hc
theorem yc_count_5 (hS : yS pa h m P n K ik pd ln) : qzC 60 39 [.ref 0, .int (nI 5)] (60, qzRr pa, h) = some (some (.int (nI (m 4))), (60, qzRr pa, h)) := by
  obtain ⟨T, TP, TK, hc, h24, h28⟩ := hS
  exact pX2_count_5 (d := 57) hc
theorem yc_count_6 (hS : yS pa h m P n K ik pd ln) : qzC 60 39 [.ref 0, .int (nI 6)] (60, qzRr pa, h) = some (some (.int (nI (zChg m))), (60, qzRr pa, h)) := by
  obtain ⟨T, TP, TK, hc, h24, h28⟩ := hS
  exact pX2_count_6 (d := 57) hc
theorem yc_count_7 (hS : yS pa h m P n K ik pd ln) : qzC 60 39 [.ref 0, .int (nI 7)] (60, qzRr pa, h) = some (some (.int (nI (zCols m))), (60, qzRr pa, h)) := by
  obtain ⟨T, TP, TK, hc, h24, h28⟩ := hS
  exact pX2_count_7 (d := 57) hc
theorem yc_count_8 (hS : yS pa h m P n K ik pd ln) : qzC 60 39 [.ref 0, .int (nI 8)] (60, qzRr pa, h) = some (some (.int (nI (zLw m))), (60, qzRr pa, h)) := by
  obtain ⟨T, TP, TK, hc, h24, h28⟩ := hS
  obtain ⟨w, e, hw⟩ := pX2_count_8 (d := 57) hc
  rw [zLw_of hw]
  exact e
theorem yc_count_9 (hS : yS pa h m P n K ik pd ln) : qzC 60 39 [.ref 0, .int (nI 9)] (60, qzRr pa, h) = some (some (.int (nI (m 5))), (60, qzRr pa, h)) := by
  obtain ⟨T, TP, TK, hc, h24, h28⟩ := hS
  exact pX2_count_9 (d := 57) hc
theorem yc_count_10 (hS : yS pa h m P n K ik pd ln) : qzC 60 39 [.ref 0, .int (nI 10)] (60, qzRr pa, h) = some (some (.int (nI (m 6))), (60, qzRr pa, h)) := by
  obtain ⟨T, TP, TK, hc, h24, h28⟩ := hS
  exact pX2_count_10 (d := 57) hc
theorem yc_count_11 (hS : yS pa h m P n K ik pd ln) : qzC 60 39 [.ref 0, .int (nI 11)] (60, qzRr pa, h) = some (some (.int (nI (m 7))), (60, qzRr pa, h)) := by
  obtain ⟨T, TP, TK, hc, h24, h28⟩ := hS
  exact pX2_count_11 (d := 57) hc
theorem yc_count_12 (hS : yS pa h m P n K ik pd ln) : qzC 60 39 [.ref 0, .int (nI 12)] (60, qzRr pa, h) = some (some (.int (nI ln)), (60, qzRr pa, h)) := by
  obtain ⟨T, TP, TK, hc, h24, h28⟩ := hS
  exact pX2_count_12 (d := 57) hc
theorem yc_count_13 (hS : yS pa h m P n K ik pd ln) : qzC 60 39 [.ref 0, .int (nI 13)] (60, qzRr pa, h) = some (some (.int (nI n)), (60, qzRr pa, h)) := by
  obtain ⟨T, TP, TK, hc, h24, h28⟩ := hS
  exact pX2_count_13 (d := 57) hc
theorem yc_count (hS : yS pa h m P n K ik pd ln) {i : Nat} (hi : i < 12) : qzC 60 39 [.ref 0, .int (nI i)] (60, qzRr pa, h) = some (some (.int (yCn m i)), (60, qzRr pa, h)) := by
  match i, hi with
  | 0, _ => exact yc_count_0 hS
  | 1, _ => exact yc_count_1 hS
  | 2, _ => exact yc_count_2 hS
  | 3, _ => exact yc_count_3 hS
  | 4, _ => exact yc_count_4 hS
  | 5, _ => exact yc_count_5 hS
  | 6, _ => exact yc_count_6 hS
  | 7, _ => exact yc_count_7 hS
  | 8, _ => exact yc_count_8 hS
  | 9, _ => exact yc_count_9 hS
  | 10, _ => exact yc_count_10 hS
  | 11, _ => exact yc_count_11 hS
theorem yc_stripe (hS : yS pa h m P n K ik pd ln) {k : Nat} (hk : k < m 0) : qzC 60 36 [.ref 0, .int (nI k)] (60, qzRr pa, h) = some (some (.int (nI (m (8 + k)))), (60, qzRr pa, h)) := by
  obtain ⟨T, TP, TK, hc, h24, h28⟩ := hS
  exact pX2_stripe (d := 59) hc hk
theorem yc_stripe_e (hS : yS pa h m P n K ik pd ln) {k : Nat} (hk : m 0 ≤ k) (hk2 : k < 1000) : qzC 60 36 [.ref 0, .int (nI k)] (60, qzRr pa, h) = some (some (.int (-nI 1)), (60, qzRr pa, h)) := by
  obtain ⟨T, TP, TK, hc, h24, h28⟩ := hS
  have h1 := hc.1.2.2.1
  exact pX2_stripe_e (d := 59) hc (nI k) (Or.inr (by rw [nI_lt' (by omega) (by omega)]; omega))
theorem yc_coat (hS : yS pa h m P n K ik pd ln) {t w : Nat} (ht : t ≤ 1) (hw : w ≤ 5) : qzC 60 37 [.ref 0, .int (nI t), .int (nI w)] (60, qzRr pa, h) = some (some (.int (yCo m t w)), (60, qzRr pa, h)) := by
  obtain ⟨T, TP, TK, hc, h24, h28⟩ := hS
  unfold yCo
  by_cases e : w = 3
  · subst e
    rw [if_pos rfl]
    exact pX2_coat_3 (d := 58) hc ht
  · rw [if_neg e]
    exact pX2_coat (d := 58) hc ht hw e
theorem yc_piece (hS : yS pa h m P n K ik pd ln) {t k w : Nat} (ht : t ≤ 1) (hk : k < 1000) (hw : w ≤ 3) : qzC 60 38 [.ref 0, .int (nI t), .int (nI k), .int (nI w)] (60, qzRr pa, h) = some (some (.int (if k < m (28 + 6 * t + 1) then nI (m (40 + 40 * t + 4 * k + w)) else -nI 4)), (60, qzRr pa, h)) := by
  obtain ⟨T, TP, TK, hc, h24, h28⟩ := hS
  exact pX2_piece (d := 58) hc ht (by omega) hw
theorem yc_left (hS : yS pa h m P n K ik pd ln) {k : Nat} (hk : k ≤ 5) : qzC 60 40 [.ref 0, .int (nI k)] (60, qzRr pa, h) = some (some (.int (nI (zLeft m k))), (60, qzRr pa, h)) := by
  obtain ⟨T, TP, TK, hc, h24, h28⟩ := hS
  exact pX2_left (d := 58) hc hk
theorem yc_worth_e (hS : yS pa h m P n K ik pd ln) {k b : Nat} (hk : k = 0 ∨ k = 6) : qzC 60 41 [.ref 0, .int (nI k), .int (nI b)] (60, qzRr pa, h) = some (some (.int (-nI 1)), (60, qzRr pa, h)) := by
  obtain ⟨T, TP, TK, hc, h24, h28⟩ := hS
  exact pX2_worth_e (d := 56) (nI k) b (by rcases hk with e | e <;> subst e <;> decide)
theorem yc_worth_n (hS : yS pa h m P n K ik pd ln) {k b : Nat} (hk : 1 ≤ k) (hk5 : k ≤ 5) (hq : ¬ (k ≤ m 2 ∧ k ≤ m 5)) : qzC 60 41 [.ref 0, .int (nI k), .int (nI b)] (60, qzRr pa, h) = some (some (.int (-nI 2)), (60, qzRr pa, h)) := by
  obtain ⟨T, TP, TK, hc, h24, h28⟩ := hS
  exact pX2_worth_n (d := 56) hc hk hk5 hq
theorem yc_worth (hS : yS pa h m P n K ik pd ln) {k b : Nat} (hk : 1 ≤ k) (hk2 : k ≤ m 2) (hk5 : k ≤ m 5) (hb : b ≤ 1) : qzC 60 41 [.ref 0, .int (nI k), .int (nI b)] (60, qzRr pa, h) = some (some (.int (nI (zGoW m k b))), (60, qzRr pa, h)) := by
  obtain ⟨T, TP, TK, hc, h24, h28⟩ := hS
  exact pX2_worth (d := 56) hc hk hk2 hk5 hb
theorem yc_leadWith_e (hS : yS pa h m P n K ik pd ln) {k b : Nat} (hk : k = 0 ∨ k = 6) : qzC 60 43 [.ref 0, .int (nI k), .int (nI b)] (60, qzRr pa, h) = some (some (.int (-nI 1)), (60, qzRr pa, h)) := by
  obtain ⟨T, TP, TK, hc, h24, h28⟩ := hS
  exact pX2_leadWith_e (d := 14) (nI k) b (by rcases hk with e | e <;> subst e <;> decide)
theorem yc_leadWith_n (hS : yS pa h m P n K ik pd ln) {k b : Nat} (hk : 1 ≤ k) (hk5 : k ≤ 5) (hq : ¬ (k ≤ m 2 ∧ k ≤ m 5)) : qzC 60 43 [.ref 0, .int (nI k), .int (nI b)] (60, qzRr pa, h) = some (some (.int (-nI 2)), (60, qzRr pa, h)) := by
  obtain ⟨T, TP, TK, hc, h24, h28⟩ := hS
  exact pX2_leadWith_n (d := 14) hc hk hk5 hq
theorem yc_lead_e (hS : yS pa h m P n K ik pd ln) {w : Nat} (hk : w = 2) : qzC 60 42 [.ref 0, .int (nI w)] (60, qzRr pa, h) = some (some (.int (-nI 1)), (60, qzRr pa, h)) := by
  obtain ⟨T, TP, TK, hc, h24, h28⟩ := hS
  exact pX2_lead_e (d := 14) (nI w) (by subst hk; decide)
theorem yc_cut_e (hS : yS pa h m P n K ik pd ln) {k b : Nat} (hk : k = 0 ∨ k = 6) : qzC 60 25 [.ref 0, .int (nI k), .int (nI b)] (60, qzRr pa, h) = some (some (.int (-nI 1)), (60, qzRr pa, h)) := by
  obtain ⟨T, TP, TK, hc, h24, h28⟩ := hS
  exact pX2_cut_e (d := 56) (nI k) b (by rcases hk with e | e <;> subst e <;> decide)
theorem yc_cut_n (hS : yS pa h m P n K ik pd ln) {k b : Nat} (hk : 1 ≤ k) (hk5 : k ≤ 5) (hq : ¬ (k ≤ m 2 ∧ k ≤ m 5)) : qzC 60 25 [.ref 0, .int (nI k), .int (nI b)] (60, qzRr pa, h) = some (some (.int (-nI 2)), (60, qzRr pa, h)) := by
  obtain ⟨T, TP, TK, hc, h24, h28⟩ := hS
  exact pX2_cut_n (d := 56) hc hk hk5 hq
theorem yc_undo_n (hS : yS pa h m P n K ik pd ln) (hk : n = 0) : qzC 60 47 [.ref 0] (60, qzRr pa, h) = some (some (.int (-nI 2)), (60, qzRr pa, h)) := by
  obtain ⟨T, TP, TK, hc, h24, h28⟩ := hS
  exact pX2_undo_n (d := 57) hc hk
theorem yc_restore_n (hS : yS pa h m P n K ik pd ln) (hk : ik = 0) : qzC 60 49 [.ref 0] (60, qzRr pa, h) = some (some (.int (-nI 2)), (60, qzRr pa, h)) := by
  obtain ⟨T, TP, TK, hc, h24, h28⟩ := hS
  exact pX2_restore_n (d := 57) hc hk
theorem yc_load_n (hS : yS pa h m P n K ik pd ln) (hb : ¬ ((zBo (zCh pd ln)).1 = 1 ∧ (zBo (zCh pd ln)).2.1 = ln)) : qzC 60 34 [.ref 0] (60, qzRr pa, h) = some (some (.int (-nI 2)), (60, qzRr pa, h)) := by
  obtain ⟨T, TP, TK, hc, h24, h28⟩ := hS
  exact pX2_load_n (d := 55) hc hb
theorem yc_play_n (hS : yS pa h m P n K ik pd ln) (hb : ¬ (zCu (zCh pd ln) ln).1 = 1) : qzC 60 35 [.ref 0] (60, qzRr pa, h) = some (some (.int (-nI 2)), (60, qzRr pa, h)) := by
  obtain ⟨T, TP, TK, hc, h24, h28⟩ := hS
  exact pX2_play_n (d := 14) hc hb
theorem yc_fault_0 (hS : yS pa h m P n K ik pd ln) : qzC 60 33 [.ref 0, .int (nI 0)] (60, qzRr pa, h) = some (some (.int (if (zBo (zCh pd ln)).1 = 1 ∧ (zBo (zCh pd ln)).2.1 = ln then -nI 4 else nI (zBo (zCh pd ln)).2.1)), (60, qzRr pa, h)) := by
  obtain ⟨T, TP, TK, hc, h24, h28⟩ := hS
  exact pX2_fault_0 (d := 55) hc
theorem yc_fault_1 (hS : yS pa h m P n K ik pd ln) (hl : ln < 60) : qzC 60 33 [.ref 0, .int (nI 1)] (60, qzRr pa, h) = some (some (.int (if (zCu (zCh pd ln) ln).1 = 1 then -nI 4 else nI (zCu (zCh pd ln) ln).2)), (60, qzRr pa, h)) := by
  obtain ⟨T, TP, TK, hc, h24, h28⟩ := hS
  obtain ⟨v, e, hv⟩ := pX2_fault_1 (d := 57) hc
  rw [← hv hl]
  exact e
theorem yc_set_e (hS : yS pa h m P n K ik pd ln) {k w : Nat} {x : Int32} (hk : k = 3) : qzC 60 30 [.ref 0, .int (nI k), .int x] (60, qzRr pa, h) = some (some (.int (-nI 1)), (60, qzRr pa, h)) := by
  obtain ⟨T, TP, TK, hc, h24, h28⟩ := hS
  exact pX2_set_e (d := 59) (nI k) x (by subst hk; decide)
theorem yc_set_e2 (hS : yS pa h m P n K ik pd ln) {k : Nat} {x : Int32} (hk : k ≤ 2) (hx : x < nI (if k = 0 then 1 else 0) ∨ nI (if k = 0 then 5 else 9) < x) : qzC 60 30 [.ref 0, .int (nI k), .int x] (60, qzRr pa, h) = some (some (.int (-nI 1)), (60, qzRr pa, h)) := by
  obtain ⟨T, TP, TK, hc, h24, h28⟩ := hS
  exact pX2_set_e2 (d := 59) k x hk hx
theorem yc_ended_e (hS : yS pa h m P n K ik pd ln) {z o w : Nat} (hz : z ≤ 2) (ho : o ≤ 2) (hq : z = 2 ∨ o = 2 ∨ w = 3) (hw : w ≤ 3) : qzC 60 45 [.ref 0, .int (nI z), .int (nI o), .int (nI w)] (60, qzRr pa, h) = some (some (.int (-nI 1)), (60, qzRr pa, h)) := by
  obtain ⟨T, TP, TK, hc, h24, h28⟩ := hS
  by_cases e1 : z = 2
  · exact pX2_ended_e1 (d := 59) (nI z) (nI o) (nI w) (by subst e1; decide)
  · by_cases e2 : o = 2
    · exact pX2_ended_e2 (d := 59) z (nI o) (nI w) (by omega) (by subst e2; decide)
    · exact pX2_ended_e3 (d := 59) z o (nI w) (by omega) (by omega) (by rw [show w = 3 by omega]; decide)
theorem yc_leadWith (hS : yS pa h m P n K ik pd ln) {k b : Nat} (hk : 1 ≤ k) (hk2 : k ≤ m 2) (hk5 : k ≤ m 5) (hb : b ≤ 1) : ∃ (pa1 : Nat → Nat) (h1 : Nat → Nat → Int32), qzC 60 43 [.ref 0, .int (nI k), .int (nI b)] (60, qzRr pa, h) = some (some (.int (iI (1000 + zCand (zCol m) (m 6) (m 7) (m 5) (m 1) (m 2) (m (28 + 6 * m 3 + 3)) (m (28 + 6 * (1 - m 3) + 3)) k b))), (60, qzRr pa1, h1)) ∧ yS pa1 h1 m P n K ik pd ln := by
  obtain ⟨T, TP, TK, hc, h24, h28⟩ := hS
  obtain ⟨h1, e, c, f⟩ := pX2_leadWith (d := 14) hc h28 hk hk2 hk5 hb
  exact ⟨pa, h1, e, T, TP, TK, c, yF28 f h24⟩
theorem yc_lead (hS : yS pa h m P n K ik pd ln) {w : Nat} (hw : w ≤ 1) : ∃ (pa1 : Nat → Nat) (h1 : Nat → Nat → Int32), qzC 60 42 [.ref 0, .int (nI w)] (60, qzRr pa, h) = some (some (.int (iI (1000 + zL (zCol m) (m 6) (m 7) (m 5) (m 1) (m 2) (m (28 + 6 * m 3 + 3)) (m (28 + 6 * (1 - m 3) + 3))))), (60, qzRr pa1, h1)) ∧ yS pa1 h1 m P n K ik pd ln := by
  obtain ⟨T, TP, TK, hc, h24, h28⟩ := hS
  rcases (by omega : w = 0 ∨ w = 1) with e | e <;> subst e
  · obtain ⟨h1, e, c, f⟩ := pX2_lead_0 (d := 54) hc h24
    exact ⟨pa, h1, e, T, TP, TK, c, yF24 f h28⟩
  · obtain ⟨h1, e, c, f⟩ := pX2_lead_1 (d := 14) hc h28
    exact ⟨pa, h1, e, T, TP, TK, c, yF28 f h24⟩
theorem yc_bestCut (hS : yS pa h m P n K ik pd ln) : ∃ (pa1 : Nat → Nat) (h1 : Nat → Nat → Int32), qzC 60 44 [.ref 0] (60, qzRr pa, h) = some (some (.int (if m 2 = 0 then -nI 2 else nI (zBest m 0))), (60, qzRr pa1, h1)) ∧ yS pa1 h1 m P n K ik pd ln := by
  obtain ⟨T, TP, TK, hc, h24, h28⟩ := hS
  obtain ⟨h1, e, c, f⟩ := pX2_bestCut (d := 15) hc h28
  exact ⟨pa, h1, e, T, TP, TK, c, yF28 f h24⟩
theorem yc_ended_2 (hS : yS pa h m P n K ik pd ln) {z o : Nat} (hz : z ≤ 1) (ho : o ≤ 1) : ∃ (pa1 : Nat → Nat) (h1 : Nat → Nat → Int32), qzC 60 45 [.ref 0, .int (nI z), .int (nI o), .int (nI 2)] (60, qzRr pa, h) = some (some (.int (nI (zEd z o 20 m 4 - m 4))), (60, qzRr pa1, h1)) ∧ yS pa1 h1 m P n K ik pd ln := by
  obtain ⟨T, TP, TK, hc, h24, h28⟩ := hS
  obtain ⟨h1, e, c, f⟩ := pX2_ended_2 (d := 13) hc h28 hz ho
  exact ⟨pa, h1, e, T, TP, TK, c, yF28 f h24⟩
theorem yc_ended (hS : yS pa h m P n K ik pd ln) {z o w : Nat} (hz : z ≤ 1) (ho : o ≤ 1) (hw : w ≤ 1) : ∃ (pa1 : Nat → Nat) (h1 : Nat → Nat → Int32), qzC 60 45 [.ref 0, .int (nI z), .int (nI o), .int (nI w)] (60, qzRr pa, h) = some (some (.int (nI (zEd z o 20 m (28 + 6 * w + 0)))), (60, qzRr pa1, h1)) ∧ yS pa1 h1 m P n K ik pd ln := by
  obtain ⟨T, TP, TK, hc, h24, h28⟩ := hS
  obtain ⟨h1, e, c, f⟩ := pX2_ended (d := 13) hc h28 hz ho hw
  exact ⟨pa, h1, e, T, TP, TK, c, yF28 f h24⟩
theorem yc_cut (hS : yS pa h m P n K ik pd ln) {k b : Nat} (hk : 1 ≤ k) (hk2 : k ≤ m 2) (hk5 : k ≤ m 5) (hb : b ≤ 1) : ∃ (pa1 : Nat → Nat) (h1 : Nat → Nat → Int32), qzC 60 25 [.ref 0, .int (nI k), .int (nI b)] (60, qzRr pa, h) = some (some (.int (nI (zGoW m k b))), (60, qzRr pa1, h1)) ∧ yS pa1 h1 (zGo m k b) (zPush P n m) (min n 3 + 1) K ik pd ln := by
  obtain ⟨T, TP, TK, hc, h24, h28⟩ := hS
  obtain ⟨h1, pa1, e, c, f⟩ := pX2_cut (d := 56) hc hk hk2 hk5 hb
  exact ⟨pa1, h1, e, _, _, _, c, yF8 f.1 h24 h28⟩
theorem yc_best_n (hS : yS pa h m P n K ik pd ln) (h2 : m 2 = 0) : ∃ (pa1 : Nat → Nat) (h1 : Nat → Nat → Int32), qzC 60 26 [.ref 0] (60, qzRr pa, h) = some (some (.int (-nI 2)), (60, qzRr pa1, h1)) ∧ yS pa1 h1 m P n K ik pd ln := by
  obtain ⟨T, TP, TK, hc, h24, h28⟩ := hS
  obtain ⟨h1, e, c, f⟩ := pX2_best_n (d := 14) hc h28 h2
  exact ⟨pa, h1, e, _, _, _, c, yF28 f h24⟩
theorem yc_best (hS : yS pa h m P n K ik pd ln) (h2 : 1 ≤ m 2) : ∃ (pa1 : Nat → Nat) (h1 : Nat → Nat → Int32), qzC 60 26 [.ref 0] (60, qzRr pa, h) = some (some (.int (nI (zGoW m (zBn m 0) (zBb m 0)))), (60, qzRr pa1, h1)) ∧ yS pa1 h1 (zGo m (zBn m 0) (zBb m 0)) (zPush P n m) (min n 3 + 1) K ik pd ln := by
  obtain ⟨T, TP, TK, hc, h24, h28⟩ := hS
  obtain ⟨h1, pa1, e, c, f⟩ := pX2_best (d := 14) hc h28 h2
  exact ⟨pa1, h1, e, _, _, _, c, yF28 f h24⟩
theorem yc_greedy_n (hS : yS pa h m P n K ik pd ln) (h2 : m 2 = 0) : ∃ (pa1 : Nat → Nat) (h1 : Nat → Nat → Int32), qzC 60 27 [.ref 0] (60, qzRr pa, h) = some (some (.int (-nI 2)), (60, qzRr pa1, h1)) ∧ yS pa1 h1 m P n K ik pd ln := by
  obtain ⟨T, TP, TK, hc, h24, h28⟩ := hS
  obtain ⟨h1, e, c, f⟩ := pX2_greedy_n (d := 14) hc h28 h2
  exact ⟨pa, h1, e, _, _, _, c, yF28 f h24⟩
theorem yc_greedy (hS : yS pa h m P n K ik pd ln) (h2 : 1 ≤ m 2) : ∃ (pa1 : Nat → Nat) (h1 : Nat → Nat → Int32), qzC 60 27 [.ref 0] (60, qzRr pa, h) = some (some (.int (nI (zGoW m (zBn m 1) (zBb m 1)))), (60, qzRr pa1, h1)) ∧ yS pa1 h1 (zGo m (zBn m 1) (zBb m 1)) (zPush P n m) (min n 3 + 1) K ik pd ln := by
  obtain ⟨T, TP, TK, hc, h24, h28⟩ := hS
  obtain ⟨h1, pa1, e, c, f⟩ := pX2_greedy (d := 14) hc h28 h2
  exact ⟨pa1, h1, e, _, _, _, c, yF28 f h24⟩
theorem yc_again (hS : yS pa h m P n K ik pd ln) : ∃ (pa1 : Nat → Nat) (h1 : Nat → Nat → Int32), qzC 60 28 [.ref 0] (60, qzRr pa, h) = some (some (.int (nI (m 0))), (60, qzRr pa1, h1)) ∧ yS pa1 h1 (zBk m 120) (zPush P n m) (min n 3 + 1) K ik pd ln := by
  obtain ⟨T, TP, TK, hc, h24, h28⟩ := hS
  obtain ⟨h1, pa1, e, c, f⟩ := pX2_again (d := 57) hc
  exact ⟨pa1, h1, e, _, _, _, c, yF8 f.1 h24 h28⟩
theorem yc_mirror (hS : yS pa h m P n K ik pd ln) : ∃ (pa1 : Nat → Nat) (h1 : Nat → Nat → Int32), qzC 60 29 [.ref 0] (60, qzRr pa, h) = some (some (.int (nI (zMd m (m 2 / 2)))), (60, qzRr pa1, h1)) ∧ yS pa1 h1 (zMr m (m 2 / 2)) (zPush P n m) (min n 3 + 1) K ik pd ln := by
  obtain ⟨T, TP, TK, hc, h24, h28⟩ := hS
  obtain ⟨h1, pa1, e, c, f⟩ := pX2_mirror (d := 57) hc
  exact ⟨pa1, h1, e, _, _, _, c, yFr f h24 h28⟩
theorem yc_set (hS : yS pa h m P n K ik pd ln) {k w : Nat} (hk : k ≤ 2) (hw1 : (if k = 0 then 1 else 0) ≤ w) (hw2 : w ≤ (if k = 0 then 5 else 9)) : ∃ (pa1 : Nat → Nat) (h1 : Nat → Nat → Int32), qzC 60 30 [.ref 0, .int (nI k), .int (nI w)] (60, qzRr pa, h) = some (some (.int (nI (m (5 + k)))), (60, qzRr pa1, h1)) ∧ yS pa1 h1 (zU m (5 + k) w) (zPush P n m) (min n 3 + 1) K ik pd ln := by
  obtain ⟨T, TP, TK, hc, h24, h28⟩ := hS
  obtain ⟨h1, pa1, e, c, f⟩ := pX2_set (d := 57) hc hk hw1 hw2
  exact ⟨pa1, h1, e, _, _, _, c, yFr f h24 h28⟩
theorem yc_append (hS : yS pa h m P n K ik pd ln) {k : Nat} (hk : 33 ≤ k) (hk2 : k ≤ 126) (hl : ln < 60) : ∃ (pa1 : Nat → Nat) (h1 : Nat → Nat → Int32), qzC 60 31 [.ref 0, .int (nI k)] (60, qzRr pa, h) = some (some (.int (nI (ln + 1))), (60, qzRr pa1, h1)) ∧ yS pa1 h1 m P n K ik (zU pd ln k) (ln + 1) := by
  obtain ⟨T, TP, TK, hc, h24, h28⟩ := hS
  obtain ⟨h1, e, c, f⟩ := pX2_append (d := 60) hc hk hk2 hl
  exact ⟨pa, h1, e, _, _, _, c, yFr f h24 h28⟩
theorem yc_clear (hS : yS pa h m P n K ik pd ln) : ∃ (pa1 : Nat → Nat) (h1 : Nat → Nat → Int32), qzC 60 32 [.ref 0] (60, qzRr pa, h) = some (some (.int (nI ln)), (60, qzRr pa1, h1)) ∧ yS pa1 h1 m P n K ik pd 0 := by
  obtain ⟨T, TP, TK, hc, h24, h28⟩ := hS
  obtain ⟨h1, e, c, f⟩ := pX2_clear (d := 60) hc
  exact ⟨pa, h1, e, _, _, _, c, yFr f h24 h28⟩
theorem yc_load (hS : yS pa h m P n K ik pd ln) (hb : (zBo (zCh pd ln)).1 = 1 ∧ (zBo (zCh pd ln)).2.1 = ln) : ∃ (pa1 : Nat → Nat) (h1 : Nat → Nat → Int32), qzC 60 34 [.ref 0] (60, qzRr pa, h) = some (some (.int (nI (zBo (zCh pd ln)).2.2.1)), (60, qzRr pa1, h1)) ∧ yS pa1 h1 (zBk (zLd1 (zCh pd ln) (zBo (zCh pd ln)).2.2.1 (zBo (zCh pd ln)).2.2.2 (zLt (zCh pd ln) 19 1) m) 120) (zPush P n m) (min n 3 + 1) K ik pd 0 := by
  obtain ⟨T, TP, TK, hc, h24, h28⟩ := hS
  obtain ⟨h1, pa1, e, c, f⟩ := pX2_load (d := 55) hc hb
  exact ⟨pa1, h1, e, _, _, _, c, yFr f h24 h28⟩
theorem yc_play (hS : yS pa h m P n K ik pd ln) (hb : (zCu (zCh pd ln) ln).1 = 1) : ∃ (pa1 : Nat → Nat) (h1 : Nat → Nat → Int32), qzC 60 35 [.ref 0] (60, qzRr pa, h) = some (some (.int (nI (zPy pd ln (ln + 1) 0 0 m).1)), (60, qzRr pa1, h1)) ∧ yS pa1 h1 (zPy pd ln (ln + 1) 0 0 m).2 (zPush P n m) (min n 3 + 1) K ik pd 0 := by
  obtain ⟨T, TP, TK, hc, h24, h28⟩ := hS
  obtain ⟨h1, pa1, T1, e, c, f⟩ := pX2_play (d := 14) hc h28 hb
  exact ⟨pa1, h1, e, _, _, _, c, yF28 f h24⟩
theorem yc_undo (hS : yS pa h m P n K ik pd ln) (hk : 1 ≤ n) : ∃ (pa1 : Nat → Nat) (h1 : Nat → Nat → Int32), qzC 60 47 [.ref 0] (60, qzRr pa, h) = some (some (.int (nI (n - 1))), (60, qzRr pa1, h1)) ∧ yS pa1 h1 (P (n - 1)) P (n - 1) K ik pd ln := by
  obtain ⟨T, TP, TK, hc, h24, h28⟩ := hS
  obtain ⟨h1, e, c, f⟩ := pX2_undo (d := 57) hc hk
  exact ⟨pa, h1, e, _, _, _, c, yF22 f.1 h24 h28⟩
theorem yc_save (hS : yS pa h m P n K ik pd ln) : ∃ (pa1 : Nat → Nat) (h1 : Nat → Nat → Int32), qzC 60 48 [.ref 0] (60, qzRr pa, h) = some (some (.int (nI (m 2))), (60, qzRr pa1, h1)) ∧ yS pa1 h1 m P n m 1 pd ln := by
  obtain ⟨T, TP, TK, hc, h24, h28⟩ := hS
  obtain ⟨h1, e, c, f⟩ := pX2_save (d := 57) hc
  exact ⟨pa, h1, e, _, _, _, c, yF22 f.1 h24 h28⟩
theorem yc_restore (hS : yS pa h m P n K ik pd ln) (hk : ik = 1) : ∃ (pa1 : Nat → Nat) (h1 : Nat → Nat → Int32), qzC 60 49 [.ref 0] (60, qzRr pa, h) = some (some (.int (nI (K 2))), (60, qzRr pa1, h1)) ∧ yS pa1 h1 K (zPush P n m) (min n 3 + 1) K ik pd ln := by
  obtain ⟨T, TP, TK, hc, h24, h28⟩ := hS
  obtain ⟨h1, pa1, e, c, f⟩ := pX2_restore (d := 57) hc hk
  exact ⟨pa1, h1, e, _, _, _, c, yF22 f.1 h24 h28⟩
end YS
