/-! the interpreter's heap, values and locals as the machine's -/
abbrev qzGT : Type := ClassId × ClassId × ClassId
def qzFs (ad : Nat → Nat) (ci : Nat) (r : Nat → Option Nat) (h : Nat → Int32) : List Value := (List.range (qzNf ci)).map (fun k => if qzRef ci k then va_rf ((r k).map ad) else .int (h k))
def qzE (G : qzGT) (ad : Nat → Nat) (hp : qzH) (i : Nat) : va_E :=
  if (qzk i).1 = 4 then .inl (G.1, (qzk i).2, .inl (hp.2.2 i))
  else if (qzk i).1 = 5 then .inl (G.2.1, (qzk i).2, .inl (hp.2.2 i))
  else if (qzk i).1 = 6 then .inl (G.2.2, (qzk i).2, .inr (.inr (.inr (.inr (fun j => (hp.2.1 i j).map ad)))))
  else .inr ((qzk i).1, qzFs ad (qzk i).1 (hp.2.1 i) (hp.2.2 i))
def qzW (G : qzGT) (ad : Nat → Nat) (hp : qzH) : va_W := (List.range hp.1).map (fun i => (ad i, qzE G ad hp i))
theorem qzW_get {G : qzGT} {ad : Nat → Nat} {hp : qzH} {i : Nat} (h : i < hp.1) : (qzW G ad hp)[i]? = some (ad i, qzE G ad hp i) := by
  simp [qzW, h]
theorem qzW_set {G : qzGT} {ad : Nat → Nat} {hp hp' : qzH} {i : Nat} {x : va_E} (hn : hp'.1 = hp.1) (hx : qzE G ad hp' i = x) (h : ∀ j, j ≠ i → qzE G ad hp' j = qzE G ad hp j) : qzW G ad hp' = (qzW G ad hp).set i (ad i, x) := by
  apply List.ext_getElem?
  intro k
  by_cases hk : k = i
  · subst hk
    by_cases hl : k < hp.1
    · simp [qzW, hn, hl, hx]
    · simp [qzW, hn, hl]
  · rw [List.getElem?_set_ne (Ne.symm hk)]
    by_cases hl : k < hp.1
    · simp [qzW, hn, hl, h k hk]
    · simp [qzW, hn, hl]
/-- references lie among the objects -/
def qzWf (hp : qzH) : Prop := ∀ (i j a : Nat), hp.2.1 i j = some a → a < hp.1
def qzAg (n : Nat) (ad ad' : Nat → Nat) : Prop := ∀ i, i < n ∨ 1000 ≤ i → ad' i = ad i
theorem qzAg.rf {n : Nat} {ad : Nat → Nat} : qzAg n ad ad := fun _ _ => rfl
theorem qzAg.tr {n n1 : Nat} {a b c : Nat → Nat} (h1 : qzAg n a b) (h2 : qzAg n1 b c) (h : n ≤ n1) : qzAg n a c := fun i hi => (h2 i (by omega)).trans (h1 i hi)
theorem qzMap_ag {n : Nat} {ad ad' : Nat → Nat} (h : qzAg n ad ad') {o : Option Nat} (ho : ∀ a, o = some a → a < n) : o.map ad' = o.map ad := by
  cases o with
  | none => rfl
  | some a => simp [h a (Or.inl (ho a rfl))]
theorem qzE_ag {G : qzGT} {ad ad' : Nat → Nat} {hp : qzH} {n : Nat} {i : Nat} (hw : ∀ (j a : Nat), hp.2.1 i j = some a → a < n) (h : qzAg n ad ad') : qzE G ad' hp i = qzE G ad hp i := by
  have e : ∀ j, (hp.2.1 i j).map ad' = (hp.2.1 i j).map ad := fun j => qzMap_ag h (fun a ha => hw j a ha)
  have e1 : qzFs ad' (qzk i).1 (hp.2.1 i) (hp.2.2 i) = qzFs ad (qzk i).1 (hp.2.1 i) (hp.2.2 i) := by
    unfold qzFs
    simp only [e]
  unfold qzE
  simp only [e, e1]
theorem qzW_push {G : qzGT} {ad ad' : Nat → Nat} {hp hp' : qzH} {x : va_E} (hn : hp'.1 = hp.1 + 1) (ha : ∀ j, j < hp.1 → ad' j = ad j) (he : ∀ j, j < hp.1 → qzE G ad' hp' j = qzE G ad hp j) (hx : qzE G ad' hp' hp.1 = x) : qzW G ad' hp' = qzW G ad hp ++ [(ad' hp.1, x)] := by
  unfold qzW
  rw [hn, List.range_succ, List.map_append]
  congr 1
  · apply List.map_congr_left
    intro j hj
    rw [List.mem_range] at hj
    rw [ha j hj, he j hj]
  · simp [hx]
def qzR (ad : Nat → Nat) (v : Value) : Value := match v with
  | .ref a => .ref (ad a)
  | v => v
def qzOk (n : Nat) (v : Value) : Prop := match v with
  | .int _ => True
  | .null => True
  | .ref a => a < n ∨ 1000 ≤ a
  | _ => False
theorem qzR_ag {n : Nat} {ad ad' : Nat → Nat} {v : Value} (h : qzAg n ad ad') (ho : qzOk n v) : qzR ad' v = qzR ad v := by
  cases v with
  | ref a => exact congrArg Value.ref (h a ho)
  | _ => rfl
theorem qzOk.mono {n n' : Nat} {v : Value} (h : qzOk n v) (hn : n ≤ n') : qzOk n' v := by
  cases v with
  | ref a => exact Or.imp (fun q => Nat.lt_of_lt_of_le q hn) id h
  | _ => exact h
theorem qzOk.cat {n : Nat} {ad : Nat → Nat} {v : Value} (h : qzOk n v) : (qzR ad v).category = 1 := by
  cases v <;> first | rfl | exact h.elim
theorem qzOk.rf {n : Nat} {o : Option Nat} (h : ∀ a, o = some a → a < n) : qzOk n (va_rf o) := by
  cases o with
  | none => trivial
  | some a => exact Or.inl (h a rfl)
theorem qzR_rf {ad : Nat → Nat} {o : Option Nat} : qzR ad (va_rf o) = va_rf (o.map ad) := by
  cases o <;> rfl
theorem qzOk.sum {n : Nat} {ad : Nat → Nat} : ∀ {st : List Value}, (∀ v ∈ st, qzOk n v) → ((st.map (qzR ad)).map fun v => v.category).sum = st.length
  | [], _ => rfl
  | v :: st, h => by
    have h1 := qzOk.cat (ad := ad) (h v List.mem_cons_self)
    have h2 := qzOk.sum (ad := ad) (st := st) (fun w hw => h w (List.mem_cons_of_mem _ hw))
    simp only [List.map_cons, List.sum_cons, List.length_cons, h1, h2]
    omega
def qzLs (ad : Nat → Nat) (n nL : Nat) (lsS : Array Slot) (ls : List Value) : Prop := ls.length = nL ∧ (∀ v ∈ ls, qzOk n v ∨ v = .float 0) ∧ ∃ lv, lv_has lsS nL lv ∧ ∀ (j : Nat) (v : Value), ls[j]? = some v → v ≠ .float 0 → (j, qzR ad v) ∈ lv
theorem qzLs.get {ad : Nat → Nat} {n nL : Nat} {lsS : Array Slot} {ls : List Value} (h : qzLs ad n nL lsS ls) {j : Nat} {v : Value} (hj : ls[j]? = some v) (hv : v ≠ .float 0) : lsS[j]? = some (.val (qzR ad v)) := by
  obtain ⟨-, -, lv, h1, h2⟩ := h
  exact h1.2.2 _ (h2 j v hj hv)
theorem qzLs.ok {ad : Nat → Nat} {n nL : Nat} {lsS : Array Slot} {ls : List Value} (h : qzLs ad n nL lsS ls) {j : Nat} {v : Value} (hj : ls[j]? = some v) (hv : v ≠ .float 0) : qzOk n v :=
  (h.2.1 v (List.mem_of_getElem? hj)).resolve_right hv
theorem qzLs.size {ad : Nat → Nat} {n nL : Nat} {lsS : Array Slot} {ls : List Value} (h : qzLs ad n nL lsS ls) : lsS.size = nL := by
  obtain ⟨-, -, lv, h1, -⟩ := h
  exact h1.1
theorem qzLs.set {ad : Nat → Nat} {n nL : Nat} {lsS' : Array Slot} {ls : List Value} {lv : List (Nat × Value)} (h : ls.length = nL) (ho : ∀ v ∈ ls, qzOk n v ∨ v = .float 0) (h2 : ∀ (j : Nat) (v : Value), ls[j]? = some v → v ≠ .float 0 → (j, qzR ad v) ∈ lv)
    {i : Nat} {x : Value} (hx : qzOk n x) (h' : lv_has lsS' nL ((i, qzR ad x) :: lv.filter (fun q => !(q.1 == i) && !(q.1 + 1 == i && q.2.category == 2)))) : qzLs ad n nL lsS' (ls.set i x) := by
  refine ⟨by rw [List.length_set]; exact h, fun v hv => ?_, _, h', fun j v hj hv => ?_⟩
  · rcases List.mem_or_eq_of_mem_set hv with q | q
    · exact ho v q
    · subst q; exact Or.inl hx
  · by_cases hji : j = i
    · subst hji
      have hl : j < ls.length := by
        have := (List.getElem?_eq_some_iff.mp hj).1
        rwa [List.length_set] at this
      rw [List.getElem?_set_self hl] at hj
      cases hj
      exact List.mem_cons_self
    · rw [List.getElem?_set_ne (Ne.symm hji)] at hj
      refine List.mem_cons_of_mem _ (List.mem_filter.mpr ⟨h2 j v hj hv, ?_⟩)
      have hc : (qzR ad v).category = 1 := qzOk.cat ((ho v (List.mem_of_getElem? hj)).resolve_right hv)
      simp [hji, hc]
theorem qzLs.ag {ad ad' : Nat → Nat} {n n' nL : Nat} {lsS : Array Slot} {ls : List Value} (h : qzLs ad n nL lsS ls) (ha : qzAg n ad ad') (hn : n ≤ n') : qzLs ad' n' nL lsS ls := by
  obtain ⟨h0, ho, lv, h1, h2⟩ := h
  refine ⟨h0, fun v hv => (ho v hv).imp (fun q => q.mono hn) id, lv, h1, fun j v hj hv => ?_⟩
  rw [qzR_ag ha ((ho v (List.mem_of_getElem? hj)).resolve_right hv)]
  exact h2 j v hj hv
theorem qz_args : ∀ (vs : List Value) (k : Nat), (∀ v ∈ vs, v.category = 1) → ∀ (j : Nat) (v : Value), vs[j]? = some v → (k + j, v) ∈ lv_args k vs
  | [], _, _, j, v, h => by simp at h
  | w :: vs, k, hc, j, v, h => by
    have h1 : w.category = 1 := hc w List.mem_cons_self
    have e : lv_args k (w :: vs) = (k, w) :: lv_args (k + 1) vs := by simp [lv_args, h1]
    rw [e]
    cases j with
    | zero => simp at h; subst h; exact List.mem_cons_self
    | succ j =>
      rw [List.getElem?_cons_succ] at h
      have := qz_args vs (k + 1) (fun v hv => hc v (List.mem_cons_of_mem _ hv)) j v h
      rw [show k + (j + 1) = k + 1 + j by omega]
      exact List.mem_cons_of_mem _ this
theorem qz_sl : ∀ (vs : List Value), (∀ v ∈ vs, v.category = 1) → (lg_sl vs).length = vs.length
  | [], _ => rfl
  | w :: vs, hc => by
    have h1 : w.category = 1 := hc w List.mem_cons_self
    have h2 := qz_sl vs (fun v hv => hc v (List.mem_cons_of_mem _ hv))
    simp only [lg_sl, List.flatMap_cons, List.length_append, List.length_cons] at h2 ⊢
    rw [h2, if_neg (by omega)]
    simp
    omega
theorem qzLs.entry {ad : Nat → Nat} {n mi : Nat} {as : List Value} (ho : ∀ v ∈ as, qzOk n v) (hl : as.length ≤ (qzMd mi).2.2.1) : qzLs ad n (qzMd mi).2.2.1 ((lg_sl (as.map (qzR ad)) ++ List.replicate ((qzMd mi).2.2.1 - (lg_sl (as.map (qzR ad))).length) Slot.unset).toArray) (qzLoc mi as) := by
  have hc : ∀ v ∈ as.map (qzR ad), v.category = 1 := by
    intro v hv
    obtain ⟨w, hw, rfl⟩ := List.mem_map.mp hv
    exact (ho w hw).cat
  have hs : (lg_sl (as.map (qzR ad))).length = as.length := by rw [qz_sl _ hc, List.length_map]
  refine ⟨by simp [qzLoc]; omega, fun v hv => ?_, _, lv_entry _ (by rw [hs]; exact hl), fun j v hj hv => ?_⟩
  · rcases List.mem_append.mp hv with q | q
    · exact Or.inl (ho v q)
    · exact Or.inr (List.eq_of_mem_replicate q)
  · have hlt : j < as.length := by
      apply Nat.lt_of_not_le
      intro q
      unfold qzLoc at hj
      rw [List.getElem?_append_right q] at hj
      exact hv (List.eq_of_mem_replicate (List.mem_of_getElem? hj))
    unfold qzLoc at hj
    rw [List.getElem?_append_left hlt] at hj
    have := qz_args (as.map (qzR ad)) 0 hc j (qzR ad v) (by rw [List.getElem?_map, hj]; rfl)
    rwa [Nat.zero_add] at this
