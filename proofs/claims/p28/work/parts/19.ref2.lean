/-! best leads, as numbers -/
def iI (z : Int) : Int32 := Int32.ofInt z
theorem iI_nat {n : Nat} : nI n = iI (n : Int) := rfl
theorem iI_toInt {z : Int} (h1 : -2147483648 ≤ z) (h2 : z < 2147483648) : (iI z).toInt = z := by
  unfold iI
  rw [Int32.toInt_ofInt]
  have e : Int32.size = 4294967296 := rfl
  rw [e]
  exact Int.bmod_eq_of_le (by omega) (by omega)
theorem iI_sub {a b : Int} : iI a - iI b = iI (a - b) := (Int32.ofInt_sub a b).symm
theorem iI_add {a b : Int} : iI a + iI b = iI (a + b) := (Int32.ofInt_add a b).symm
theorem iI_le {a b : Int} (ha : -2147483648 ≤ a ∧ a < 2147483648) (hb : -2147483648 ≤ b ∧ b < 2147483648) : iI a ≤ iI b ↔ a ≤ b := by
  rw [Int32.le_iff_toInt_le, iI_toInt ha.1 ha.2, iI_toInt hb.1 hb.2]
theorem iI_lt {a b : Int} (ha : -2147483648 ≤ a ∧ a < 2147483648) (hb : -2147483648 ≤ b ∧ b < 2147483648) : iI a < iI b ↔ a < b := by
  rw [Int32.lt_iff_toInt_lt, iI_toInt ha.1 ha.2, iI_toInt hb.1 hb.2]
theorem iI_eq {a b : Int} (ha : -2147483648 ≤ a ∧ a < 2147483648) (hb : -2147483648 ≤ b ∧ b < 2147483648) : iI a = iI b ↔ a = b := by
  rw [← Int32.toInt_inj, iI_toInt ha.1 ha.2, iI_toInt hb.1 hb.2]
def zMx (b : Int) (g : Nat → Int) : Nat → Int
  | 0 => b
  | n + 1 => max (zMx b g n) (g (n + 1))
theorem zMx_congr {b : Int} {g g' : Nat → Int} : ∀ {n : Nat}, (∀ k, 1 ≤ k → k ≤ n → g k = g' k) → zMx b g n = zMx b g' n
  | 0, _ => rfl
  | n + 1, h => by
    unfold zMx
    rw [zMx_congr (fun k h1 h2 => h k h1 (by omega)), h (n + 1) (by omega) (Nat.le_refl _)]
theorem zMx_ge {b : Int} {g : Nat → Int} : ∀ {n : Nat}, b ≤ zMx b g n
  | 0 => Int.le_refl _
  | n + 1 => Int.le_trans (zMx_ge (n := n)) (Int.le_max_left _ _)
theorem zMx_le {b : Int} {g : Nat → Int} {u : Int} : ∀ {n : Nat}, b ≤ u → (∀ k, 1 ≤ k → k ≤ n → g k ≤ u) → zMx b g n ≤ u
  | 0, hb, _ => hb
  | n + 1, hb, h => Int.max_le.mpr ⟨zMx_le hb (fun k h1 h2 => h k h1 (by omega)), h (n + 1) (by omega) (Nat.le_refl _)⟩
theorem zMx_at {b : Int} {g : Nat → Int} : ∀ {n k : Nat}, 1 ≤ k → k ≤ n → g k ≤ zMx b g n
  | 0, k, h1, h2 => by omega
  | n + 1, k, h1, h2 => by
    unfold zMx
    by_cases h : k = n + 1
    · subst h; exact Int.le_max_right _ _
    · exact Int.le_trans (zMx_at h1 (by omega)) (Int.le_max_left _ _)
def zLd (c : Nat → Nat) (F M G : Nat) : Nat → Nat → Nat → Nat → Nat → Int
  | 0, _, _, _, _ => 0
  | u + 1, f, l, own, oth => if l = 0 then 0 else zMx (-10000) (fun k => max ((zWo c F M f k own : Int) - zLd c F M G u (f + k) (l - k) oth (c (f + k - 1) + 1)) ((zWo c F M (f + l - k) k own : Int) - zLd c F M G u f (l - k) oth (c (f + l - 1) + 1))) (min l G)
theorem zLd_fuel {c : Nat → Nat} {F M G : Nat} : ∀ (u v f l own oth : Nat), l ≤ u → l ≤ v → zLd c F M G u f l own oth = zLd c F M G v f l own oth := by
  intro u
  induction u with
  | zero =>
    intro v f l own oth h1 h2
    have : l = 0 := by omega
    subst this
    cases v with
    | zero => rfl
    | succ v => unfold zLd; rw [if_pos rfl]
  | succ u ih =>
    intro v f l own oth h1 h2
    cases v with
    | zero =>
      have : l = 0 := by omega
      subst this
      unfold zLd; rw [if_pos rfl]
    | succ v =>
      unfold zLd
      by_cases hl : l = 0
      · rw [if_pos hl, if_pos hl]
      · rw [if_neg hl, if_neg hl]
        refine zMx_congr (fun k k1 k2 => ?_)
        rw [ih v (f + k) (l - k) _ _ (by omega) (by omega), ih v f (l - k) _ _ (by omega) (by omega)]
def zL (c : Nat → Nat) (F M G f l own oth : Nat) : Int := zLd c F M G l f l own oth
/-- the lead with a cut of k stripes, from the left (b = 1) or from the right -/
def zCand (c : Nat → Nat) (F M G f l own oth k b : Nat) : Int := if b = 1 then (zWo c F M f k own : Int) - zL c F M G (f + k) (l - k) oth (c (f + k - 1) + 1) else (zWo c F M (f + l - k) k own : Int) - zL c F M G f (l - k) oth (c (f + l - 1) + 1)
def zBoth (c : Nat → Nat) (F M G f l own oth k : Nat) : Int := max (zCand c F M G f l own oth k 1) (zCand c F M G f l own oth k 0)
theorem zL_0 {c : Nat → Nat} {F M G f own oth : Nat} : zL c F M G f 0 own oth = 0 := rfl
theorem zL_eq {c : Nat → Nat} {F M G f l own oth : Nat} (hl : 0 < l) : zL c F M G f l own oth = zMx (-10000) (zBoth c F M G f l own oth) (min l G) := by
  obtain ⟨u, rfl⟩ : ∃ u, l = u + 1 := ⟨l - 1, by omega⟩
  unfold zL
  rw [zLd, if_neg (by omega)]
  refine zMx_congr (fun k k1 k2 => ?_)
  unfold zBoth zCand zL
  rw [if_pos rfl, if_neg (by omega)]
  rw [zLd_fuel u (u + 1 - k) (f + k) (u + 1 - k) _ _ (by omega) (Nat.le_refl _), zLd_fuel u (u + 1 - k) f (u + 1 - k) _ _ (by omega) (Nat.le_refl _)]
theorem zWo_le {c : Nat → Nat} {F M a n L : Nat} (hF : F ≤ 9) (hM : M ≤ 9) : zWo c F M a n L ≤ n + 18 ∧ n ≤ zWo c F M a n L := by
  unfold zWo
  split <;> split <;> omega
theorem zL_bd {c : Nat → Nat} {F M G : Nat} (hF : F ≤ 9) (hM : M ≤ 9) (hG : 1 ≤ G) : ∀ (n l f own oth : Nat), l ≤ n → -(19 * (l : Int)) ≤ zL c F M G f l own oth ∧ zL c F M G f l own oth ≤ 19 * (l : Int) := by
  intro n
  induction n with
  | zero =>
    intro l f own oth h
    have : l = 0 := by omega
    subst this
    rw [zL_0]; omega
  | succ n ih =>
    intro l f own oth h
    by_cases hl : l = 0
    · subst hl; rw [zL_0]; omega
    · have hc : ∀ k b, 1 ≤ k → k ≤ l → b ≤ 1 → -(19 * (l : Int)) ≤ zCand c F M G f l own oth k b ∧ zCand c F M G f l own oth k b ≤ 19 * (l : Int) := by
        intro k b k1 k2 hb
        unfold zCand
        split
        · have h1 := ih (l - k) (f + k) oth (c (f + k - 1) + 1) (by omega)
          have h2 := zWo_le (c := c) (a := f) (n := k) (L := own) hF hM
          have e : ((l - k : Nat) : Int) = (l : Int) - k := by omega
          rw [e] at h1
          omega
        · have h1 := ih (l - k) f oth (c (f + l - 1) + 1) (by omega)
          have h2 := zWo_le (c := c) (a := f + l - k) (n := k) (L := own) hF hM
          have e : ((l - k : Nat) : Int) = (l : Int) - k := by omega
          rw [e] at h1
          omega
      rw [zL_eq (by omega)]
      have hm : 1 ≤ min l G := by omega
      refine ⟨?_, ?_⟩
      · have h1 := (hc 1 1 (by omega) (by omega) (by omega)).1
        have h2 : zCand c F M G f l own oth 1 1 ≤ zBoth c F M G f l own oth 1 := Int.le_max_left _ _
        have h3 := zMx_at (b := -10000) (g := zBoth c F M G f l own oth) (n := min l G) (k := 1) (by omega) hm
        omega
      · refine zMx_le (by omega) (fun k k1 k2 => ?_)
        exact Int.max_le.mpr ⟨(hc k 1 k1 (by omega) (by omega)).2, (hc k 0 k1 (by omega) (by omega)).2⟩
theorem zCand_bd {c : Nat → Nat} {F M G : Nat} (hF : F ≤ 9) (hM : M ≤ 9) (hG : 1 ≤ G) {f l own oth k b : Nat} (k1 : 1 ≤ k) (k2 : k ≤ l) : -(19 * (l : Int)) ≤ zCand c F M G f l own oth k b ∧ zCand c F M G f l own oth k b ≤ 19 * (l : Int) := by
  unfold zCand
  split
  · have h1 := zL_bd (c := c) hF hM hG (l - k) (l - k) (f + k) oth (c (f + k - 1) + 1) (by omega)
    have h2 := zWo_le (c := c) (a := f) (n := k) (L := own) hF hM
    have e : ((l - k : Nat) : Int) = (l : Int) - k := by omega
    rw [e] at h1
    omega
  · have h1 := zL_bd (c := c) hF hM hG (l - k) (l - k) f oth (c (f + l - 1) + 1) (by omega)
    have h2 := zWo_le (c := c) (a := f + l - k) (n := k) (L := own) hF hM
    have e : ((l - k : Nat) : Int) = (l : Int) - k := by omega
    rw [e] at h1
    omega
def zRowTab : List (Nat × Nat) := (List.range 20).flatMap (fun l => (List.range (20 - l)).map (fun f => (f, l + 1)))
theorem zRow_tab : ∀ l, l < 21 → 1 ≤ l → ∀ f, f < 21 → f + l ≤ 20 → (zRowTab.getD (zRow f l) (99, 99)).1 = f ∧ (zRowTab.getD (zRow f l) (99, 99)).2 = l := by decide +kernel
theorem zRow_lt : ∀ l, l < 21 → 1 ≤ l → ∀ f, f < 21 → f + l ≤ 20 → zRow f l < 210 := by decide +kernel
theorem zRow_inj {f l f' l' : Nat} (h1 : 1 ≤ l) (h2 : f + l ≤ 20) (h3 : 1 ≤ l') (h4 : f' + l' ≤ 20) (h : zRow f l = zRow f' l') : f = f' ∧ l = l' := by
  have e1 := zRow_tab l (by omega) h1 f (by omega) h2
  have e2 := zRow_tab l' (by omega) h3 f' (by omega) h4
  rw [h] at e1
  exact ⟨e1.1.symm.trans e2.1, e1.2.symm.trans e2.2⟩
/-- the place of a lead in the reference's table -/
def zAt (f l own oth : Nat) : Nat := 49 * zRow f l + 7 * own + oth
theorem zAt_inj {f l a b f' l' a' b' : Nat} (h1 : 1 ≤ l) (h2 : f + l ≤ 20) (h3 : 1 ≤ l') (h4 : f' + l' ≤ 20) (ha : a ≤ 6) (hb : b ≤ 6) (ha' : a' ≤ 6) (hb' : b' ≤ 6) (h : zAt f l a b = zAt f' l' a' b') : f = f' ∧ l = l' ∧ a = a' ∧ b = b' := by
  unfold zAt at h
  have e := zRow_inj (f := f) (l := l) (f' := f') (l' := l') h1 h2 h3 h4 (by omega)
  omega
theorem zAt_lt {f l a b : Nat} (h1 : 1 ≤ l) (h2 : f + l ≤ 20) (ha : a ≤ 6) (hb : b ≤ 6) : zAt f l a b < 10290 := by
  have := zRow_lt l (by omega) h1 f (by omega) h2
  unfold zAt
  omega
section REF2
variable {d : Nat} {pa : Nat → Nat} {h : Nat → Nat → Int32} {m : Nat → Nat}
end REF2
