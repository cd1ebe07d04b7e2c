/-! the objects that are there, and calls by their arguments -/
def qzRr (pa : Nat → Nat) : Nat → Nat → Option Nat := fun i k =>
  if i = 22 then (if k < 4 then some (pa k) else none)
  else if i = 0 then (match k with | 0 => some 1 | 1 => some 8 | 2 => some 15 | 4 => some 22 | 6 => some 23 | 8 => some 24 | 9 => some 28 | _ => none)
  else if i = 24 ∨ i = 28 then (if k < 3 then some (i + 1 + k) else none)
  else if i = 60 then (match k with | 0 => some 61 | 1 => some 62 | 2 => some 63 | 4 => some 64 | 6 => some 65 | 8 => some 66 | _ => none)
  else if (qzk i).1 = 0 then (if k < 6 then some (i + 1 + k) else none) else none
theorem rr_60_0 {pa : Nat → Nat} : qzRr pa 60 0 = some 61 := rfl
theorem rr_60_1 {pa : Nat → Nat} : qzRr pa 60 1 = some 62 := rfl
theorem rr_60_2 {pa : Nat → Nat} : qzRr pa 60 2 = some 63 := rfl
theorem rr_60_4 {pa : Nat → Nat} : qzRr pa 60 4 = some 64 := rfl
theorem rr_60_6 {pa : Nat → Nat} : qzRr pa 60 6 = some 65 := rfl
theorem rr_60_8 {pa : Nat → Nat} : qzRr pa 60 8 = some 66 := rfl
theorem rr_0_0 {pa : Nat → Nat} : qzRr pa 0 0 = some 1 := rfl
theorem rr_0_1 {pa : Nat → Nat} : qzRr pa 0 1 = some 8 := rfl
theorem rr_0_2 {pa : Nat → Nat} : qzRr pa 0 2 = some 15 := rfl
theorem rr_0_4 {pa : Nat → Nat} : qzRr pa 0 4 = some 22 := rfl
theorem rr_0_6 {pa : Nat → Nat} : qzRr pa 0 6 = some 23 := rfl
theorem rr_0_8 {pa : Nat → Nat} : qzRr pa 0 8 = some 24 := rfl
theorem rr_0_9 {pa : Nat → Nat} : qzRr pa 0 9 = some 28 := rfl
theorem rr_24_0 {pa : Nat → Nat} : qzRr pa 24 0 = some 25 := rfl
theorem rr_24_1 {pa : Nat → Nat} : qzRr pa 24 1 = some 26 := rfl
theorem rr_24_2 {pa : Nat → Nat} : qzRr pa 24 2 = some 27 := rfl
theorem rr_28_0 {pa : Nat → Nat} : qzRr pa 28 0 = some 29 := rfl
theorem rr_28_1 {pa : Nat → Nat} : qzRr pa 28 1 = some 30 := rfl
theorem rr_28_2 {pa : Nat → Nat} : qzRr pa 28 2 = some 31 := rfl
theorem vrf_s {a : Nat} : va_rf (some a) = .ref a := rfl
theorem vrf_n : va_rf none = .null := rfl
theorem nb0 : narrow .boolean (.int 0) = .int 0 := rfl
theorem nb1 : narrow .boolean (.int 1) = .int 1 := rfl
theorem qzIn_nI {k N : Nat} (h : k < N) (hN : N < 2147483648) : qzIn (nI k) N = true := by
  have := nI_in h (by omega)
  unfold qzIn
  simp only [not_or] at this
  simp [this.1, this.2]
theorem nn0 {n : Nat} (h : 0 < n) (h2 : n < 2147483648) : ¬ nI n = nI 0 := by
  rw [nI_eq (by omega) (by omega)]; omega
theorem nb0n : narrow .boolean (.int (nI 0)) = .int (nI 0) := rfl
theorem nb1n : narrow .boolean (.int (nI 1)) = .int (nI 1) := rfl
theorem qi_61 {k : Nat} (h : k < 120) : qzIn (nI k) (qzk 61).2 = true := qzIn_nI (N := 120) h (by omega)
theorem qi_62 {k : Nat} (h : k < 120) : qzIn (nI k) (qzk 62).2 = true := qzIn_nI (N := 120) h (by omega)
theorem qi_63 {k : Nat} (h : k < 480) : qzIn (nI k) (qzk 63).2 = true := qzIn_nI (N := 480) h (by omega)
theorem qi_64 {k : Nat} (h : k < 120) : qzIn (nI k) (qzk 64).2 = true := qzIn_nI (N := 120) h (by omega)
theorem qi_65 {k : Nat} (h : k < 60) : qzIn (nI k) (qzk 65).2 = true := qzIn_nI (N := 60) h (by omega)
theorem qi_66 {k : Nat} (h : k < 10290) : qzIn (nI k) (qzk 66).2 = true := qzIn_nI (N := 10290) h (by omega)
theorem li_0 : (0 : Int32) = nI 0 := rfl
theorem li_1 : (1 : Int32) = nI 1 := rfl
theorem li_2 : (2 : Int32) = nI 2 := rfl
theorem li_3 : (3 : Int32) = nI 3 := rfl
theorem li_4 : (4 : Int32) = nI 4 := rfl
theorem li_5 : (5 : Int32) = nI 5 := rfl
theorem li_6 : (6 : Int32) = nI 6 := rfl
theorem li_7 : (7 : Int32) = nI 7 := rfl
theorem li_8 : (8 : Int32) = nI 8 := rfl
theorem li_9 : (9 : Int32) = nI 9 := rfl
theorem li_10 : (10 : Int32) = nI 10 := rfl
theorem li_11 : (11 : Int32) = nI 11 := rfl
theorem li_12 : (12 : Int32) = nI 12 := rfl
theorem li_13 : (13 : Int32) = nI 13 := rfl
theorem li_14 : (14 : Int32) = nI 14 := rfl
theorem li_15 : (15 : Int32) = nI 15 := rfl
theorem li_16 : (16 : Int32) = nI 16 := rfl
theorem li_17 : (17 : Int32) = nI 17 := rfl
theorem li_18 : (18 : Int32) = nI 18 := rfl
theorem li_19 : (19 : Int32) = nI 19 := rfl
theorem li_20 : (20 : Int32) = nI 20 := rfl
theorem li_21 : (21 : Int32) = nI 21 := rfl
theorem li_22 : (22 : Int32) = nI 22 := rfl
theorem li_23 : (23 : Int32) = nI 23 := rfl
theorem li_24 : (24 : Int32) = nI 24 := rfl
theorem li_25 : (25 : Int32) = nI 25 := rfl
theorem li_26 : (26 : Int32) = nI 26 := rfl
theorem li_27 : (27 : Int32) = nI 27 := rfl
theorem li_28 : (28 : Int32) = nI 28 := rfl
theorem li_29 : (29 : Int32) = nI 29 := rfl
theorem li_30 : (30 : Int32) = nI 30 := rfl
theorem li_31 : (31 : Int32) = nI 31 := rfl
theorem li_32 : (32 : Int32) = nI 32 := rfl
theorem li_33 : (33 : Int32) = nI 33 := rfl
theorem li_34 : (34 : Int32) = nI 34 := rfl
theorem li_35 : (35 : Int32) = nI 35 := rfl
theorem li_36 : (36 : Int32) = nI 36 := rfl
theorem li_37 : (37 : Int32) = nI 37 := rfl
theorem li_38 : (38 : Int32) = nI 38 := rfl
theorem li_39 : (39 : Int32) = nI 39 := rfl
theorem li_40 : (40 : Int32) = nI 40 := rfl
theorem li_41 : (41 : Int32) = nI 41 := rfl
theorem li_42 : (42 : Int32) = nI 42 := rfl
theorem li_43 : (43 : Int32) = nI 43 := rfl
theorem li_44 : (44 : Int32) = nI 44 := rfl
theorem li_45 : (45 : Int32) = nI 45 := rfl
theorem li_46 : (46 : Int32) = nI 46 := rfl
theorem li_47 : (47 : Int32) = nI 47 := rfl
theorem li_48 : (48 : Int32) = nI 48 := rfl
theorem li_49 : (49 : Int32) = nI 49 := rfl
theorem li_50 : (50 : Int32) = nI 50 := rfl
theorem li_51 : (51 : Int32) = nI 51 := rfl
theorem li_52 : (52 : Int32) = nI 52 := rfl
theorem li_53 : (53 : Int32) = nI 53 := rfl
theorem li_54 : (54 : Int32) = nI 54 := rfl
theorem li_55 : (55 : Int32) = nI 55 := rfl
theorem li_56 : (56 : Int32) = nI 56 := rfl
theorem li_57 : (57 : Int32) = nI 57 := rfl
theorem li_58 : (58 : Int32) = nI 58 := rfl
theorem li_59 : (59 : Int32) = nI 59 := rfl
theorem li_60 : (60 : Int32) = nI 60 := rfl
theorem li_61 : (61 : Int32) = nI 61 := rfl
theorem li_97 : (97 : Int32) = nI 97 := rfl
theorem li_98 : (98 : Int32) = nI 98 := rfl
theorem li_102 : (102 : Int32) = nI 102 := rfl
theorem li_103 : (103 : Int32) = nI 103 := rfl
theorem li_108 : (108 : Int32) = nI 108 := rfl
theorem li_114 : (114 : Int32) = nI 114 := rfl
theorem li_120 : (120 : Int32) = nI 120 := rfl
theorem li_126 : (126 : Int32) = nI 126 := rfl
theorem li_360 : (360 : Int32) = nI 360 := rfl
theorem li_480 : (480 : Int32) = nI 480 := rfl
theorem li_1000 : (1000 : Int32) = nI 1000 := rfl
theorem li_10000 : (10000 : Int32) = nI 10000 := rfl
theorem nI_sub {a b : Nat} (h : b ≤ a) : nI a - nI b = nI (a - b) := by
  obtain ⟨k, rfl⟩ := Nat.exists_eq_add_of_le h
  rw [← nI_add, Nat.add_sub_cancel_left, Int32.add_comm, Int32.add_sub_cancel]
theorem nI_mul {a b : Nat} : nI a * nI b = nI (a * b) := (Int32.ofNat_mul a b).symm
theorem nI_lt' {a b : Nat} (ha : a < 2147483648) (hb : b < 2147483648) : (nI a < nI b) = (a < b) := propext (nI_ltI ha hb)
theorem nI_le' {a b : Nat} (ha : a < 2147483648) (hb : b < 2147483648) : (nI a ≤ nI b) = (a ≤ b) := propext (nI_leI ha hb)
theorem nI_eq' {a b : Nat} (ha : a < 2147483648) (hb : b < 2147483648) : (nI a = nI b) = (a = b) := propext (nI_eq ha hb)
theorem nI_div {a b : Nat} (ha : a < 2147483648) (h0 : 0 < b) (hb : b < 2147483648) : nI a / nI b = nI (a / b) := pk_div ha h0 hb
theorem nI_rem {a b : Nat} (ha : a < 2147483648) (h0 : 0 < b) (hb : b < 2147483648) : nI a - nI a / nI b * nI b = nI (a % b) := pk_rem ha h0 hb
theorem nI_cl {n : Nat} (h : n < 2147483648) : (nI n).toNatClampNeg = n := nI_clamp h
theorem ar_0 : qzArr 2 0 67 = true := by decide
theorem ar_22 : qzArr 6 22 67 = true := by decide
theorem ar_23 : qzArr 5 23 67 = true := by decide
theorem ar_24 : qzArr 1 24 67 = true := by decide
theorem ar_25 : qzArr 4 25 67 = true := by decide
theorem ar_26 : qzArr 4 26 67 = true := by decide
theorem ar_27 : qzArr 4 27 67 = true := by decide
theorem ar_28 : qzArr 1 28 67 = true := by decide
theorem ar_29 : qzArr 4 29 67 = true := by decide
theorem ar_30 : qzArr 4 30 67 = true := by decide
theorem ar_31 : qzArr 4 31 67 = true := by decide
theorem ar_60 : qzArr 3 60 67 = true := by decide
theorem ar_61 : qzArr 4 61 67 = true := by decide
theorem ar_62 : qzArr 4 62 67 = true := by decide
theorem ar_63 : qzArr 4 63 67 = true := by decide
theorem ar_64 : qzArr 4 64 67 = true := by decide
theorem ar_65 : qzArr 4 65 67 = true := by decide
theorem ar_66 : qzArr 4 66 67 = true := by decide
theorem ln0 : ([] : List Value).length ≤ 8 := by simp
theorem ln1 {a0 : Value} : ([a0] : List Value).length ≤ 8 := by simp
theorem ln2 {a0 a1 : Value} : ([a0, a1] : List Value).length ≤ 8 := by simp
theorem ln3 {a0 a1 a2 : Value} : ([a0, a1, a2] : List Value).length ≤ 8 := by simp
theorem ln4 {a0 a1 a2 a3 : Value} : ([a0, a1, a2, a3] : List Value).length ≤ 8 := by simp
theorem ln5 {a0 a1 a2 a3 a4 : Value} : ([a0, a1, a2, a3, a4] : List Value).length ≤ 8 := by simp
theorem ln6 {a0 a1 a2 a3 a4 a5 : Value} : ([a0, a1, a2, a3, a4, a5] : List Value).length ≤ 8 := by simp
theorem ln7 {a0 a1 a2 a3 a4 a5 a6 : Value} : ([a0, a1, a2, a3, a4, a5, a6] : List Value).length ≤ 8 := by simp
theorem ln8 {a0 a1 a2 a3 a4 a5 a6 a7 : Value} : ([a0, a1, a2, a3, a4, a5, a6, a7] : List Value).length ≤ 8 := by simp
theorem kX0_init {d : Nat} {hp : qzH} {a0 : Value} : qzC d 0 [a0] hp = qzV d 0 0 [a0, .float 0] [] hp := rfl
theorem kX0_copyFrom {d : Nat} {hp : qzH} {a0 a1 : Value} : qzC d 1 [a0, a1] hp = qzV d 1 0 [a0, a1] [] hp := rfl
theorem kX0_begin {d : Nat} {hp : qzH} {a0 : Value} : qzC d 2 [a0] hp = qzV d 2 0 [a0] [] hp := rfl
theorem kX0_remaining {d : Nat} {hp : qzH} {a0 : Value} : qzC d 3 [a0] hp = qzV d 3 0 [a0] [] hp := rfl
theorem kX0_isOver {d : Nat} {hp : qzH} {a0 : Value} : qzC d 4 [a0] hp = qzV d 4 0 [a0] [] hp := rfl
theorem kX0_onTurn {d : Nat} {hp : qzH} {a0 : Value} : qzC d 5 [a0] hp = qzV d 5 0 [a0] [] hp := rfl
theorem kX0_longestCut {d : Nat} {hp : qzH} {a0 : Value} : qzC d 6 [a0] hp = qzV d 6 0 [a0] [] hp := rfl
theorem kX0_worthOfCut {d : Nat} {hp : qzH} {a0 a1 : Value} : qzC d 7 [a0, a1] hp = qzV d 7 0 [a0, a1, .float 0, .float 0] [] hp := rfl
theorem kX0_sew {d : Nat} {hp : qzH} {a0 a1 : Value} : qzC d 8 [a0, a1] hp = qzV d 8 0 [a0, a1, .float 0, .float 0, .float 0, .float 0] [] hp := rfl
theorem kX0_turnRound {d : Nat} {hp : qzH} {a0 : Value} : qzC d 9 [a0] hp = qzV d 9 0 [a0, .float 0, .float 0, .float 0, .float 0] [] hp := rfl
theorem kX0_piecesOf {d : Nat} {hp : qzH} {a0 a1 : Value} : qzC d 10 [a0, a1] hp = qzV d 10 0 [a0, a1] [] hp := rfl
theorem kX0_endOfCoat {d : Nat} {hp : qzH} {a0 a1 : Value} : qzC d 11 [a0, a1] hp = qzV d 11 0 [a0, a1, .float 0, .float 0] [] hp := rfl
theorem kX0_sumOfCoat {d : Nat} {hp : qzH} {a0 a1 a2 : Value} : qzC d 12 [a0, a1, a2] hp = qzV d 12 0 [a0, a1, a2, .float 0, .float 0] [] hp := rfl
theorem kX0_piecesWith {d : Nat} {hp : qzH} {a0 a1 a2 : Value} : qzC d 13 [a0, a1, a2] hp = qzV d 13 0 [a0, a1, a2, .float 0, .float 0] [] hp := rfl
theorem kX0_colourChanges {d : Nat} {hp : qzH} {a0 : Value} : qzC d 14 [a0] hp = qzV d 14 0 [a0, .float 0, .float 0] [] hp := rfl
theorem kX0_stripesLeftOf {d : Nat} {hp : qzH} {a0 a1 : Value} : qzC d 15 [a0, a1] hp = qzV d 15 0 [a0, a1, .float 0, .float 0] [] hp := rfl
theorem kX0_coloursLeft {d : Nat} {hp : qzH} {a0 : Value} : qzC d 16 [a0] hp = qzV d 16 0 [a0, .float 0, .float 0] [] hp := rfl
theorem kX0_longestFold {d : Nat} {hp : qzH} {a0 : Value} : qzC d 17 [a0] hp = qzV d 17 0 [a0, .float 0, .float 0] [] hp := rfl
theorem kX1_init {d : Nat} {hp : qzH} {a0 : Value} : qzC d 18 [a0] hp = qzV d 18 0 [a0] [] hp := rfl
theorem kX1_fitTo {d : Nat} {hp : qzH} {a0 a1 : Value} : qzC d 19 [a0, a1] hp = qzV d 19 0 [a0, a1] [] hp := rfl
theorem kX1_isFor {d : Nat} {hp : qzH} {a0 a1 : Value} : qzC d 20 [a0, a1] hp = qzV d 20 0 [a0, a1, .float 0, .float 0] [] hp := rfl
theorem kX1_told {d : Nat} {hp : qzH} {a0 a1 a2 a3 a4 : Value} : qzC d 21 [a0, a1, a2, a3, a4] hp = qzV d 21 0 [a0, a1, a2, a3, a4] [] hp := rfl
theorem kX1_keep {d : Nat} {hp : qzH} {a0 a1 a2 a3 a4 a5 : Value} : qzC d 22 [a0, a1, a2, a3, a4, a5] hp = qzV d 22 0 [a0, a1, a2, a3, a4, a5] [] hp := rfl
theorem kX1_place {d : Nat} {hp : qzH} {a0 a1 a2 a3 : Value} : qzC d 23 [a0, a1, a2, a3] hp = qzV d 23 0 [a0, a1, a2, a3] [] hp := rfl
theorem kX2_init {d : Nat} {hp : qzH} {a0 : Value} : qzC d 24 [a0] hp = qzV d 24 0 [a0, .float 0] [] hp := rfl
theorem kX2_cut {d : Nat} {hp : qzH} {a0 a1 a2 : Value} : qzC d 25 [a0, a1, a2] hp = qzV d 25 0 [a0, a1, a2, .float 0] [] hp := rfl
theorem kX2_best {d : Nat} {hp : qzH} {a0 : Value} : qzC d 26 [a0] hp = qzV d 26 0 [a0] [] hp := rfl
theorem kX2_greedy {d : Nat} {hp : qzH} {a0 : Value} : qzC d 27 [a0] hp = qzV d 27 0 [a0] [] hp := rfl
theorem kX2_again {d : Nat} {hp : qzH} {a0 : Value} : qzC d 28 [a0] hp = qzV d 28 0 [a0] [] hp := rfl
theorem kX2_mirror {d : Nat} {hp : qzH} {a0 : Value} : qzC d 29 [a0] hp = qzV d 29 0 [a0] [] hp := rfl
theorem kX2_set {d : Nat} {hp : qzH} {a0 a1 a2 : Value} : qzC d 30 [a0, a1, a2] hp = qzV d 30 0 [a0, a1, a2, .float 0] [] hp := rfl
theorem kX2_append {d : Nat} {hp : qzH} {a0 a1 : Value} : qzC d 31 [a0, a1] hp = qzV d 31 0 [a0, a1] [] hp := rfl
theorem kX2_clear {d : Nat} {hp : qzH} {a0 : Value} : qzC d 32 [a0] hp = qzV d 32 0 [a0, .float 0] [] hp := rfl
theorem kX2_fault {d : Nat} {hp : qzH} {a0 a1 : Value} : qzC d 33 [a0, a1] hp = qzV d 33 0 [a0, a1] [] hp := rfl
theorem kX2_load {d : Nat} {hp : qzH} {a0 : Value} : qzC d 34 [a0] hp = qzV d 34 0 [a0, .float 0] [] hp := rfl
theorem kX2_play {d : Nat} {hp : qzH} {a0 : Value} : qzC d 35 [a0] hp = qzV d 35 0 [a0, .float 0, .float 0, .float 0] [] hp := rfl
theorem kX2_stripe {d : Nat} {hp : qzH} {a0 a1 : Value} : qzC d 36 [a0, a1] hp = qzV d 36 0 [a0, a1] [] hp := rfl
theorem kX2_coat {d : Nat} {hp : qzH} {a0 a1 a2 : Value} : qzC d 37 [a0, a1, a2] hp = qzV d 37 0 [a0, a1, a2, .float 0] [] hp := rfl
theorem kX2_piece {d : Nat} {hp : qzH} {a0 a1 a2 a3 : Value} : qzC d 38 [a0, a1, a2, a3] hp = qzV d 38 0 [a0, a1, a2, a3, .float 0] [] hp := rfl
theorem kX2_count {d : Nat} {hp : qzH} {a0 a1 : Value} : qzC d 39 [a0, a1] hp = qzV d 39 0 [a0, a1, .float 0] [] hp := rfl
theorem kX2_left {d : Nat} {hp : qzH} {a0 a1 : Value} : qzC d 40 [a0, a1] hp = qzV d 40 0 [a0, a1] [] hp := rfl
theorem kX2_worth {d : Nat} {hp : qzH} {a0 a1 a2 : Value} : qzC d 41 [a0, a1, a2] hp = qzV d 41 0 [a0, a1, a2, .float 0] [] hp := rfl
theorem kX2_lead {d : Nat} {hp : qzH} {a0 a1 : Value} : qzC d 42 [a0, a1] hp = qzV d 42 0 [a0, a1] [] hp := rfl
theorem kX2_leadWith {d : Nat} {hp : qzH} {a0 a1 a2 : Value} : qzC d 43 [a0, a1, a2] hp = qzV d 43 0 [a0, a1, a2, .float 0] [] hp := rfl
theorem kX2_bestCut {d : Nat} {hp : qzH} {a0 : Value} : qzC d 44 [a0] hp = qzV d 44 0 [a0] [] hp := rfl
theorem kX2_ended {d : Nat} {hp : qzH} {a0 a1 a2 a3 : Value} : qzC d 45 [a0, a1, a2, a3] hp = qzV d 45 0 [a0, a1, a2, a3, .float 0] [] hp := rfl
theorem kX2_undo {d : Nat} {hp : qzH} {a0 : Value} : qzC d 47 [a0] hp = qzV d 47 0 [a0, .float 0] [] hp := rfl
theorem kX2_save {d : Nat} {hp : qzH} {a0 : Value} : qzC d 48 [a0] hp = qzV d 48 0 [a0] [] hp := rfl
theorem kX2_restore {d : Nat} {hp : qzH} {a0 : Value} : qzC d 49 [a0] hp = qzV d 49 0 [a0] [] hp := rfl
theorem kX2_pastAt {d : Nat} {hp : qzH} {a0 a1 : Value} : qzC d 50 [a0, a1] hp = qzV d 50 0 [a0, a1] [] hp := rfl
theorem kX2_record {d : Nat} {hp : qzH} {a0 : Value} : qzC d 51 [a0] hp = qzV d 51 0 [a0, .float 0] [] hp := rfl
theorem kX2_dropOldest {d : Nat} {hp : qzH} {a0 : Value} : qzC d 52 [a0] hp = qzV d 52 0 [a0, .float 0, .float 0] [] hp := rfl
theorem kX2_codeOf {d : Nat} {hp : qzH} {a0 a1 : Value} : qzC d 53 [a0, a1] hp = qzV d 53 0 [a0, a1] [] hp := rfl
theorem kX2_isFromLeft {d : Nat} {hp : qzH} {a0 : Value} : qzC d 54 [a0] hp = qzV d 54 0 [a0] [] hp := rfl
theorem kX2_sizeOf {d : Nat} {hp : qzH} {a0 : Value} : qzC d 55 [a0] hp = qzV d 55 0 [a0] [] hp := rfl
theorem kX2_pieceStart {d : Nat} {hp : qzH} {a0 a1 a2 : Value} : qzC d 56 [a0, a1, a2] hp = qzV d 56 0 [a0, a1, a2] [] hp := rfl
theorem kX2_restStart {d : Nat} {hp : qzH} {a0 a1 : Value} : qzC d 57 [a0, a1] hp = qzV d 57 0 [a0, a1] [] hp := rfl
theorem kX2_restEnd {d : Nat} {hp : qzH} {a0 a1 : Value} : qzC d 58 [a0, a1] hp = qzV d 58 0 [a0, a1] [] hp := rfl
theorem kX2_errorOfCut {d : Nat} {hp : qzH} {a0 a1 : Value} : qzC d 59 [a0, a1] hp = qzV d 59 0 [a0, a1] [] hp := rfl
theorem kX2_cutBy {d : Nat} {hp : qzH} {a0 a1 : Value} : qzC d 60 [a0, a1] hp = qzV d 60 0 [a0, a1, .float 0] [] hp := rfl
theorem kX2_choice {d : Nat} {hp : qzH} {a0 a1 a2 : Value} : qzC d 61 [a0, a1, a2] hp = qzV d 61 0 [a0, a1, a2, .float 0, .float 0, .float 0, .float 0, .float 0, .float 0, .float 0, .float 0, .float 0] [] hp := rfl
theorem kX2_leadTold {d : Nat} {hp : qzH} {a0 a1 : Value} : qzC d 62 [a0, a1] hp = qzV d 62 0 [a0, a1, .float 0, .float 0] [] hp := rfl
theorem kX2_tellRows {d : Nat} {hp : qzH} {a0 a1 a2 : Value} : qzC d 63 [a0, a1, a2] hp = qzV d 63 0 [a0, a1, a2, .float 0, .float 0, .float 0, .float 0] [] hp := rfl
theorem kX2_raiseRow {d : Nat} {hp : qzH} {a0 a1 a2 a3 : Value} : qzC d 64 [a0, a1, a2, a3] hp = qzV d 64 0 [a0, a1, a2, a3, .float 0, .float 0, .float 0, .float 0, .float 0, .float 0, .float 0, .float 0, .float 0, .float 0] [] hp := rfl
theorem kX2_leadGoneInto {d : Nat} {hp : qzH} {a0 a1 : Value} : qzC d 65 [a0, a1] hp = qzV d 65 0 [a0, a1, .float 0, .float 0] [] hp := rfl
theorem kX2_leadOfCut {d : Nat} {hp : qzH} {a0 a1 a2 : Value} : qzC d 66 [a0, a1, a2] hp = qzV d 66 0 [a0, a1, a2, .float 0, .float 0] [] hp := rfl
theorem kX2_goInto {d : Nat} {hp : qzH} {a0 a1 a2 a3 a4 a5 : Value} : qzC d 67 [a0, a1, a2, a3, a4, a5] hp = qzV d 67 0 [a0, a1, a2, a3, a4, a5, .float 0, .float 0, .float 0] [] hp := rfl
theorem kX2_goThrough {d : Nat} {hp : qzH} {a0 a1 a2 a3 a4 a5 a6 : Value} : qzC d 68 [a0, a1, a2, a3, a4, a5, a6] hp = qzV d 68 0 [a0, a1, a2, a3, a4, a5, a6, .float 0, .float 0, .float 0, .float 0] [] hp := rfl
theorem kX2_traitsOf {d : Nat} {hp : qzH} {a0 a1 a2 a3 : Value} : qzC d 69 [a0, a1, a2, a3] hp = qzV d 69 0 [a0, a1, a2, a3, .float 0] [] hp := rfl
theorem kX2_worthOf {d : Nat} {hp : qzH} {a0 a1 a2 : Value} : qzC d 70 [a0, a1, a2] hp = qzV d 70 0 [a0, a1, a2, .float 0, .float 0] [] hp := rfl
theorem kX2_isFold {d : Nat} {hp : qzH} {a0 a1 a2 : Value} : qzC d 71 [a0, a1, a2] hp = qzV d 71 0 [a0, a1, a2, .float 0] [] hp := rfl
theorem kX2_signAt {d : Nat} {hp : qzH} {a0 a1 : Value} : qzC d 72 [a0, a1] hp = qzV d 72 0 [a0, a1] [] hp := rfl
theorem kX2_digitAt {d : Nat} {hp : qzH} {a0 a1 : Value} : qzC d 73 [a0, a1] hp = qzV d 73 0 [a0, a1, .float 0] [] hp := rfl
theorem kX2_isSide {d : Nat} {hp : qzH} {a0 : Value} : qzC d 74 [a0] hp = qzV d 74 0 [a0] [] hp := rfl
theorem kX2_lettersAhead {d : Nat} {hp : qzH} {a0 : Value} : qzC d 75 [a0] hp = qzV d 75 0 [a0, .float 0] [] hp := rfl
theorem kX2_faultAsBolt {d : Nat} {hp : qzH} {a0 : Value} : qzC d 76 [a0] hp = qzV d 76 0 [a0, .float 0] [] hp := rfl
theorem kX2_faultBehindStar {d : Nat} {hp : qzH} {a0 a1 : Value} : qzC d 77 [a0, a1] hp = qzV d 77 0 [a0, a1, .float 0, .float 0, .float 0] [] hp := rfl
theorem kX2_digitsOfNumber {d : Nat} {hp : qzH} {a0 a1 : Value} : qzC d 78 [a0, a1] hp = qzV d 78 0 [a0, a1, .float 0, .float 0] [] hp := rfl
theorem kX2_faultAsCuts {d : Nat} {hp : qzH} {a0 : Value} : qzC d 79 [a0] hp = qzV d 79 0 [a0, .float 0, .float 0, .float 0] [] hp := rfl
theorem kX2_layPattern {d : Nat} {hp : qzH} {a0 a1 : Value} : qzC d 80 [a0, a1] hp = qzV d 80 0 [a0, a1, .float 0, .float 0, .float 0, .float 0] [] hp := rfl
theorem kX2_layLetters {d : Nat} {hp : qzH} {a0 a1 a2 a3 : Value} : qzC d 81 [a0, a1, a2, a3] hp = qzV d 81 0 [a0, a1, a2, a3, .float 0] [] hp := rfl
theorem kX2_codeOnPad {d : Nat} {hp : qzH} {a0 a1 : Value} : qzC d 82 [a0, a1] hp = qzV d 82 0 [a0, a1, .float 0, .float 0] [] hp := rfl
theorem kX2_isNoTailor {d : Nat} {hp : qzH} {a0 : Value} : qzC d 83 [a0] hp = qzV d 83 0 [a0] [] hp := rfl
theorem kX2_at {d : Nat} {hp : qzH} {a0 a1 : Value} : qzC d 84 [a0, a1] hp = qzV d 84 0 [a0, a1] [] hp := rfl
theorem kX2_put {d : Nat} {hp : qzH} {a0 a1 a2 : Value} : qzC d 85 [a0, a1, a2] hp = qzV d 85 0 [a0, a1, a2] [] hp := rfl
theorem kX3_init {d : Nat} {hp : qzH} {a0 : Value} : qzC d 86 [a0] hp = qzV d 86 0 [a0, .float 0] [] hp := rfl
theorem kX3_in {d : Nat} {hp : qzH} {a0 a1 a2 : Value} : qzC d 87 [a0, a1, a2] hp = qzV d 87 0 [a0, a1, a2] [] hp := rfl
theorem kX3_copies {d : Nat} {hp : qzH} {a0 a1 a2 a3 : Value} : qzC d 88 [a0, a1, a2, a3] hp = qzV d 88 0 [a0, a1, a2, a3, .float 0] [] hp := rfl
theorem kX3_records {d : Nat} {hp : qzH} {a0 : Value} : qzC d 89 [a0] hp = qzV d 89 0 [a0, .float 0] [] hp := rfl
theorem kX3_beginsAgain {d : Nat} {hp : qzH} {a0 : Value} : qzC d 90 [a0] hp = qzV d 90 0 [a0, .float 0] [] hp := rfl
theorem kX3_coatOf {d : Nat} {hp : qzH} {a0 a1 a2 : Value} : qzC d 91 [a0, a1, a2] hp = qzV d 91 0 [a0, a1, a2] [] hp := rfl
theorem kX3_adds {d : Nat} {hp : qzH} {a0 a1 a2 a3 : Value} : qzC d 92 [a0, a1, a2, a3] hp = qzV d 92 0 [a0, a1, a2, a3] [] hp := rfl
theorem kX3_isOver {d : Nat} {hp : qzH} {a0 : Value} : qzC d 93 [a0] hp = qzV d 93 0 [a0] [] hp := rfl
theorem kX3_firstOf {d : Nat} {hp : qzH} {a0 a1 a2 a3 : Value} : qzC d 94 [a0, a1, a2, a3] hp = qzV d 94 0 [a0, a1, a2, a3] [] hp := rfl
theorem kX3_folds {d : Nat} {hp : qzH} {a0 a1 a2 : Value} : qzC d 95 [a0, a1, a2] hp = qzV d 95 0 [a0, a1, a2, .float 0, .float 0] [] hp := rfl
theorem kX3_matches {d : Nat} {hp : qzH} {a0 a1 a2 : Value} : qzC d 96 [a0, a1, a2] hp = qzV d 96 0 [a0, a1, a2] [] hp := rfl
theorem kX3_worthOf {d : Nat} {hp : qzH} {a0 a1 a2 a3 : Value} : qzC d 97 [a0, a1, a2, a3] hp = qzV d 97 0 [a0, a1, a2, a3] [] hp := rfl
theorem kX3_goCut {d : Nat} {hp : qzH} {a0 a1 a2 : Value} : qzC d 98 [a0, a1, a2] hp = qzV d 98 0 [a0, a1, a2, .float 0, .float 0, .float 0, .float 0, .float 0] [] hp := rfl
theorem kX3_errorCut {d : Nat} {hp : qzH} {a0 a1 : Value} : qzC d 99 [a0, a1] hp = qzV d 99 0 [a0, a1] [] hp := rfl
theorem kX3_rowOf {d : Nat} {hp : qzH} {a0 a1 : Value} : qzC d 100 [a0, a1] hp = qzV d 100 0 [a0, a1] [] hp := rfl
theorem kX3_leadAt {d : Nat} {hp : qzH} {a0 a1 a2 a3 a4 : Value} : qzC d 101 [a0, a1, a2, a3, a4] hp = qzV d 101 0 [a0, a1, a2, a3, a4] [] hp := rfl
theorem kX3_most {d : Nat} {hp : qzH} {a0 a1 : Value} : qzC d 102 [a0, a1] hp = qzV d 102 0 [a0, a1] [] hp := rfl
theorem kX3_leadBy {d : Nat} {hp : qzH} {a0 a1 a2 a3 a4 a5 a6 : Value} : qzC d 103 [a0, a1, a2, a3, a4, a5, a6] hp = qzV d 103 0 [a0, a1, a2, a3, a4, a5, a6, .float 0, .float 0] [] hp := rfl
theorem kX3_laysLead {d : Nat} {hp : qzH} {a0 a1 a2 a3 a4 : Value} : qzC d 104 [a0, a1, a2, a3, a4] hp = qzV d 104 0 [a0, a1, a2, a3, a4, .float 0, .float 0, .float 0, .float 0] [] hp := rfl
theorem kX3_laysLeads {d : Nat} {hp : qzH} {a0 : Value} : qzC d 105 [a0] hp = qzV d 105 0 [a0, .float 0, .float 0, .float 0] [] hp := rfl
theorem kX3_own {d : Nat} {hp : qzH} {a0 : Value} : qzC d 106 [a0] hp = qzV d 106 0 [a0] [] hp := rfl
theorem kX3_others {d : Nat} {hp : qzH} {a0 : Value} : qzC d 107 [a0] hp = qzV d 107 0 [a0] [] hp := rfl
theorem kX3_choice {d : Nat} {hp : qzH} {a0 a1 : Value} : qzC d 108 [a0, a1] hp = qzV d 108 0 [a0, a1, .float 0, .float 0, .float 0, .float 0, .float 0, .float 0, .float 0, .float 0] [] hp := rfl
theorem kX3_cutsBy {d : Nat} {hp : qzH} {a0 a1 : Value} : qzC d 109 [a0, a1] hp = qzV d 109 0 [a0, a1, .float 0] [] hp := rfl
theorem kX3_cut {d : Nat} {hp : qzH} {a0 a1 a2 : Value} : qzC d 110 [a0, a1, a2] hp = qzV d 110 0 [a0, a1, a2, .float 0] [] hp := rfl
theorem kX3_best {d : Nat} {hp : qzH} {a0 : Value} : qzC d 111 [a0] hp = qzV d 111 0 [a0] [] hp := rfl
theorem kX3_greedy {d : Nat} {hp : qzH} {a0 : Value} : qzC d 112 [a0] hp = qzV d 112 0 [a0] [] hp := rfl
theorem kX3_again {d : Nat} {hp : qzH} {a0 : Value} : qzC d 113 [a0] hp = qzV d 113 0 [a0] [] hp := rfl
theorem kX3_mirror {d : Nat} {hp : qzH} {a0 : Value} : qzC d 114 [a0] hp = qzV d 114 0 [a0, .float 0, .float 0, .float 0, .float 0, .float 0] [] hp := rfl
theorem kX3_set {d : Nat} {hp : qzH} {a0 a1 a2 : Value} : qzC d 115 [a0, a1, a2] hp = qzV d 115 0 [a0, a1, a2, .float 0] [] hp := rfl
theorem kX3_append {d : Nat} {hp : qzH} {a0 a1 : Value} : qzC d 116 [a0, a1] hp = qzV d 116 0 [a0, a1] [] hp := rfl
theorem kX3_clear {d : Nat} {hp : qzH} {a0 : Value} : qzC d 117 [a0] hp = qzV d 117 0 [a0, .float 0] [] hp := rfl
theorem kX3_here {d : Nat} {hp : qzH} {a0 : Value} : qzC d 118 [a0] hp = qzV d 118 0 [a0] [] hp := rfl
theorem kX3_takes {d : Nat} {hp : qzH} {a0 a1 : Value} : qzC d 119 [a0, a1] hp = qzV d 119 0 [a0, a1] [] hp := rfl
theorem kX3_takesDigit {d : Nat} {hp : qzH} {a0 a1 a2 : Value} : qzC d 120 [a0, a1, a2] hp = qzV d 120 0 [a0, a1, a2, .float 0] [] hp := rfl
theorem kX3_isLetter {d : Nat} {hp : qzH} {a0 : Value} : qzC d 121 [a0] hp = qzV d 121 0 [a0] [] hp := rfl
theorem kX3_takesRule {d : Nat} {hp : qzH} {a0 : Value} : qzC d 122 [a0] hp = qzV d 122 0 [a0] [] hp := rfl
theorem kX3_isBolt {d : Nat} {hp : qzH} {a0 : Value} : qzC d 123 [a0] hp = qzV d 123 0 [a0] [] hp := rfl
theorem kX3_takesCut {d : Nat} {hp : qzH} {a0 : Value} : qzC d 124 [a0] hp = qzV d 124 0 [a0, .float 0, .float 0] [] hp := rfl
theorem kX3_areCuts {d : Nat} {hp : qzH} {a0 : Value} : qzC d 125 [a0] hp = qzV d 125 0 [a0] [] hp := rfl
theorem kX3_fault {d : Nat} {hp : qzH} {a0 a1 : Value} : qzC d 126 [a0, a1] hp = qzV d 126 0 [a0, a1] [] hp := rfl
theorem kX3_load {d : Nat} {hp : qzH} {a0 : Value} : qzC d 127 [a0] hp = qzV d 127 0 [a0, .float 0] [] hp := rfl
theorem kX3_makes {d : Nat} {hp : qzH} {a0 a1 : Value} : qzC d 128 [a0, a1] hp = qzV d 128 0 [a0, a1, .float 0, .float 0, .float 0, .float 0] [] hp := rfl
theorem kX3_play {d : Nat} {hp : qzH} {a0 : Value} : qzC d 129 [a0] hp = qzV d 129 0 [a0, .float 0, .float 0, .float 0] [] hp := rfl
theorem kX3_stripe {d : Nat} {hp : qzH} {a0 a1 : Value} : qzC d 130 [a0, a1] hp = qzV d 130 0 [a0, a1] [] hp := rfl
theorem kX3_coat {d : Nat} {hp : qzH} {a0 a1 a2 : Value} : qzC d 131 [a0, a1, a2] hp = qzV d 131 0 [a0, a1, a2] [] hp := rfl
theorem kX3_piece {d : Nat} {hp : qzH} {a0 a1 a2 a3 : Value} : qzC d 132 [a0, a1, a2, a3] hp = qzV d 132 0 [a0, a1, a2, a3] [] hp := rfl
theorem kX3_changes {d : Nat} {hp : qzH} {a0 : Value} : qzC d 133 [a0] hp = qzV d 133 0 [a0, .float 0, .float 0] [] hp := rfl
theorem kX3_leftOf {d : Nat} {hp : qzH} {a0 a1 : Value} : qzC d 134 [a0, a1] hp = qzV d 134 0 [a0, a1, .float 0, .float 0] [] hp := rfl
theorem kX3_coloursLeft {d : Nat} {hp : qzH} {a0 : Value} : qzC d 135 [a0] hp = qzV d 135 0 [a0, .float 0, .float 0] [] hp := rfl
theorem kX3_longestFold {d : Nat} {hp : qzH} {a0 : Value} : qzC d 136 [a0] hp = qzV d 136 0 [a0, .float 0, .float 0, .float 0] [] hp := rfl
theorem kX3_count {d : Nat} {hp : qzH} {a0 a1 : Value} : qzC d 137 [a0, a1] hp = qzV d 137 0 [a0, a1] [] hp := rfl
theorem kX3_left {d : Nat} {hp : qzH} {a0 a1 : Value} : qzC d 138 [a0, a1] hp = qzV d 138 0 [a0, a1] [] hp := rfl
theorem kX3_worth {d : Nat} {hp : qzH} {a0 a1 a2 : Value} : qzC d 139 [a0, a1, a2] hp = qzV d 139 0 [a0, a1, a2, .float 0] [] hp := rfl
theorem kX3_lead {d : Nat} {hp : qzH} {a0 a1 : Value} : qzC d 140 [a0, a1] hp = qzV d 140 0 [a0, a1] [] hp := rfl
theorem kX3_leadWith {d : Nat} {hp : qzH} {a0 a1 a2 : Value} : qzC d 141 [a0, a1, a2] hp = qzV d 141 0 [a0, a1, a2, .float 0] [] hp := rfl
theorem kX3_bestCut {d : Nat} {hp : qzH} {a0 : Value} : qzC d 142 [a0] hp = qzV d 142 0 [a0] [] hp := rfl
theorem kX3_ended {d : Nat} {hp : qzH} {a0 a1 a2 a3 : Value} : qzC d 143 [a0, a1, a2, a3] hp = qzV d 143 0 [a0, a1, a2, a3, .float 0] [] hp := rfl
theorem kX3_undo {d : Nat} {hp : qzH} {a0 : Value} : qzC d 145 [a0] hp = qzV d 145 0 [a0] [] hp := rfl
theorem kX3_save {d : Nat} {hp : qzH} {a0 : Value} : qzC d 146 [a0] hp = qzV d 146 0 [a0] [] hp := rfl
theorem kX3_restore {d : Nat} {hp : qzH} {a0 : Value} : qzC d 147 [a0] hp = qzV d 147 0 [a0] [] hp := rfl
theorem kJ7_fill_53178 {d : Nat} {hp : qzH} {a0 a1 : Value} : qzC d 148 [a0, a1] hp = qzV d 148 0 [a0, a1, .float 0, .float 0] [] hp := rfl
