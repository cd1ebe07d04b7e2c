theorem qyPv_of {ls : List Value} {i : Nat} {v : Value} (h : ls[i]? = some v) (hv : v.category = 1) : qyPv ls (i + 1) = true := by
  unfold qyPv
  dsimp only
  rw [h]
  exact beq_iff_eq.mpr hv
theorem yil_m1 : Int32.ofInt (-1) = (-1) := by decide
theorem yil_0 : Int32.ofInt (0) = 0 := by decide
theorem yil_1 : Int32.ofInt (1) = 1 := by decide
theorem yil_2 : Int32.ofInt (2) = 2 := by decide
theorem yil_3 : Int32.ofInt (3) = 3 := by decide
theorem yil_4 : Int32.ofInt (4) = 4 := by decide
theorem yil_5 : Int32.ofInt (5) = 5 := by decide
theorem yib_m4 : (Int8.ofInt (-4)).toInt32 = (-4) := by decide
theorem yib_m2 : (Int8.ofInt (-2)).toInt32 = (-2) := by decide
theorem yib_6 : (Int8.ofInt (6)).toInt32 = 6 := by decide
theorem yib_7 : (Int8.ofInt (7)).toInt32 = 7 := by decide
theorem yib_8 : (Int8.ofInt (8)).toInt32 = 8 := by decide
theorem yib_9 : (Int8.ofInt (9)).toInt32 = 9 := by decide
theorem yib_10 : (Int8.ofInt (10)).toInt32 = 10 := by decide
theorem yib_11 : (Int8.ofInt (11)).toInt32 = 11 := by decide
theorem yib_12 : (Int8.ofInt (12)).toInt32 = 12 := by decide
theorem yib_13 : (Int8.ofInt (13)).toInt32 = 13 := by decide
theorem yib_14 : (Int8.ofInt (14)).toInt32 = 14 := by decide
theorem yib_15 : (Int8.ofInt (15)).toInt32 = 15 := by decide
theorem yib_18 : (Int8.ofInt (18)).toInt32 = 18 := by decide
theorem yib_19 : (Int8.ofInt (19)).toInt32 = 19 := by decide
theorem yib_20 : (Int8.ofInt (20)).toInt32 = 20 := by decide
theorem yib_23 : (Int8.ofInt (23)).toInt32 = 23 := by decide
theorem yib_24 : (Int8.ofInt (24)).toInt32 = 24 := by decide
theorem yib_25 : (Int8.ofInt (25)).toInt32 = 25 := by decide
theorem yib_26 : (Int8.ofInt (26)).toInt32 = 26 := by decide
theorem yib_42 : (Int8.ofInt (42)).toInt32 = 42 := by decide
theorem yib_43 : (Int8.ofInt (43)).toInt32 = 43 := by decide
theorem yib_48 : (Int8.ofInt (48)).toInt32 = 48 := by decide
theorem yib_50 : (Int8.ofInt (50)).toInt32 = 50 := by decide
theorem yib_97 : (Int8.ofInt (97)).toInt32 = 97 := by decide
theorem yib_98 : (Int8.ofInt (98)).toInt32 = 98 := by decide
theorem yib_103 : (Int8.ofInt (103)).toInt32 = 103 := by decide
theorem yib_108 : (Int8.ofInt (108)).toInt32 = 108 := by decide
theorem yib_114 : (Int8.ofInt (114)).toInt32 = 114 := by decide
theorem yis_1000 : (Int16.ofInt (1000)).toInt32 = 1000 := by decide
theorem yis_2000 : (Int16.ofInt (2000)).toInt32 = 2000 := by decide
theorem yis_4219 : (Int16.ofInt (4219)).toInt32 = 4219 := by decide
theorem yis_4457 : (Int16.ofInt (4457)).toInt32 = 4457 := by decide
theorem ydc_0 : (qyMd 0).2.1 = cL_low := rfl
theorem kL_low {E : qyE} {k : Nat} {hp : qzH} {a0 a1 : Value} : qyC E k 0 [a0, a1] hp = qyV E k 0 0 [a0, a1] [] hp := rfl
theorem ydc_1 : (qyMd 1).2.1 = cL_look := rfl
theorem kL_look {E : qyE} {k : Nat} {hp : qzH} {a0 : Value} : qyC E k 1 [a0] hp = qyV E k 1 0 [a0, .float 0, .float 0, .float 0, .float 0] [] hp := rfl
theorem ydc_2 : (qyMd 2).2.1 = cL_holds := rfl
theorem kL_holds {E : qyE} {k : Nat} {hp : qzH} {a0 : Value} : qyC E k 2 [a0] hp = qyV E k 2 0 [a0, .float 0, .float 0, .float 0, .float 0, .float 0, .float 0, .float 0, .float 0, .float 0, .float 0, .float 0, .float 0, .float 0] [] hp := rfl
theorem ydc_3 : (qyMd 3).2.1 = cL_would := rfl
theorem kL_would {E : qyE} {k : Nat} {hp : qzH} {a0 a1 : Value} : qyC E k 3 [a0, a1] hp = qyV E k 3 0 [a0, a1, .float 0, .float 0, .float 0, .float 0, .float 0, .float 0, .float 0, .float 0, .float 0, .float 0, .float 0, .float 0, .float 0, .float 0] [] hp := rfl
theorem ydc_4 : (qyMd 4).2.1 = cL_bolt := rfl
theorem kL_bolt {E : qyE} {k : Nat} {hp : qzH} {a0 a1 : Value} : qyC E k 4 [a0, a1] hp = qyV E k 4 0 [a0, a1, .float 0, .float 0, .float 0, .float 0, .float 0] [] hp := rfl
theorem ydc_5 : (qyMd 5).2.1 = cL_cuts := rfl
theorem kL_cuts {E : qyE} {k : Nat} {hp : qzH} {a0 a1 : Value} : qyC E k 5 [a0, a1] hp = qyV E k 5 0 [a0, a1, .float 0, .float 0, .float 0, .float 0, .float 0] [] hp := rfl
theorem ydc_6 : (qyMd 6).2.1 = cL_reads := rfl
theorem kL_reads {E : qyE} {k : Nat} {hp : qzH} {a0 a1 : Value} : qyC E k 6 [a0, a1] hp = qyV E k 6 0 [a0, a1, .float 0, .float 0, .float 0, .float 0, .float 0, .float 0, .float 0, .float 0, .float 0, .float 0, .float 0] [] hp := rfl
theorem ydc_7 : (qyMd 7).2.1 = cL_acts := rfl
theorem kL_acts {E : qyE} {k : Nat} {hp : qzH} {a0 a1 a2 : Value} : qyC E k 7 [a0, a1, a2] hp = qyV E k 7 0 [a0, a1, a2, .float 0, .float 0, .float 0, .float 0, .float 0, .float 0, .float 0, .float 0, .float 0, .float 0] [] hp := rfl
theorem ydc_8 : (qyMd 8).2.1 = cL_lot := rfl
theorem kL_lot {E : qyE} {k : Nat} {hp : qzH} {a0 a1 : Value} : qyC E k 8 [a0, a1] hp = qyV E k 8 0 [a0, a1] [] hp := rfl
theorem ydc_9 : (qyMd 9).2.1 = cL_law := rfl
theorem kL_law {E : qyE} {k : Nat} {hp : qzH} {a0 : Value} : qyC E k 9 [a0] hp = qyV E k 9 0 [a0, .float 0, .float 0, .float 0, .float 0, .float 0, .float 0, .float 0, .float 0, .float 0, .float 0, .float 0, .float 0] [] hp := rfl
