theorem dX3_append_0 : decode cX3_append 0 = .ok (.iload_n 1, 1) := by decide +kernel
theorem dX3_append_1 : decode cX3_append 1 = .ok (.bipush 33, 2) := by decide +kernel
theorem dX3_append_3 : decode cX3_append 3 = .ok (.bipush 126, 2) := by decide +kernel
theorem dX3_append_5 : decode cX3_append 5 = .ok (.invokestatic 62, 3) := by decide +kernel
theorem dX3_append_8 : decode cX3_append 8 = .ok (.ifCond .ne 5, 3) := by decide +kernel
theorem dX3_append_11 : decode cX3_append 11 = .ok (.iconst (-1), 1) := by decide +kernel
theorem dX3_append_12 : decode cX3_append 12 = .ok (.ireturn, 1) := by decide +kernel
theorem dX3_append_13 : decode cX3_append 13 = .ok (.aload_n 0, 1) := by decide +kernel
theorem dX3_append_14 : decode cX3_append 14 = .ok (.getfield 116, 3) := by decide +kernel
theorem dX3_append_17 : decode cX3_append 17 = .ok (.bipush 60, 2) := by decide +kernel
theorem dX3_append_19 : decode cX3_append 19 = .ok (.if_icmp .ne 6, 3) := by decide +kernel
theorem dX3_append_22 : decode cX3_append 22 = .ok (.bipush (-3), 2) := by decide +kernel
theorem dX3_append_24 : decode cX3_append 24 = .ok (.ireturn, 1) := by decide +kernel
theorem dX3_append_25 : decode cX3_append 25 = .ok (.aload_n 0, 1) := by decide +kernel
theorem dX3_append_26 : decode cX3_append 26 = .ok (.getfield 22, 3) := by decide +kernel
theorem dX3_append_29 : decode cX3_append 29 = .ok (.aload_n 0, 1) := by decide +kernel
theorem dX3_append_30 : decode cX3_append 30 = .ok (.getfield 116, 3) := by decide +kernel
theorem dX3_append_33 : decode cX3_append 33 = .ok (.iload_n 1, 1) := by decide +kernel
theorem dX3_append_34 : decode cX3_append 34 = .ok (.iastore, 1) := by decide +kernel
theorem dX3_append_35 : decode cX3_append 35 = .ok (.aload_n 0, 1) := by decide +kernel
theorem dX3_append_36 : decode cX3_append 36 = .ok (.dup, 1) := by decide +kernel
theorem dX3_append_37 : decode cX3_append 37 = .ok (.getfield 116, 3) := by decide +kernel
theorem dX3_append_40 : decode cX3_append 40 = .ok (.iconst 1, 1) := by decide +kernel
theorem dX3_append_41 : decode cX3_append 41 = .ok (.iadd, 1) := by decide +kernel
theorem dX3_append_42 : decode cX3_append 42 = .ok (.putfield 116, 3) := by decide +kernel
theorem dX3_append_45 : decode cX3_append 45 = .ok (.aload_n 0, 1) := by decide +kernel
theorem dX3_append_46 : decode cX3_append 46 = .ok (.getfield 116, 3) := by decide +kernel
theorem dX3_append_49 : decode cX3_append 49 = .ok (.ireturn, 1) := by decide +kernel
theorem eX3_append_0 {d : Nat} {a0 : Value} {x : Int32} {st : List Value} {hp : qzH} : qzV d 116 0 [a0, .int x] (st) hp = qzV d 116 1 [a0, .int x] (.int x :: st) hp := qv_iload (i := 1) mdc_116 dX3_append_0 rfl rfl rfl
theorem eX3_append_1 {d : Nat} {a0 a1 : Value} {st : List Value} {hp : qzH} : qzV d 116 1 [a0, a1] (st) hp = qzV d 116 3 [a0, a1] (.int 33 :: st) hp := qv_bipush mdc_116 dX3_append_1 ib_33 rfl
theorem eX3_append_3 {d : Nat} {a0 a1 : Value} {st : List Value} {hp : qzH} : qzV d 116 3 [a0, a1] (st) hp = qzV d 116 5 [a0, a1] (.int 126 :: st) hp := qv_bipush mdc_116 dX3_append_3 ib_126 rfl
theorem eX3_append_5 {d : Nat} {a0 a1 : Value} {w0 w1 w2 : Value} {st : List Value} {hp : qzH} (h8 : st.length ≤ 8) : qzV (d + 1) 116 5 [a0, a1] (w2 :: w1 :: w0 :: st) hp = (qzC d 87 [w0, w1, w2] hp).bind (fun r => qzV (d + 1) 116 8 [a0, a1] (r.1.toList ++ st) r.2) := qv_calls (n := 3) mdc_116 dX3_append_5 mdo_116 (by decide) qfc_3_62 ⟨rfl, by decide, rfl⟩ rfl ⟨rfl, rfl, by simp only [List.length_cons]; omega⟩ h8
theorem eX3_append_8 {d : Nat} {a0 a1 : Value} {x : Int32} {st : List Value} {hp : qzH} : qzV d 116 8 [a0, a1] (.int x :: st) hp = if ¬ x = 0 then qzV d 116 13 [a0, a1] (st) hp else qzV d 116 11 [a0, a1] (st) hp := qv_if1 mdc_116 dX3_append_8 rfl rfl rfl
theorem eX3_append_11 {d : Nat} {a0 a1 : Value} {st : List Value} {hp : qzH} : qzV d 116 11 [a0, a1] (st) hp = qzV d 116 12 [a0, a1] (.int (-1) :: st) hp := qv_iconst mdc_116 dX3_append_11 il_m1 rfl
theorem eX3_append_12 {d : Nat} {a0 a1 : Value} {v : Int32} {hp : qzH} : qzV d 116 12 [a0, a1] [.int v] hp = some (some (.int v), hp) := qv_iret mdc_116 dX3_append_12 mdr_116 rfl
theorem eX3_append_13 {d : Nat} {a1 : Value} {x : Nat} {st : List Value} {hp : qzH} : qzV d 116 13 [.ref x, a1] (st) hp = qzV d 116 14 [.ref x, a1] (.ref x :: st) hp := qv_aload (i := 0) mdc_116 dX3_append_13 rfl rfl rfl
theorem eX3_append_14 {d : Nat} {a0 a1 : Value} {a : Nat} {st : List Value} {hp : qzH} (ha : qzArr 3 a hp.1 = true) : qzV d 116 14 [a0, a1] (.ref a :: st) hp = qzV d 116 17 [a0, a1] (.int (hp.2.2 a 7) :: st) hp := qv_getI mdc_116 dX3_append_14 mdo_116 qff_3_116 ⟨by decide, rfl⟩ rfl ha
theorem eX3_append_17 {d : Nat} {a0 a1 : Value} {st : List Value} {hp : qzH} : qzV d 116 17 [a0, a1] (st) hp = qzV d 116 19 [a0, a1] (.int 60 :: st) hp := qv_bipush mdc_116 dX3_append_17 ib_60 rfl
theorem eX3_append_19 {d : Nat} {a0 a1 : Value} {x y : Int32} {st : List Value} {hp : qzH} : qzV d 116 19 [a0, a1] (.int y :: .int x :: st) hp = if ¬ x = y then qzV d 116 25 [a0, a1] (st) hp else qzV d 116 22 [a0, a1] (st) hp := qv_if2 mdc_116 dX3_append_19 rfl rfl rfl
theorem eX3_append_22 {d : Nat} {a0 a1 : Value} {st : List Value} {hp : qzH} : qzV d 116 22 [a0, a1] (st) hp = qzV d 116 24 [a0, a1] (.int (-3) :: st) hp := qv_bipush mdc_116 dX3_append_22 ib_m3 rfl
theorem eX3_append_24 {d : Nat} {a0 a1 : Value} {v : Int32} {hp : qzH} : qzV d 116 24 [a0, a1] [.int v] hp = some (some (.int v), hp) := qv_iret mdc_116 dX3_append_24 mdr_116 rfl
theorem eX3_append_25 {d : Nat} {a1 : Value} {x : Nat} {st : List Value} {hp : qzH} : qzV d 116 25 [.ref x, a1] (st) hp = qzV d 116 26 [.ref x, a1] (.ref x :: st) hp := qv_aload (i := 0) mdc_116 dX3_append_25 rfl rfl rfl
theorem eX3_append_26 {d : Nat} {a0 a1 : Value} {a : Nat} {st : List Value} {hp : qzH} (ha : qzArr 3 a hp.1 = true) : qzV d 116 26 [a0, a1] (.ref a :: st) hp = qzV d 116 29 [a0, a1] (va_rf (hp.2.1 a 6) :: st) hp := qv_getR mdc_116 dX3_append_26 mdo_116 qff_3_22 ⟨by decide, rfl⟩ rfl ha
theorem eX3_append_29 {d : Nat} {a1 : Value} {x : Nat} {st : List Value} {hp : qzH} : qzV d 116 29 [.ref x, a1] (st) hp = qzV d 116 30 [.ref x, a1] (.ref x :: st) hp := qv_aload (i := 0) mdc_116 dX3_append_29 rfl rfl rfl
theorem eX3_append_30 {d : Nat} {a0 a1 : Value} {a : Nat} {st : List Value} {hp : qzH} (ha : qzArr 3 a hp.1 = true) : qzV d 116 30 [a0, a1] (.ref a :: st) hp = qzV d 116 33 [a0, a1] (.int (hp.2.2 a 7) :: st) hp := qv_getI mdc_116 dX3_append_30 mdo_116 qff_3_116 ⟨by decide, rfl⟩ rfl ha
theorem eX3_append_33 {d : Nat} {a0 : Value} {x : Int32} {st : List Value} {hp : qzH} : qzV d 116 33 [a0, .int x] (st) hp = qzV d 116 34 [a0, .int x] (.int x :: st) hp := qv_iload (i := 1) mdc_116 dX3_append_33 rfl rfl rfl
theorem eX3_append_34 {d : Nat} {a0 a1 : Value} {i x : Int32} {a : Nat} {st : List Value} {hp : qzH} (ha : qzArr 4 a hp.1 = true) (hi : qzIn i (qzk a).2 = true) : qzV d 116 34 [a0, a1] (.int x :: .int i :: .ref a :: st) hp = qzV d 116 35 [a0, a1] st (hp.1, hp.2.1, qzUp hp.2.2 a i.toNatClampNeg x) := qv_iast mdc_116 dX3_append_34 rfl ha hi
theorem eX3_append_35 {d : Nat} {a1 : Value} {x : Nat} {st : List Value} {hp : qzH} : qzV d 116 35 [.ref x, a1] (st) hp = qzV d 116 36 [.ref x, a1] (.ref x :: st) hp := qv_aload (i := 0) mdc_116 dX3_append_35 rfl rfl rfl
theorem eX3_append_36 {d : Nat} {a0 a1 : Value} {v : Value} {st : List Value} {hp : qzH} : qzV d 116 36 [a0, a1] (v :: st) hp = qzV d 116 37 [a0, a1] (v :: v :: st) hp := qv_dup mdc_116 dX3_append_36 rfl
theorem eX3_append_37 {d : Nat} {a0 a1 : Value} {a : Nat} {st : List Value} {hp : qzH} (ha : qzArr 3 a hp.1 = true) : qzV d 116 37 [a0, a1] (.ref a :: st) hp = qzV d 116 40 [a0, a1] (.int (hp.2.2 a 7) :: st) hp := qv_getI mdc_116 dX3_append_37 mdo_116 qff_3_116 ⟨by decide, rfl⟩ rfl ha
theorem eX3_append_40 {d : Nat} {a0 a1 : Value} {st : List Value} {hp : qzH} : qzV d 116 40 [a0, a1] (st) hp = qzV d 116 41 [a0, a1] (.int 1 :: st) hp := qv_iconst mdc_116 dX3_append_40 il_1 rfl
theorem eX3_append_41 {d : Nat} {a0 a1 : Value} {x y : Int32} {st : List Value} {hp : qzH} : qzV d 116 41 [a0, a1] (.int y :: .int x :: st) hp = qzV d 116 42 [a0, a1] (.int (x + y) :: st) hp := qv_bin (f := fun x y => x + y) mdc_116 dX3_append_41 rfl rfl
theorem eX3_append_42 {d : Nat} {a0 a1 : Value} {a : Nat} {x : Int32} {st : List Value} {hp : qzH} (ha : qzArr 3 a hp.1 = true) : qzV d 116 42 [a0, a1] (.int x :: .ref a :: st) hp = qzV d 116 45 [a0, a1] st (hp.1, hp.2.1, qzUp hp.2.2 a 7 x) := qv_putI mdc_116 dX3_append_42 mdo_116 qff_3_116 ⟨by decide, rfl, rfl⟩ rfl ha ⟨rfl, rfl⟩
theorem eX3_append_45 {d : Nat} {a1 : Value} {x : Nat} {st : List Value} {hp : qzH} : qzV d 116 45 [.ref x, a1] (st) hp = qzV d 116 46 [.ref x, a1] (.ref x :: st) hp := qv_aload (i := 0) mdc_116 dX3_append_45 rfl rfl rfl
theorem eX3_append_46 {d : Nat} {a0 a1 : Value} {a : Nat} {st : List Value} {hp : qzH} (ha : qzArr 3 a hp.1 = true) : qzV d 116 46 [a0, a1] (.ref a :: st) hp = qzV d 116 49 [a0, a1] (.int (hp.2.2 a 7) :: st) hp := qv_getI mdc_116 dX3_append_46 mdo_116 qff_3_116 ⟨by decide, rfl⟩ rfl ha
theorem eX3_append_49 {d : Nat} {a0 a1 : Value} {v : Int32} {hp : qzH} : qzV d 116 49 [a0, a1] [.int v] hp = some (some (.int v), hp) := qv_iret mdc_116 dX3_append_49 mdr_116 rfl
theorem dX3_clear_0 : decode cX3_clear 0 = .ok (.aload_n 0, 1) := by decide +kernel
theorem dX3_clear_1 : decode cX3_clear 1 = .ok (.getfield 116, 3) := by decide +kernel
theorem dX3_clear_4 : decode cX3_clear 4 = .ok (.istore_n 1, 1) := by decide +kernel
theorem dX3_clear_5 : decode cX3_clear 5 = .ok (.aload_n 0, 1) := by decide +kernel
theorem dX3_clear_6 : decode cX3_clear 6 = .ok (.iconst 0, 1) := by decide +kernel
theorem dX3_clear_7 : decode cX3_clear 7 = .ok (.putfield 116, 3) := by decide +kernel
theorem dX3_clear_10 : decode cX3_clear 10 = .ok (.iload_n 1, 1) := by decide +kernel
theorem dX3_clear_11 : decode cX3_clear 11 = .ok (.ireturn, 1) := by decide +kernel
theorem eX3_clear_0 {d : Nat} {a1 : Value} {x : Nat} {st : List Value} {hp : qzH} : qzV d 117 0 [.ref x, a1] (st) hp = qzV d 117 1 [.ref x, a1] (.ref x :: st) hp := qv_aload (i := 0) mdc_117 dX3_clear_0 rfl rfl rfl
theorem eX3_clear_1 {d : Nat} {a0 a1 : Value} {a : Nat} {st : List Value} {hp : qzH} (ha : qzArr 3 a hp.1 = true) : qzV d 117 1 [a0, a1] (.ref a :: st) hp = qzV d 117 4 [a0, a1] (.int (hp.2.2 a 7) :: st) hp := qv_getI mdc_117 dX3_clear_1 mdo_117 qff_3_116 ⟨by decide, rfl⟩ rfl ha
theorem eX3_clear_4 {d : Nat} {a0 a1 : Value} {x : Int32} {st : List Value} {hp : qzH} : qzV d 117 4 [a0, a1] (.int x :: st) hp = qzV d 117 5 [a0, .int x] (st) hp := qv_istore (i := 1) mdc_117 dX3_clear_4 rfl (Nat.le_of_ble_eq_true rfl) rfl rfl
theorem eX3_clear_5 {d : Nat} {a1 : Value} {x : Nat} {st : List Value} {hp : qzH} : qzV d 117 5 [.ref x, a1] (st) hp = qzV d 117 6 [.ref x, a1] (.ref x :: st) hp := qv_aload (i := 0) mdc_117 dX3_clear_5 rfl rfl rfl
theorem eX3_clear_6 {d : Nat} {a0 a1 : Value} {st : List Value} {hp : qzH} : qzV d 117 6 [a0, a1] (st) hp = qzV d 117 7 [a0, a1] (.int 0 :: st) hp := qv_iconst mdc_117 dX3_clear_6 il_0 rfl
theorem eX3_clear_7 {d : Nat} {a0 a1 : Value} {a : Nat} {x : Int32} {st : List Value} {hp : qzH} (ha : qzArr 3 a hp.1 = true) : qzV d 117 7 [a0, a1] (.int x :: .ref a :: st) hp = qzV d 117 10 [a0, a1] st (hp.1, hp.2.1, qzUp hp.2.2 a 7 x) := qv_putI mdc_117 dX3_clear_7 mdo_117 qff_3_116 ⟨by decide, rfl, rfl⟩ rfl ha ⟨rfl, rfl⟩
theorem eX3_clear_10 {d : Nat} {a0 : Value} {x : Int32} {st : List Value} {hp : qzH} : qzV d 117 10 [a0, .int x] (st) hp = qzV d 117 11 [a0, .int x] (.int x :: st) hp := qv_iload (i := 1) mdc_117 dX3_clear_10 rfl rfl rfl
theorem eX3_clear_11 {d : Nat} {a0 a1 : Value} {v : Int32} {hp : qzH} : qzV d 117 11 [a0, a1] [.int v] hp = some (some (.int v), hp) := qv_iret mdc_117 dX3_clear_11 mdr_117 rfl
theorem dX3_here_0 : decode cX3_here 0 = .ok (.aload_n 0, 1) := by decide +kernel
theorem dX3_here_1 : decode cX3_here 1 = .ok (.getfield 119, 3) := by decide +kernel
theorem dX3_here_4 : decode cX3_here 4 = .ok (.aload_n 0, 1) := by decide +kernel
theorem dX3_here_5 : decode cX3_here 5 = .ok (.getfield 116, 3) := by decide +kernel
theorem dX3_here_8 : decode cX3_here 8 = .ok (.if_icmp .ge 15, 3) := by decide +kernel
theorem dX3_here_11 : decode cX3_here 11 = .ok (.aload_n 0, 1) := by decide +kernel
theorem dX3_here_12 : decode cX3_here 12 = .ok (.getfield 22, 3) := by decide +kernel
theorem dX3_here_15 : decode cX3_here 15 = .ok (.aload_n 0, 1) := by decide +kernel
theorem dX3_here_16 : decode cX3_here 16 = .ok (.getfield 119, 3) := by decide +kernel
theorem dX3_here_19 : decode cX3_here 19 = .ok (.iaload, 1) := by decide +kernel
theorem dX3_here_20 : decode cX3_here 20 = .ok (.goto 4, 3) := by decide +kernel
theorem dX3_here_23 : decode cX3_here 23 = .ok (.iconst 0, 1) := by decide +kernel
theorem dX3_here_24 : decode cX3_here 24 = .ok (.ireturn, 1) := by decide +kernel
theorem eX3_here_0 {d : Nat} {x : Nat} {st : List Value} {hp : qzH} : qzV d 118 0 [.ref x] (st) hp = qzV d 118 1 [.ref x] (.ref x :: st) hp := qv_aload (i := 0) mdc_118 dX3_here_0 rfl rfl rfl
theorem eX3_here_1 {d : Nat} {a0 : Value} {a : Nat} {st : List Value} {hp : qzH} (ha : qzArr 3 a hp.1 = true) : qzV d 118 1 [a0] (.ref a :: st) hp = qzV d 118 4 [a0] (.int (hp.2.2 a 9) :: st) hp := qv_getI mdc_118 dX3_here_1 mdo_118 qff_3_119 ⟨by decide, rfl⟩ rfl ha
theorem eX3_here_4 {d : Nat} {x : Nat} {st : List Value} {hp : qzH} : qzV d 118 4 [.ref x] (st) hp = qzV d 118 5 [.ref x] (.ref x :: st) hp := qv_aload (i := 0) mdc_118 dX3_here_4 rfl rfl rfl
theorem eX3_here_5 {d : Nat} {a0 : Value} {a : Nat} {st : List Value} {hp : qzH} (ha : qzArr 3 a hp.1 = true) : qzV d 118 5 [a0] (.ref a :: st) hp = qzV d 118 8 [a0] (.int (hp.2.2 a 7) :: st) hp := qv_getI mdc_118 dX3_here_5 mdo_118 qff_3_116 ⟨by decide, rfl⟩ rfl ha
theorem eX3_here_8 {d : Nat} {a0 : Value} {x y : Int32} {st : List Value} {hp : qzH} : qzV d 118 8 [a0] (.int y :: .int x :: st) hp = if y ≤ x then qzV d 118 23 [a0] (st) hp else qzV d 118 11 [a0] (st) hp := qv_if2 mdc_118 dX3_here_8 rfl rfl rfl
theorem eX3_here_11 {d : Nat} {x : Nat} {st : List Value} {hp : qzH} : qzV d 118 11 [.ref x] (st) hp = qzV d 118 12 [.ref x] (.ref x :: st) hp := qv_aload (i := 0) mdc_118 dX3_here_11 rfl rfl rfl
theorem eX3_here_12 {d : Nat} {a0 : Value} {a : Nat} {st : List Value} {hp : qzH} (ha : qzArr 3 a hp.1 = true) : qzV d 118 12 [a0] (.ref a :: st) hp = qzV d 118 15 [a0] (va_rf (hp.2.1 a 6) :: st) hp := qv_getR mdc_118 dX3_here_12 mdo_118 qff_3_22 ⟨by decide, rfl⟩ rfl ha
theorem eX3_here_15 {d : Nat} {x : Nat} {st : List Value} {hp : qzH} : qzV d 118 15 [.ref x] (st) hp = qzV d 118 16 [.ref x] (.ref x :: st) hp := qv_aload (i := 0) mdc_118 dX3_here_15 rfl rfl rfl
theorem eX3_here_16 {d : Nat} {a0 : Value} {a : Nat} {st : List Value} {hp : qzH} (ha : qzArr 3 a hp.1 = true) : qzV d 118 16 [a0] (.ref a :: st) hp = qzV d 118 19 [a0] (.int (hp.2.2 a 9) :: st) hp := qv_getI mdc_118 dX3_here_16 mdo_118 qff_3_119 ⟨by decide, rfl⟩ rfl ha
theorem eX3_here_19 {d : Nat} {a0 : Value} {i : Int32} {a : Nat} {st : List Value} {hp : qzH} (ha : qzArr 4 a hp.1 = true) (hi : qzIn i (qzk a).2 = true) : qzV d 118 19 [a0] (.int i :: .ref a :: st) hp = qzV d 118 20 [a0] (.int (hp.2.2 a i.toNatClampNeg) :: st) hp := qv_iald mdc_118 dX3_here_19 rfl ha hi
theorem eX3_here_20 {d : Nat} {a0 : Value} {st : List Value} {hp : qzH} : qzV d 118 20 [a0] (st) hp = qzV d 118 24 [a0] (st) hp := qv_goto mdc_118 dX3_here_20 rfl
theorem eX3_here_23 {d : Nat} {a0 : Value} {st : List Value} {hp : qzH} : qzV d 118 23 [a0] (st) hp = qzV d 118 24 [a0] (.int 0 :: st) hp := qv_iconst mdc_118 dX3_here_23 il_0 rfl
theorem eX3_here_24 {d : Nat} {a0 : Value} {v : Int32} {hp : qzH} : qzV d 118 24 [a0] [.int v] hp = some (some (.int v), hp) := qv_iret mdc_118 dX3_here_24 mdr_118 rfl
theorem dX3_takes_0 : decode cX3_takes 0 = .ok (.aload_n 0, 1) := by decide +kernel
theorem dX3_takes_1 : decode cX3_takes 1 = .ok (.aload_n 0, 1) := by decide +kernel
theorem dX3_takes_2 : decode cX3_takes 2 = .ok (.getfield 122, 3) := by decide +kernel
theorem dX3_takes_5 : decode cX3_takes 5 = .ok (.ifCond .eq 11, 3) := by decide +kernel
theorem dX3_takes_8 : decode cX3_takes 8 = .ok (.iload_n 1, 1) := by decide +kernel
theorem dX3_takes_9 : decode cX3_takes 9 = .ok (.ifCond .eq 7, 3) := by decide +kernel
theorem dX3_takes_12 : decode cX3_takes 12 = .ok (.iconst 1, 1) := by decide +kernel
theorem dX3_takes_13 : decode cX3_takes 13 = .ok (.goto 4, 3) := by decide +kernel
theorem dX3_takes_16 : decode cX3_takes 16 = .ok (.iconst 0, 1) := by decide +kernel
theorem dX3_takes_17 : decode cX3_takes 17 = .ok (.putfield 122, 3) := by decide +kernel
theorem dX3_takes_20 : decode cX3_takes 20 = .ok (.aload_n 0, 1) := by decide +kernel
theorem dX3_takes_21 : decode cX3_takes 21 = .ok (.dup, 1) := by decide +kernel
theorem dX3_takes_22 : decode cX3_takes 22 = .ok (.getfield 119, 3) := by decide +kernel
theorem dX3_takes_25 : decode cX3_takes 25 = .ok (.aload_n 0, 1) := by decide +kernel
theorem dX3_takes_26 : decode cX3_takes 26 = .ok (.getfield 122, 3) := by decide +kernel
theorem dX3_takes_29 : decode cX3_takes 29 = .ok (.ifCond .eq 7, 3) := by decide +kernel
theorem dX3_takes_32 : decode cX3_takes 32 = .ok (.iconst 1, 1) := by decide +kernel
theorem dX3_takes_33 : decode cX3_takes 33 = .ok (.goto 4, 3) := by decide +kernel
theorem dX3_takes_36 : decode cX3_takes 36 = .ok (.iconst 0, 1) := by decide +kernel
theorem dX3_takes_37 : decode cX3_takes 37 = .ok (.iadd, 1) := by decide +kernel
theorem dX3_takes_38 : decode cX3_takes 38 = .ok (.putfield 119, 3) := by decide +kernel
theorem dX3_takes_41 : decode cX3_takes 41 = .ok (.return_, 1) := by decide +kernel
theorem eX3_takes_0 {d : Nat} {a1 : Value} {x : Nat} {st : List Value} {hp : qzH} : qzV d 119 0 [.ref x, a1] (st) hp = qzV d 119 1 [.ref x, a1] (.ref x :: st) hp := qv_aload (i := 0) mdc_119 dX3_takes_0 rfl rfl rfl
theorem eX3_takes_1 {d : Nat} {a1 : Value} {x : Nat} {st : List Value} {hp : qzH} : qzV d 119 1 [.ref x, a1] (st) hp = qzV d 119 2 [.ref x, a1] (.ref x :: st) hp := qv_aload (i := 0) mdc_119 dX3_takes_1 rfl rfl rfl
theorem eX3_takes_2 {d : Nat} {a0 a1 : Value} {a : Nat} {st : List Value} {hp : qzH} (ha : qzArr 3 a hp.1 = true) : qzV d 119 2 [a0, a1] (.ref a :: st) hp = qzV d 119 5 [a0, a1] (.int (hp.2.2 a 10) :: st) hp := qv_getI mdc_119 dX3_takes_2 mdo_119 qff_3_122 ⟨by decide, rfl⟩ rfl ha
theorem eX3_takes_5 {d : Nat} {a0 a1 : Value} {x : Int32} {st : List Value} {hp : qzH} : qzV d 119 5 [a0, a1] (.int x :: st) hp = if x = 0 then qzV d 119 16 [a0, a1] (st) hp else qzV d 119 8 [a0, a1] (st) hp := qv_if1 mdc_119 dX3_takes_5 rfl rfl rfl
theorem eX3_takes_8 {d : Nat} {a0 : Value} {x : Int32} {st : List Value} {hp : qzH} : qzV d 119 8 [a0, .int x] (st) hp = qzV d 119 9 [a0, .int x] (.int x :: st) hp := qv_iload (i := 1) mdc_119 dX3_takes_8 rfl rfl rfl
theorem eX3_takes_9 {d : Nat} {a0 a1 : Value} {x : Int32} {st : List Value} {hp : qzH} : qzV d 119 9 [a0, a1] (.int x :: st) hp = if x = 0 then qzV d 119 16 [a0, a1] (st) hp else qzV d 119 12 [a0, a1] (st) hp := qv_if1 mdc_119 dX3_takes_9 rfl rfl rfl
theorem eX3_takes_12 {d : Nat} {a0 a1 : Value} {st : List Value} {hp : qzH} : qzV d 119 12 [a0, a1] (st) hp = qzV d 119 13 [a0, a1] (.int 1 :: st) hp := qv_iconst mdc_119 dX3_takes_12 il_1 rfl
theorem eX3_takes_13 {d : Nat} {a0 a1 : Value} {st : List Value} {hp : qzH} : qzV d 119 13 [a0, a1] (st) hp = qzV d 119 17 [a0, a1] (st) hp := qv_goto mdc_119 dX3_takes_13 rfl
theorem eX3_takes_16 {d : Nat} {a0 a1 : Value} {st : List Value} {hp : qzH} : qzV d 119 16 [a0, a1] (st) hp = qzV d 119 17 [a0, a1] (.int 0 :: st) hp := qv_iconst mdc_119 dX3_takes_16 il_0 rfl
theorem eX3_takes_17 {d : Nat} {a0 a1 : Value} {a : Nat} {x : Int32} {st : List Value} {hp : qzH} (ha : qzArr 3 a hp.1 = true) (hb : narrow .boolean (.int x) = .int x ∧ fits .boolean (.int x) = true) : qzV d 119 17 [a0, a1] (.int x :: .ref a :: st) hp = qzV d 119 20 [a0, a1] st (hp.1, hp.2.1, qzUp hp.2.2 a 10 x) := qv_putI mdc_119 dX3_takes_17 mdo_119 qff_3_122 ⟨by decide, rfl, rfl⟩ rfl ha hb
theorem eX3_takes_20 {d : Nat} {a1 : Value} {x : Nat} {st : List Value} {hp : qzH} : qzV d 119 20 [.ref x, a1] (st) hp = qzV d 119 21 [.ref x, a1] (.ref x :: st) hp := qv_aload (i := 0) mdc_119 dX3_takes_20 rfl rfl rfl
theorem eX3_takes_21 {d : Nat} {a0 a1 : Value} {v : Value} {st : List Value} {hp : qzH} : qzV d 119 21 [a0, a1] (v :: st) hp = qzV d 119 22 [a0, a1] (v :: v :: st) hp := qv_dup mdc_119 dX3_takes_21 rfl
theorem eX3_takes_22 {d : Nat} {a0 a1 : Value} {a : Nat} {st : List Value} {hp : qzH} (ha : qzArr 3 a hp.1 = true) : qzV d 119 22 [a0, a1] (.ref a :: st) hp = qzV d 119 25 [a0, a1] (.int (hp.2.2 a 9) :: st) hp := qv_getI mdc_119 dX3_takes_22 mdo_119 qff_3_119 ⟨by decide, rfl⟩ rfl ha
theorem eX3_takes_25 {d : Nat} {a1 : Value} {x : Nat} {st : List Value} {hp : qzH} : qzV d 119 25 [.ref x, a1] (st) hp = qzV d 119 26 [.ref x, a1] (.ref x :: st) hp := qv_aload (i := 0) mdc_119 dX3_takes_25 rfl rfl rfl
theorem eX3_takes_26 {d : Nat} {a0 a1 : Value} {a : Nat} {st : List Value} {hp : qzH} (ha : qzArr 3 a hp.1 = true) : qzV d 119 26 [a0, a1] (.ref a :: st) hp = qzV d 119 29 [a0, a1] (.int (hp.2.2 a 10) :: st) hp := qv_getI mdc_119 dX3_takes_26 mdo_119 qff_3_122 ⟨by decide, rfl⟩ rfl ha
theorem eX3_takes_29 {d : Nat} {a0 a1 : Value} {x : Int32} {st : List Value} {hp : qzH} : qzV d 119 29 [a0, a1] (.int x :: st) hp = if x = 0 then qzV d 119 36 [a0, a1] (st) hp else qzV d 119 32 [a0, a1] (st) hp := qv_if1 mdc_119 dX3_takes_29 rfl rfl rfl
theorem eX3_takes_32 {d : Nat} {a0 a1 : Value} {st : List Value} {hp : qzH} : qzV d 119 32 [a0, a1] (st) hp = qzV d 119 33 [a0, a1] (.int 1 :: st) hp := qv_iconst mdc_119 dX3_takes_32 il_1 rfl
theorem eX3_takes_33 {d : Nat} {a0 a1 : Value} {st : List Value} {hp : qzH} : qzV d 119 33 [a0, a1] (st) hp = qzV d 119 37 [a0, a1] (st) hp := qv_goto mdc_119 dX3_takes_33 rfl
theorem eX3_takes_36 {d : Nat} {a0 a1 : Value} {st : List Value} {hp : qzH} : qzV d 119 36 [a0, a1] (st) hp = qzV d 119 37 [a0, a1] (.int 0 :: st) hp := qv_iconst mdc_119 dX3_takes_36 il_0 rfl
theorem eX3_takes_37 {d : Nat} {a0 a1 : Value} {x y : Int32} {st : List Value} {hp : qzH} : qzV d 119 37 [a0, a1] (.int y :: .int x :: st) hp = qzV d 119 38 [a0, a1] (.int (x + y) :: st) hp := qv_bin (f := fun x y => x + y) mdc_119 dX3_takes_37 rfl rfl
theorem eX3_takes_38 {d : Nat} {a0 a1 : Value} {a : Nat} {x : Int32} {st : List Value} {hp : qzH} (ha : qzArr 3 a hp.1 = true) : qzV d 119 38 [a0, a1] (.int x :: .ref a :: st) hp = qzV d 119 41 [a0, a1] st (hp.1, hp.2.1, qzUp hp.2.2 a 9 x) := qv_putI mdc_119 dX3_takes_38 mdo_119 qff_3_119 ⟨by decide, rfl, rfl⟩ rfl ha ⟨rfl, rfl⟩
theorem eX3_takes_41 {d : Nat} {a0 a1 : Value} {hp : qzH} : qzV d 119 41 [a0, a1] [] hp = some (none, hp) := qv_vret mdc_119 dX3_takes_41 mdr_119
theorem dX3_takesDigit_0 : decode cX3_takesDigit 0 = .ok (.aload_n 0, 1) := by decide +kernel
theorem dX3_takesDigit_1 : decode cX3_takesDigit 1 = .ok (.invokevirtual 126, 3) := by decide +kernel
theorem dX3_takesDigit_4 : decode cX3_takesDigit 4 = .ok (.bipush 48, 2) := by decide +kernel
theorem dX3_takesDigit_6 : decode cX3_takesDigit 6 = .ok (.isub, 1) := by decide +kernel
theorem dX3_takesDigit_7 : decode cX3_takesDigit 7 = .ok (.istore_n 3, 1) := by decide +kernel
theorem dX3_takesDigit_8 : decode cX3_takesDigit 8 = .ok (.aload_n 0, 1) := by decide +kernel
theorem dX3_takesDigit_9 : decode cX3_takesDigit 9 = .ok (.iload_n 3, 1) := by decide +kernel
theorem dX3_takesDigit_10 : decode cX3_takesDigit 10 = .ok (.iload_n 1, 1) := by decide +kernel
theorem dX3_takesDigit_11 : decode cX3_takesDigit 11 = .ok (.iload_n 2, 1) := by decide +kernel
theorem dX3_takesDigit_12 : decode cX3_takesDigit 12 = .ok (.invokestatic 62, 3) := by decide +kernel
theorem dX3_takesDigit_15 : decode cX3_takesDigit 15 = .ok (.invokevirtual 129, 3) := by decide +kernel
theorem dX3_takesDigit_18 : decode cX3_takesDigit 18 = .ok (.iload_n 3, 1) := by decide +kernel
theorem dX3_takesDigit_19 : decode cX3_takesDigit 19 = .ok (.ireturn, 1) := by decide +kernel
theorem eX3_takesDigit_0 {d : Nat} {a1 a2 a3 : Value} {x : Nat} {st : List Value} {hp : qzH} : qzV d 120 0 [.ref x, a1, a2, a3] (st) hp = qzV d 120 1 [.ref x, a1, a2, a3] (.ref x :: st) hp := qv_aload (i := 0) mdc_120 dX3_takesDigit_0 rfl rfl rfl
theorem eX3_takesDigit_1 {d : Nat} {a0 a1 a2 a3 : Value} {b : Nat} {st : List Value} {hp : qzH} (h8 : st.length ≤ 8) (hb : qzArr 3 b hp.1 = true) : qzV (d + 1) 120 1 [a0, a1, a2, a3] (.ref b :: st) hp = (qzC d 118 (.ref b :: []) hp).bind (fun r => qzV (d + 1) 120 4 [a0, a1, a2, a3] (r.1.toList ++ st) r.2) := qv_callv (n := 0) mdc_120 dX3_takesDigit_1 mdo_120 (by decide) qfc_3_126 ⟨rfl, by decide, rfl⟩ rfl ⟨rfl, rfl, by simp only [List.length_cons]; omega⟩ h8 hb
theorem eX3_takesDigit_4 {d : Nat} {a0 a1 a2 a3 : Value} {st : List Value} {hp : qzH} : qzV d 120 4 [a0, a1, a2, a3] (st) hp = qzV d 120 6 [a0, a1, a2, a3] (.int 48 :: st) hp := qv_bipush mdc_120 dX3_takesDigit_4 ib_48 rfl
theorem eX3_takesDigit_6 {d : Nat} {a0 a1 a2 a3 : Value} {x y : Int32} {st : List Value} {hp : qzH} : qzV d 120 6 [a0, a1, a2, a3] (.int y :: .int x :: st) hp = qzV d 120 7 [a0, a1, a2, a3] (.int (x - y) :: st) hp := qv_bin (f := fun x y => x - y) mdc_120 dX3_takesDigit_6 rfl rfl
theorem eX3_takesDigit_7 {d : Nat} {a0 a1 a2 a3 : Value} {x : Int32} {st : List Value} {hp : qzH} : qzV d 120 7 [a0, a1, a2, a3] (.int x :: st) hp = qzV d 120 8 [a0, a1, a2, .int x] (st) hp := qv_istore (i := 3) mdc_120 dX3_takesDigit_7 rfl (Nat.le_of_ble_eq_true rfl) rfl rfl
theorem eX3_takesDigit_8 {d : Nat} {a1 a2 a3 : Value} {x : Nat} {st : List Value} {hp : qzH} : qzV d 120 8 [.ref x, a1, a2, a3] (st) hp = qzV d 120 9 [.ref x, a1, a2, a3] (.ref x :: st) hp := qv_aload (i := 0) mdc_120 dX3_takesDigit_8 rfl rfl rfl
theorem eX3_takesDigit_9 {d : Nat} {a0 a1 a2 : Value} {x : Int32} {st : List Value} {hp : qzH} : qzV d 120 9 [a0, a1, a2, .int x] (st) hp = qzV d 120 10 [a0, a1, a2, .int x] (.int x :: st) hp := qv_iload (i := 3) mdc_120 dX3_takesDigit_9 rfl rfl rfl
theorem eX3_takesDigit_10 {d : Nat} {a0 a2 a3 : Value} {x : Int32} {st : List Value} {hp : qzH} : qzV d 120 10 [a0, .int x, a2, a3] (st) hp = qzV d 120 11 [a0, .int x, a2, a3] (.int x :: st) hp := qv_iload (i := 1) mdc_120 dX3_takesDigit_10 rfl rfl rfl
theorem eX3_takesDigit_11 {d : Nat} {a0 a1 a3 : Value} {x : Int32} {st : List Value} {hp : qzH} : qzV d 120 11 [a0, a1, .int x, a3] (st) hp = qzV d 120 12 [a0, a1, .int x, a3] (.int x :: st) hp := qv_iload (i := 2) mdc_120 dX3_takesDigit_11 rfl rfl rfl
theorem eX3_takesDigit_12 {d : Nat} {a0 a1 a2 a3 : Value} {w0 w1 w2 : Value} {st : List Value} {hp : qzH} (h8 : st.length ≤ 8) : qzV (d + 1) 120 12 [a0, a1, a2, a3] (w2 :: w1 :: w0 :: st) hp = (qzC d 87 [w0, w1, w2] hp).bind (fun r => qzV (d + 1) 120 15 [a0, a1, a2, a3] (r.1.toList ++ st) r.2) := qv_calls (n := 3) mdc_120 dX3_takesDigit_12 mdo_120 (by decide) qfc_3_62 ⟨rfl, by decide, rfl⟩ rfl ⟨rfl, rfl, by simp only [List.length_cons]; omega⟩ h8
theorem eX3_takesDigit_15 {d : Nat} {a0 a1 a2 a3 : Value} {w0 : Value} {b : Nat} {st : List Value} {hp : qzH} (h8 : st.length ≤ 8) (hb : qzArr 3 b hp.1 = true) : qzV (d + 1) 120 15 [a0, a1, a2, a3] (w0 :: .ref b :: st) hp = (qzC d 119 (.ref b :: [w0]) hp).bind (fun r => qzV (d + 1) 120 18 [a0, a1, a2, a3] (r.1.toList ++ st) r.2) := qv_callv (n := 1) mdc_120 dX3_takesDigit_15 mdo_120 (by decide) qfc_3_129 ⟨rfl, by decide, rfl⟩ rfl ⟨rfl, rfl, by simp only [List.length_cons]; omega⟩ h8 hb
theorem eX3_takesDigit_18 {d : Nat} {a0 a1 a2 : Value} {x : Int32} {st : List Value} {hp : qzH} : qzV d 120 18 [a0, a1, a2, .int x] (st) hp = qzV d 120 19 [a0, a1, a2, .int x] (.int x :: st) hp := qv_iload (i := 3) mdc_120 dX3_takesDigit_18 rfl rfl rfl
theorem eX3_takesDigit_19 {d : Nat} {a0 a1 a2 a3 : Value} {v : Int32} {hp : qzH} : qzV d 120 19 [a0, a1, a2, a3] [.int v] hp = some (some (.int v), hp) := qv_iret mdc_120 dX3_takesDigit_19 mdr_120 rfl
theorem dX3_isLetter_0 : decode cX3_isLetter 0 = .ok (.iload_n 0, 1) := by decide +kernel
theorem dX3_isLetter_1 : decode cX3_isLetter 1 = .ok (.bipush 97, 2) := by decide +kernel
theorem dX3_isLetter_3 : decode cX3_isLetter 3 = .ok (.bipush 102, 2) := by decide +kernel
theorem dX3_isLetter_5 : decode cX3_isLetter 5 = .ok (.invokestatic 62, 3) := by decide +kernel
theorem dX3_isLetter_8 : decode cX3_isLetter 8 = .ok (.ireturn, 1) := by decide +kernel
theorem eX3_isLetter_0 {d : Nat} {x : Int32} {st : List Value} {hp : qzH} : qzV d 121 0 [.int x] (st) hp = qzV d 121 1 [.int x] (.int x :: st) hp := qv_iload (i := 0) mdc_121 dX3_isLetter_0 rfl rfl rfl
theorem eX3_isLetter_1 {d : Nat} {a0 : Value} {st : List Value} {hp : qzH} : qzV d 121 1 [a0] (st) hp = qzV d 121 3 [a0] (.int 97 :: st) hp := qv_bipush mdc_121 dX3_isLetter_1 ib_97 rfl
theorem eX3_isLetter_3 {d : Nat} {a0 : Value} {st : List Value} {hp : qzH} : qzV d 121 3 [a0] (st) hp = qzV d 121 5 [a0] (.int 102 :: st) hp := qv_bipush mdc_121 dX3_isLetter_3 ib_102 rfl
theorem eX3_isLetter_5 {d : Nat} {a0 : Value} {w0 w1 w2 : Value} {st : List Value} {hp : qzH} (h8 : st.length ≤ 8) : qzV (d + 1) 121 5 [a0] (w2 :: w1 :: w0 :: st) hp = (qzC d 87 [w0, w1, w2] hp).bind (fun r => qzV (d + 1) 121 8 [a0] (r.1.toList ++ st) r.2) := qv_calls (n := 3) mdc_121 dX3_isLetter_5 mdo_121 (by decide) qfc_3_62 ⟨rfl, by decide, rfl⟩ rfl ⟨rfl, rfl, by simp only [List.length_cons]; omega⟩ h8
theorem eX3_isLetter_8 {d : Nat} {a0 : Value} {v : Int32} {hp : qzH} (hn : narrow .boolean (.int v) = .int v) : qzV d 121 8 [a0] [.int v] hp = some (some (.int v), hp) := qv_iret mdc_121 dX3_isLetter_8 mdr_121 hn
theorem dX3_takesRule_0 : decode cX3_takesRule 0 = .ok (.aload_n 0, 1) := by decide +kernel
theorem dX3_takesRule_1 : decode cX3_takesRule 1 = .ok (.iconst 1, 1) := by decide +kernel
theorem dX3_takesRule_2 : decode cX3_takesRule 2 = .ok (.invokevirtual 129, 3) := by decide +kernel
theorem dX3_takesRule_5 : decode cX3_takesRule 5 = .ok (.aload_n 0, 1) := by decide +kernel
theorem dX3_takesRule_6 : decode cX3_takesRule 6 = .ok (.aload_n 0, 1) := by decide +kernel
theorem dX3_takesRule_7 : decode cX3_takesRule 7 = .ok (.iconst 1, 1) := by decide +kernel
theorem dX3_takesRule_8 : decode cX3_takesRule 8 = .ok (.bipush 9, 2) := by decide +kernel
theorem dX3_takesRule_10 : decode cX3_takesRule 10 = .ok (.invokevirtual 133, 3) := by decide +kernel
theorem dX3_takesRule_13 : decode cX3_takesRule 13 = .ok (.putfield 136, 3) := by decide +kernel
theorem dX3_takesRule_16 : decode cX3_takesRule 16 = .ok (.aload_n 0, 1) := by decide +kernel
theorem dX3_takesRule_17 : decode cX3_takesRule 17 = .ok (.getfield 122, 3) := by decide +kernel
theorem dX3_takesRule_20 : decode cX3_takesRule 20 = .ok (.ifCond .eq 66, 3) := by decide +kernel
theorem dX3_takesRule_23 : decode cX3_takesRule 23 = .ok (.aload_n 0, 1) := by decide +kernel
theorem dX3_takesRule_24 : decode cX3_takesRule 24 = .ok (.invokevirtual 126, 3) := by decide +kernel
theorem dX3_takesRule_27 : decode cX3_takesRule 27 = .ok (.bipush 48, 2) := by decide +kernel
theorem dX3_takesRule_29 : decode cX3_takesRule 29 = .ok (.bipush 57, 2) := by decide +kernel
theorem dX3_takesRule_31 : decode cX3_takesRule 31 = .ok (.invokestatic 62, 3) := by decide +kernel
theorem dX3_takesRule_34 : decode cX3_takesRule 34 = .ok (.ifCond .eq 52, 3) := by decide +kernel
theorem dX3_takesRule_37 : decode cX3_takesRule 37 = .ok (.bipush 10, 2) := by decide +kernel
theorem dX3_takesRule_39 : decode cX3_takesRule 39 = .ok (.aload_n 0, 1) := by decide +kernel
theorem dX3_takesRule_40 : decode cX3_takesRule 40 = .ok (.getfield 136, 3) := by decide +kernel
theorem dX3_takesRule_43 : decode cX3_takesRule 43 = .ok (.imul, 1) := by decide +kernel
theorem dX3_takesRule_44 : decode cX3_takesRule 44 = .ok (.aload_n 0, 1) := by decide +kernel
theorem dX3_takesRule_45 : decode cX3_takesRule 45 = .ok (.invokevirtual 126, 3) := by decide +kernel
theorem dX3_takesRule_48 : decode cX3_takesRule 48 = .ok (.iadd, 1) := by decide +kernel
theorem dX3_takesRule_49 : decode cX3_takesRule 49 = .ok (.bipush 48, 2) := by decide +kernel
theorem dX3_takesRule_51 : decode cX3_takesRule 51 = .ok (.isub, 1) := by decide +kernel
theorem dX3_takesRule_52 : decode cX3_takesRule 52 = .ok (.bipush 20, 2) := by decide +kernel
theorem dX3_takesRule_54 : decode cX3_takesRule 54 = .ok (.if_icmp .gt 32, 3) := by decide +kernel
theorem dX3_takesRule_57 : decode cX3_takesRule 57 = .ok (.aload_n 0, 1) := by decide +kernel
theorem dX3_takesRule_58 : decode cX3_takesRule 58 = .ok (.bipush 10, 2) := by decide +kernel
theorem dX3_takesRule_60 : decode cX3_takesRule 60 = .ok (.aload_n 0, 1) := by decide +kernel
theorem dX3_takesRule_61 : decode cX3_takesRule 61 = .ok (.getfield 136, 3) := by decide +kernel
theorem dX3_takesRule_64 : decode cX3_takesRule 64 = .ok (.imul, 1) := by decide +kernel
theorem dX3_takesRule_65 : decode cX3_takesRule 65 = .ok (.aload_n 0, 1) := by decide +kernel
theorem dX3_takesRule_66 : decode cX3_takesRule 66 = .ok (.invokevirtual 126, 3) := by decide +kernel
theorem dX3_takesRule_69 : decode cX3_takesRule 69 = .ok (.iadd, 1) := by decide +kernel
theorem dX3_takesRule_70 : decode cX3_takesRule 70 = .ok (.bipush 48, 2) := by decide +kernel
theorem dX3_takesRule_72 : decode cX3_takesRule 72 = .ok (.isub, 1) := by decide +kernel
theorem dX3_takesRule_73 : decode cX3_takesRule 73 = .ok (.putfield 136, 3) := by decide +kernel
theorem dX3_takesRule_76 : decode cX3_takesRule 76 = .ok (.aload_n 0, 1) := by decide +kernel
theorem dX3_takesRule_77 : decode cX3_takesRule 77 = .ok (.dup, 1) := by decide +kernel
theorem dX3_takesRule_78 : decode cX3_takesRule 78 = .ok (.getfield 119, 3) := by decide +kernel
theorem dX3_takesRule_81 : decode cX3_takesRule 81 = .ok (.iconst 1, 1) := by decide +kernel
theorem dX3_takesRule_82 : decode cX3_takesRule 82 = .ok (.iadd, 1) := by decide +kernel
theorem dX3_takesRule_83 : decode cX3_takesRule 83 = .ok (.putfield 119, 3) := by decide +kernel
theorem dX3_takesRule_86 : decode cX3_takesRule 86 = .ok (.aload_n 0, 1) := by decide +kernel
theorem dX3_takesRule_87 : decode cX3_takesRule 87 = .ok (.getfield 122, 3) := by decide +kernel
theorem dX3_takesRule_90 : decode cX3_takesRule 90 = .ok (.ifCond .eq 37, 3) := by decide +kernel
theorem dX3_takesRule_93 : decode cX3_takesRule 93 = .ok (.aload_n 0, 1) := by decide +kernel
theorem dX3_takesRule_94 : decode cX3_takesRule 94 = .ok (.invokevirtual 126, 3) := by decide +kernel
theorem dX3_takesRule_97 : decode cX3_takesRule 97 = .ok (.bipush 43, 2) := by decide +kernel
theorem dX3_takesRule_99 : decode cX3_takesRule 99 = .ok (.if_icmp .ne 28, 3) := by decide +kernel
theorem dX3_takesRule_102 : decode cX3_takesRule 102 = .ok (.aload_n 0, 1) := by decide +kernel
theorem dX3_takesRule_103 : decode cX3_takesRule 103 = .ok (.dup, 1) := by decide +kernel
theorem dX3_takesRule_104 : decode cX3_takesRule 104 = .ok (.getfield 119, 3) := by decide +kernel
theorem dX3_takesRule_107 : decode cX3_takesRule 107 = .ok (.iconst 1, 1) := by decide +kernel
theorem dX3_takesRule_108 : decode cX3_takesRule 108 = .ok (.iadd, 1) := by decide +kernel
theorem dX3_takesRule_109 : decode cX3_takesRule 109 = .ok (.putfield 119, 3) := by decide +kernel
theorem dX3_takesRule_112 : decode cX3_takesRule 112 = .ok (.aload_n 0, 1) := by decide +kernel
theorem dX3_takesRule_113 : decode cX3_takesRule 113 = .ok (.aload_n 0, 1) := by decide +kernel
theorem dX3_takesRule_114 : decode cX3_takesRule 114 = .ok (.iconst 0, 1) := by decide +kernel
theorem dX3_takesRule_115 : decode cX3_takesRule 115 = .ok (.aload_n 0, 1) := by decide +kernel
theorem dX3_takesRule_116 : decode cX3_takesRule 116 = .ok (.getfield 139, 3) := by decide +kernel
theorem dX3_takesRule_119 : decode cX3_takesRule 119 = .ok (.iconst 1, 1) := by decide +kernel
theorem dX3_takesRule_120 : decode cX3_takesRule 120 = .ok (.isub, 1) := by decide +kernel
theorem dX3_takesRule_121 : decode cX3_takesRule 121 = .ok (.invokevirtual 133, 3) := by decide +kernel
theorem dX3_takesRule_124 : decode cX3_takesRule 124 = .ok (.putfield 142, 3) := by decide +kernel
theorem dX3_takesRule_127 : decode cX3_takesRule 127 = .ok (.return_, 1) := by decide +kernel
theorem eX3_takesRule_0 {d : Nat} {x : Nat} {st : List Value} {hp : qzH} : qzV d 122 0 [.ref x] (st) hp = qzV d 122 1 [.ref x] (.ref x :: st) hp := qv_aload (i := 0) mdc_122 dX3_takesRule_0 rfl rfl rfl
theorem eX3_takesRule_1 {d : Nat} {a0 : Value} {st : List Value} {hp : qzH} : qzV d 122 1 [a0] (st) hp = qzV d 122 2 [a0] (.int 1 :: st) hp := qv_iconst mdc_122 dX3_takesRule_1 il_1 rfl
theorem eX3_takesRule_2 {d : Nat} {a0 : Value} {w0 : Value} {b : Nat} {st : List Value} {hp : qzH} (h8 : st.length ≤ 8) (hb : qzArr 3 b hp.1 = true) : qzV (d + 1) 122 2 [a0] (w0 :: .ref b :: st) hp = (qzC d 119 (.ref b :: [w0]) hp).bind (fun r => qzV (d + 1) 122 5 [a0] (r.1.toList ++ st) r.2) := qv_callv (n := 1) mdc_122 dX3_takesRule_2 mdo_122 (by decide) qfc_3_129 ⟨rfl, by decide, rfl⟩ rfl ⟨rfl, rfl, by simp only [List.length_cons]; omega⟩ h8 hb
theorem eX3_takesRule_5 {d : Nat} {x : Nat} {st : List Value} {hp : qzH} : qzV d 122 5 [.ref x] (st) hp = qzV d 122 6 [.ref x] (.ref x :: st) hp := qv_aload (i := 0) mdc_122 dX3_takesRule_5 rfl rfl rfl
theorem eX3_takesRule_6 {d : Nat} {x : Nat} {st : List Value} {hp : qzH} : qzV d 122 6 [.ref x] (st) hp = qzV d 122 7 [.ref x] (.ref x :: st) hp := qv_aload (i := 0) mdc_122 dX3_takesRule_6 rfl rfl rfl
theorem eX3_takesRule_7 {d : Nat} {a0 : Value} {st : List Value} {hp : qzH} : qzV d 122 7 [a0] (st) hp = qzV d 122 8 [a0] (.int 1 :: st) hp := qv_iconst mdc_122 dX3_takesRule_7 il_1 rfl
theorem eX3_takesRule_8 {d : Nat} {a0 : Value} {st : List Value} {hp : qzH} : qzV d 122 8 [a0] (st) hp = qzV d 122 10 [a0] (.int 9 :: st) hp := qv_bipush mdc_122 dX3_takesRule_8 ib_9 rfl
theorem eX3_takesRule_10 {d : Nat} {a0 : Value} {w0 w1 : Value} {b : Nat} {st : List Value} {hp : qzH} (h8 : st.length ≤ 8) (hb : qzArr 3 b hp.1 = true) : qzV (d + 1) 122 10 [a0] (w1 :: w0 :: .ref b :: st) hp = (qzC d 120 (.ref b :: [w0, w1]) hp).bind (fun r => qzV (d + 1) 122 13 [a0] (r.1.toList ++ st) r.2) := qv_callv (n := 2) mdc_122 dX3_takesRule_10 mdo_122 (by decide) qfc_3_133 ⟨rfl, by decide, rfl⟩ rfl ⟨rfl, rfl, by simp only [List.length_cons]; omega⟩ h8 hb
theorem eX3_takesRule_13 {d : Nat} {a0 : Value} {a : Nat} {x : Int32} {st : List Value} {hp : qzH} (ha : qzArr 3 a hp.1 = true) : qzV d 122 13 [a0] (.int x :: .ref a :: st) hp = qzV d 122 16 [a0] st (hp.1, hp.2.1, qzUp hp.2.2 a 12 x) := qv_putI mdc_122 dX3_takesRule_13 mdo_122 qff_3_136 ⟨by decide, rfl, rfl⟩ rfl ha ⟨rfl, rfl⟩
theorem eX3_takesRule_16 {d : Nat} {x : Nat} {st : List Value} {hp : qzH} : qzV d 122 16 [.ref x] (st) hp = qzV d 122 17 [.ref x] (.ref x :: st) hp := qv_aload (i := 0) mdc_122 dX3_takesRule_16 rfl rfl rfl
theorem eX3_takesRule_17 {d : Nat} {a0 : Value} {a : Nat} {st : List Value} {hp : qzH} (ha : qzArr 3 a hp.1 = true) : qzV d 122 17 [a0] (.ref a :: st) hp = qzV d 122 20 [a0] (.int (hp.2.2 a 10) :: st) hp := qv_getI mdc_122 dX3_takesRule_17 mdo_122 qff_3_122 ⟨by decide, rfl⟩ rfl ha
theorem eX3_takesRule_20 {d : Nat} {a0 : Value} {x : Int32} {st : List Value} {hp : qzH} : qzV d 122 20 [a0] (.int x :: st) hp = if x = 0 then qzV d 122 86 [a0] (st) hp else qzV d 122 23 [a0] (st) hp := qv_if1 mdc_122 dX3_takesRule_20 rfl rfl rfl
theorem eX3_takesRule_23 {d : Nat} {x : Nat} {st : List Value} {hp : qzH} : qzV d 122 23 [.ref x] (st) hp = qzV d 122 24 [.ref x] (.ref x :: st) hp := qv_aload (i := 0) mdc_122 dX3_takesRule_23 rfl rfl rfl
theorem eX3_takesRule_24 {d : Nat} {a0 : Value} {b : Nat} {st : List Value} {hp : qzH} (h8 : st.length ≤ 8) (hb : qzArr 3 b hp.1 = true) : qzV (d + 1) 122 24 [a0] (.ref b :: st) hp = (qzC d 118 (.ref b :: []) hp).bind (fun r => qzV (d + 1) 122 27 [a0] (r.1.toList ++ st) r.2) := qv_callv (n := 0) mdc_122 dX3_takesRule_24 mdo_122 (by decide) qfc_3_126 ⟨rfl, by decide, rfl⟩ rfl ⟨rfl, rfl, by simp only [List.length_cons]; omega⟩ h8 hb
theorem eX3_takesRule_27 {d : Nat} {a0 : Value} {st : List Value} {hp : qzH} : qzV d 122 27 [a0] (st) hp = qzV d 122 29 [a0] (.int 48 :: st) hp := qv_bipush mdc_122 dX3_takesRule_27 ib_48 rfl
theorem eX3_takesRule_29 {d : Nat} {a0 : Value} {st : List Value} {hp : qzH} : qzV d 122 29 [a0] (st) hp = qzV d 122 31 [a0] (.int 57 :: st) hp := qv_bipush mdc_122 dX3_takesRule_29 ib_57 rfl
theorem eX3_takesRule_31 {d : Nat} {a0 : Value} {w0 w1 w2 : Value} {st : List Value} {hp : qzH} (h8 : st.length ≤ 8) : qzV (d + 1) 122 31 [a0] (w2 :: w1 :: w0 :: st) hp = (qzC d 87 [w0, w1, w2] hp).bind (fun r => qzV (d + 1) 122 34 [a0] (r.1.toList ++ st) r.2) := qv_calls (n := 3) mdc_122 dX3_takesRule_31 mdo_122 (by decide) qfc_3_62 ⟨rfl, by decide, rfl⟩ rfl ⟨rfl, rfl, by simp only [List.length_cons]; omega⟩ h8
theorem eX3_takesRule_34 {d : Nat} {a0 : Value} {x : Int32} {st : List Value} {hp : qzH} : qzV d 122 34 [a0] (.int x :: st) hp = if x = 0 then qzV d 122 86 [a0] (st) hp else qzV d 122 37 [a0] (st) hp := qv_if1 mdc_122 dX3_takesRule_34 rfl rfl rfl
theorem eX3_takesRule_37 {d : Nat} {a0 : Value} {st : List Value} {hp : qzH} : qzV d 122 37 [a0] (st) hp = qzV d 122 39 [a0] (.int 10 :: st) hp := qv_bipush mdc_122 dX3_takesRule_37 ib_10 rfl
theorem eX3_takesRule_39 {d : Nat} {x : Nat} {st : List Value} {hp : qzH} : qzV d 122 39 [.ref x] (st) hp = qzV d 122 40 [.ref x] (.ref x :: st) hp := qv_aload (i := 0) mdc_122 dX3_takesRule_39 rfl rfl rfl
theorem eX3_takesRule_40 {d : Nat} {a0 : Value} {a : Nat} {st : List Value} {hp : qzH} (ha : qzArr 3 a hp.1 = true) : qzV d 122 40 [a0] (.ref a :: st) hp = qzV d 122 43 [a0] (.int (hp.2.2 a 12) :: st) hp := qv_getI mdc_122 dX3_takesRule_40 mdo_122 qff_3_136 ⟨by decide, rfl⟩ rfl ha
theorem eX3_takesRule_43 {d : Nat} {a0 : Value} {x y : Int32} {st : List Value} {hp : qzH} : qzV d 122 43 [a0] (.int y :: .int x :: st) hp = qzV d 122 44 [a0] (.int (x * y) :: st) hp := qv_bin (f := fun x y => x * y) mdc_122 dX3_takesRule_43 rfl rfl
theorem eX3_takesRule_44 {d : Nat} {x : Nat} {st : List Value} {hp : qzH} : qzV d 122 44 [.ref x] (st) hp = qzV d 122 45 [.ref x] (.ref x :: st) hp := qv_aload (i := 0) mdc_122 dX3_takesRule_44 rfl rfl rfl
theorem eX3_takesRule_45 {d : Nat} {a0 : Value} {b : Nat} {st : List Value} {hp : qzH} (h8 : st.length ≤ 8) (hb : qzArr 3 b hp.1 = true) : qzV (d + 1) 122 45 [a0] (.ref b :: st) hp = (qzC d 118 (.ref b :: []) hp).bind (fun r => qzV (d + 1) 122 48 [a0] (r.1.toList ++ st) r.2) := qv_callv (n := 0) mdc_122 dX3_takesRule_45 mdo_122 (by decide) qfc_3_126 ⟨rfl, by decide, rfl⟩ rfl ⟨rfl, rfl, by simp only [List.length_cons]; omega⟩ h8 hb
theorem eX3_takesRule_48 {d : Nat} {a0 : Value} {x y : Int32} {st : List Value} {hp : qzH} : qzV d 122 48 [a0] (.int y :: .int x :: st) hp = qzV d 122 49 [a0] (.int (x + y) :: st) hp := qv_bin (f := fun x y => x + y) mdc_122 dX3_takesRule_48 rfl rfl
theorem eX3_takesRule_49 {d : Nat} {a0 : Value} {st : List Value} {hp : qzH} : qzV d 122 49 [a0] (st) hp = qzV d 122 51 [a0] (.int 48 :: st) hp := qv_bipush mdc_122 dX3_takesRule_49 ib_48 rfl
theorem eX3_takesRule_51 {d : Nat} {a0 : Value} {x y : Int32} {st : List Value} {hp : qzH} : qzV d 122 51 [a0] (.int y :: .int x :: st) hp = qzV d 122 52 [a0] (.int (x - y) :: st) hp := qv_bin (f := fun x y => x - y) mdc_122 dX3_takesRule_51 rfl rfl
theorem eX3_takesRule_52 {d : Nat} {a0 : Value} {st : List Value} {hp : qzH} : qzV d 122 52 [a0] (st) hp = qzV d 122 54 [a0] (.int 20 :: st) hp := qv_bipush mdc_122 dX3_takesRule_52 ib_20 rfl
theorem eX3_takesRule_54 {d : Nat} {a0 : Value} {x y : Int32} {st : List Value} {hp : qzH} : qzV d 122 54 [a0] (.int y :: .int x :: st) hp = if y < x then qzV d 122 86 [a0] (st) hp else qzV d 122 57 [a0] (st) hp := qv_if2 mdc_122 dX3_takesRule_54 rfl rfl rfl
theorem eX3_takesRule_57 {d : Nat} {x : Nat} {st : List Value} {hp : qzH} : qzV d 122 57 [.ref x] (st) hp = qzV d 122 58 [.ref x] (.ref x :: st) hp := qv_aload (i := 0) mdc_122 dX3_takesRule_57 rfl rfl rfl
theorem eX3_takesRule_58 {d : Nat} {a0 : Value} {st : List Value} {hp : qzH} : qzV d 122 58 [a0] (st) hp = qzV d 122 60 [a0] (.int 10 :: st) hp := qv_bipush mdc_122 dX3_takesRule_58 ib_10 rfl
theorem eX3_takesRule_60 {d : Nat} {x : Nat} {st : List Value} {hp : qzH} : qzV d 122 60 [.ref x] (st) hp = qzV d 122 61 [.ref x] (.ref x :: st) hp := qv_aload (i := 0) mdc_122 dX3_takesRule_60 rfl rfl rfl
theorem eX3_takesRule_61 {d : Nat} {a0 : Value} {a : Nat} {st : List Value} {hp : qzH} (ha : qzArr 3 a hp.1 = true) : qzV d 122 61 [a0] (.ref a :: st) hp = qzV d 122 64 [a0] (.int (hp.2.2 a 12) :: st) hp := qv_getI mdc_122 dX3_takesRule_61 mdo_122 qff_3_136 ⟨by decide, rfl⟩ rfl ha
theorem eX3_takesRule_64 {d : Nat} {a0 : Value} {x y : Int32} {st : List Value} {hp : qzH} : qzV d 122 64 [a0] (.int y :: .int x :: st) hp = qzV d 122 65 [a0] (.int (x * y) :: st) hp := qv_bin (f := fun x y => x * y) mdc_122 dX3_takesRule_64 rfl rfl
theorem eX3_takesRule_65 {d : Nat} {x : Nat} {st : List Value} {hp : qzH} : qzV d 122 65 [.ref x] (st) hp = qzV d 122 66 [.ref x] (.ref x :: st) hp := qv_aload (i := 0) mdc_122 dX3_takesRule_65 rfl rfl rfl
theorem eX3_takesRule_66 {d : Nat} {a0 : Value} {b : Nat} {st : List Value} {hp : qzH} (h8 : st.length ≤ 8) (hb : qzArr 3 b hp.1 = true) : qzV (d + 1) 122 66 [a0] (.ref b :: st) hp = (qzC d 118 (.ref b :: []) hp).bind (fun r => qzV (d + 1) 122 69 [a0] (r.1.toList ++ st) r.2) := qv_callv (n := 0) mdc_122 dX3_takesRule_66 mdo_122 (by decide) qfc_3_126 ⟨rfl, by decide, rfl⟩ rfl ⟨rfl, rfl, by simp only [List.length_cons]; omega⟩ h8 hb
theorem eX3_takesRule_69 {d : Nat} {a0 : Value} {x y : Int32} {st : List Value} {hp : qzH} : qzV d 122 69 [a0] (.int y :: .int x :: st) hp = qzV d 122 70 [a0] (.int (x + y) :: st) hp := qv_bin (f := fun x y => x + y) mdc_122 dX3_takesRule_69 rfl rfl
theorem eX3_takesRule_70 {d : Nat} {a0 : Value} {st : List Value} {hp : qzH} : qzV d 122 70 [a0] (st) hp = qzV d 122 72 [a0] (.int 48 :: st) hp := qv_bipush mdc_122 dX3_takesRule_70 ib_48 rfl
theorem eX3_takesRule_72 {d : Nat} {a0 : Value} {x y : Int32} {st : List Value} {hp : qzH} : qzV d 122 72 [a0] (.int y :: .int x :: st) hp = qzV d 122 73 [a0] (.int (x - y) :: st) hp := qv_bin (f := fun x y => x - y) mdc_122 dX3_takesRule_72 rfl rfl
theorem eX3_takesRule_73 {d : Nat} {a0 : Value} {a : Nat} {x : Int32} {st : List Value} {hp : qzH} (ha : qzArr 3 a hp.1 = true) : qzV d 122 73 [a0] (.int x :: .ref a :: st) hp = qzV d 122 76 [a0] st (hp.1, hp.2.1, qzUp hp.2.2 a 12 x) := qv_putI mdc_122 dX3_takesRule_73 mdo_122 qff_3_136 ⟨by decide, rfl, rfl⟩ rfl ha ⟨rfl, rfl⟩
theorem eX3_takesRule_76 {d : Nat} {x : Nat} {st : List Value} {hp : qzH} : qzV d 122 76 [.ref x] (st) hp = qzV d 122 77 [.ref x] (.ref x :: st) hp := qv_aload (i := 0) mdc_122 dX3_takesRule_76 rfl rfl rfl
theorem eX3_takesRule_77 {d : Nat} {a0 : Value} {v : Value} {st : List Value} {hp : qzH} : qzV d 122 77 [a0] (v :: st) hp = qzV d 122 78 [a0] (v :: v :: st) hp := qv_dup mdc_122 dX3_takesRule_77 rfl
theorem eX3_takesRule_78 {d : Nat} {a0 : Value} {a : Nat} {st : List Value} {hp : qzH} (ha : qzArr 3 a hp.1 = true) : qzV d 122 78 [a0] (.ref a :: st) hp = qzV d 122 81 [a0] (.int (hp.2.2 a 9) :: st) hp := qv_getI mdc_122 dX3_takesRule_78 mdo_122 qff_3_119 ⟨by decide, rfl⟩ rfl ha
theorem eX3_takesRule_81 {d : Nat} {a0 : Value} {st : List Value} {hp : qzH} : qzV d 122 81 [a0] (st) hp = qzV d 122 82 [a0] (.int 1 :: st) hp := qv_iconst mdc_122 dX3_takesRule_81 il_1 rfl
theorem eX3_takesRule_82 {d : Nat} {a0 : Value} {x y : Int32} {st : List Value} {hp : qzH} : qzV d 122 82 [a0] (.int y :: .int x :: st) hp = qzV d 122 83 [a0] (.int (x + y) :: st) hp := qv_bin (f := fun x y => x + y) mdc_122 dX3_takesRule_82 rfl rfl
theorem eX3_takesRule_83 {d : Nat} {a0 : Value} {a : Nat} {x : Int32} {st : List Value} {hp : qzH} (ha : qzArr 3 a hp.1 = true) : qzV d 122 83 [a0] (.int x :: .ref a :: st) hp = qzV d 122 86 [a0] st (hp.1, hp.2.1, qzUp hp.2.2 a 9 x) := qv_putI mdc_122 dX3_takesRule_83 mdo_122 qff_3_119 ⟨by decide, rfl, rfl⟩ rfl ha ⟨rfl, rfl⟩
theorem eX3_takesRule_86 {d : Nat} {x : Nat} {st : List Value} {hp : qzH} : qzV d 122 86 [.ref x] (st) hp = qzV d 122 87 [.ref x] (.ref x :: st) hp := qv_aload (i := 0) mdc_122 dX3_takesRule_86 rfl rfl rfl
theorem eX3_takesRule_87 {d : Nat} {a0 : Value} {a : Nat} {st : List Value} {hp : qzH} (ha : qzArr 3 a hp.1 = true) : qzV d 122 87 [a0] (.ref a :: st) hp = qzV d 122 90 [a0] (.int (hp.2.2 a 10) :: st) hp := qv_getI mdc_122 dX3_takesRule_87 mdo_122 qff_3_122 ⟨by decide, rfl⟩ rfl ha
theorem eX3_takesRule_90 {d : Nat} {a0 : Value} {x : Int32} {st : List Value} {hp : qzH} : qzV d 122 90 [a0] (.int x :: st) hp = if x = 0 then qzV d 122 127 [a0] (st) hp else qzV d 122 93 [a0] (st) hp := qv_if1 mdc_122 dX3_takesRule_90 rfl rfl rfl
theorem eX3_takesRule_93 {d : Nat} {x : Nat} {st : List Value} {hp : qzH} : qzV d 122 93 [.ref x] (st) hp = qzV d 122 94 [.ref x] (.ref x :: st) hp := qv_aload (i := 0) mdc_122 dX3_takesRule_93 rfl rfl rfl
theorem eX3_takesRule_94 {d : Nat} {a0 : Value} {b : Nat} {st : List Value} {hp : qzH} (h8 : st.length ≤ 8) (hb : qzArr 3 b hp.1 = true) : qzV (d + 1) 122 94 [a0] (.ref b :: st) hp = (qzC d 118 (.ref b :: []) hp).bind (fun r => qzV (d + 1) 122 97 [a0] (r.1.toList ++ st) r.2) := qv_callv (n := 0) mdc_122 dX3_takesRule_94 mdo_122 (by decide) qfc_3_126 ⟨rfl, by decide, rfl⟩ rfl ⟨rfl, rfl, by simp only [List.length_cons]; omega⟩ h8 hb
theorem eX3_takesRule_97 {d : Nat} {a0 : Value} {st : List Value} {hp : qzH} : qzV d 122 97 [a0] (st) hp = qzV d 122 99 [a0] (.int 43 :: st) hp := qv_bipush mdc_122 dX3_takesRule_97 ib_43 rfl
theorem eX3_takesRule_99 {d : Nat} {a0 : Value} {x y : Int32} {st : List Value} {hp : qzH} : qzV d 122 99 [a0] (.int y :: .int x :: st) hp = if ¬ x = y then qzV d 122 127 [a0] (st) hp else qzV d 122 102 [a0] (st) hp := qv_if2 mdc_122 dX3_takesRule_99 rfl rfl rfl
theorem eX3_takesRule_102 {d : Nat} {x : Nat} {st : List Value} {hp : qzH} : qzV d 122 102 [.ref x] (st) hp = qzV d 122 103 [.ref x] (.ref x :: st) hp := qv_aload (i := 0) mdc_122 dX3_takesRule_102 rfl rfl rfl
theorem eX3_takesRule_103 {d : Nat} {a0 : Value} {v : Value} {st : List Value} {hp : qzH} : qzV d 122 103 [a0] (v :: st) hp = qzV d 122 104 [a0] (v :: v :: st) hp := qv_dup mdc_122 dX3_takesRule_103 rfl
theorem eX3_takesRule_104 {d : Nat} {a0 : Value} {a : Nat} {st : List Value} {hp : qzH} (ha : qzArr 3 a hp.1 = true) : qzV d 122 104 [a0] (.ref a :: st) hp = qzV d 122 107 [a0] (.int (hp.2.2 a 9) :: st) hp := qv_getI mdc_122 dX3_takesRule_104 mdo_122 qff_3_119 ⟨by decide, rfl⟩ rfl ha
theorem eX3_takesRule_107 {d : Nat} {a0 : Value} {st : List Value} {hp : qzH} : qzV d 122 107 [a0] (st) hp = qzV d 122 108 [a0] (.int 1 :: st) hp := qv_iconst mdc_122 dX3_takesRule_107 il_1 rfl
theorem eX3_takesRule_108 {d : Nat} {a0 : Value} {x y : Int32} {st : List Value} {hp : qzH} : qzV d 122 108 [a0] (.int y :: .int x :: st) hp = qzV d 122 109 [a0] (.int (x + y) :: st) hp := qv_bin (f := fun x y => x + y) mdc_122 dX3_takesRule_108 rfl rfl
theorem eX3_takesRule_109 {d : Nat} {a0 : Value} {a : Nat} {x : Int32} {st : List Value} {hp : qzH} (ha : qzArr 3 a hp.1 = true) : qzV d 122 109 [a0] (.int x :: .ref a :: st) hp = qzV d 122 112 [a0] st (hp.1, hp.2.1, qzUp hp.2.2 a 9 x) := qv_putI mdc_122 dX3_takesRule_109 mdo_122 qff_3_119 ⟨by decide, rfl, rfl⟩ rfl ha ⟨rfl, rfl⟩
theorem eX3_takesRule_112 {d : Nat} {x : Nat} {st : List Value} {hp : qzH} : qzV d 122 112 [.ref x] (st) hp = qzV d 122 113 [.ref x] (.ref x :: st) hp := qv_aload (i := 0) mdc_122 dX3_takesRule_112 rfl rfl rfl
theorem eX3_takesRule_113 {d : Nat} {x : Nat} {st : List Value} {hp : qzH} : qzV d 122 113 [.ref x] (st) hp = qzV d 122 114 [.ref x] (.ref x :: st) hp := qv_aload (i := 0) mdc_122 dX3_takesRule_113 rfl rfl rfl
theorem eX3_takesRule_114 {d : Nat} {a0 : Value} {st : List Value} {hp : qzH} : qzV d 122 114 [a0] (st) hp = qzV d 122 115 [a0] (.int 0 :: st) hp := qv_iconst mdc_122 dX3_takesRule_114 il_0 rfl
theorem eX3_takesRule_115 {d : Nat} {x : Nat} {st : List Value} {hp : qzH} : qzV d 122 115 [.ref x] (st) hp = qzV d 122 116 [.ref x] (.ref x :: st) hp := qv_aload (i := 0) mdc_122 dX3_takesRule_115 rfl rfl rfl
theorem eX3_takesRule_116 {d : Nat} {a0 : Value} {a : Nat} {st : List Value} {hp : qzH} (ha : qzArr 3 a hp.1 = true) : qzV d 122 116 [a0] (.ref a :: st) hp = qzV d 122 119 [a0] (.int (hp.2.2 a 11) :: st) hp := qv_getI mdc_122 dX3_takesRule_116 mdo_122 qff_3_139 ⟨by decide, rfl⟩ rfl ha
theorem eX3_takesRule_119 {d : Nat} {a0 : Value} {st : List Value} {hp : qzH} : qzV d 122 119 [a0] (st) hp = qzV d 122 120 [a0] (.int 1 :: st) hp := qv_iconst mdc_122 dX3_takesRule_119 il_1 rfl
theorem eX3_takesRule_120 {d : Nat} {a0 : Value} {x y : Int32} {st : List Value} {hp : qzH} : qzV d 122 120 [a0] (.int y :: .int x :: st) hp = qzV d 122 121 [a0] (.int (x - y) :: st) hp := qv_bin (f := fun x y => x - y) mdc_122 dX3_takesRule_120 rfl rfl
theorem eX3_takesRule_121 {d : Nat} {a0 : Value} {w0 w1 : Value} {b : Nat} {st : List Value} {hp : qzH} (h8 : st.length ≤ 8) (hb : qzArr 3 b hp.1 = true) : qzV (d + 1) 122 121 [a0] (w1 :: w0 :: .ref b :: st) hp = (qzC d 120 (.ref b :: [w0, w1]) hp).bind (fun r => qzV (d + 1) 122 124 [a0] (r.1.toList ++ st) r.2) := qv_callv (n := 2) mdc_122 dX3_takesRule_121 mdo_122 (by decide) qfc_3_133 ⟨rfl, by decide, rfl⟩ rfl ⟨rfl, rfl, by simp only [List.length_cons]; omega⟩ h8 hb
theorem eX3_takesRule_124 {d : Nat} {a0 : Value} {a : Nat} {x : Int32} {st : List Value} {hp : qzH} (ha : qzArr 3 a hp.1 = true) : qzV d 122 124 [a0] (.int x :: .ref a :: st) hp = qzV d 122 127 [a0] st (hp.1, hp.2.1, qzUp hp.2.2 a 13 x) := qv_putI mdc_122 dX3_takesRule_124 mdo_122 qff_3_142 ⟨by decide, rfl, rfl⟩ rfl ha ⟨rfl, rfl⟩
theorem eX3_takesRule_127 {d : Nat} {a0 : Value} {hp : qzH} : qzV d 122 127 [a0] [] hp = some (none, hp) := qv_vret mdc_122 dX3_takesRule_127 mdr_122
theorem dX3_isBolt_0 : decode cX3_isBolt 0 = .ok (.aload_n 0, 1) := by decide +kernel
theorem dX3_isBolt_1 : decode cX3_isBolt 1 = .ok (.iconst 0, 1) := by decide +kernel
theorem dX3_isBolt_2 : decode cX3_isBolt 2 = .ok (.putfield 119, 3) := by decide +kernel
theorem dX3_isBolt_5 : decode cX3_isBolt 5 = .ok (.aload_n 0, 1) := by decide +kernel
theorem dX3_isBolt_6 : decode cX3_isBolt 6 = .ok (.iconst 1, 1) := by decide +kernel
theorem dX3_isBolt_7 : decode cX3_isBolt 7 = .ok (.putfield 122, 3) := by decide +kernel
theorem dX3_isBolt_10 : decode cX3_isBolt 10 = .ok (.aload_n 0, 1) := by decide +kernel
theorem dX3_isBolt_11 : decode cX3_isBolt 11 = .ok (.iconst 0, 1) := by decide +kernel
theorem dX3_isBolt_12 : decode cX3_isBolt 12 = .ok (.putfield 142, 3) := by decide +kernel
theorem dX3_isBolt_15 : decode cX3_isBolt 15 = .ok (.aload_n 0, 1) := by decide +kernel
theorem dX3_isBolt_16 : decode cX3_isBolt 16 = .ok (.aload_n 0, 1) := by decide +kernel
theorem dX3_isBolt_17 : decode cX3_isBolt 17 = .ok (.invokevirtual 126, 3) := by decide +kernel
theorem dX3_isBolt_20 : decode cX3_isBolt 20 = .ok (.invokestatic 145, 3) := by decide +kernel
theorem dX3_isBolt_23 : decode cX3_isBolt 23 = .ok (.invokevirtual 129, 3) := by decide +kernel
theorem dX3_isBolt_26 : decode cX3_isBolt 26 = .ok (.aload_n 0, 1) := by decide +kernel
theorem dX3_isBolt_27 : decode cX3_isBolt 27 = .ok (.getfield 122, 3) := by decide +kernel
theorem dX3_isBolt_30 : decode cX3_isBolt 30 = .ok (.ifCond .eq 35, 3) := by decide +kernel
theorem dX3_isBolt_33 : decode cX3_isBolt 33 = .ok (.aload_n 0, 1) := by decide +kernel
theorem dX3_isBolt_34 : decode cX3_isBolt 34 = .ok (.getfield 119, 3) := by decide +kernel
theorem dX3_isBolt_37 : decode cX3_isBolt 37 = .ok (.bipush 20, 2) := by decide +kernel
theorem dX3_isBolt_39 : decode cX3_isBolt 39 = .ok (.if_icmp .ge 26, 3) := by decide +kernel
theorem dX3_isBolt_42 : decode cX3_isBolt 42 = .ok (.aload_n 0, 1) := by decide +kernel
theorem dX3_isBolt_43 : decode cX3_isBolt 43 = .ok (.invokevirtual 126, 3) := by decide +kernel
theorem dX3_isBolt_46 : decode cX3_isBolt 46 = .ok (.invokestatic 145, 3) := by decide +kernel
theorem dX3_isBolt_49 : decode cX3_isBolt 49 = .ok (.ifCond .eq 16, 3) := by decide +kernel
theorem dX3_isBolt_52 : decode cX3_isBolt 52 = .ok (.aload_n 0, 1) := by decide +kernel
theorem dX3_isBolt_53 : decode cX3_isBolt 53 = .ok (.dup, 1) := by decide +kernel
theorem dX3_isBolt_54 : decode cX3_isBolt 54 = .ok (.getfield 119, 3) := by decide +kernel
theorem dX3_isBolt_57 : decode cX3_isBolt 57 = .ok (.iconst 1, 1) := by decide +kernel
theorem dX3_isBolt_58 : decode cX3_isBolt 58 = .ok (.iadd, 1) := by decide +kernel
theorem dX3_isBolt_59 : decode cX3_isBolt 59 = .ok (.putfield 119, 3) := by decide +kernel
theorem dX3_isBolt_62 : decode cX3_isBolt 62 = .ok (.goto (-36), 3) := by decide +kernel
theorem dX3_isBolt_65 : decode cX3_isBolt 65 = .ok (.aload_n 0, 1) := by decide +kernel
theorem dX3_isBolt_66 : decode cX3_isBolt 66 = .ok (.aload_n 0, 1) := by decide +kernel
theorem dX3_isBolt_67 : decode cX3_isBolt 67 = .ok (.getfield 119, 3) := by decide +kernel
theorem dX3_isBolt_70 : decode cX3_isBolt 70 = .ok (.putfield 139, 3) := by decide +kernel
theorem dX3_isBolt_73 : decode cX3_isBolt 73 = .ok (.aload_n 0, 1) := by decide +kernel
theorem dX3_isBolt_74 : decode cX3_isBolt 74 = .ok (.aload_n 0, 1) := by decide +kernel
theorem dX3_isBolt_75 : decode cX3_isBolt 75 = .ok (.getfield 119, 3) := by decide +kernel
theorem dX3_isBolt_78 : decode cX3_isBolt 78 = .ok (.putfield 136, 3) := by decide +kernel
theorem dX3_isBolt_81 : decode cX3_isBolt 81 = .ok (.aload_n 0, 1) := by decide +kernel
theorem dX3_isBolt_82 : decode cX3_isBolt 82 = .ok (.getfield 122, 3) := by decide +kernel
theorem dX3_isBolt_85 : decode cX3_isBolt 85 = .ok (.ifCond .eq 25, 3) := by decide +kernel
theorem dX3_isBolt_88 : decode cX3_isBolt 88 = .ok (.aload_n 0, 1) := by decide +kernel
theorem dX3_isBolt_89 : decode cX3_isBolt 89 = .ok (.getfield 139, 3) := by decide +kernel
theorem dX3_isBolt_92 : decode cX3_isBolt 92 = .ok (.bipush 6, 2) := by decide +kernel
theorem dX3_isBolt_94 : decode cX3_isBolt 94 = .ok (.if_icmp .gt 16, 3) := by decide +kernel
theorem dX3_isBolt_97 : decode cX3_isBolt 97 = .ok (.aload_n 0, 1) := by decide +kernel
theorem dX3_isBolt_98 : decode cX3_isBolt 98 = .ok (.invokevirtual 126, 3) := by decide +kernel
theorem dX3_isBolt_101 : decode cX3_isBolt 101 = .ok (.bipush 42, 2) := by decide +kernel
theorem dX3_isBolt_103 : decode cX3_isBolt 103 = .ok (.if_icmp .ne 7, 3) := by decide +kernel
theorem dX3_isBolt_106 : decode cX3_isBolt 106 = .ok (.aload_n 0, 1) := by decide +kernel
theorem dX3_isBolt_107 : decode cX3_isBolt 107 = .ok (.invokevirtual 149, 3) := by decide +kernel
theorem dX3_isBolt_110 : decode cX3_isBolt 110 = .ok (.aload_n 0, 1) := by decide +kernel
theorem dX3_isBolt_111 : decode cX3_isBolt 111 = .ok (.getfield 122, 3) := by decide +kernel
theorem dX3_isBolt_114 : decode cX3_isBolt 114 = .ok (.ifCond .eq 18, 3) := by decide +kernel
theorem dX3_isBolt_117 : decode cX3_isBolt 117 = .ok (.aload_n 0, 1) := by decide +kernel
theorem dX3_isBolt_118 : decode cX3_isBolt 118 = .ok (.getfield 119, 3) := by decide +kernel
theorem dX3_isBolt_121 : decode cX3_isBolt 121 = .ok (.aload_n 0, 1) := by decide +kernel
theorem dX3_isBolt_122 : decode cX3_isBolt 122 = .ok (.getfield 116, 3) := by decide +kernel
theorem dX3_isBolt_125 : decode cX3_isBolt 125 = .ok (.if_icmp .ne 7, 3) := by decide +kernel
theorem dX3_isBolt_128 : decode cX3_isBolt 128 = .ok (.iconst 1, 1) := by decide +kernel
theorem dX3_isBolt_129 : decode cX3_isBolt 129 = .ok (.goto 4, 3) := by decide +kernel
theorem dX3_isBolt_132 : decode cX3_isBolt 132 = .ok (.iconst 0, 1) := by decide +kernel
theorem dX3_isBolt_133 : decode cX3_isBolt 133 = .ok (.ireturn, 1) := by decide +kernel
theorem eX3_isBolt_0 {d : Nat} {x : Nat} {st : List Value} {hp : qzH} : qzV d 123 0 [.ref x] (st) hp = qzV d 123 1 [.ref x] (.ref x :: st) hp := qv_aload (i := 0) mdc_123 dX3_isBolt_0 rfl rfl rfl
theorem eX3_isBolt_1 {d : Nat} {a0 : Value} {st : List Value} {hp : qzH} : qzV d 123 1 [a0] (st) hp = qzV d 123 2 [a0] (.int 0 :: st) hp := qv_iconst mdc_123 dX3_isBolt_1 il_0 rfl
theorem eX3_isBolt_2 {d : Nat} {a0 : Value} {a : Nat} {x : Int32} {st : List Value} {hp : qzH} (ha : qzArr 3 a hp.1 = true) : qzV d 123 2 [a0] (.int x :: .ref a :: st) hp = qzV d 123 5 [a0] st (hp.1, hp.2.1, qzUp hp.2.2 a 9 x) := qv_putI mdc_123 dX3_isBolt_2 mdo_123 qff_3_119 ⟨by decide, rfl, rfl⟩ rfl ha ⟨rfl, rfl⟩
theorem eX3_isBolt_5 {d : Nat} {x : Nat} {st : List Value} {hp : qzH} : qzV d 123 5 [.ref x] (st) hp = qzV d 123 6 [.ref x] (.ref x :: st) hp := qv_aload (i := 0) mdc_123 dX3_isBolt_5 rfl rfl rfl
theorem eX3_isBolt_6 {d : Nat} {a0 : Value} {st : List Value} {hp : qzH} : qzV d 123 6 [a0] (st) hp = qzV d 123 7 [a0] (.int 1 :: st) hp := qv_iconst mdc_123 dX3_isBolt_6 il_1 rfl
theorem eX3_isBolt_7 {d : Nat} {a0 : Value} {a : Nat} {x : Int32} {st : List Value} {hp : qzH} (ha : qzArr 3 a hp.1 = true) (hb : narrow .boolean (.int x) = .int x ∧ fits .boolean (.int x) = true) : qzV d 123 7 [a0] (.int x :: .ref a :: st) hp = qzV d 123 10 [a0] st (hp.1, hp.2.1, qzUp hp.2.2 a 10 x) := qv_putI mdc_123 dX3_isBolt_7 mdo_123 qff_3_122 ⟨by decide, rfl, rfl⟩ rfl ha hb
theorem eX3_isBolt_10 {d : Nat} {x : Nat} {st : List Value} {hp : qzH} : qzV d 123 10 [.ref x] (st) hp = qzV d 123 11 [.ref x] (.ref x :: st) hp := qv_aload (i := 0) mdc_123 dX3_isBolt_10 rfl rfl rfl
theorem eX3_isBolt_11 {d : Nat} {a0 : Value} {st : List Value} {hp : qzH} : qzV d 123 11 [a0] (st) hp = qzV d 123 12 [a0] (.int 0 :: st) hp := qv_iconst mdc_123 dX3_isBolt_11 il_0 rfl
theorem eX3_isBolt_12 {d : Nat} {a0 : Value} {a : Nat} {x : Int32} {st : List Value} {hp : qzH} (ha : qzArr 3 a hp.1 = true) : qzV d 123 12 [a0] (.int x :: .ref a :: st) hp = qzV d 123 15 [a0] st (hp.1, hp.2.1, qzUp hp.2.2 a 13 x) := qv_putI mdc_123 dX3_isBolt_12 mdo_123 qff_3_142 ⟨by decide, rfl, rfl⟩ rfl ha ⟨rfl, rfl⟩
theorem eX3_isBolt_15 {d : Nat} {x : Nat} {st : List Value} {hp : qzH} : qzV d 123 15 [.ref x] (st) hp = qzV d 123 16 [.ref x] (.ref x :: st) hp := qv_aload (i := 0) mdc_123 dX3_isBolt_15 rfl rfl rfl
theorem eX3_isBolt_16 {d : Nat} {x : Nat} {st : List Value} {hp : qzH} : qzV d 123 16 [.ref x] (st) hp = qzV d 123 17 [.ref x] (.ref x :: st) hp := qv_aload (i := 0) mdc_123 dX3_isBolt_16 rfl rfl rfl
theorem eX3_isBolt_17 {d : Nat} {a0 : Value} {b : Nat} {st : List Value} {hp : qzH} (h8 : st.length ≤ 8) (hb : qzArr 3 b hp.1 = true) : qzV (d + 1) 123 17 [a0] (.ref b :: st) hp = (qzC d 118 (.ref b :: []) hp).bind (fun r => qzV (d + 1) 123 20 [a0] (r.1.toList ++ st) r.2) := qv_callv (n := 0) mdc_123 dX3_isBolt_17 mdo_123 (by decide) qfc_3_126 ⟨rfl, by decide, rfl⟩ rfl ⟨rfl, rfl, by simp only [List.length_cons]; omega⟩ h8 hb
theorem eX3_isBolt_20 {d : Nat} {a0 : Value} {w0 : Value} {st : List Value} {hp : qzH} (h8 : st.length ≤ 8) : qzV (d + 1) 123 20 [a0] (w0 :: st) hp = (qzC d 121 [w0] hp).bind (fun r => qzV (d + 1) 123 23 [a0] (r.1.toList ++ st) r.2) := qv_calls (n := 1) mdc_123 dX3_isBolt_20 mdo_123 (by decide) qfc_3_145 ⟨rfl, by decide, rfl⟩ rfl ⟨rfl, rfl, by simp only [List.length_cons]; omega⟩ h8
theorem eX3_isBolt_23 {d : Nat} {a0 : Value} {w0 : Value} {b : Nat} {st : List Value} {hp : qzH} (h8 : st.length ≤ 8) (hb : qzArr 3 b hp.1 = true) : qzV (d + 1) 123 23 [a0] (w0 :: .ref b :: st) hp = (qzC d 119 (.ref b :: [w0]) hp).bind (fun r => qzV (d + 1) 123 26 [a0] (r.1.toList ++ st) r.2) := qv_callv (n := 1) mdc_123 dX3_isBolt_23 mdo_123 (by decide) qfc_3_129 ⟨rfl, by decide, rfl⟩ rfl ⟨rfl, rfl, by simp only [List.length_cons]; omega⟩ h8 hb
theorem eX3_isBolt_26 {d : Nat} {x : Nat} {st : List Value} {hp : qzH} : qzV d 123 26 [.ref x] (st) hp = qzV d 123 27 [.ref x] (.ref x :: st) hp := qv_aload (i := 0) mdc_123 dX3_isBolt_26 rfl rfl rfl
theorem eX3_isBolt_27 {d : Nat} {a0 : Value} {a : Nat} {st : List Value} {hp : qzH} (ha : qzArr 3 a hp.1 = true) : qzV d 123 27 [a0] (.ref a :: st) hp = qzV d 123 30 [a0] (.int (hp.2.2 a 10) :: st) hp := qv_getI mdc_123 dX3_isBolt_27 mdo_123 qff_3_122 ⟨by decide, rfl⟩ rfl ha
theorem eX3_isBolt_30 {d : Nat} {a0 : Value} {x : Int32} {st : List Value} {hp : qzH} : qzV d 123 30 [a0] (.int x :: st) hp = if x = 0 then qzV d 123 65 [a0] (st) hp else qzV d 123 33 [a0] (st) hp := qv_if1 mdc_123 dX3_isBolt_30 rfl rfl rfl
theorem eX3_isBolt_33 {d : Nat} {x : Nat} {st : List Value} {hp : qzH} : qzV d 123 33 [.ref x] (st) hp = qzV d 123 34 [.ref x] (.ref x :: st) hp := qv_aload (i := 0) mdc_123 dX3_isBolt_33 rfl rfl rfl
theorem eX3_isBolt_34 {d : Nat} {a0 : Value} {a : Nat} {st : List Value} {hp : qzH} (ha : qzArr 3 a hp.1 = true) : qzV d 123 34 [a0] (.ref a :: st) hp = qzV d 123 37 [a0] (.int (hp.2.2 a 9) :: st) hp := qv_getI mdc_123 dX3_isBolt_34 mdo_123 qff_3_119 ⟨by decide, rfl⟩ rfl ha
theorem eX3_isBolt_37 {d : Nat} {a0 : Value} {st : List Value} {hp : qzH} : qzV d 123 37 [a0] (st) hp = qzV d 123 39 [a0] (.int 20 :: st) hp := qv_bipush mdc_123 dX3_isBolt_37 ib_20 rfl
theorem eX3_isBolt_39 {d : Nat} {a0 : Value} {x y : Int32} {st : List Value} {hp : qzH} : qzV d 123 39 [a0] (.int y :: .int x :: st) hp = if y ≤ x then qzV d 123 65 [a0] (st) hp else qzV d 123 42 [a0] (st) hp := qv_if2 mdc_123 dX3_isBolt_39 rfl rfl rfl
theorem eX3_isBolt_42 {d : Nat} {x : Nat} {st : List Value} {hp : qzH} : qzV d 123 42 [.ref x] (st) hp = qzV d 123 43 [.ref x] (.ref x :: st) hp := qv_aload (i := 0) mdc_123 dX3_isBolt_42 rfl rfl rfl
theorem eX3_isBolt_43 {d : Nat} {a0 : Value} {b : Nat} {st : List Value} {hp : qzH} (h8 : st.length ≤ 8) (hb : qzArr 3 b hp.1 = true) : qzV (d + 1) 123 43 [a0] (.ref b :: st) hp = (qzC d 118 (.ref b :: []) hp).bind (fun r => qzV (d + 1) 123 46 [a0] (r.1.toList ++ st) r.2) := qv_callv (n := 0) mdc_123 dX3_isBolt_43 mdo_123 (by decide) qfc_3_126 ⟨rfl, by decide, rfl⟩ rfl ⟨rfl, rfl, by simp only [List.length_cons]; omega⟩ h8 hb
theorem eX3_isBolt_46 {d : Nat} {a0 : Value} {w0 : Value} {st : List Value} {hp : qzH} (h8 : st.length ≤ 8) : qzV (d + 1) 123 46 [a0] (w0 :: st) hp = (qzC d 121 [w0] hp).bind (fun r => qzV (d + 1) 123 49 [a0] (r.1.toList ++ st) r.2) := qv_calls (n := 1) mdc_123 dX3_isBolt_46 mdo_123 (by decide) qfc_3_145 ⟨rfl, by decide, rfl⟩ rfl ⟨rfl, rfl, by simp only [List.length_cons]; omega⟩ h8
theorem eX3_isBolt_49 {d : Nat} {a0 : Value} {x : Int32} {st : List Value} {hp : qzH} : qzV d 123 49 [a0] (.int x :: st) hp = if x = 0 then qzV d 123 65 [a0] (st) hp else qzV d 123 52 [a0] (st) hp := qv_if1 mdc_123 dX3_isBolt_49 rfl rfl rfl
theorem eX3_isBolt_52 {d : Nat} {x : Nat} {st : List Value} {hp : qzH} : qzV d 123 52 [.ref x] (st) hp = qzV d 123 53 [.ref x] (.ref x :: st) hp := qv_aload (i := 0) mdc_123 dX3_isBolt_52 rfl rfl rfl
theorem eX3_isBolt_53 {d : Nat} {a0 : Value} {v : Value} {st : List Value} {hp : qzH} : qzV d 123 53 [a0] (v :: st) hp = qzV d 123 54 [a0] (v :: v :: st) hp := qv_dup mdc_123 dX3_isBolt_53 rfl
theorem eX3_isBolt_54 {d : Nat} {a0 : Value} {a : Nat} {st : List Value} {hp : qzH} (ha : qzArr 3 a hp.1 = true) : qzV d 123 54 [a0] (.ref a :: st) hp = qzV d 123 57 [a0] (.int (hp.2.2 a 9) :: st) hp := qv_getI mdc_123 dX3_isBolt_54 mdo_123 qff_3_119 ⟨by decide, rfl⟩ rfl ha
theorem eX3_isBolt_57 {d : Nat} {a0 : Value} {st : List Value} {hp : qzH} : qzV d 123 57 [a0] (st) hp = qzV d 123 58 [a0] (.int 1 :: st) hp := qv_iconst mdc_123 dX3_isBolt_57 il_1 rfl
theorem eX3_isBolt_58 {d : Nat} {a0 : Value} {x y : Int32} {st : List Value} {hp : qzH} : qzV d 123 58 [a0] (.int y :: .int x :: st) hp = qzV d 123 59 [a0] (.int (x + y) :: st) hp := qv_bin (f := fun x y => x + y) mdc_123 dX3_isBolt_58 rfl rfl
theorem eX3_isBolt_59 {d : Nat} {a0 : Value} {a : Nat} {x : Int32} {st : List Value} {hp : qzH} (ha : qzArr 3 a hp.1 = true) : qzV d 123 59 [a0] (.int x :: .ref a :: st) hp = qzV d 123 62 [a0] st (hp.1, hp.2.1, qzUp hp.2.2 a 9 x) := qv_putI mdc_123 dX3_isBolt_59 mdo_123 qff_3_119 ⟨by decide, rfl, rfl⟩ rfl ha ⟨rfl, rfl⟩
theorem eX3_isBolt_62 {d : Nat} {a0 : Value} {st : List Value} {hp : qzH} : qzV d 123 62 [a0] (st) hp = qzV d 123 26 [a0] (st) hp := qv_goto mdc_123 dX3_isBolt_62 rfl
theorem eX3_isBolt_65 {d : Nat} {x : Nat} {st : List Value} {hp : qzH} : qzV d 123 65 [.ref x] (st) hp = qzV d 123 66 [.ref x] (.ref x :: st) hp := qv_aload (i := 0) mdc_123 dX3_isBolt_65 rfl rfl rfl
theorem eX3_isBolt_66 {d : Nat} {x : Nat} {st : List Value} {hp : qzH} : qzV d 123 66 [.ref x] (st) hp = qzV d 123 67 [.ref x] (.ref x :: st) hp := qv_aload (i := 0) mdc_123 dX3_isBolt_66 rfl rfl rfl
theorem eX3_isBolt_67 {d : Nat} {a0 : Value} {a : Nat} {st : List Value} {hp : qzH} (ha : qzArr 3 a hp.1 = true) : qzV d 123 67 [a0] (.ref a :: st) hp = qzV d 123 70 [a0] (.int (hp.2.2 a 9) :: st) hp := qv_getI mdc_123 dX3_isBolt_67 mdo_123 qff_3_119 ⟨by decide, rfl⟩ rfl ha
theorem eX3_isBolt_70 {d : Nat} {a0 : Value} {a : Nat} {x : Int32} {st : List Value} {hp : qzH} (ha : qzArr 3 a hp.1 = true) : qzV d 123 70 [a0] (.int x :: .ref a :: st) hp = qzV d 123 73 [a0] st (hp.1, hp.2.1, qzUp hp.2.2 a 11 x) := qv_putI mdc_123 dX3_isBolt_70 mdo_123 qff_3_139 ⟨by decide, rfl, rfl⟩ rfl ha ⟨rfl, rfl⟩
theorem eX3_isBolt_73 {d : Nat} {x : Nat} {st : List Value} {hp : qzH} : qzV d 123 73 [.ref x] (st) hp = qzV d 123 74 [.ref x] (.ref x :: st) hp := qv_aload (i := 0) mdc_123 dX3_isBolt_73 rfl rfl rfl
theorem eX3_isBolt_74 {d : Nat} {x : Nat} {st : List Value} {hp : qzH} : qzV d 123 74 [.ref x] (st) hp = qzV d 123 75 [.ref x] (.ref x :: st) hp := qv_aload (i := 0) mdc_123 dX3_isBolt_74 rfl rfl rfl
theorem eX3_isBolt_75 {d : Nat} {a0 : Value} {a : Nat} {st : List Value} {hp : qzH} (ha : qzArr 3 a hp.1 = true) : qzV d 123 75 [a0] (.ref a :: st) hp = qzV d 123 78 [a0] (.int (hp.2.2 a 9) :: st) hp := qv_getI mdc_123 dX3_isBolt_75 mdo_123 qff_3_119 ⟨by decide, rfl⟩ rfl ha
theorem eX3_isBolt_78 {d : Nat} {a0 : Value} {a : Nat} {x : Int32} {st : List Value} {hp : qzH} (ha : qzArr 3 a hp.1 = true) : qzV d 123 78 [a0] (.int x :: .ref a :: st) hp = qzV d 123 81 [a0] st (hp.1, hp.2.1, qzUp hp.2.2 a 12 x) := qv_putI mdc_123 dX3_isBolt_78 mdo_123 qff_3_136 ⟨by decide, rfl, rfl⟩ rfl ha ⟨rfl, rfl⟩
theorem eX3_isBolt_81 {d : Nat} {x : Nat} {st : List Value} {hp : qzH} : qzV d 123 81 [.ref x] (st) hp = qzV d 123 82 [.ref x] (.ref x :: st) hp := qv_aload (i := 0) mdc_123 dX3_isBolt_81 rfl rfl rfl
theorem eX3_isBolt_82 {d : Nat} {a0 : Value} {a : Nat} {st : List Value} {hp : qzH} (ha : qzArr 3 a hp.1 = true) : qzV d 123 82 [a0] (.ref a :: st) hp = qzV d 123 85 [a0] (.int (hp.2.2 a 10) :: st) hp := qv_getI mdc_123 dX3_isBolt_82 mdo_123 qff_3_122 ⟨by decide, rfl⟩ rfl ha
theorem eX3_isBolt_85 {d : Nat} {a0 : Value} {x : Int32} {st : List Value} {hp : qzH} : qzV d 123 85 [a0] (.int x :: st) hp = if x = 0 then qzV d 123 110 [a0] (st) hp else qzV d 123 88 [a0] (st) hp := qv_if1 mdc_123 dX3_isBolt_85 rfl rfl rfl
theorem eX3_isBolt_88 {d : Nat} {x : Nat} {st : List Value} {hp : qzH} : qzV d 123 88 [.ref x] (st) hp = qzV d 123 89 [.ref x] (.ref x :: st) hp := qv_aload (i := 0) mdc_123 dX3_isBolt_88 rfl rfl rfl
theorem eX3_isBolt_89 {d : Nat} {a0 : Value} {a : Nat} {st : List Value} {hp : qzH} (ha : qzArr 3 a hp.1 = true) : qzV d 123 89 [a0] (.ref a :: st) hp = qzV d 123 92 [a0] (.int (hp.2.2 a 11) :: st) hp := qv_getI mdc_123 dX3_isBolt_89 mdo_123 qff_3_139 ⟨by decide, rfl⟩ rfl ha
theorem eX3_isBolt_92 {d : Nat} {a0 : Value} {st : List Value} {hp : qzH} : qzV d 123 92 [a0] (st) hp = qzV d 123 94 [a0] (.int 6 :: st) hp := qv_bipush mdc_123 dX3_isBolt_92 ib_6 rfl
theorem eX3_isBolt_94 {d : Nat} {a0 : Value} {x y : Int32} {st : List Value} {hp : qzH} : qzV d 123 94 [a0] (.int y :: .int x :: st) hp = if y < x then qzV d 123 110 [a0] (st) hp else qzV d 123 97 [a0] (st) hp := qv_if2 mdc_123 dX3_isBolt_94 rfl rfl rfl
theorem eX3_isBolt_97 {d : Nat} {x : Nat} {st : List Value} {hp : qzH} : qzV d 123 97 [.ref x] (st) hp = qzV d 123 98 [.ref x] (.ref x :: st) hp := qv_aload (i := 0) mdc_123 dX3_isBolt_97 rfl rfl rfl
theorem eX3_isBolt_98 {d : Nat} {a0 : Value} {b : Nat} {st : List Value} {hp : qzH} (h8 : st.length ≤ 8) (hb : qzArr 3 b hp.1 = true) : qzV (d + 1) 123 98 [a0] (.ref b :: st) hp = (qzC d 118 (.ref b :: []) hp).bind (fun r => qzV (d + 1) 123 101 [a0] (r.1.toList ++ st) r.2) := qv_callv (n := 0) mdc_123 dX3_isBolt_98 mdo_123 (by decide) qfc_3_126 ⟨rfl, by decide, rfl⟩ rfl ⟨rfl, rfl, by simp only [List.length_cons]; omega⟩ h8 hb
theorem eX3_isBolt_101 {d : Nat} {a0 : Value} {st : List Value} {hp : qzH} : qzV d 123 101 [a0] (st) hp = qzV d 123 103 [a0] (.int 42 :: st) hp := qv_bipush mdc_123 dX3_isBolt_101 ib_42 rfl
theorem eX3_isBolt_103 {d : Nat} {a0 : Value} {x y : Int32} {st : List Value} {hp : qzH} : qzV d 123 103 [a0] (.int y :: .int x :: st) hp = if ¬ x = y then qzV d 123 110 [a0] (st) hp else qzV d 123 106 [a0] (st) hp := qv_if2 mdc_123 dX3_isBolt_103 rfl rfl rfl
theorem eX3_isBolt_106 {d : Nat} {x : Nat} {st : List Value} {hp : qzH} : qzV d 123 106 [.ref x] (st) hp = qzV d 123 107 [.ref x] (.ref x :: st) hp := qv_aload (i := 0) mdc_123 dX3_isBolt_106 rfl rfl rfl
theorem eX3_isBolt_107 {d : Nat} {a0 : Value} {b : Nat} {st : List Value} {hp : qzH} (h8 : st.length ≤ 8) (hb : qzArr 3 b hp.1 = true) : qzV (d + 1) 123 107 [a0] (.ref b :: st) hp = (qzC d 122 (.ref b :: []) hp).bind (fun r => qzV (d + 1) 123 110 [a0] (r.1.toList ++ st) r.2) := qv_callv (n := 0) mdc_123 dX3_isBolt_107 mdo_123 (by decide) qfc_3_149 ⟨rfl, by decide, rfl⟩ rfl ⟨rfl, rfl, by simp only [List.length_cons]; omega⟩ h8 hb
theorem eX3_isBolt_110 {d : Nat} {x : Nat} {st : List Value} {hp : qzH} : qzV d 123 110 [.ref x] (st) hp = qzV d 123 111 [.ref x] (.ref x :: st) hp := qv_aload (i := 0) mdc_123 dX3_isBolt_110 rfl rfl rfl
theorem eX3_isBolt_111 {d : Nat} {a0 : Value} {a : Nat} {st : List Value} {hp : qzH} (ha : qzArr 3 a hp.1 = true) : qzV d 123 111 [a0] (.ref a :: st) hp = qzV d 123 114 [a0] (.int (hp.2.2 a 10) :: st) hp := qv_getI mdc_123 dX3_isBolt_111 mdo_123 qff_3_122 ⟨by decide, rfl⟩ rfl ha
theorem eX3_isBolt_114 {d : Nat} {a0 : Value} {x : Int32} {st : List Value} {hp : qzH} : qzV d 123 114 [a0] (.int x :: st) hp = if x = 0 then qzV d 123 132 [a0] (st) hp else qzV d 123 117 [a0] (st) hp := qv_if1 mdc_123 dX3_isBolt_114 rfl rfl rfl
theorem eX3_isBolt_117 {d : Nat} {x : Nat} {st : List Value} {hp : qzH} : qzV d 123 117 [.ref x] (st) hp = qzV d 123 118 [.ref x] (.ref x :: st) hp := qv_aload (i := 0) mdc_123 dX3_isBolt_117 rfl rfl rfl
theorem eX3_isBolt_118 {d : Nat} {a0 : Value} {a : Nat} {st : List Value} {hp : qzH} (ha : qzArr 3 a hp.1 = true) : qzV d 123 118 [a0] (.ref a :: st) hp = qzV d 123 121 [a0] (.int (hp.2.2 a 9) :: st) hp := qv_getI mdc_123 dX3_isBolt_118 mdo_123 qff_3_119 ⟨by decide, rfl⟩ rfl ha
theorem eX3_isBolt_121 {d : Nat} {x : Nat} {st : List Value} {hp : qzH} : qzV d 123 121 [.ref x] (st) hp = qzV d 123 122 [.ref x] (.ref x :: st) hp := qv_aload (i := 0) mdc_123 dX3_isBolt_121 rfl rfl rfl
theorem eX3_isBolt_122 {d : Nat} {a0 : Value} {a : Nat} {st : List Value} {hp : qzH} (ha : qzArr 3 a hp.1 = true) : qzV d 123 122 [a0] (.ref a :: st) hp = qzV d 123 125 [a0] (.int (hp.2.2 a 7) :: st) hp := qv_getI mdc_123 dX3_isBolt_122 mdo_123 qff_3_116 ⟨by decide, rfl⟩ rfl ha
theorem eX3_isBolt_125 {d : Nat} {a0 : Value} {x y : Int32} {st : List Value} {hp : qzH} : qzV d 123 125 [a0] (.int y :: .int x :: st) hp = if ¬ x = y then qzV d 123 132 [a0] (st) hp else qzV d 123 128 [a0] (st) hp := qv_if2 mdc_123 dX3_isBolt_125 rfl rfl rfl
theorem eX3_isBolt_128 {d : Nat} {a0 : Value} {st : List Value} {hp : qzH} : qzV d 123 128 [a0] (st) hp = qzV d 123 129 [a0] (.int 1 :: st) hp := qv_iconst mdc_123 dX3_isBolt_128 il_1 rfl
theorem eX3_isBolt_129 {d : Nat} {a0 : Value} {st : List Value} {hp : qzH} : qzV d 123 129 [a0] (st) hp = qzV d 123 133 [a0] (st) hp := qv_goto mdc_123 dX3_isBolt_129 rfl
theorem eX3_isBolt_132 {d : Nat} {a0 : Value} {st : List Value} {hp : qzH} : qzV d 123 132 [a0] (st) hp = qzV d 123 133 [a0] (.int 0 :: st) hp := qv_iconst mdc_123 dX3_isBolt_132 il_0 rfl
theorem eX3_isBolt_133 {d : Nat} {a0 : Value} {v : Int32} {hp : qzH} (hn : narrow .boolean (.int v) = .int v) : qzV d 123 133 [a0] [.int v] hp = some (some (.int v), hp) := qv_iret mdc_123 dX3_isBolt_133 mdr_123 hn
theorem dX3_takesCut_0 : decode cX3_takesCut 0 = .ok (.aload_n 0, 1) := by decide +kernel
theorem dX3_takesCut_1 : decode cX3_takesCut 1 = .ok (.invokevirtual 126, 3) := by decide +kernel
theorem dX3_takesCut_4 : decode cX3_takesCut 4 = .ok (.istore_n 1, 1) := by decide +kernel
theorem dX3_takesCut_5 : decode cX3_takesCut 5 = .ok (.aload_n 0, 1) := by decide +kernel
theorem dX3_takesCut_6 : decode cX3_takesCut 6 = .ok (.iload_n 1, 1) := by decide +kernel
theorem dX3_takesCut_7 : decode cX3_takesCut 7 = .ok (.bipush 108, 2) := by decide +kernel
theorem dX3_takesCut_9 : decode cX3_takesCut 9 = .ok (.if_icmp .eq 21, 3) := by decide +kernel
theorem dX3_takesCut_12 : decode cX3_takesCut 12 = .ok (.iload_n 1, 1) := by decide +kernel
theorem dX3_takesCut_13 : decode cX3_takesCut 13 = .ok (.bipush 114, 2) := by decide +kernel
theorem dX3_takesCut_15 : decode cX3_takesCut 15 = .ok (.if_icmp .eq 15, 3) := by decide +kernel
theorem dX3_takesCut_18 : decode cX3_takesCut 18 = .ok (.iload_n 1, 1) := by decide +kernel
theorem dX3_takesCut_19 : decode cX3_takesCut 19 = .ok (.bipush 98, 2) := by decide +kernel
theorem dX3_takesCut_21 : decode cX3_takesCut 21 = .ok (.if_icmp .eq 9, 3) := by decide +kernel
theorem dX3_takesCut_24 : decode cX3_takesCut 24 = .ok (.iload_n 1, 1) := by decide +kernel
theorem dX3_takesCut_25 : decode cX3_takesCut 25 = .ok (.bipush 103, 2) := by decide +kernel
theorem dX3_takesCut_27 : decode cX3_takesCut 27 = .ok (.if_icmp .ne 7, 3) := by decide +kernel
theorem dX3_takesCut_30 : decode cX3_takesCut 30 = .ok (.iconst 1, 1) := by decide +kernel
theorem dX3_takesCut_31 : decode cX3_takesCut 31 = .ok (.goto 4, 3) := by decide +kernel
theorem dX3_takesCut_34 : decode cX3_takesCut 34 = .ok (.iconst 0, 1) := by decide +kernel
theorem dX3_takesCut_35 : decode cX3_takesCut 35 = .ok (.invokevirtual 129, 3) := by decide +kernel
theorem dX3_takesCut_38 : decode cX3_takesCut 38 = .ok (.iload_n 1, 1) := by decide +kernel
theorem dX3_takesCut_39 : decode cX3_takesCut 39 = .ok (.bipush 108, 2) := by decide +kernel
theorem dX3_takesCut_41 : decode cX3_takesCut 41 = .ok (.if_icmp .eq 9, 3) := by decide +kernel
theorem dX3_takesCut_44 : decode cX3_takesCut 44 = .ok (.iload_n 1, 1) := by decide +kernel
theorem dX3_takesCut_45 : decode cX3_takesCut 45 = .ok (.bipush 114, 2) := by decide +kernel
theorem dX3_takesCut_47 : decode cX3_takesCut 47 = .ok (.if_icmp .ne 10, 3) := by decide +kernel
theorem dX3_takesCut_50 : decode cX3_takesCut 50 = .ok (.aload_n 0, 1) := by decide +kernel
theorem dX3_takesCut_51 : decode cX3_takesCut 51 = .ok (.iconst 1, 1) := by decide +kernel
theorem dX3_takesCut_52 : decode cX3_takesCut 52 = .ok (.iconst 5, 1) := by decide +kernel
theorem dX3_takesCut_53 : decode cX3_takesCut 53 = .ok (.invokevirtual 133, 3) := by decide +kernel
theorem dX3_takesCut_56 : decode cX3_takesCut 56 = .ok (.istore_n 2, 1) := by decide +kernel
theorem dX3_takesCut_57 : decode cX3_takesCut 57 = .ok (.return_, 1) := by decide +kernel
theorem eX3_takesCut_0 {d : Nat} {a1 a2 : Value} {x : Nat} {st : List Value} {hp : qzH} : qzV d 124 0 [.ref x, a1, a2] (st) hp = qzV d 124 1 [.ref x, a1, a2] (.ref x :: st) hp := qv_aload (i := 0) mdc_124 dX3_takesCut_0 rfl rfl rfl
theorem eX3_takesCut_1 {d : Nat} {a0 a1 a2 : Value} {b : Nat} {st : List Value} {hp : qzH} (h8 : st.length ≤ 8) (hb : qzArr 3 b hp.1 = true) : qzV (d + 1) 124 1 [a0, a1, a2] (.ref b :: st) hp = (qzC d 118 (.ref b :: []) hp).bind (fun r => qzV (d + 1) 124 4 [a0, a1, a2] (r.1.toList ++ st) r.2) := qv_callv (n := 0) mdc_124 dX3_takesCut_1 mdo_124 (by decide) qfc_3_126 ⟨rfl, by decide, rfl⟩ rfl ⟨rfl, rfl, by simp only [List.length_cons]; omega⟩ h8 hb
theorem eX3_takesCut_4 {d : Nat} {a0 a1 a2 : Value} {x : Int32} {st : List Value} {hp : qzH} : qzV d 124 4 [a0, a1, a2] (.int x :: st) hp = qzV d 124 5 [a0, .int x, a2] (st) hp := qv_istore (i := 1) mdc_124 dX3_takesCut_4 rfl (Nat.le_of_ble_eq_true rfl) rfl rfl
theorem eX3_takesCut_5 {d : Nat} {a1 a2 : Value} {x : Nat} {st : List Value} {hp : qzH} : qzV d 124 5 [.ref x, a1, a2] (st) hp = qzV d 124 6 [.ref x, a1, a2] (.ref x :: st) hp := qv_aload (i := 0) mdc_124 dX3_takesCut_5 rfl rfl rfl
theorem eX3_takesCut_6 {d : Nat} {a0 a2 : Value} {x : Int32} {st : List Value} {hp : qzH} : qzV d 124 6 [a0, .int x, a2] (st) hp = qzV d 124 7 [a0, .int x, a2] (.int x :: st) hp := qv_iload (i := 1) mdc_124 dX3_takesCut_6 rfl rfl rfl
theorem eX3_takesCut_7 {d : Nat} {a0 a1 a2 : Value} {st : List Value} {hp : qzH} : qzV d 124 7 [a0, a1, a2] (st) hp = qzV d 124 9 [a0, a1, a2] (.int 108 :: st) hp := qv_bipush mdc_124 dX3_takesCut_7 ib_108 rfl
theorem eX3_takesCut_9 {d : Nat} {a0 a1 a2 : Value} {x y : Int32} {st : List Value} {hp : qzH} : qzV d 124 9 [a0, a1, a2] (.int y :: .int x :: st) hp = if x = y then qzV d 124 30 [a0, a1, a2] (st) hp else qzV d 124 12 [a0, a1, a2] (st) hp := qv_if2 mdc_124 dX3_takesCut_9 rfl rfl rfl
theorem eX3_takesCut_12 {d : Nat} {a0 a2 : Value} {x : Int32} {st : List Value} {hp : qzH} : qzV d 124 12 [a0, .int x, a2] (st) hp = qzV d 124 13 [a0, .int x, a2] (.int x :: st) hp := qv_iload (i := 1) mdc_124 dX3_takesCut_12 rfl rfl rfl
theorem eX3_takesCut_13 {d : Nat} {a0 a1 a2 : Value} {st : List Value} {hp : qzH} : qzV d 124 13 [a0, a1, a2] (st) hp = qzV d 124 15 [a0, a1, a2] (.int 114 :: st) hp := qv_bipush mdc_124 dX3_takesCut_13 ib_114 rfl
theorem eX3_takesCut_15 {d : Nat} {a0 a1 a2 : Value} {x y : Int32} {st : List Value} {hp : qzH} : qzV d 124 15 [a0, a1, a2] (.int y :: .int x :: st) hp = if x = y then qzV d 124 30 [a0, a1, a2] (st) hp else qzV d 124 18 [a0, a1, a2] (st) hp := qv_if2 mdc_124 dX3_takesCut_15 rfl rfl rfl
theorem eX3_takesCut_18 {d : Nat} {a0 a2 : Value} {x : Int32} {st : List Value} {hp : qzH} : qzV d 124 18 [a0, .int x, a2] (st) hp = qzV d 124 19 [a0, .int x, a2] (.int x :: st) hp := qv_iload (i := 1) mdc_124 dX3_takesCut_18 rfl rfl rfl
theorem eX3_takesCut_19 {d : Nat} {a0 a1 a2 : Value} {st : List Value} {hp : qzH} : qzV d 124 19 [a0, a1, a2] (st) hp = qzV d 124 21 [a0, a1, a2] (.int 98 :: st) hp := qv_bipush mdc_124 dX3_takesCut_19 ib_98 rfl
theorem eX3_takesCut_21 {d : Nat} {a0 a1 a2 : Value} {x y : Int32} {st : List Value} {hp : qzH} : qzV d 124 21 [a0, a1, a2] (.int y :: .int x :: st) hp = if x = y then qzV d 124 30 [a0, a1, a2] (st) hp else qzV d 124 24 [a0, a1, a2] (st) hp := qv_if2 mdc_124 dX3_takesCut_21 rfl rfl rfl
theorem eX3_takesCut_24 {d : Nat} {a0 a2 : Value} {x : Int32} {st : List Value} {hp : qzH} : qzV d 124 24 [a0, .int x, a2] (st) hp = qzV d 124 25 [a0, .int x, a2] (.int x :: st) hp := qv_iload (i := 1) mdc_124 dX3_takesCut_24 rfl rfl rfl
theorem eX3_takesCut_25 {d : Nat} {a0 a1 a2 : Value} {st : List Value} {hp : qzH} : qzV d 124 25 [a0, a1, a2] (st) hp = qzV d 124 27 [a0, a1, a2] (.int 103 :: st) hp := qv_bipush mdc_124 dX3_takesCut_25 ib_103 rfl
theorem eX3_takesCut_27 {d : Nat} {a0 a1 a2 : Value} {x y : Int32} {st : List Value} {hp : qzH} : qzV d 124 27 [a0, a1, a2] (.int y :: .int x :: st) hp = if ¬ x = y then qzV d 124 34 [a0, a1, a2] (st) hp else qzV d 124 30 [a0, a1, a2] (st) hp := qv_if2 mdc_124 dX3_takesCut_27 rfl rfl rfl
theorem eX3_takesCut_30 {d : Nat} {a0 a1 a2 : Value} {st : List Value} {hp : qzH} : qzV d 124 30 [a0, a1, a2] (st) hp = qzV d 124 31 [a0, a1, a2] (.int 1 :: st) hp := qv_iconst mdc_124 dX3_takesCut_30 il_1 rfl
theorem eX3_takesCut_31 {d : Nat} {a0 a1 a2 : Value} {st : List Value} {hp : qzH} : qzV d 124 31 [a0, a1, a2] (st) hp = qzV d 124 35 [a0, a1, a2] (st) hp := qv_goto mdc_124 dX3_takesCut_31 rfl
theorem eX3_takesCut_34 {d : Nat} {a0 a1 a2 : Value} {st : List Value} {hp : qzH} : qzV d 124 34 [a0, a1, a2] (st) hp = qzV d 124 35 [a0, a1, a2] (.int 0 :: st) hp := qv_iconst mdc_124 dX3_takesCut_34 il_0 rfl
theorem eX3_takesCut_35 {d : Nat} {a0 a1 a2 : Value} {w0 : Value} {b : Nat} {st : List Value} {hp : qzH} (h8 : st.length ≤ 8) (hb : qzArr 3 b hp.1 = true) : qzV (d + 1) 124 35 [a0, a1, a2] (w0 :: .ref b :: st) hp = (qzC d 119 (.ref b :: [w0]) hp).bind (fun r => qzV (d + 1) 124 38 [a0, a1, a2] (r.1.toList ++ st) r.2) := qv_callv (n := 1) mdc_124 dX3_takesCut_35 mdo_124 (by decide) qfc_3_129 ⟨rfl, by decide, rfl⟩ rfl ⟨rfl, rfl, by simp only [List.length_cons]; omega⟩ h8 hb
theorem eX3_takesCut_38 {d : Nat} {a0 a2 : Value} {x : Int32} {st : List Value} {hp : qzH} : qzV d 124 38 [a0, .int x, a2] (st) hp = qzV d 124 39 [a0, .int x, a2] (.int x :: st) hp := qv_iload (i := 1) mdc_124 dX3_takesCut_38 rfl rfl rfl
theorem eX3_takesCut_39 {d : Nat} {a0 a1 a2 : Value} {st : List Value} {hp : qzH} : qzV d 124 39 [a0, a1, a2] (st) hp = qzV d 124 41 [a0, a1, a2] (.int 108 :: st) hp := qv_bipush mdc_124 dX3_takesCut_39 ib_108 rfl
theorem eX3_takesCut_41 {d : Nat} {a0 a1 a2 : Value} {x y : Int32} {st : List Value} {hp : qzH} : qzV d 124 41 [a0, a1, a2] (.int y :: .int x :: st) hp = if x = y then qzV d 124 50 [a0, a1, a2] (st) hp else qzV d 124 44 [a0, a1, a2] (st) hp := qv_if2 mdc_124 dX3_takesCut_41 rfl rfl rfl
theorem eX3_takesCut_44 {d : Nat} {a0 a2 : Value} {x : Int32} {st : List Value} {hp : qzH} : qzV d 124 44 [a0, .int x, a2] (st) hp = qzV d 124 45 [a0, .int x, a2] (.int x :: st) hp := qv_iload (i := 1) mdc_124 dX3_takesCut_44 rfl rfl rfl
theorem eX3_takesCut_45 {d : Nat} {a0 a1 a2 : Value} {st : List Value} {hp : qzH} : qzV d 124 45 [a0, a1, a2] (st) hp = qzV d 124 47 [a0, a1, a2] (.int 114 :: st) hp := qv_bipush mdc_124 dX3_takesCut_45 ib_114 rfl
theorem eX3_takesCut_47 {d : Nat} {a0 a1 a2 : Value} {x y : Int32} {st : List Value} {hp : qzH} : qzV d 124 47 [a0, a1, a2] (.int y :: .int x :: st) hp = if ¬ x = y then qzV d 124 57 [a0, a1, a2] (st) hp else qzV d 124 50 [a0, a1, a2] (st) hp := qv_if2 mdc_124 dX3_takesCut_47 rfl rfl rfl
theorem eX3_takesCut_50 {d : Nat} {a1 a2 : Value} {x : Nat} {st : List Value} {hp : qzH} : qzV d 124 50 [.ref x, a1, a2] (st) hp = qzV d 124 51 [.ref x, a1, a2] (.ref x :: st) hp := qv_aload (i := 0) mdc_124 dX3_takesCut_50 rfl rfl rfl
theorem eX3_takesCut_51 {d : Nat} {a0 a1 a2 : Value} {st : List Value} {hp : qzH} : qzV d 124 51 [a0, a1, a2] (st) hp = qzV d 124 52 [a0, a1, a2] (.int 1 :: st) hp := qv_iconst mdc_124 dX3_takesCut_51 il_1 rfl
theorem eX3_takesCut_52 {d : Nat} {a0 a1 a2 : Value} {st : List Value} {hp : qzH} : qzV d 124 52 [a0, a1, a2] (st) hp = qzV d 124 53 [a0, a1, a2] (.int 5 :: st) hp := qv_iconst mdc_124 dX3_takesCut_52 il_5 rfl
theorem eX3_takesCut_53 {d : Nat} {a0 a1 a2 : Value} {w0 w1 : Value} {b : Nat} {st : List Value} {hp : qzH} (h8 : st.length ≤ 8) (hb : qzArr 3 b hp.1 = true) : qzV (d + 1) 124 53 [a0, a1, a2] (w1 :: w0 :: .ref b :: st) hp = (qzC d 120 (.ref b :: [w0, w1]) hp).bind (fun r => qzV (d + 1) 124 56 [a0, a1, a2] (r.1.toList ++ st) r.2) := qv_callv (n := 2) mdc_124 dX3_takesCut_53 mdo_124 (by decide) qfc_3_133 ⟨rfl, by decide, rfl⟩ rfl ⟨rfl, rfl, by simp only [List.length_cons]; omega⟩ h8 hb
theorem eX3_takesCut_56 {d : Nat} {a0 a1 a2 : Value} {x : Int32} {st : List Value} {hp : qzH} : qzV d 124 56 [a0, a1, a2] (.int x :: st) hp = qzV d 124 57 [a0, a1, .int x] (st) hp := qv_istore (i := 2) mdc_124 dX3_takesCut_56 rfl (Nat.le_of_ble_eq_true rfl) rfl rfl
theorem eX3_takesCut_57 {d : Nat} {a0 a1 a2 : Value} {hp : qzH} : qzV d 124 57 [a0, a1, a2] [] hp = some (none, hp) := qv_vret mdc_124 dX3_takesCut_57 mdr_124
theorem dX3_areCuts_0 : decode cX3_areCuts 0 = .ok (.aload_n 0, 1) := by decide +kernel
theorem dX3_areCuts_1 : decode cX3_areCuts 1 = .ok (.iconst 0, 1) := by decide +kernel
theorem dX3_areCuts_2 : decode cX3_areCuts 2 = .ok (.putfield 119, 3) := by decide +kernel
theorem dX3_areCuts_5 : decode cX3_areCuts 5 = .ok (.aload_n 0, 1) := by decide +kernel
theorem dX3_areCuts_6 : decode cX3_areCuts 6 = .ok (.iconst 1, 1) := by decide +kernel
theorem dX3_areCuts_7 : decode cX3_areCuts 7 = .ok (.putfield 122, 3) := by decide +kernel
theorem dX3_areCuts_10 : decode cX3_areCuts 10 = .ok (.aload_n 0, 1) := by decide +kernel
theorem dX3_areCuts_11 : decode cX3_areCuts 11 = .ok (.invokevirtual 152, 3) := by decide +kernel
theorem dX3_areCuts_14 : decode cX3_areCuts 14 = .ok (.aload_n 0, 1) := by decide +kernel
theorem dX3_areCuts_15 : decode cX3_areCuts 15 = .ok (.getfield 122, 3) := by decide +kernel
theorem dX3_areCuts_18 : decode cX3_areCuts 18 = .ok (.ifCond .eq 21, 3) := by decide +kernel
theorem dX3_areCuts_21 : decode cX3_areCuts 21 = .ok (.aload_n 0, 1) := by decide +kernel
theorem dX3_areCuts_22 : decode cX3_areCuts 22 = .ok (.getfield 119, 3) := by decide +kernel
theorem dX3_areCuts_25 : decode cX3_areCuts 25 = .ok (.aload_n 0, 1) := by decide +kernel
theorem dX3_areCuts_26 : decode cX3_areCuts 26 = .ok (.getfield 116, 3) := by decide +kernel
theorem dX3_areCuts_29 : decode cX3_areCuts 29 = .ok (.if_icmp .ge 10, 3) := by decide +kernel
theorem dX3_areCuts_32 : decode cX3_areCuts 32 = .ok (.aload_n 0, 1) := by decide +kernel
theorem dX3_areCuts_33 : decode cX3_areCuts 33 = .ok (.invokevirtual 152, 3) := by decide +kernel
theorem dX3_areCuts_36 : decode cX3_areCuts 36 = .ok (.goto (-22), 3) := by decide +kernel
theorem dX3_areCuts_39 : decode cX3_areCuts 39 = .ok (.aload_n 0, 1) := by decide +kernel
theorem dX3_areCuts_40 : decode cX3_areCuts 40 = .ok (.getfield 122, 3) := by decide +kernel
theorem dX3_areCuts_43 : decode cX3_areCuts 43 = .ok (.ireturn, 1) := by decide +kernel
theorem eX3_areCuts_0 {d : Nat} {x : Nat} {st : List Value} {hp : qzH} : qzV d 125 0 [.ref x] (st) hp = qzV d 125 1 [.ref x] (.ref x :: st) hp := qv_aload (i := 0) mdc_125 dX3_areCuts_0 rfl rfl rfl
theorem eX3_areCuts_1 {d : Nat} {a0 : Value} {st : List Value} {hp : qzH} : qzV d 125 1 [a0] (st) hp = qzV d 125 2 [a0] (.int 0 :: st) hp := qv_iconst mdc_125 dX3_areCuts_1 il_0 rfl
theorem eX3_areCuts_2 {d : Nat} {a0 : Value} {a : Nat} {x : Int32} {st : List Value} {hp : qzH} (ha : qzArr 3 a hp.1 = true) : qzV d 125 2 [a0] (.int x :: .ref a :: st) hp = qzV d 125 5 [a0] st (hp.1, hp.2.1, qzUp hp.2.2 a 9 x) := qv_putI mdc_125 dX3_areCuts_2 mdo_125 qff_3_119 ⟨by decide, rfl, rfl⟩ rfl ha ⟨rfl, rfl⟩
theorem eX3_areCuts_5 {d : Nat} {x : Nat} {st : List Value} {hp : qzH} : qzV d 125 5 [.ref x] (st) hp = qzV d 125 6 [.ref x] (.ref x :: st) hp := qv_aload (i := 0) mdc_125 dX3_areCuts_5 rfl rfl rfl
theorem eX3_areCuts_6 {d : Nat} {a0 : Value} {st : List Value} {hp : qzH} : qzV d 125 6 [a0] (st) hp = qzV d 125 7 [a0] (.int 1 :: st) hp := qv_iconst mdc_125 dX3_areCuts_6 il_1 rfl
theorem eX3_areCuts_7 {d : Nat} {a0 : Value} {a : Nat} {x : Int32} {st : List Value} {hp : qzH} (ha : qzArr 3 a hp.1 = true) (hb : narrow .boolean (.int x) = .int x ∧ fits .boolean (.int x) = true) : qzV d 125 7 [a0] (.int x :: .ref a :: st) hp = qzV d 125 10 [a0] st (hp.1, hp.2.1, qzUp hp.2.2 a 10 x) := qv_putI mdc_125 dX3_areCuts_7 mdo_125 qff_3_122 ⟨by decide, rfl, rfl⟩ rfl ha hb
theorem eX3_areCuts_10 {d : Nat} {x : Nat} {st : List Value} {hp : qzH} : qzV d 125 10 [.ref x] (st) hp = qzV d 125 11 [.ref x] (.ref x :: st) hp := qv_aload (i := 0) mdc_125 dX3_areCuts_10 rfl rfl rfl
theorem eX3_areCuts_11 {d : Nat} {a0 : Value} {b : Nat} {st : List Value} {hp : qzH} (h8 : st.length ≤ 8) (hb : qzArr 3 b hp.1 = true) : qzV (d + 1) 125 11 [a0] (.ref b :: st) hp = (qzC d 124 (.ref b :: []) hp).bind (fun r => qzV (d + 1) 125 14 [a0] (r.1.toList ++ st) r.2) := qv_callv (n := 0) mdc_125 dX3_areCuts_11 mdo_125 (by decide) qfc_3_152 ⟨rfl, by decide, rfl⟩ rfl ⟨rfl, rfl, by simp only [List.length_cons]; omega⟩ h8 hb
theorem eX3_areCuts_14 {d : Nat} {x : Nat} {st : List Value} {hp : qzH} : qzV d 125 14 [.ref x] (st) hp = qzV d 125 15 [.ref x] (.ref x :: st) hp := qv_aload (i := 0) mdc_125 dX3_areCuts_14 rfl rfl rfl
theorem eX3_areCuts_15 {d : Nat} {a0 : Value} {a : Nat} {st : List Value} {hp : qzH} (ha : qzArr 3 a hp.1 = true) : qzV d 125 15 [a0] (.ref a :: st) hp = qzV d 125 18 [a0] (.int (hp.2.2 a 10) :: st) hp := qv_getI mdc_125 dX3_areCuts_15 mdo_125 qff_3_122 ⟨by decide, rfl⟩ rfl ha
theorem eX3_areCuts_18 {d : Nat} {a0 : Value} {x : Int32} {st : List Value} {hp : qzH} : qzV d 125 18 [a0] (.int x :: st) hp = if x = 0 then qzV d 125 39 [a0] (st) hp else qzV d 125 21 [a0] (st) hp := qv_if1 mdc_125 dX3_areCuts_18 rfl rfl rfl
theorem eX3_areCuts_21 {d : Nat} {x : Nat} {st : List Value} {hp : qzH} : qzV d 125 21 [.ref x] (st) hp = qzV d 125 22 [.ref x] (.ref x :: st) hp := qv_aload (i := 0) mdc_125 dX3_areCuts_21 rfl rfl rfl
theorem eX3_areCuts_22 {d : Nat} {a0 : Value} {a : Nat} {st : List Value} {hp : qzH} (ha : qzArr 3 a hp.1 = true) : qzV d 125 22 [a0] (.ref a :: st) hp = qzV d 125 25 [a0] (.int (hp.2.2 a 9) :: st) hp := qv_getI mdc_125 dX3_areCuts_22 mdo_125 qff_3_119 ⟨by decide, rfl⟩ rfl ha
theorem eX3_areCuts_25 {d : Nat} {x : Nat} {st : List Value} {hp : qzH} : qzV d 125 25 [.ref x] (st) hp = qzV d 125 26 [.ref x] (.ref x :: st) hp := qv_aload (i := 0) mdc_125 dX3_areCuts_25 rfl rfl rfl
theorem eX3_areCuts_26 {d : Nat} {a0 : Value} {a : Nat} {st : List Value} {hp : qzH} (ha : qzArr 3 a hp.1 = true) : qzV d 125 26 [a0] (.ref a :: st) hp = qzV d 125 29 [a0] (.int (hp.2.2 a 7) :: st) hp := qv_getI mdc_125 dX3_areCuts_26 mdo_125 qff_3_116 ⟨by decide, rfl⟩ rfl ha
theorem eX3_areCuts_29 {d : Nat} {a0 : Value} {x y : Int32} {st : List Value} {hp : qzH} : qzV d 125 29 [a0] (.int y :: .int x :: st) hp = if y ≤ x then qzV d 125 39 [a0] (st) hp else qzV d 125 32 [a0] (st) hp := qv_if2 mdc_125 dX3_areCuts_29 rfl rfl rfl
theorem eX3_areCuts_32 {d : Nat} {x : Nat} {st : List Value} {hp : qzH} : qzV d 125 32 [.ref x] (st) hp = qzV d 125 33 [.ref x] (.ref x :: st) hp := qv_aload (i := 0) mdc_125 dX3_areCuts_32 rfl rfl rfl
theorem eX3_areCuts_33 {d : Nat} {a0 : Value} {b : Nat} {st : List Value} {hp : qzH} (h8 : st.length ≤ 8) (hb : qzArr 3 b hp.1 = true) : qzV (d + 1) 125 33 [a0] (.ref b :: st) hp = (qzC d 124 (.ref b :: []) hp).bind (fun r => qzV (d + 1) 125 36 [a0] (r.1.toList ++ st) r.2) := qv_callv (n := 0) mdc_125 dX3_areCuts_33 mdo_125 (by decide) qfc_3_152 ⟨rfl, by decide, rfl⟩ rfl ⟨rfl, rfl, by simp only [List.length_cons]; omega⟩ h8 hb
theorem eX3_areCuts_36 {d : Nat} {a0 : Value} {st : List Value} {hp : qzH} : qzV d 125 36 [a0] (st) hp = qzV d 125 14 [a0] (st) hp := qv_goto mdc_125 dX3_areCuts_36 rfl
theorem eX3_areCuts_39 {d : Nat} {x : Nat} {st : List Value} {hp : qzH} : qzV d 125 39 [.ref x] (st) hp = qzV d 125 40 [.ref x] (.ref x :: st) hp := qv_aload (i := 0) mdc_125 dX3_areCuts_39 rfl rfl rfl
theorem eX3_areCuts_40 {d : Nat} {a0 : Value} {a : Nat} {st : List Value} {hp : qzH} (ha : qzArr 3 a hp.1 = true) : qzV d 125 40 [a0] (.ref a :: st) hp = qzV d 125 43 [a0] (.int (hp.2.2 a 10) :: st) hp := qv_getI mdc_125 dX3_areCuts_40 mdo_125 qff_3_122 ⟨by decide, rfl⟩ rfl ha
theorem eX3_areCuts_43 {d : Nat} {a0 : Value} {v : Int32} {hp : qzH} (hn : narrow .boolean (.int v) = .int v) : qzV d 125 43 [a0] [.int v] hp = some (some (.int v), hp) := qv_iret mdc_125 dX3_areCuts_43 mdr_125 hn
theorem dX3_fault_0 : decode cX3_fault 0 = .ok (.iload_n 1, 1) := by decide +kernel
theorem dX3_fault_1 : decode cX3_fault 1 = .ok (.iconst 0, 1) := by decide +kernel
theorem dX3_fault_2 : decode cX3_fault 2 = .ok (.iconst 1, 1) := by decide +kernel
theorem dX3_fault_3 : decode cX3_fault 3 = .ok (.invokestatic 62, 3) := by decide +kernel
theorem dX3_fault_6 : decode cX3_fault 6 = .ok (.ifCond .ne 5, 3) := by decide +kernel
theorem dX3_fault_9 : decode cX3_fault 9 = .ok (.iconst (-1), 1) := by decide +kernel
theorem dX3_fault_10 : decode cX3_fault 10 = .ok (.ireturn, 1) := by decide +kernel
theorem dX3_fault_11 : decode cX3_fault 11 = .ok (.iload_n 1, 1) := by decide +kernel
theorem dX3_fault_12 : decode cX3_fault 12 = .ok (.ifCond .ne 13, 3) := by decide +kernel
theorem dX3_fault_15 : decode cX3_fault 15 = .ok (.aload_n 0, 1) := by decide +kernel
theorem dX3_fault_16 : decode cX3_fault 16 = .ok (.invokevirtual 155, 3) := by decide +kernel
theorem dX3_fault_19 : decode cX3_fault 19 = .ok (.ifCond .eq 18, 3) := by decide +kernel
theorem dX3_fault_22 : decode cX3_fault 22 = .ok (.goto 10, 3) := by decide +kernel
theorem dX3_fault_25 : decode cX3_fault 25 = .ok (.aload_n 0, 1) := by decide +kernel
theorem dX3_fault_26 : decode cX3_fault 26 = .ok (.invokevirtual 158, 3) := by decide +kernel
theorem dX3_fault_29 : decode cX3_fault 29 = .ok (.ifCond .eq 8, 3) := by decide +kernel
theorem dX3_fault_32 : decode cX3_fault 32 = .ok (.bipush (-4), 2) := by decide +kernel
theorem dX3_fault_34 : decode cX3_fault 34 = .ok (.goto 7, 3) := by decide +kernel
theorem dX3_fault_37 : decode cX3_fault 37 = .ok (.aload_n 0, 1) := by decide +kernel
theorem dX3_fault_38 : decode cX3_fault 38 = .ok (.getfield 119, 3) := by decide +kernel
theorem dX3_fault_41 : decode cX3_fault 41 = .ok (.ireturn, 1) := by decide +kernel
theorem eX3_fault_0 {d : Nat} {a0 : Value} {x : Int32} {st : List Value} {hp : qzH} : qzV d 126 0 [a0, .int x] (st) hp = qzV d 126 1 [a0, .int x] (.int x :: st) hp := qv_iload (i := 1) mdc_126 dX3_fault_0 rfl rfl rfl
theorem eX3_fault_1 {d : Nat} {a0 a1 : Value} {st : List Value} {hp : qzH} : qzV d 126 1 [a0, a1] (st) hp = qzV d 126 2 [a0, a1] (.int 0 :: st) hp := qv_iconst mdc_126 dX3_fault_1 il_0 rfl
theorem eX3_fault_2 {d : Nat} {a0 a1 : Value} {st : List Value} {hp : qzH} : qzV d 126 2 [a0, a1] (st) hp = qzV d 126 3 [a0, a1] (.int 1 :: st) hp := qv_iconst mdc_126 dX3_fault_2 il_1 rfl
theorem eX3_fault_3 {d : Nat} {a0 a1 : Value} {w0 w1 w2 : Value} {st : List Value} {hp : qzH} (h8 : st.length ≤ 8) : qzV (d + 1) 126 3 [a0, a1] (w2 :: w1 :: w0 :: st) hp = (qzC d 87 [w0, w1, w2] hp).bind (fun r => qzV (d + 1) 126 6 [a0, a1] (r.1.toList ++ st) r.2) := qv_calls (n := 3) mdc_126 dX3_fault_3 mdo_126 (by decide) qfc_3_62 ⟨rfl, by decide, rfl⟩ rfl ⟨rfl, rfl, by simp only [List.length_cons]; omega⟩ h8
theorem eX3_fault_6 {d : Nat} {a0 a1 : Value} {x : Int32} {st : List Value} {hp : qzH} : qzV d 126 6 [a0, a1] (.int x :: st) hp = if ¬ x = 0 then qzV d 126 11 [a0, a1] (st) hp else qzV d 126 9 [a0, a1] (st) hp := qv_if1 mdc_126 dX3_fault_6 rfl rfl rfl
theorem eX3_fault_9 {d : Nat} {a0 a1 : Value} {st : List Value} {hp : qzH} : qzV d 126 9 [a0, a1] (st) hp = qzV d 126 10 [a0, a1] (.int (-1) :: st) hp := qv_iconst mdc_126 dX3_fault_9 il_m1 rfl
theorem eX3_fault_10 {d : Nat} {a0 a1 : Value} {v : Int32} {hp : qzH} : qzV d 126 10 [a0, a1] [.int v] hp = some (some (.int v), hp) := qv_iret mdc_126 dX3_fault_10 mdr_126 rfl
theorem eX3_fault_11 {d : Nat} {a0 : Value} {x : Int32} {st : List Value} {hp : qzH} : qzV d 126 11 [a0, .int x] (st) hp = qzV d 126 12 [a0, .int x] (.int x :: st) hp := qv_iload (i := 1) mdc_126 dX3_fault_11 rfl rfl rfl
theorem eX3_fault_12 {d : Nat} {a0 a1 : Value} {x : Int32} {st : List Value} {hp : qzH} : qzV d 126 12 [a0, a1] (.int x :: st) hp = if ¬ x = 0 then qzV d 126 25 [a0, a1] (st) hp else qzV d 126 15 [a0, a1] (st) hp := qv_if1 mdc_126 dX3_fault_12 rfl rfl rfl
theorem eX3_fault_15 {d : Nat} {a1 : Value} {x : Nat} {st : List Value} {hp : qzH} : qzV d 126 15 [.ref x, a1] (st) hp = qzV d 126 16 [.ref x, a1] (.ref x :: st) hp := qv_aload (i := 0) mdc_126 dX3_fault_15 rfl rfl rfl
theorem eX3_fault_16 {d : Nat} {a0 a1 : Value} {b : Nat} {st : List Value} {hp : qzH} (h8 : st.length ≤ 8) (hb : qzArr 3 b hp.1 = true) : qzV (d + 1) 126 16 [a0, a1] (.ref b :: st) hp = (qzC d 123 (.ref b :: []) hp).bind (fun r => qzV (d + 1) 126 19 [a0, a1] (r.1.toList ++ st) r.2) := qv_callv (n := 0) mdc_126 dX3_fault_16 mdo_126 (by decide) qfc_3_155 ⟨rfl, by decide, rfl⟩ rfl ⟨rfl, rfl, by simp only [List.length_cons]; omega⟩ h8 hb
theorem eX3_fault_19 {d : Nat} {a0 a1 : Value} {x : Int32} {st : List Value} {hp : qzH} : qzV d 126 19 [a0, a1] (.int x :: st) hp = if x = 0 then qzV d 126 37 [a0, a1] (st) hp else qzV d 126 22 [a0, a1] (st) hp := qv_if1 mdc_126 dX3_fault_19 rfl rfl rfl
theorem eX3_fault_22 {d : Nat} {a0 a1 : Value} {st : List Value} {hp : qzH} : qzV d 126 22 [a0, a1] (st) hp = qzV d 126 32 [a0, a1] (st) hp := qv_goto mdc_126 dX3_fault_22 rfl
theorem eX3_fault_25 {d : Nat} {a1 : Value} {x : Nat} {st : List Value} {hp : qzH} : qzV d 126 25 [.ref x, a1] (st) hp = qzV d 126 26 [.ref x, a1] (.ref x :: st) hp := qv_aload (i := 0) mdc_126 dX3_fault_25 rfl rfl rfl
theorem eX3_fault_26 {d : Nat} {a0 a1 : Value} {b : Nat} {st : List Value} {hp : qzH} (h8 : st.length ≤ 8) (hb : qzArr 3 b hp.1 = true) : qzV (d + 1) 126 26 [a0, a1] (.ref b :: st) hp = (qzC d 125 (.ref b :: []) hp).bind (fun r => qzV (d + 1) 126 29 [a0, a1] (r.1.toList ++ st) r.2) := qv_callv (n := 0) mdc_126 dX3_fault_26 mdo_126 (by decide) qfc_3_158 ⟨rfl, by decide, rfl⟩ rfl ⟨rfl, rfl, by simp only [List.length_cons]; omega⟩ h8 hb
theorem eX3_fault_29 {d : Nat} {a0 a1 : Value} {x : Int32} {st : List Value} {hp : qzH} : qzV d 126 29 [a0, a1] (.int x :: st) hp = if x = 0 then qzV d 126 37 [a0, a1] (st) hp else qzV d 126 32 [a0, a1] (st) hp := qv_if1 mdc_126 dX3_fault_29 rfl rfl rfl
theorem eX3_fault_32 {d : Nat} {a0 a1 : Value} {st : List Value} {hp : qzH} : qzV d 126 32 [a0, a1] (st) hp = qzV d 126 34 [a0, a1] (.int (-4) :: st) hp := qv_bipush mdc_126 dX3_fault_32 ib_m4 rfl
theorem eX3_fault_34 {d : Nat} {a0 a1 : Value} {st : List Value} {hp : qzH} : qzV d 126 34 [a0, a1] (st) hp = qzV d 126 41 [a0, a1] (st) hp := qv_goto mdc_126 dX3_fault_34 rfl
theorem eX3_fault_37 {d : Nat} {a1 : Value} {x : Nat} {st : List Value} {hp : qzH} : qzV d 126 37 [.ref x, a1] (st) hp = qzV d 126 38 [.ref x, a1] (.ref x :: st) hp := qv_aload (i := 0) mdc_126 dX3_fault_37 rfl rfl rfl
theorem eX3_fault_38 {d : Nat} {a0 a1 : Value} {a : Nat} {st : List Value} {hp : qzH} (ha : qzArr 3 a hp.1 = true) : qzV d 126 38 [a0, a1] (.ref a :: st) hp = qzV d 126 41 [a0, a1] (.int (hp.2.2 a 9) :: st) hp := qv_getI mdc_126 dX3_fault_38 mdo_126 qff_3_119 ⟨by decide, rfl⟩ rfl ha
theorem eX3_fault_41 {d : Nat} {a0 a1 : Value} {v : Int32} {hp : qzH} : qzV d 126 41 [a0, a1] [.int v] hp = some (some (.int v), hp) := qv_iret mdc_126 dX3_fault_41 mdr_126 rfl
theorem dX3_load_0 : decode cX3_load 0 = .ok (.aload_n 0, 1) := by decide +kernel
theorem dX3_load_1 : decode cX3_load 1 = .ok (.invokevirtual 155, 3) := by decide +kernel
theorem dX3_load_4 : decode cX3_load 4 = .ok (.ifCond .ne 6, 3) := by decide +kernel
theorem dX3_load_7 : decode cX3_load 7 = .ok (.bipush (-2), 2) := by decide +kernel
theorem dX3_load_9 : decode cX3_load 9 = .ok (.ireturn, 1) := by decide +kernel
theorem dX3_load_10 : decode cX3_load 10 = .ok (.aload_n 0, 1) := by decide +kernel
theorem dX3_load_11 : decode cX3_load 11 = .ok (.invokevirtual 103, 3) := by decide +kernel
theorem dX3_load_14 : decode cX3_load 14 = .ok (.aload_n 0, 1) := by decide +kernel
theorem dX3_load_15 : decode cX3_load 15 = .ok (.getfield 7, 3) := by decide +kernel
theorem dX3_load_18 : decode cX3_load 18 = .ok (.iconst 0, 1) := by decide +kernel
theorem dX3_load_19 : decode cX3_load 19 = .ok (.aload_n 0, 1) := by decide +kernel
theorem dX3_load_20 : decode cX3_load 20 = .ok (.getfield 136, 3) := by decide +kernel
theorem dX3_load_23 : decode cX3_load 23 = .ok (.iastore, 1) := by decide +kernel
theorem dX3_load_24 : decode cX3_load 24 = .ok (.iconst 0, 1) := by decide +kernel
theorem dX3_load_25 : decode cX3_load 25 = .ok (.istore_n 1, 1) := by decide +kernel
theorem dX3_load_26 : decode cX3_load 26 = .ok (.iload_n 1, 1) := by decide +kernel
theorem dX3_load_27 : decode cX3_load 27 = .ok (.bipush 20, 2) := by decide +kernel
theorem dX3_load_29 : decode cX3_load 29 = .ok (.if_icmp .ge 49, 3) := by decide +kernel
theorem dX3_load_32 : decode cX3_load 32 = .ok (.aload_n 0, 1) := by decide +kernel
theorem dX3_load_33 : decode cX3_load 33 = .ok (.getfield 7, 3) := by decide +kernel
theorem dX3_load_36 : decode cX3_load 36 = .ok (.bipush 8, 2) := by decide +kernel
theorem dX3_load_38 : decode cX3_load 38 = .ok (.iload_n 1, 1) := by decide +kernel
theorem dX3_load_39 : decode cX3_load 39 = .ok (.iadd, 1) := by decide +kernel
theorem dX3_load_40 : decode cX3_load 40 = .ok (.iload_n 1, 1) := by decide +kernel
theorem dX3_load_41 : decode cX3_load 41 = .ok (.aload_n 0, 1) := by decide +kernel
theorem dX3_load_42 : decode cX3_load 42 = .ok (.getfield 136, 3) := by decide +kernel
theorem dX3_load_45 : decode cX3_load 45 = .ok (.if_icmp .ge 25, 3) := by decide +kernel
theorem dX3_load_48 : decode cX3_load 48 = .ok (.aload_n 0, 1) := by decide +kernel
theorem dX3_load_49 : decode cX3_load 49 = .ok (.getfield 22, 3) := by decide +kernel
theorem dX3_load_52 : decode cX3_load 52 = .ok (.iload_n 1, 1) := by decide +kernel
theorem dX3_load_53 : decode cX3_load 53 = .ok (.aload_n 0, 1) := by decide +kernel
theorem dX3_load_54 : decode cX3_load 54 = .ok (.getfield 142, 3) := by decide +kernel
theorem dX3_load_57 : decode cX3_load 57 = .ok (.iadd, 1) := by decide +kernel
theorem dX3_load_58 : decode cX3_load 58 = .ok (.aload_n 0, 1) := by decide +kernel
theorem dX3_load_59 : decode cX3_load 59 = .ok (.getfield 139, 3) := by decide +kernel
theorem dX3_load_62 : decode cX3_load 62 = .ok (.irem, 1) := by decide +kernel
theorem dX3_load_63 : decode cX3_load 63 = .ok (.iaload, 1) := by decide +kernel
theorem dX3_load_64 : decode cX3_load 64 = .ok (.bipush 97, 2) := by decide +kernel
theorem dX3_load_66 : decode cX3_load 66 = .ok (.isub, 1) := by decide +kernel
theorem dX3_load_67 : decode cX3_load 67 = .ok (.goto 4, 3) := by decide +kernel
theorem dX3_load_70 : decode cX3_load 70 = .ok (.iconst 0, 1) := by decide +kernel
theorem dX3_load_71 : decode cX3_load 71 = .ok (.iastore, 1) := by decide +kernel
theorem dX3_load_72 : decode cX3_load 72 = .ok (.iinc 1 1, 3) := by decide +kernel
theorem dX3_load_75 : decode cX3_load 75 = .ok (.goto (-49), 3) := by decide +kernel
theorem dX3_load_78 : decode cX3_load 78 = .ok (.aload_n 0, 1) := by decide +kernel
theorem dX3_load_79 : decode cX3_load 79 = .ok (.invokevirtual 28, 3) := by decide +kernel
theorem dX3_load_82 : decode cX3_load 82 = .ok (.aload_n 0, 1) := by decide +kernel
theorem dX3_load_83 : decode cX3_load 83 = .ok (.iconst 0, 1) := by decide +kernel
theorem dX3_load_84 : decode cX3_load 84 = .ok (.putfield 116, 3) := by decide +kernel
theorem dX3_load_87 : decode cX3_load 87 = .ok (.aload_n 0, 1) := by decide +kernel
theorem dX3_load_88 : decode cX3_load 88 = .ok (.getfield 7, 3) := by decide +kernel
theorem dX3_load_91 : decode cX3_load 91 = .ok (.iconst 0, 1) := by decide +kernel
theorem dX3_load_92 : decode cX3_load 92 = .ok (.iaload, 1) := by decide +kernel
theorem dX3_load_93 : decode cX3_load 93 = .ok (.ireturn, 1) := by decide +kernel
theorem eX3_load_0 {d : Nat} {a1 : Value} {x : Nat} {st : List Value} {hp : qzH} : qzV d 127 0 [.ref x, a1] (st) hp = qzV d 127 1 [.ref x, a1] (.ref x :: st) hp := qv_aload (i := 0) mdc_127 dX3_load_0 rfl rfl rfl
theorem eX3_load_1 {d : Nat} {a0 a1 : Value} {b : Nat} {st : List Value} {hp : qzH} (h8 : st.length ≤ 8) (hb : qzArr 3 b hp.1 = true) : qzV (d + 1) 127 1 [a0, a1] (.ref b :: st) hp = (qzC d 123 (.ref b :: []) hp).bind (fun r => qzV (d + 1) 127 4 [a0, a1] (r.1.toList ++ st) r.2) := qv_callv (n := 0) mdc_127 dX3_load_1 mdo_127 (by decide) qfc_3_155 ⟨rfl, by decide, rfl⟩ rfl ⟨rfl, rfl, by simp only [List.length_cons]; omega⟩ h8 hb
theorem eX3_load_4 {d : Nat} {a0 a1 : Value} {x : Int32} {st : List Value} {hp : qzH} : qzV d 127 4 [a0, a1] (.int x :: st) hp = if ¬ x = 0 then qzV d 127 10 [a0, a1] (st) hp else qzV d 127 7 [a0, a1] (st) hp := qv_if1 mdc_127 dX3_load_4 rfl rfl rfl
theorem eX3_load_7 {d : Nat} {a0 a1 : Value} {st : List Value} {hp : qzH} : qzV d 127 7 [a0, a1] (st) hp = qzV d 127 9 [a0, a1] (.int (-2) :: st) hp := qv_bipush mdc_127 dX3_load_7 ib_m2 rfl
theorem eX3_load_9 {d : Nat} {a0 a1 : Value} {v : Int32} {hp : qzH} : qzV d 127 9 [a0, a1] [.int v] hp = some (some (.int v), hp) := qv_iret mdc_127 dX3_load_9 mdr_127 rfl
theorem eX3_load_10 {d : Nat} {a1 : Value} {x : Nat} {st : List Value} {hp : qzH} : qzV d 127 10 [.ref x, a1] (st) hp = qzV d 127 11 [.ref x, a1] (.ref x :: st) hp := qv_aload (i := 0) mdc_127 dX3_load_10 rfl rfl rfl
theorem eX3_load_11 {d : Nat} {a0 a1 : Value} {b : Nat} {st : List Value} {hp : qzH} (h8 : st.length ≤ 8) (hb : qzArr 3 b hp.1 = true) : qzV (d + 1) 127 11 [a0, a1] (.ref b :: st) hp = (qzC d 89 (.ref b :: []) hp).bind (fun r => qzV (d + 1) 127 14 [a0, a1] (r.1.toList ++ st) r.2) := qv_callv (n := 0) mdc_127 dX3_load_11 mdo_127 (by decide) qfc_3_103 ⟨rfl, by decide, rfl⟩ rfl ⟨rfl, rfl, by simp only [List.length_cons]; omega⟩ h8 hb
theorem eX3_load_14 {d : Nat} {a1 : Value} {x : Nat} {st : List Value} {hp : qzH} : qzV d 127 14 [.ref x, a1] (st) hp = qzV d 127 15 [.ref x, a1] (.ref x :: st) hp := qv_aload (i := 0) mdc_127 dX3_load_14 rfl rfl rfl
theorem eX3_load_15 {d : Nat} {a0 a1 : Value} {a : Nat} {st : List Value} {hp : qzH} (ha : qzArr 3 a hp.1 = true) : qzV d 127 15 [a0, a1] (.ref a :: st) hp = qzV d 127 18 [a0, a1] (va_rf (hp.2.1 a 0) :: st) hp := qv_getR mdc_127 dX3_load_15 mdo_127 qff_3_7 ⟨by decide, rfl⟩ rfl ha
theorem eX3_load_18 {d : Nat} {a0 a1 : Value} {st : List Value} {hp : qzH} : qzV d 127 18 [a0, a1] (st) hp = qzV d 127 19 [a0, a1] (.int 0 :: st) hp := qv_iconst mdc_127 dX3_load_18 il_0 rfl
theorem eX3_load_19 {d : Nat} {a1 : Value} {x : Nat} {st : List Value} {hp : qzH} : qzV d 127 19 [.ref x, a1] (st) hp = qzV d 127 20 [.ref x, a1] (.ref x :: st) hp := qv_aload (i := 0) mdc_127 dX3_load_19 rfl rfl rfl
theorem eX3_load_20 {d : Nat} {a0 a1 : Value} {a : Nat} {st : List Value} {hp : qzH} (ha : qzArr 3 a hp.1 = true) : qzV d 127 20 [a0, a1] (.ref a :: st) hp = qzV d 127 23 [a0, a1] (.int (hp.2.2 a 12) :: st) hp := qv_getI mdc_127 dX3_load_20 mdo_127 qff_3_136 ⟨by decide, rfl⟩ rfl ha
theorem eX3_load_23 {d : Nat} {a0 a1 : Value} {i x : Int32} {a : Nat} {st : List Value} {hp : qzH} (ha : qzArr 4 a hp.1 = true) (hi : qzIn i (qzk a).2 = true) : qzV d 127 23 [a0, a1] (.int x :: .int i :: .ref a :: st) hp = qzV d 127 24 [a0, a1] st (hp.1, hp.2.1, qzUp hp.2.2 a i.toNatClampNeg x) := qv_iast mdc_127 dX3_load_23 rfl ha hi
theorem eX3_load_24 {d : Nat} {a0 a1 : Value} {st : List Value} {hp : qzH} : qzV d 127 24 [a0, a1] (st) hp = qzV d 127 25 [a0, a1] (.int 0 :: st) hp := qv_iconst mdc_127 dX3_load_24 il_0 rfl
theorem eX3_load_25 {d : Nat} {a0 a1 : Value} {x : Int32} {st : List Value} {hp : qzH} : qzV d 127 25 [a0, a1] (.int x :: st) hp = qzV d 127 26 [a0, .int x] (st) hp := qv_istore (i := 1) mdc_127 dX3_load_25 rfl (Nat.le_of_ble_eq_true rfl) rfl rfl
theorem eX3_load_26 {d : Nat} {a0 : Value} {x : Int32} {st : List Value} {hp : qzH} : qzV d 127 26 [a0, .int x] (st) hp = qzV d 127 27 [a0, .int x] (.int x :: st) hp := qv_iload (i := 1) mdc_127 dX3_load_26 rfl rfl rfl
theorem eX3_load_27 {d : Nat} {a0 a1 : Value} {st : List Value} {hp : qzH} : qzV d 127 27 [a0, a1] (st) hp = qzV d 127 29 [a0, a1] (.int 20 :: st) hp := qv_bipush mdc_127 dX3_load_27 ib_20 rfl
theorem eX3_load_29 {d : Nat} {a0 a1 : Value} {x y : Int32} {st : List Value} {hp : qzH} : qzV d 127 29 [a0, a1] (.int y :: .int x :: st) hp = if y ≤ x then qzV d 127 78 [a0, a1] (st) hp else qzV d 127 32 [a0, a1] (st) hp := qv_if2 mdc_127 dX3_load_29 rfl rfl rfl
theorem eX3_load_32 {d : Nat} {a1 : Value} {x : Nat} {st : List Value} {hp : qzH} : qzV d 127 32 [.ref x, a1] (st) hp = qzV d 127 33 [.ref x, a1] (.ref x :: st) hp := qv_aload (i := 0) mdc_127 dX3_load_32 rfl rfl rfl
theorem eX3_load_33 {d : Nat} {a0 a1 : Value} {a : Nat} {st : List Value} {hp : qzH} (ha : qzArr 3 a hp.1 = true) : qzV d 127 33 [a0, a1] (.ref a :: st) hp = qzV d 127 36 [a0, a1] (va_rf (hp.2.1 a 0) :: st) hp := qv_getR mdc_127 dX3_load_33 mdo_127 qff_3_7 ⟨by decide, rfl⟩ rfl ha
theorem eX3_load_36 {d : Nat} {a0 a1 : Value} {st : List Value} {hp : qzH} : qzV d 127 36 [a0, a1] (st) hp = qzV d 127 38 [a0, a1] (.int 8 :: st) hp := qv_bipush mdc_127 dX3_load_36 ib_8 rfl
theorem eX3_load_38 {d : Nat} {a0 : Value} {x : Int32} {st : List Value} {hp : qzH} : qzV d 127 38 [a0, .int x] (st) hp = qzV d 127 39 [a0, .int x] (.int x :: st) hp := qv_iload (i := 1) mdc_127 dX3_load_38 rfl rfl rfl
theorem eX3_load_39 {d : Nat} {a0 a1 : Value} {x y : Int32} {st : List Value} {hp : qzH} : qzV d 127 39 [a0, a1] (.int y :: .int x :: st) hp = qzV d 127 40 [a0, a1] (.int (x + y) :: st) hp := qv_bin (f := fun x y => x + y) mdc_127 dX3_load_39 rfl rfl
theorem eX3_load_40 {d : Nat} {a0 : Value} {x : Int32} {st : List Value} {hp : qzH} : qzV d 127 40 [a0, .int x] (st) hp = qzV d 127 41 [a0, .int x] (.int x :: st) hp := qv_iload (i := 1) mdc_127 dX3_load_40 rfl rfl rfl
theorem eX3_load_41 {d : Nat} {a1 : Value} {x : Nat} {st : List Value} {hp : qzH} : qzV d 127 41 [.ref x, a1] (st) hp = qzV d 127 42 [.ref x, a1] (.ref x :: st) hp := qv_aload (i := 0) mdc_127 dX3_load_41 rfl rfl rfl
theorem eX3_load_42 {d : Nat} {a0 a1 : Value} {a : Nat} {st : List Value} {hp : qzH} (ha : qzArr 3 a hp.1 = true) : qzV d 127 42 [a0, a1] (.ref a :: st) hp = qzV d 127 45 [a0, a1] (.int (hp.2.2 a 12) :: st) hp := qv_getI mdc_127 dX3_load_42 mdo_127 qff_3_136 ⟨by decide, rfl⟩ rfl ha
theorem eX3_load_45 {d : Nat} {a0 a1 : Value} {x y : Int32} {st : List Value} {hp : qzH} : qzV d 127 45 [a0, a1] (.int y :: .int x :: st) hp = if y ≤ x then qzV d 127 70 [a0, a1] (st) hp else qzV d 127 48 [a0, a1] (st) hp := qv_if2 mdc_127 dX3_load_45 rfl rfl rfl
theorem eX3_load_48 {d : Nat} {a1 : Value} {x : Nat} {st : List Value} {hp : qzH} : qzV d 127 48 [.ref x, a1] (st) hp = qzV d 127 49 [.ref x, a1] (.ref x :: st) hp := qv_aload (i := 0) mdc_127 dX3_load_48 rfl rfl rfl
theorem eX3_load_49 {d : Nat} {a0 a1 : Value} {a : Nat} {st : List Value} {hp : qzH} (ha : qzArr 3 a hp.1 = true) : qzV d 127 49 [a0, a1] (.ref a :: st) hp = qzV d 127 52 [a0, a1] (va_rf (hp.2.1 a 6) :: st) hp := qv_getR mdc_127 dX3_load_49 mdo_127 qff_3_22 ⟨by decide, rfl⟩ rfl ha
theorem eX3_load_52 {d : Nat} {a0 : Value} {x : Int32} {st : List Value} {hp : qzH} : qzV d 127 52 [a0, .int x] (st) hp = qzV d 127 53 [a0, .int x] (.int x :: st) hp := qv_iload (i := 1) mdc_127 dX3_load_52 rfl rfl rfl
theorem eX3_load_53 {d : Nat} {a1 : Value} {x : Nat} {st : List Value} {hp : qzH} : qzV d 127 53 [.ref x, a1] (st) hp = qzV d 127 54 [.ref x, a1] (.ref x :: st) hp := qv_aload (i := 0) mdc_127 dX3_load_53 rfl rfl rfl
theorem eX3_load_54 {d : Nat} {a0 a1 : Value} {a : Nat} {st : List Value} {hp : qzH} (ha : qzArr 3 a hp.1 = true) : qzV d 127 54 [a0, a1] (.ref a :: st) hp = qzV d 127 57 [a0, a1] (.int (hp.2.2 a 13) :: st) hp := qv_getI mdc_127 dX3_load_54 mdo_127 qff_3_142 ⟨by decide, rfl⟩ rfl ha
theorem eX3_load_57 {d : Nat} {a0 a1 : Value} {x y : Int32} {st : List Value} {hp : qzH} : qzV d 127 57 [a0, a1] (.int y :: .int x :: st) hp = qzV d 127 58 [a0, a1] (.int (x + y) :: st) hp := qv_bin (f := fun x y => x + y) mdc_127 dX3_load_57 rfl rfl
theorem eX3_load_58 {d : Nat} {a1 : Value} {x : Nat} {st : List Value} {hp : qzH} : qzV d 127 58 [.ref x, a1] (st) hp = qzV d 127 59 [.ref x, a1] (.ref x :: st) hp := qv_aload (i := 0) mdc_127 dX3_load_58 rfl rfl rfl
theorem eX3_load_59 {d : Nat} {a0 a1 : Value} {a : Nat} {st : List Value} {hp : qzH} (ha : qzArr 3 a hp.1 = true) : qzV d 127 59 [a0, a1] (.ref a :: st) hp = qzV d 127 62 [a0, a1] (.int (hp.2.2 a 11) :: st) hp := qv_getI mdc_127 dX3_load_59 mdo_127 qff_3_139 ⟨by decide, rfl⟩ rfl ha
theorem eX3_load_62 {d : Nat} {a0 a1 : Value} {x y : Int32} {st : List Value} {hp : qzH} (hy : ¬ y = 0) : qzV d 127 62 [a0, a1] (.int y :: .int x :: st) hp = qzV d 127 63 [a0, a1] (.int (x - x / y * y) :: st) hp := qv_binD (f := fun x y => x - x / y * y) mdc_127 dX3_load_62 rfl rfl hy
theorem eX3_load_63 {d : Nat} {a0 a1 : Value} {i : Int32} {a : Nat} {st : List Value} {hp : qzH} (ha : qzArr 4 a hp.1 = true) (hi : qzIn i (qzk a).2 = true) : qzV d 127 63 [a0, a1] (.int i :: .ref a :: st) hp = qzV d 127 64 [a0, a1] (.int (hp.2.2 a i.toNatClampNeg) :: st) hp := qv_iald mdc_127 dX3_load_63 rfl ha hi
theorem eX3_load_64 {d : Nat} {a0 a1 : Value} {st : List Value} {hp : qzH} : qzV d 127 64 [a0, a1] (st) hp = qzV d 127 66 [a0, a1] (.int 97 :: st) hp := qv_bipush mdc_127 dX3_load_64 ib_97 rfl
theorem eX3_load_66 {d : Nat} {a0 a1 : Value} {x y : Int32} {st : List Value} {hp : qzH} : qzV d 127 66 [a0, a1] (.int y :: .int x :: st) hp = qzV d 127 67 [a0, a1] (.int (x - y) :: st) hp := qv_bin (f := fun x y => x - y) mdc_127 dX3_load_66 rfl rfl
theorem eX3_load_67 {d : Nat} {a0 a1 : Value} {st : List Value} {hp : qzH} : qzV d 127 67 [a0, a1] (st) hp = qzV d 127 71 [a0, a1] (st) hp := qv_goto mdc_127 dX3_load_67 rfl
theorem eX3_load_70 {d : Nat} {a0 a1 : Value} {st : List Value} {hp : qzH} : qzV d 127 70 [a0, a1] (st) hp = qzV d 127 71 [a0, a1] (.int 0 :: st) hp := qv_iconst mdc_127 dX3_load_70 il_0 rfl
theorem eX3_load_71 {d : Nat} {a0 a1 : Value} {i x : Int32} {a : Nat} {st : List Value} {hp : qzH} (ha : qzArr 4 a hp.1 = true) (hi : qzIn i (qzk a).2 = true) : qzV d 127 71 [a0, a1] (.int x :: .int i :: .ref a :: st) hp = qzV d 127 72 [a0, a1] st (hp.1, hp.2.1, qzUp hp.2.2 a i.toNatClampNeg x) := qv_iast mdc_127 dX3_load_71 rfl ha hi
theorem eX3_load_72 {d : Nat} {a0 : Value} {x : Int32} {st : List Value} {hp : qzH} : qzV d 127 72 [a0, .int x] (st) hp = qzV d 127 75 [a0, .int (x + 1)] (st) hp := qv_iinc mdc_127 dX3_load_72 rfl il_1 rfl rfl
theorem eX3_load_75 {d : Nat} {a0 a1 : Value} {st : List Value} {hp : qzH} : qzV d 127 75 [a0, a1] (st) hp = qzV d 127 26 [a0, a1] (st) hp := qv_goto mdc_127 dX3_load_75 rfl
theorem eX3_load_78 {d : Nat} {a1 : Value} {x : Nat} {st : List Value} {hp : qzH} : qzV d 127 78 [.ref x, a1] (st) hp = qzV d 127 79 [.ref x, a1] (.ref x :: st) hp := qv_aload (i := 0) mdc_127 dX3_load_78 rfl rfl rfl
theorem eX3_load_79 {d : Nat} {a0 a1 : Value} {b : Nat} {st : List Value} {hp : qzH} (h8 : st.length ≤ 8) (hb : qzArr 3 b hp.1 = true) : qzV (d + 1) 127 79 [a0, a1] (.ref b :: st) hp = (qzC d 90 (.ref b :: []) hp).bind (fun r => qzV (d + 1) 127 82 [a0, a1] (r.1.toList ++ st) r.2) := qv_callv (n := 0) mdc_127 dX3_load_79 mdo_127 (by decide) qfc_3_28 ⟨rfl, by decide, rfl⟩ rfl ⟨rfl, rfl, by simp only [List.length_cons]; omega⟩ h8 hb
theorem eX3_load_82 {d : Nat} {a1 : Value} {x : Nat} {st : List Value} {hp : qzH} : qzV d 127 82 [.ref x, a1] (st) hp = qzV d 127 83 [.ref x, a1] (.ref x :: st) hp := qv_aload (i := 0) mdc_127 dX3_load_82 rfl rfl rfl
theorem eX3_load_83 {d : Nat} {a0 a1 : Value} {st : List Value} {hp : qzH} : qzV d 127 83 [a0, a1] (st) hp = qzV d 127 84 [a0, a1] (.int 0 :: st) hp := qv_iconst mdc_127 dX3_load_83 il_0 rfl
theorem eX3_load_84 {d : Nat} {a0 a1 : Value} {a : Nat} {x : Int32} {st : List Value} {hp : qzH} (ha : qzArr 3 a hp.1 = true) : qzV d 127 84 [a0, a1] (.int x :: .ref a :: st) hp = qzV d 127 87 [a0, a1] st (hp.1, hp.2.1, qzUp hp.2.2 a 7 x) := qv_putI mdc_127 dX3_load_84 mdo_127 qff_3_116 ⟨by decide, rfl, rfl⟩ rfl ha ⟨rfl, rfl⟩
theorem eX3_load_87 {d : Nat} {a1 : Value} {x : Nat} {st : List Value} {hp : qzH} : qzV d 127 87 [.ref x, a1] (st) hp = qzV d 127 88 [.ref x, a1] (.ref x :: st) hp := qv_aload (i := 0) mdc_127 dX3_load_87 rfl rfl rfl
theorem eX3_load_88 {d : Nat} {a0 a1 : Value} {a : Nat} {st : List Value} {hp : qzH} (ha : qzArr 3 a hp.1 = true) : qzV d 127 88 [a0, a1] (.ref a :: st) hp = qzV d 127 91 [a0, a1] (va_rf (hp.2.1 a 0) :: st) hp := qv_getR mdc_127 dX3_load_88 mdo_127 qff_3_7 ⟨by decide, rfl⟩ rfl ha
theorem eX3_load_91 {d : Nat} {a0 a1 : Value} {st : List Value} {hp : qzH} : qzV d 127 91 [a0, a1] (st) hp = qzV d 127 92 [a0, a1] (.int 0 :: st) hp := qv_iconst mdc_127 dX3_load_91 il_0 rfl
theorem eX3_load_92 {d : Nat} {a0 a1 : Value} {i : Int32} {a : Nat} {st : List Value} {hp : qzH} (ha : qzArr 4 a hp.1 = true) (hi : qzIn i (qzk a).2 = true) : qzV d 127 92 [a0, a1] (.int i :: .ref a :: st) hp = qzV d 127 93 [a0, a1] (.int (hp.2.2 a i.toNatClampNeg) :: st) hp := qv_iald mdc_127 dX3_load_92 rfl ha hi
theorem eX3_load_93 {d : Nat} {a0 a1 : Value} {v : Int32} {hp : qzH} : qzV d 127 93 [a0, a1] [.int v] hp = some (some (.int v), hp) := qv_iret mdc_127 dX3_load_93 mdr_127 rfl
theorem dX3_makes_0 : decode cX3_makes 0 = .ok (.aload_n 0, 1) := by decide +kernel
theorem dX3_makes_1 : decode cX3_makes 1 = .ok (.getfield 22, 3) := by decide +kernel
theorem dX3_makes_4 : decode cX3_makes 4 = .ok (.iload_n 1, 1) := by decide +kernel
theorem dX3_makes_5 : decode cX3_makes 5 = .ok (.iaload, 1) := by decide +kernel
theorem dX3_makes_6 : decode cX3_makes 6 = .ok (.istore_n 2, 1) := by decide +kernel
theorem dX3_makes_7 : decode cX3_makes 7 = .ok (.iload_n 2, 1) := by decide +kernel
theorem dX3_makes_8 : decode cX3_makes 8 = .ok (.bipush 98, 2) := by decide +kernel
theorem dX3_makes_10 : decode cX3_makes 10 = .ok (.if_icmp .eq 9, 3) := by decide +kernel
theorem dX3_makes_13 : decode cX3_makes 13 = .ok (.iload_n 2, 1) := by decide +kernel
theorem dX3_makes_14 : decode cX3_makes 14 = .ok (.bipush 103, 2) := by decide +kernel
theorem dX3_makes_16 : decode cX3_makes 16 = .ok (.if_icmp .ne 43, 3) := by decide +kernel
theorem dX3_makes_19 : decode cX3_makes 19 = .ok (.aload_n 0, 1) := by decide +kernel
theorem dX3_makes_20 : decode cX3_makes 20 = .ok (.invokevirtual 106, 3) := by decide +kernel
theorem dX3_makes_23 : decode cX3_makes 23 = .ok (.ifCond .ne 7, 3) := by decide +kernel
theorem dX3_makes_26 : decode cX3_makes 26 = .ok (.iconst 1, 1) := by decide +kernel
theorem dX3_makes_27 : decode cX3_makes 27 = .ok (.goto 4, 3) := by decide +kernel
theorem dX3_makes_30 : decode cX3_makes 30 = .ok (.iconst 0, 1) := by decide +kernel
theorem dX3_makes_31 : decode cX3_makes 31 = .ok (.istore_n 3, 1) := by decide +kernel
theorem dX3_makes_32 : decode cX3_makes 32 = .ok (.iload_n 3, 1) := by decide +kernel
theorem dX3_makes_33 : decode cX3_makes 33 = .ok (.ifCond .eq 21, 3) := by decide +kernel
theorem dX3_makes_36 : decode cX3_makes 36 = .ok (.aload_n 0, 1) := by decide +kernel
theorem dX3_makes_37 : decode cX3_makes 37 = .ok (.iload_n 2, 1) := by decide +kernel
theorem dX3_makes_38 : decode cX3_makes 38 = .ok (.bipush 103, 2) := by decide +kernel
theorem dX3_makes_40 : decode cX3_makes 40 = .ok (.if_icmp .ne 7, 3) := by decide +kernel
theorem dX3_makes_43 : decode cX3_makes 43 = .ok (.iconst 1, 1) := by decide +kernel
theorem dX3_makes_44 : decode cX3_makes 44 = .ok (.goto 4, 3) := by decide +kernel
theorem dX3_makes_47 : decode cX3_makes 47 = .ok (.iconst 0, 1) := by decide +kernel
theorem dX3_makes_48 : decode cX3_makes 48 = .ok (.invokevirtual 113, 3) := by decide +kernel
theorem dX3_makes_51 : decode cX3_makes 51 = .ok (.goto 4, 3) := by decide +kernel
theorem dX3_makes_54 : decode cX3_makes 54 = .ok (.iconst 0, 1) := by decide +kernel
theorem dX3_makes_55 : decode cX3_makes 55 = .ok (.istore 4, 2) := by decide +kernel
theorem dX3_makes_57 : decode cX3_makes 57 = .ok (.iload_n 3, 1) := by decide +kernel
theorem dX3_makes_58 : decode cX3_makes 58 = .ok (.ireturn, 1) := by decide +kernel
theorem dX3_makes_59 : decode cX3_makes 59 = .ok (.aload_n 0, 1) := by decide +kernel
theorem dX3_makes_60 : decode cX3_makes 60 = .ok (.getfield 22, 3) := by decide +kernel
theorem dX3_makes_63 : decode cX3_makes 63 = .ok (.iload_n 1, 1) := by decide +kernel
theorem dX3_makes_64 : decode cX3_makes 64 = .ok (.iconst 1, 1) := by decide +kernel
theorem dX3_makes_65 : decode cX3_makes 65 = .ok (.iadd, 1) := by decide +kernel
theorem dX3_makes_66 : decode cX3_makes 66 = .ok (.iaload, 1) := by decide +kernel
theorem dX3_makes_67 : decode cX3_makes 67 = .ok (.bipush 48, 2) := by decide +kernel
theorem dX3_makes_69 : decode cX3_makes 69 = .ok (.isub, 1) := by decide +kernel
theorem dX3_makes_70 : decode cX3_makes 70 = .ok (.istore_n 3, 1) := by decide +kernel
theorem dX3_makes_71 : decode cX3_makes 71 = .ok (.aload_n 0, 1) := by decide +kernel
theorem dX3_makes_72 : decode cX3_makes 72 = .ok (.iload_n 3, 1) := by decide +kernel
theorem dX3_makes_73 : decode cX3_makes 73 = .ok (.invokevirtual 100, 3) := by decide +kernel
theorem dX3_makes_76 : decode cX3_makes 76 = .ok (.ifCond .ne 7, 3) := by decide +kernel
theorem dX3_makes_79 : decode cX3_makes 79 = .ok (.iconst 1, 1) := by decide +kernel
theorem dX3_makes_80 : decode cX3_makes 80 = .ok (.goto 4, 3) := by decide +kernel
theorem dX3_makes_83 : decode cX3_makes 83 = .ok (.iconst 0, 1) := by decide +kernel
theorem dX3_makes_84 : decode cX3_makes 84 = .ok (.istore 4, 2) := by decide +kernel
theorem dX3_makes_86 : decode cX3_makes 86 = .ok (.iload 4, 2) := by decide +kernel
theorem dX3_makes_88 : decode cX3_makes 88 = .ok (.ifCond .eq 22, 3) := by decide +kernel
theorem dX3_makes_91 : decode cX3_makes 91 = .ok (.aload_n 0, 1) := by decide +kernel
theorem dX3_makes_92 : decode cX3_makes 92 = .ok (.iload_n 3, 1) := by decide +kernel
theorem dX3_makes_93 : decode cX3_makes 93 = .ok (.iload_n 2, 1) := by decide +kernel
theorem dX3_makes_94 : decode cX3_makes 94 = .ok (.bipush 108, 2) := by decide +kernel
theorem dX3_makes_96 : decode cX3_makes 96 = .ok (.if_icmp .ne 7, 3) := by decide +kernel
theorem dX3_makes_99 : decode cX3_makes 99 = .ok (.iconst 1, 1) := by decide +kernel
theorem dX3_makes_100 : decode cX3_makes 100 = .ok (.goto 4, 3) := by decide +kernel
theorem dX3_makes_103 : decode cX3_makes 103 = .ok (.iconst 0, 1) := by decide +kernel
theorem dX3_makes_104 : decode cX3_makes 104 = .ok (.invokevirtual 96, 3) := by decide +kernel
theorem dX3_makes_107 : decode cX3_makes 107 = .ok (.goto 4, 3) := by decide +kernel
theorem dX3_makes_110 : decode cX3_makes 110 = .ok (.iconst 0, 1) := by decide +kernel
theorem dX3_makes_111 : decode cX3_makes 111 = .ok (.istore 5, 2) := by decide +kernel
theorem dX3_makes_113 : decode cX3_makes 113 = .ok (.iload 4, 2) := by decide +kernel
theorem dX3_makes_115 : decode cX3_makes 115 = .ok (.ireturn, 1) := by decide +kernel
theorem eX3_makes_0 {d : Nat} {a1 a2 a3 a4 a5 : Value} {x : Nat} {st : List Value} {hp : qzH} : qzV d 128 0 [.ref x, a1, a2, a3, a4, a5] (st) hp = qzV d 128 1 [.ref x, a1, a2, a3, a4, a5] (.ref x :: st) hp := qv_aload (i := 0) mdc_128 dX3_makes_0 rfl rfl rfl
theorem eX3_makes_1 {d : Nat} {a0 a1 a2 a3 a4 a5 : Value} {a : Nat} {st : List Value} {hp : qzH} (ha : qzArr 3 a hp.1 = true) : qzV d 128 1 [a0, a1, a2, a3, a4, a5] (.ref a :: st) hp = qzV d 128 4 [a0, a1, a2, a3, a4, a5] (va_rf (hp.2.1 a 6) :: st) hp := qv_getR mdc_128 dX3_makes_1 mdo_128 qff_3_22 ⟨by decide, rfl⟩ rfl ha
theorem eX3_makes_4 {d : Nat} {a0 a2 a3 a4 a5 : Value} {x : Int32} {st : List Value} {hp : qzH} : qzV d 128 4 [a0, .int x, a2, a3, a4, a5] (st) hp = qzV d 128 5 [a0, .int x, a2, a3, a4, a5] (.int x :: st) hp := qv_iload (i := 1) mdc_128 dX3_makes_4 rfl rfl rfl
theorem eX3_makes_5 {d : Nat} {a0 a1 a2 a3 a4 a5 : Value} {i : Int32} {a : Nat} {st : List Value} {hp : qzH} (ha : qzArr 4 a hp.1 = true) (hi : qzIn i (qzk a).2 = true) : qzV d 128 5 [a0, a1, a2, a3, a4, a5] (.int i :: .ref a :: st) hp = qzV d 128 6 [a0, a1, a2, a3, a4, a5] (.int (hp.2.2 a i.toNatClampNeg) :: st) hp := qv_iald mdc_128 dX3_makes_5 rfl ha hi
theorem eX3_makes_6 {d : Nat} {a0 a1 a2 a3 a4 a5 : Value} {x : Int32} {st : List Value} {hp : qzH} : qzV d 128 6 [a0, a1, a2, a3, a4, a5] (.int x :: st) hp = qzV d 128 7 [a0, a1, .int x, a3, a4, a5] (st) hp := qv_istore (i := 2) mdc_128 dX3_makes_6 rfl (Nat.le_of_ble_eq_true rfl) rfl rfl
theorem eX3_makes_7 {d : Nat} {a0 a1 a3 a4 a5 : Value} {x : Int32} {st : List Value} {hp : qzH} : qzV d 128 7 [a0, a1, .int x, a3, a4, a5] (st) hp = qzV d 128 8 [a0, a1, .int x, a3, a4, a5] (.int x :: st) hp := qv_iload (i := 2) mdc_128 dX3_makes_7 rfl rfl rfl
theorem eX3_makes_8 {d : Nat} {a0 a1 a2 a3 a4 a5 : Value} {st : List Value} {hp : qzH} : qzV d 128 8 [a0, a1, a2, a3, a4, a5] (st) hp = qzV d 128 10 [a0, a1, a2, a3, a4, a5] (.int 98 :: st) hp := qv_bipush mdc_128 dX3_makes_8 ib_98 rfl
theorem eX3_makes_10 {d : Nat} {a0 a1 a2 a3 a4 a5 : Value} {x y : Int32} {st : List Value} {hp : qzH} : qzV d 128 10 [a0, a1, a2, a3, a4, a5] (.int y :: .int x :: st) hp = if x = y then qzV d 128 19 [a0, a1, a2, a3, a4, a5] (st) hp else qzV d 128 13 [a0, a1, a2, a3, a4, a5] (st) hp := qv_if2 mdc_128 dX3_makes_10 rfl rfl rfl
theorem eX3_makes_13 {d : Nat} {a0 a1 a3 a4 a5 : Value} {x : Int32} {st : List Value} {hp : qzH} : qzV d 128 13 [a0, a1, .int x, a3, a4, a5] (st) hp = qzV d 128 14 [a0, a1, .int x, a3, a4, a5] (.int x :: st) hp := qv_iload (i := 2) mdc_128 dX3_makes_13 rfl rfl rfl
theorem eX3_makes_14 {d : Nat} {a0 a1 a2 a3 a4 a5 : Value} {st : List Value} {hp : qzH} : qzV d 128 14 [a0, a1, a2, a3, a4, a5] (st) hp = qzV d 128 16 [a0, a1, a2, a3, a4, a5] (.int 103 :: st) hp := qv_bipush mdc_128 dX3_makes_14 ib_103 rfl
theorem eX3_makes_16 {d : Nat} {a0 a1 a2 a3 a4 a5 : Value} {x y : Int32} {st : List Value} {hp : qzH} : qzV d 128 16 [a0, a1, a2, a3, a4, a5] (.int y :: .int x :: st) hp = if ¬ x = y then qzV d 128 59 [a0, a1, a2, a3, a4, a5] (st) hp else qzV d 128 19 [a0, a1, a2, a3, a4, a5] (st) hp := qv_if2 mdc_128 dX3_makes_16 rfl rfl rfl
theorem eX3_makes_19 {d : Nat} {a1 a2 a3 a4 a5 : Value} {x : Nat} {st : List Value} {hp : qzH} : qzV d 128 19 [.ref x, a1, a2, a3, a4, a5] (st) hp = qzV d 128 20 [.ref x, a1, a2, a3, a4, a5] (.ref x :: st) hp := qv_aload (i := 0) mdc_128 dX3_makes_19 rfl rfl rfl
theorem eX3_makes_20 {d : Nat} {a0 a1 a2 a3 a4 a5 : Value} {b : Nat} {st : List Value} {hp : qzH} (h8 : st.length ≤ 8) (hb : qzArr 3 b hp.1 = true) : qzV (d + 1) 128 20 [a0, a1, a2, a3, a4, a5] (.ref b :: st) hp = (qzC d 93 (.ref b :: []) hp).bind (fun r => qzV (d + 1) 128 23 [a0, a1, a2, a3, a4, a5] (r.1.toList ++ st) r.2) := qv_callv (n := 0) mdc_128 dX3_makes_20 mdo_128 (by decide) qfc_3_106 ⟨rfl, by decide, rfl⟩ rfl ⟨rfl, rfl, by simp only [List.length_cons]; omega⟩ h8 hb
theorem eX3_makes_23 {d : Nat} {a0 a1 a2 a3 a4 a5 : Value} {x : Int32} {st : List Value} {hp : qzH} : qzV d 128 23 [a0, a1, a2, a3, a4, a5] (.int x :: st) hp = if ¬ x = 0 then qzV d 128 30 [a0, a1, a2, a3, a4, a5] (st) hp else qzV d 128 26 [a0, a1, a2, a3, a4, a5] (st) hp := qv_if1 mdc_128 dX3_makes_23 rfl rfl rfl
theorem eX3_makes_26 {d : Nat} {a0 a1 a2 a3 a4 a5 : Value} {st : List Value} {hp : qzH} : qzV d 128 26 [a0, a1, a2, a3, a4, a5] (st) hp = qzV d 128 27 [a0, a1, a2, a3, a4, a5] (.int 1 :: st) hp := qv_iconst mdc_128 dX3_makes_26 il_1 rfl
theorem eX3_makes_27 {d : Nat} {a0 a1 a2 a3 a4 a5 : Value} {st : List Value} {hp : qzH} : qzV d 128 27 [a0, a1, a2, a3, a4, a5] (st) hp = qzV d 128 31 [a0, a1, a2, a3, a4, a5] (st) hp := qv_goto mdc_128 dX3_makes_27 rfl
theorem eX3_makes_30 {d : Nat} {a0 a1 a2 a3 a4 a5 : Value} {st : List Value} {hp : qzH} : qzV d 128 30 [a0, a1, a2, a3, a4, a5] (st) hp = qzV d 128 31 [a0, a1, a2, a3, a4, a5] (.int 0 :: st) hp := qv_iconst mdc_128 dX3_makes_30 il_0 rfl
theorem eX3_makes_31 {d : Nat} {a0 a1 a2 a3 a4 a5 : Value} {x : Int32} {st : List Value} {hp : qzH} : qzV d 128 31 [a0, a1, a2, a3, a4, a5] (.int x :: st) hp = qzV d 128 32 [a0, a1, a2, .int x, a4, a5] (st) hp := qv_istore (i := 3) mdc_128 dX3_makes_31 rfl (Nat.le_of_ble_eq_true rfl) rfl rfl
theorem eX3_makes_32 {d : Nat} {a0 a1 a2 a4 a5 : Value} {x : Int32} {st : List Value} {hp : qzH} : qzV d 128 32 [a0, a1, a2, .int x, a4, a5] (st) hp = qzV d 128 33 [a0, a1, a2, .int x, a4, a5] (.int x :: st) hp := qv_iload (i := 3) mdc_128 dX3_makes_32 rfl rfl rfl
theorem eX3_makes_33 {d : Nat} {a0 a1 a2 a3 a4 a5 : Value} {x : Int32} {st : List Value} {hp : qzH} : qzV d 128 33 [a0, a1, a2, a3, a4, a5] (.int x :: st) hp = if x = 0 then qzV d 128 54 [a0, a1, a2, a3, a4, a5] (st) hp else qzV d 128 36 [a0, a1, a2, a3, a4, a5] (st) hp := qv_if1 mdc_128 dX3_makes_33 rfl rfl rfl
theorem eX3_makes_36 {d : Nat} {a1 a2 a3 a4 a5 : Value} {x : Nat} {st : List Value} {hp : qzH} : qzV d 128 36 [.ref x, a1, a2, a3, a4, a5] (st) hp = qzV d 128 37 [.ref x, a1, a2, a3, a4, a5] (.ref x :: st) hp := qv_aload (i := 0) mdc_128 dX3_makes_36 rfl rfl rfl
theorem eX3_makes_37 {d : Nat} {a0 a1 a3 a4 a5 : Value} {x : Int32} {st : List Value} {hp : qzH} : qzV d 128 37 [a0, a1, .int x, a3, a4, a5] (st) hp = qzV d 128 38 [a0, a1, .int x, a3, a4, a5] (.int x :: st) hp := qv_iload (i := 2) mdc_128 dX3_makes_37 rfl rfl rfl
theorem eX3_makes_38 {d : Nat} {a0 a1 a2 a3 a4 a5 : Value} {st : List Value} {hp : qzH} : qzV d 128 38 [a0, a1, a2, a3, a4, a5] (st) hp = qzV d 128 40 [a0, a1, a2, a3, a4, a5] (.int 103 :: st) hp := qv_bipush mdc_128 dX3_makes_38 ib_103 rfl
theorem eX3_makes_40 {d : Nat} {a0 a1 a2 a3 a4 a5 : Value} {x y : Int32} {st : List Value} {hp : qzH} : qzV d 128 40 [a0, a1, a2, a3, a4, a5] (.int y :: .int x :: st) hp = if ¬ x = y then qzV d 128 47 [a0, a1, a2, a3, a4, a5] (st) hp else qzV d 128 43 [a0, a1, a2, a3, a4, a5] (st) hp := qv_if2 mdc_128 dX3_makes_40 rfl rfl rfl
theorem eX3_makes_43 {d : Nat} {a0 a1 a2 a3 a4 a5 : Value} {st : List Value} {hp : qzH} : qzV d 128 43 [a0, a1, a2, a3, a4, a5] (st) hp = qzV d 128 44 [a0, a1, a2, a3, a4, a5] (.int 1 :: st) hp := qv_iconst mdc_128 dX3_makes_43 il_1 rfl
theorem eX3_makes_44 {d : Nat} {a0 a1 a2 a3 a4 a5 : Value} {st : List Value} {hp : qzH} : qzV d 128 44 [a0, a1, a2, a3, a4, a5] (st) hp = qzV d 128 48 [a0, a1, a2, a3, a4, a5] (st) hp := qv_goto mdc_128 dX3_makes_44 rfl
theorem eX3_makes_47 {d : Nat} {a0 a1 a2 a3 a4 a5 : Value} {st : List Value} {hp : qzH} : qzV d 128 47 [a0, a1, a2, a3, a4, a5] (st) hp = qzV d 128 48 [a0, a1, a2, a3, a4, a5] (.int 0 :: st) hp := qv_iconst mdc_128 dX3_makes_47 il_0 rfl
theorem eX3_makes_48 {d : Nat} {a0 a1 a2 a3 a4 a5 : Value} {w0 : Value} {b : Nat} {st : List Value} {hp : qzH} (h8 : st.length ≤ 8) (hb : qzArr 3 b hp.1 = true) : qzV (d + 1) 128 48 [a0, a1, a2, a3, a4, a5] (w0 :: .ref b :: st) hp = (qzC d 109 (.ref b :: [w0]) hp).bind (fun r => qzV (d + 1) 128 51 [a0, a1, a2, a3, a4, a5] (r.1.toList ++ st) r.2) := qv_callv (n := 1) mdc_128 dX3_makes_48 mdo_128 (by decide) qfc_3_113 ⟨rfl, by decide, rfl⟩ rfl ⟨rfl, rfl, by simp only [List.length_cons]; omega⟩ h8 hb
theorem eX3_makes_51 {d : Nat} {a0 a1 a2 a3 a4 a5 : Value} {st : List Value} {hp : qzH} : qzV d 128 51 [a0, a1, a2, a3, a4, a5] (st) hp = qzV d 128 55 [a0, a1, a2, a3, a4, a5] (st) hp := qv_goto mdc_128 dX3_makes_51 rfl
theorem eX3_makes_54 {d : Nat} {a0 a1 a2 a3 a4 a5 : Value} {st : List Value} {hp : qzH} : qzV d 128 54 [a0, a1, a2, a3, a4, a5] (st) hp = qzV d 128 55 [a0, a1, a2, a3, a4, a5] (.int 0 :: st) hp := qv_iconst mdc_128 dX3_makes_54 il_0 rfl
theorem eX3_makes_55 {d : Nat} {a0 a1 a2 a3 a4 a5 : Value} {x : Int32} {st : List Value} {hp : qzH} : qzV d 128 55 [a0, a1, a2, a3, a4, a5] (.int x :: st) hp = qzV d 128 57 [a0, a1, a2, a3, .int x, a5] (st) hp := qv_istore (i := 4) mdc_128 dX3_makes_55 rfl (Nat.le_of_ble_eq_true rfl) rfl rfl
theorem eX3_makes_57 {d : Nat} {a0 a1 a2 a4 a5 : Value} {x : Int32} {st : List Value} {hp : qzH} : qzV d 128 57 [a0, a1, a2, .int x, a4, a5] (st) hp = qzV d 128 58 [a0, a1, a2, .int x, a4, a5] (.int x :: st) hp := qv_iload (i := 3) mdc_128 dX3_makes_57 rfl rfl rfl
theorem eX3_makes_58 {d : Nat} {a0 a1 a2 a3 a4 a5 : Value} {v : Int32} {hp : qzH} (hn : narrow .boolean (.int v) = .int v) : qzV d 128 58 [a0, a1, a2, a3, a4, a5] [.int v] hp = some (some (.int v), hp) := qv_iret mdc_128 dX3_makes_58 mdr_128 hn
theorem eX3_makes_59 {d : Nat} {a1 a2 a3 a4 a5 : Value} {x : Nat} {st : List Value} {hp : qzH} : qzV d 128 59 [.ref x, a1, a2, a3, a4, a5] (st) hp = qzV d 128 60 [.ref x, a1, a2, a3, a4, a5] (.ref x :: st) hp := qv_aload (i := 0) mdc_128 dX3_makes_59 rfl rfl rfl
theorem eX3_makes_60 {d : Nat} {a0 a1 a2 a3 a4 a5 : Value} {a : Nat} {st : List Value} {hp : qzH} (ha : qzArr 3 a hp.1 = true) : qzV d 128 60 [a0, a1, a2, a3, a4, a5] (.ref a :: st) hp = qzV d 128 63 [a0, a1, a2, a3, a4, a5] (va_rf (hp.2.1 a 6) :: st) hp := qv_getR mdc_128 dX3_makes_60 mdo_128 qff_3_22 ⟨by decide, rfl⟩ rfl ha
theorem eX3_makes_63 {d : Nat} {a0 a2 a3 a4 a5 : Value} {x : Int32} {st : List Value} {hp : qzH} : qzV d 128 63 [a0, .int x, a2, a3, a4, a5] (st) hp = qzV d 128 64 [a0, .int x, a2, a3, a4, a5] (.int x :: st) hp := qv_iload (i := 1) mdc_128 dX3_makes_63 rfl rfl rfl
theorem eX3_makes_64 {d : Nat} {a0 a1 a2 a3 a4 a5 : Value} {st : List Value} {hp : qzH} : qzV d 128 64 [a0, a1, a2, a3, a4, a5] (st) hp = qzV d 128 65 [a0, a1, a2, a3, a4, a5] (.int 1 :: st) hp := qv_iconst mdc_128 dX3_makes_64 il_1 rfl
theorem eX3_makes_65 {d : Nat} {a0 a1 a2 a3 a4 a5 : Value} {x y : Int32} {st : List Value} {hp : qzH} : qzV d 128 65 [a0, a1, a2, a3, a4, a5] (.int y :: .int x :: st) hp = qzV d 128 66 [a0, a1, a2, a3, a4, a5] (.int (x + y) :: st) hp := qv_bin (f := fun x y => x + y) mdc_128 dX3_makes_65 rfl rfl
theorem eX3_makes_66 {d : Nat} {a0 a1 a2 a3 a4 a5 : Value} {i : Int32} {a : Nat} {st : List Value} {hp : qzH} (ha : qzArr 4 a hp.1 = true) (hi : qzIn i (qzk a).2 = true) : qzV d 128 66 [a0, a1, a2, a3, a4, a5] (.int i :: .ref a :: st) hp = qzV d 128 67 [a0, a1, a2, a3, a4, a5] (.int (hp.2.2 a i.toNatClampNeg) :: st) hp := qv_iald mdc_128 dX3_makes_66 rfl ha hi
theorem eX3_makes_67 {d : Nat} {a0 a1 a2 a3 a4 a5 : Value} {st : List Value} {hp : qzH} : qzV d 128 67 [a0, a1, a2, a3, a4, a5] (st) hp = qzV d 128 69 [a0, a1, a2, a3, a4, a5] (.int 48 :: st) hp := qv_bipush mdc_128 dX3_makes_67 ib_48 rfl
theorem eX3_makes_69 {d : Nat} {a0 a1 a2 a3 a4 a5 : Value} {x y : Int32} {st : List Value} {hp : qzH} : qzV d 128 69 [a0, a1, a2, a3, a4, a5] (.int y :: .int x :: st) hp = qzV d 128 70 [a0, a1, a2, a3, a4, a5] (.int (x - y) :: st) hp := qv_bin (f := fun x y => x - y) mdc_128 dX3_makes_69 rfl rfl
theorem eX3_makes_70 {d : Nat} {a0 a1 a2 a3 a4 a5 : Value} {x : Int32} {st : List Value} {hp : qzH} : qzV d 128 70 [a0, a1, a2, a3, a4, a5] (.int x :: st) hp = qzV d 128 71 [a0, a1, a2, .int x, a4, a5] (st) hp := qv_istore (i := 3) mdc_128 dX3_makes_70 rfl (Nat.le_of_ble_eq_true rfl) rfl rfl
theorem eX3_makes_71 {d : Nat} {a1 a2 a3 a4 a5 : Value} {x : Nat} {st : List Value} {hp : qzH} : qzV d 128 71 [.ref x, a1, a2, a3, a4, a5] (st) hp = qzV d 128 72 [.ref x, a1, a2, a3, a4, a5] (.ref x :: st) hp := qv_aload (i := 0) mdc_128 dX3_makes_71 rfl rfl rfl
theorem eX3_makes_72 {d : Nat} {a0 a1 a2 a4 a5 : Value} {x : Int32} {st : List Value} {hp : qzH} : qzV d 128 72 [a0, a1, a2, .int x, a4, a5] (st) hp = qzV d 128 73 [a0, a1, a2, .int x, a4, a5] (.int x :: st) hp := qv_iload (i := 3) mdc_128 dX3_makes_72 rfl rfl rfl
theorem eX3_makes_73 {d : Nat} {a0 a1 a2 a3 a4 a5 : Value} {w0 : Value} {b : Nat} {st : List Value} {hp : qzH} (h8 : st.length ≤ 8) (hb : qzArr 3 b hp.1 = true) : qzV (d + 1) 128 73 [a0, a1, a2, a3, a4, a5] (w0 :: .ref b :: st) hp = (qzC d 99 (.ref b :: [w0]) hp).bind (fun r => qzV (d + 1) 128 76 [a0, a1, a2, a3, a4, a5] (r.1.toList ++ st) r.2) := qv_callv (n := 1) mdc_128 dX3_makes_73 mdo_128 (by decide) qfc_3_100 ⟨rfl, by decide, rfl⟩ rfl ⟨rfl, rfl, by simp only [List.length_cons]; omega⟩ h8 hb
theorem eX3_makes_76 {d : Nat} {a0 a1 a2 a3 a4 a5 : Value} {x : Int32} {st : List Value} {hp : qzH} : qzV d 128 76 [a0, a1, a2, a3, a4, a5] (.int x :: st) hp = if ¬ x = 0 then qzV d 128 83 [a0, a1, a2, a3, a4, a5] (st) hp else qzV d 128 79 [a0, a1, a2, a3, a4, a5] (st) hp := qv_if1 mdc_128 dX3_makes_76 rfl rfl rfl
theorem eX3_makes_79 {d : Nat} {a0 a1 a2 a3 a4 a5 : Value} {st : List Value} {hp : qzH} : qzV d 128 79 [a0, a1, a2, a3, a4, a5] (st) hp = qzV d 128 80 [a0, a1, a2, a3, a4, a5] (.int 1 :: st) hp := qv_iconst mdc_128 dX3_makes_79 il_1 rfl
theorem eX3_makes_80 {d : Nat} {a0 a1 a2 a3 a4 a5 : Value} {st : List Value} {hp : qzH} : qzV d 128 80 [a0, a1, a2, a3, a4, a5] (st) hp = qzV d 128 84 [a0, a1, a2, a3, a4, a5] (st) hp := qv_goto mdc_128 dX3_makes_80 rfl
theorem eX3_makes_83 {d : Nat} {a0 a1 a2 a3 a4 a5 : Value} {st : List Value} {hp : qzH} : qzV d 128 83 [a0, a1, a2, a3, a4, a5] (st) hp = qzV d 128 84 [a0, a1, a2, a3, a4, a5] (.int 0 :: st) hp := qv_iconst mdc_128 dX3_makes_83 il_0 rfl
theorem eX3_makes_84 {d : Nat} {a0 a1 a2 a3 a4 a5 : Value} {x : Int32} {st : List Value} {hp : qzH} : qzV d 128 84 [a0, a1, a2, a3, a4, a5] (.int x :: st) hp = qzV d 128 86 [a0, a1, a2, a3, .int x, a5] (st) hp := qv_istore (i := 4) mdc_128 dX3_makes_84 rfl (Nat.le_of_ble_eq_true rfl) rfl rfl
theorem eX3_makes_86 {d : Nat} {a0 a1 a2 a3 a5 : Value} {x : Int32} {st : List Value} {hp : qzH} : qzV d 128 86 [a0, a1, a2, a3, .int x, a5] (st) hp = qzV d 128 88 [a0, a1, a2, a3, .int x, a5] (.int x :: st) hp := qv_iload (i := 4) mdc_128 dX3_makes_86 rfl rfl rfl
theorem eX3_makes_88 {d : Nat} {a0 a1 a2 a3 a4 a5 : Value} {x : Int32} {st : List Value} {hp : qzH} : qzV d 128 88 [a0, a1, a2, a3, a4, a5] (.int x :: st) hp = if x = 0 then qzV d 128 110 [a0, a1, a2, a3, a4, a5] (st) hp else qzV d 128 91 [a0, a1, a2, a3, a4, a5] (st) hp := qv_if1 mdc_128 dX3_makes_88 rfl rfl rfl
theorem eX3_makes_91 {d : Nat} {a1 a2 a3 a4 a5 : Value} {x : Nat} {st : List Value} {hp : qzH} : qzV d 128 91 [.ref x, a1, a2, a3, a4, a5] (st) hp = qzV d 128 92 [.ref x, a1, a2, a3, a4, a5] (.ref x :: st) hp := qv_aload (i := 0) mdc_128 dX3_makes_91 rfl rfl rfl
theorem eX3_makes_92 {d : Nat} {a0 a1 a2 a4 a5 : Value} {x : Int32} {st : List Value} {hp : qzH} : qzV d 128 92 [a0, a1, a2, .int x, a4, a5] (st) hp = qzV d 128 93 [a0, a1, a2, .int x, a4, a5] (.int x :: st) hp := qv_iload (i := 3) mdc_128 dX3_makes_92 rfl rfl rfl
theorem eX3_makes_93 {d : Nat} {a0 a1 a3 a4 a5 : Value} {x : Int32} {st : List Value} {hp : qzH} : qzV d 128 93 [a0, a1, .int x, a3, a4, a5] (st) hp = qzV d 128 94 [a0, a1, .int x, a3, a4, a5] (.int x :: st) hp := qv_iload (i := 2) mdc_128 dX3_makes_93 rfl rfl rfl
theorem eX3_makes_94 {d : Nat} {a0 a1 a2 a3 a4 a5 : Value} {st : List Value} {hp : qzH} : qzV d 128 94 [a0, a1, a2, a3, a4, a5] (st) hp = qzV d 128 96 [a0, a1, a2, a3, a4, a5] (.int 108 :: st) hp := qv_bipush mdc_128 dX3_makes_94 ib_108 rfl
theorem eX3_makes_96 {d : Nat} {a0 a1 a2 a3 a4 a5 : Value} {x y : Int32} {st : List Value} {hp : qzH} : qzV d 128 96 [a0, a1, a2, a3, a4, a5] (.int y :: .int x :: st) hp = if ¬ x = y then qzV d 128 103 [a0, a1, a2, a3, a4, a5] (st) hp else qzV d 128 99 [a0, a1, a2, a3, a4, a5] (st) hp := qv_if2 mdc_128 dX3_makes_96 rfl rfl rfl
theorem eX3_makes_99 {d : Nat} {a0 a1 a2 a3 a4 a5 : Value} {st : List Value} {hp : qzH} : qzV d 128 99 [a0, a1, a2, a3, a4, a5] (st) hp = qzV d 128 100 [a0, a1, a2, a3, a4, a5] (.int 1 :: st) hp := qv_iconst mdc_128 dX3_makes_99 il_1 rfl
theorem eX3_makes_100 {d : Nat} {a0 a1 a2 a3 a4 a5 : Value} {st : List Value} {hp : qzH} : qzV d 128 100 [a0, a1, a2, a3, a4, a5] (st) hp = qzV d 128 104 [a0, a1, a2, a3, a4, a5] (st) hp := qv_goto mdc_128 dX3_makes_100 rfl
theorem eX3_makes_103 {d : Nat} {a0 a1 a2 a3 a4 a5 : Value} {st : List Value} {hp : qzH} : qzV d 128 103 [a0, a1, a2, a3, a4, a5] (st) hp = qzV d 128 104 [a0, a1, a2, a3, a4, a5] (.int 0 :: st) hp := qv_iconst mdc_128 dX3_makes_103 il_0 rfl
theorem eX3_makes_104 {d : Nat} {a0 a1 a2 a3 a4 a5 : Value} {w0 w1 : Value} {b : Nat} {st : List Value} {hp : qzH} (h8 : st.length ≤ 8) (hb : qzArr 3 b hp.1 = true) : qzV (d + 1) 128 104 [a0, a1, a2, a3, a4, a5] (w1 :: w0 :: .ref b :: st) hp = (qzC d 98 (.ref b :: [w0, w1]) hp).bind (fun r => qzV (d + 1) 128 107 [a0, a1, a2, a3, a4, a5] (r.1.toList ++ st) r.2) := qv_callv (n := 2) mdc_128 dX3_makes_104 mdo_128 (by decide) qfc_3_96 ⟨rfl, by decide, rfl⟩ rfl ⟨rfl, rfl, by simp only [List.length_cons]; omega⟩ h8 hb
theorem eX3_makes_107 {d : Nat} {a0 a1 a2 a3 a4 a5 : Value} {st : List Value} {hp : qzH} : qzV d 128 107 [a0, a1, a2, a3, a4, a5] (st) hp = qzV d 128 111 [a0, a1, a2, a3, a4, a5] (st) hp := qv_goto mdc_128 dX3_makes_107 rfl
theorem eX3_makes_110 {d : Nat} {a0 a1 a2 a3 a4 a5 : Value} {st : List Value} {hp : qzH} : qzV d 128 110 [a0, a1, a2, a3, a4, a5] (st) hp = qzV d 128 111 [a0, a1, a2, a3, a4, a5] (.int 0 :: st) hp := qv_iconst mdc_128 dX3_makes_110 il_0 rfl
theorem eX3_makes_111 {d : Nat} {a0 a1 a2 a3 a4 a5 : Value} {x : Int32} {st : List Value} {hp : qzH} : qzV d 128 111 [a0, a1, a2, a3, a4, a5] (.int x :: st) hp = qzV d 128 113 [a0, a1, a2, a3, a4, .int x] (st) hp := qv_istore (i := 5) mdc_128 dX3_makes_111 rfl (Nat.le_of_ble_eq_true rfl) rfl rfl
theorem eX3_makes_113 {d : Nat} {a0 a1 a2 a3 a5 : Value} {x : Int32} {st : List Value} {hp : qzH} : qzV d 128 113 [a0, a1, a2, a3, .int x, a5] (st) hp = qzV d 128 115 [a0, a1, a2, a3, .int x, a5] (.int x :: st) hp := qv_iload (i := 4) mdc_128 dX3_makes_113 rfl rfl rfl
theorem eX3_makes_115 {d : Nat} {a0 a1 a2 a3 a4 a5 : Value} {v : Int32} {hp : qzH} (hn : narrow .boolean (.int v) = .int v) : qzV d 128 115 [a0, a1, a2, a3, a4, a5] [.int v] hp = some (some (.int v), hp) := qv_iret mdc_128 dX3_makes_115 mdr_128 hn
theorem dX3_play_0 : decode cX3_play 0 = .ok (.aload_n 0, 1) := by decide +kernel
theorem dX3_play_1 : decode cX3_play 1 = .ok (.invokevirtual 158, 3) := by decide +kernel
theorem dX3_play_4 : decode cX3_play 4 = .ok (.ifCond .ne 6, 3) := by decide +kernel
theorem dX3_play_7 : decode cX3_play 7 = .ok (.bipush (-2), 2) := by decide +kernel
theorem dX3_play_9 : decode cX3_play 9 = .ok (.ireturn, 1) := by decide +kernel
theorem dX3_play_10 : decode cX3_play 10 = .ok (.aload_n 0, 1) := by decide +kernel
theorem dX3_play_11 : decode cX3_play 11 = .ok (.invokevirtual 103, 3) := by decide +kernel
theorem dX3_play_14 : decode cX3_play 14 = .ok (.aload_n 0, 1) := by decide +kernel
theorem dX3_play_15 : decode cX3_play 15 = .ok (.invokevirtual 110, 3) := by decide +kernel
theorem dX3_play_18 : decode cX3_play 18 = .ok (.iconst 0, 1) := by decide +kernel
theorem dX3_play_19 : decode cX3_play 19 = .ok (.istore_n 1, 1) := by decide +kernel
theorem dX3_play_20 : decode cX3_play 20 = .ok (.iconst 0, 1) := by decide +kernel
theorem dX3_play_21 : decode cX3_play 21 = .ok (.istore_n 2, 1) := by decide +kernel
theorem dX3_play_22 : decode cX3_play 22 = .ok (.iconst 1, 1) := by decide +kernel
theorem dX3_play_23 : decode cX3_play 23 = .ok (.istore_n 3, 1) := by decide +kernel
theorem dX3_play_24 : decode cX3_play 24 = .ok (.iload_n 3, 1) := by decide +kernel
theorem dX3_play_25 : decode cX3_play 25 = .ok (.ifCond .eq 62, 3) := by decide +kernel
theorem dX3_play_28 : decode cX3_play 28 = .ok (.iload_n 2, 1) := by decide +kernel
theorem dX3_play_29 : decode cX3_play 29 = .ok (.aload_n 0, 1) := by decide +kernel
theorem dX3_play_30 : decode cX3_play 30 = .ok (.getfield 116, 3) := by decide +kernel
theorem dX3_play_33 : decode cX3_play 33 = .ok (.if_icmp .ge 54, 3) := by decide +kernel
theorem dX3_play_36 : decode cX3_play 36 = .ok (.aload_n 0, 1) := by decide +kernel
theorem dX3_play_37 : decode cX3_play 37 = .ok (.iload_n 2, 1) := by decide +kernel
theorem dX3_play_38 : decode cX3_play 38 = .ok (.invokevirtual 161, 3) := by decide +kernel
theorem dX3_play_41 : decode cX3_play 41 = .ok (.istore_n 3, 1) := by decide +kernel
theorem dX3_play_42 : decode cX3_play 42 = .ok (.iload_n 2, 1) := by decide +kernel
theorem dX3_play_43 : decode cX3_play 43 = .ok (.aload_n 0, 1) := by decide +kernel
theorem dX3_play_44 : decode cX3_play 44 = .ok (.getfield 22, 3) := by decide +kernel
theorem dX3_play_47 : decode cX3_play 47 = .ok (.iload_n 2, 1) := by decide +kernel
theorem dX3_play_48 : decode cX3_play 48 = .ok (.iaload, 1) := by decide +kernel
theorem dX3_play_49 : decode cX3_play 49 = .ok (.bipush 98, 2) := by decide +kernel
theorem dX3_play_51 : decode cX3_play 51 = .ok (.if_icmp .eq 14, 3) := by decide +kernel
theorem dX3_play_54 : decode cX3_play 54 = .ok (.aload_n 0, 1) := by decide +kernel
theorem dX3_play_55 : decode cX3_play 55 = .ok (.getfield 22, 3) := by decide +kernel
theorem dX3_play_58 : decode cX3_play 58 = .ok (.iload_n 2, 1) := by decide +kernel
theorem dX3_play_59 : decode cX3_play 59 = .ok (.iaload, 1) := by decide +kernel
theorem dX3_play_60 : decode cX3_play 60 = .ok (.bipush 103, 2) := by decide +kernel
theorem dX3_play_62 : decode cX3_play 62 = .ok (.if_icmp .ne 7, 3) := by decide +kernel
theorem dX3_play_65 : decode cX3_play 65 = .ok (.iconst 1, 1) := by decide +kernel
theorem dX3_play_66 : decode cX3_play 66 = .ok (.goto 4, 3) := by decide +kernel
theorem dX3_play_69 : decode cX3_play 69 = .ok (.iconst 2, 1) := by decide +kernel
theorem dX3_play_70 : decode cX3_play 70 = .ok (.iadd, 1) := by decide +kernel
theorem dX3_play_71 : decode cX3_play 71 = .ok (.istore_n 2, 1) := by decide +kernel
theorem dX3_play_72 : decode cX3_play 72 = .ok (.iload_n 1, 1) := by decide +kernel
theorem dX3_play_73 : decode cX3_play 73 = .ok (.iload_n 3, 1) := by decide +kernel
theorem dX3_play_74 : decode cX3_play 74 = .ok (.ifCond .eq 7, 3) := by decide +kernel
theorem dX3_play_77 : decode cX3_play 77 = .ok (.iconst 1, 1) := by decide +kernel
theorem dX3_play_78 : decode cX3_play 78 = .ok (.goto 4, 3) := by decide +kernel
theorem dX3_play_81 : decode cX3_play 81 = .ok (.iconst 0, 1) := by decide +kernel
theorem dX3_play_82 : decode cX3_play 82 = .ok (.iadd, 1) := by decide +kernel
theorem dX3_play_83 : decode cX3_play 83 = .ok (.istore_n 1, 1) := by decide +kernel
theorem dX3_play_84 : decode cX3_play 84 = .ok (.goto (-60), 3) := by decide +kernel
theorem dX3_play_87 : decode cX3_play 87 = .ok (.aload_n 0, 1) := by decide +kernel
theorem dX3_play_88 : decode cX3_play 88 = .ok (.iconst 0, 1) := by decide +kernel
theorem dX3_play_89 : decode cX3_play 89 = .ok (.putfield 116, 3) := by decide +kernel
theorem dX3_play_92 : decode cX3_play 92 = .ok (.iload_n 1, 1) := by decide +kernel
theorem dX3_play_93 : decode cX3_play 93 = .ok (.ireturn, 1) := by decide +kernel
theorem eX3_play_0 {d : Nat} {a1 a2 a3 : Value} {x : Nat} {st : List Value} {hp : qzH} : qzV d 129 0 [.ref x, a1, a2, a3] (st) hp = qzV d 129 1 [.ref x, a1, a2, a3] (.ref x :: st) hp := qv_aload (i := 0) mdc_129 dX3_play_0 rfl rfl rfl
theorem eX3_play_1 {d : Nat} {a0 a1 a2 a3 : Value} {b : Nat} {st : List Value} {hp : qzH} (h8 : st.length ≤ 8) (hb : qzArr 3 b hp.1 = true) : qzV (d + 1) 129 1 [a0, a1, a2, a3] (.ref b :: st) hp = (qzC d 125 (.ref b :: []) hp).bind (fun r => qzV (d + 1) 129 4 [a0, a1, a2, a3] (r.1.toList ++ st) r.2) := qv_callv (n := 0) mdc_129 dX3_play_1 mdo_129 (by decide) qfc_3_158 ⟨rfl, by decide, rfl⟩ rfl ⟨rfl, rfl, by simp only [List.length_cons]; omega⟩ h8 hb
theorem eX3_play_4 {d : Nat} {a0 a1 a2 a3 : Value} {x : Int32} {st : List Value} {hp : qzH} : qzV d 129 4 [a0, a1, a2, a3] (.int x :: st) hp = if ¬ x = 0 then qzV d 129 10 [a0, a1, a2, a3] (st) hp else qzV d 129 7 [a0, a1, a2, a3] (st) hp := qv_if1 mdc_129 dX3_play_4 rfl rfl rfl
theorem eX3_play_7 {d : Nat} {a0 a1 a2 a3 : Value} {st : List Value} {hp : qzH} : qzV d 129 7 [a0, a1, a2, a3] (st) hp = qzV d 129 9 [a0, a1, a2, a3] (.int (-2) :: st) hp := qv_bipush mdc_129 dX3_play_7 ib_m2 rfl
theorem eX3_play_9 {d : Nat} {a0 a1 a2 a3 : Value} {v : Int32} {hp : qzH} : qzV d 129 9 [a0, a1, a2, a3] [.int v] hp = some (some (.int v), hp) := qv_iret mdc_129 dX3_play_9 mdr_129 rfl
theorem eX3_play_10 {d : Nat} {a1 a2 a3 : Value} {x : Nat} {st : List Value} {hp : qzH} : qzV d 129 10 [.ref x, a1, a2, a3] (st) hp = qzV d 129 11 [.ref x, a1, a2, a3] (.ref x :: st) hp := qv_aload (i := 0) mdc_129 dX3_play_10 rfl rfl rfl
theorem eX3_play_11 {d : Nat} {a0 a1 a2 a3 : Value} {b : Nat} {st : List Value} {hp : qzH} (h8 : st.length ≤ 8) (hb : qzArr 3 b hp.1 = true) : qzV (d + 1) 129 11 [a0, a1, a2, a3] (.ref b :: st) hp = (qzC d 89 (.ref b :: []) hp).bind (fun r => qzV (d + 1) 129 14 [a0, a1, a2, a3] (r.1.toList ++ st) r.2) := qv_callv (n := 0) mdc_129 dX3_play_11 mdo_129 (by decide) qfc_3_103 ⟨rfl, by decide, rfl⟩ rfl ⟨rfl, rfl, by simp only [List.length_cons]; omega⟩ h8 hb
theorem eX3_play_14 {d : Nat} {a1 a2 a3 : Value} {x : Nat} {st : List Value} {hp : qzH} : qzV d 129 14 [.ref x, a1, a2, a3] (st) hp = qzV d 129 15 [.ref x, a1, a2, a3] (.ref x :: st) hp := qv_aload (i := 0) mdc_129 dX3_play_14 rfl rfl rfl
theorem eX3_play_15 {d : Nat} {a0 a1 a2 a3 : Value} {b : Nat} {st : List Value} {hp : qzH} (h8 : st.length ≤ 8) (hb : qzArr 3 b hp.1 = true) : qzV (d + 1) 129 15 [a0, a1, a2, a3] (.ref b :: st) hp = (qzC d 105 (.ref b :: []) hp).bind (fun r => qzV (d + 1) 129 18 [a0, a1, a2, a3] (r.1.toList ++ st) r.2) := qv_callv (n := 0) mdc_129 dX3_play_15 mdo_129 (by decide) qfc_3_110 ⟨rfl, by decide, rfl⟩ rfl ⟨rfl, rfl, by simp only [List.length_cons]; omega⟩ h8 hb
theorem eX3_play_18 {d : Nat} {a0 a1 a2 a3 : Value} {st : List Value} {hp : qzH} : qzV d 129 18 [a0, a1, a2, a3] (st) hp = qzV d 129 19 [a0, a1, a2, a3] (.int 0 :: st) hp := qv_iconst mdc_129 dX3_play_18 il_0 rfl
theorem eX3_play_19 {d : Nat} {a0 a1 a2 a3 : Value} {x : Int32} {st : List Value} {hp : qzH} : qzV d 129 19 [a0, a1, a2, a3] (.int x :: st) hp = qzV d 129 20 [a0, .int x, a2, a3] (st) hp := qv_istore (i := 1) mdc_129 dX3_play_19 rfl (Nat.le_of_ble_eq_true rfl) rfl rfl
theorem eX3_play_20 {d : Nat} {a0 a1 a2 a3 : Value} {st : List Value} {hp : qzH} : qzV d 129 20 [a0, a1, a2, a3] (st) hp = qzV d 129 21 [a0, a1, a2, a3] (.int 0 :: st) hp := qv_iconst mdc_129 dX3_play_20 il_0 rfl
theorem eX3_play_21 {d : Nat} {a0 a1 a2 a3 : Value} {x : Int32} {st : List Value} {hp : qzH} : qzV d 129 21 [a0, a1, a2, a3] (.int x :: st) hp = qzV d 129 22 [a0, a1, .int x, a3] (st) hp := qv_istore (i := 2) mdc_129 dX3_play_21 rfl (Nat.le_of_ble_eq_true rfl) rfl rfl
theorem eX3_play_22 {d : Nat} {a0 a1 a2 a3 : Value} {st : List Value} {hp : qzH} : qzV d 129 22 [a0, a1, a2, a3] (st) hp = qzV d 129 23 [a0, a1, a2, a3] (.int 1 :: st) hp := qv_iconst mdc_129 dX3_play_22 il_1 rfl
theorem eX3_play_23 {d : Nat} {a0 a1 a2 a3 : Value} {x : Int32} {st : List Value} {hp : qzH} : qzV d 129 23 [a0, a1, a2, a3] (.int x :: st) hp = qzV d 129 24 [a0, a1, a2, .int x] (st) hp := qv_istore (i := 3) mdc_129 dX3_play_23 rfl (Nat.le_of_ble_eq_true rfl) rfl rfl
theorem eX3_play_24 {d : Nat} {a0 a1 a2 : Value} {x : Int32} {st : List Value} {hp : qzH} : qzV d 129 24 [a0, a1, a2, .int x] (st) hp = qzV d 129 25 [a0, a1, a2, .int x] (.int x :: st) hp := qv_iload (i := 3) mdc_129 dX3_play_24 rfl rfl rfl
theorem eX3_play_25 {d : Nat} {a0 a1 a2 a3 : Value} {x : Int32} {st : List Value} {hp : qzH} : qzV d 129 25 [a0, a1, a2, a3] (.int x :: st) hp = if x = 0 then qzV d 129 87 [a0, a1, a2, a3] (st) hp else qzV d 129 28 [a0, a1, a2, a3] (st) hp := qv_if1 mdc_129 dX3_play_25 rfl rfl rfl
theorem eX3_play_28 {d : Nat} {a0 a1 a3 : Value} {x : Int32} {st : List Value} {hp : qzH} : qzV d 129 28 [a0, a1, .int x, a3] (st) hp = qzV d 129 29 [a0, a1, .int x, a3] (.int x :: st) hp := qv_iload (i := 2) mdc_129 dX3_play_28 rfl rfl rfl
theorem eX3_play_29 {d : Nat} {a1 a2 a3 : Value} {x : Nat} {st : List Value} {hp : qzH} : qzV d 129 29 [.ref x, a1, a2, a3] (st) hp = qzV d 129 30 [.ref x, a1, a2, a3] (.ref x :: st) hp := qv_aload (i := 0) mdc_129 dX3_play_29 rfl rfl rfl
theorem eX3_play_30 {d : Nat} {a0 a1 a2 a3 : Value} {a : Nat} {st : List Value} {hp : qzH} (ha : qzArr 3 a hp.1 = true) : qzV d 129 30 [a0, a1, a2, a3] (.ref a :: st) hp = qzV d 129 33 [a0, a1, a2, a3] (.int (hp.2.2 a 7) :: st) hp := qv_getI mdc_129 dX3_play_30 mdo_129 qff_3_116 ⟨by decide, rfl⟩ rfl ha
theorem eX3_play_33 {d : Nat} {a0 a1 a2 a3 : Value} {x y : Int32} {st : List Value} {hp : qzH} : qzV d 129 33 [a0, a1, a2, a3] (.int y :: .int x :: st) hp = if y ≤ x then qzV d 129 87 [a0, a1, a2, a3] (st) hp else qzV d 129 36 [a0, a1, a2, a3] (st) hp := qv_if2 mdc_129 dX3_play_33 rfl rfl rfl
theorem eX3_play_36 {d : Nat} {a1 a2 a3 : Value} {x : Nat} {st : List Value} {hp : qzH} : qzV d 129 36 [.ref x, a1, a2, a3] (st) hp = qzV d 129 37 [.ref x, a1, a2, a3] (.ref x :: st) hp := qv_aload (i := 0) mdc_129 dX3_play_36 rfl rfl rfl
theorem eX3_play_37 {d : Nat} {a0 a1 a3 : Value} {x : Int32} {st : List Value} {hp : qzH} : qzV d 129 37 [a0, a1, .int x, a3] (st) hp = qzV d 129 38 [a0, a1, .int x, a3] (.int x :: st) hp := qv_iload (i := 2) mdc_129 dX3_play_37 rfl rfl rfl
theorem eX3_play_38 {d : Nat} {a0 a1 a2 a3 : Value} {w0 : Value} {b : Nat} {st : List Value} {hp : qzH} (h8 : st.length ≤ 8) (hb : qzArr 3 b hp.1 = true) : qzV (d + 1) 129 38 [a0, a1, a2, a3] (w0 :: .ref b :: st) hp = (qzC d 128 (.ref b :: [w0]) hp).bind (fun r => qzV (d + 1) 129 41 [a0, a1, a2, a3] (r.1.toList ++ st) r.2) := qv_callv (n := 1) mdc_129 dX3_play_38 mdo_129 (by decide) qfc_3_161 ⟨rfl, by decide, rfl⟩ rfl ⟨rfl, rfl, by simp only [List.length_cons]; omega⟩ h8 hb
theorem eX3_play_41 {d : Nat} {a0 a1 a2 a3 : Value} {x : Int32} {st : List Value} {hp : qzH} : qzV d 129 41 [a0, a1, a2, a3] (.int x :: st) hp = qzV d 129 42 [a0, a1, a2, .int x] (st) hp := qv_istore (i := 3) mdc_129 dX3_play_41 rfl (Nat.le_of_ble_eq_true rfl) rfl rfl
theorem eX3_play_42 {d : Nat} {a0 a1 a3 : Value} {x : Int32} {st : List Value} {hp : qzH} : qzV d 129 42 [a0, a1, .int x, a3] (st) hp = qzV d 129 43 [a0, a1, .int x, a3] (.int x :: st) hp := qv_iload (i := 2) mdc_129 dX3_play_42 rfl rfl rfl
theorem eX3_play_43 {d : Nat} {a1 a2 a3 : Value} {x : Nat} {st : List Value} {hp : qzH} : qzV d 129 43 [.ref x, a1, a2, a3] (st) hp = qzV d 129 44 [.ref x, a1, a2, a3] (.ref x :: st) hp := qv_aload (i := 0) mdc_129 dX3_play_43 rfl rfl rfl
theorem eX3_play_44 {d : Nat} {a0 a1 a2 a3 : Value} {a : Nat} {st : List Value} {hp : qzH} (ha : qzArr 3 a hp.1 = true) : qzV d 129 44 [a0, a1, a2, a3] (.ref a :: st) hp = qzV d 129 47 [a0, a1, a2, a3] (va_rf (hp.2.1 a 6) :: st) hp := qv_getR mdc_129 dX3_play_44 mdo_129 qff_3_22 ⟨by decide, rfl⟩ rfl ha
theorem eX3_play_47 {d : Nat} {a0 a1 a3 : Value} {x : Int32} {st : List Value} {hp : qzH} : qzV d 129 47 [a0, a1, .int x, a3] (st) hp = qzV d 129 48 [a0, a1, .int x, a3] (.int x :: st) hp := qv_iload (i := 2) mdc_129 dX3_play_47 rfl rfl rfl
theorem eX3_play_48 {d : Nat} {a0 a1 a2 a3 : Value} {i : Int32} {a : Nat} {st : List Value} {hp : qzH} (ha : qzArr 4 a hp.1 = true) (hi : qzIn i (qzk a).2 = true) : qzV d 129 48 [a0, a1, a2, a3] (.int i :: .ref a :: st) hp = qzV d 129 49 [a0, a1, a2, a3] (.int (hp.2.2 a i.toNatClampNeg) :: st) hp := qv_iald mdc_129 dX3_play_48 rfl ha hi
theorem eX3_play_49 {d : Nat} {a0 a1 a2 a3 : Value} {st : List Value} {hp : qzH} : qzV d 129 49 [a0, a1, a2, a3] (st) hp = qzV d 129 51 [a0, a1, a2, a3] (.int 98 :: st) hp := qv_bipush mdc_129 dX3_play_49 ib_98 rfl
theorem eX3_play_51 {d : Nat} {a0 a1 a2 a3 : Value} {x y : Int32} {st : List Value} {hp : qzH} : qzV d 129 51 [a0, a1, a2, a3] (.int y :: .int x :: st) hp = if x = y then qzV d 129 65 [a0, a1, a2, a3] (st) hp else qzV d 129 54 [a0, a1, a2, a3] (st) hp := qv_if2 mdc_129 dX3_play_51 rfl rfl rfl
theorem eX3_play_54 {d : Nat} {a1 a2 a3 : Value} {x : Nat} {st : List Value} {hp : qzH} : qzV d 129 54 [.ref x, a1, a2, a3] (st) hp = qzV d 129 55 [.ref x, a1, a2, a3] (.ref x :: st) hp := qv_aload (i := 0) mdc_129 dX3_play_54 rfl rfl rfl
theorem eX3_play_55 {d : Nat} {a0 a1 a2 a3 : Value} {a : Nat} {st : List Value} {hp : qzH} (ha : qzArr 3 a hp.1 = true) : qzV d 129 55 [a0, a1, a2, a3] (.ref a :: st) hp = qzV d 129 58 [a0, a1, a2, a3] (va_rf (hp.2.1 a 6) :: st) hp := qv_getR mdc_129 dX3_play_55 mdo_129 qff_3_22 ⟨by decide, rfl⟩ rfl ha
theorem eX3_play_58 {d : Nat} {a0 a1 a3 : Value} {x : Int32} {st : List Value} {hp : qzH} : qzV d 129 58 [a0, a1, .int x, a3] (st) hp = qzV d 129 59 [a0, a1, .int x, a3] (.int x :: st) hp := qv_iload (i := 2) mdc_129 dX3_play_58 rfl rfl rfl
theorem eX3_play_59 {d : Nat} {a0 a1 a2 a3 : Value} {i : Int32} {a : Nat} {st : List Value} {hp : qzH} (ha : qzArr 4 a hp.1 = true) (hi : qzIn i (qzk a).2 = true) : qzV d 129 59 [a0, a1, a2, a3] (.int i :: .ref a :: st) hp = qzV d 129 60 [a0, a1, a2, a3] (.int (hp.2.2 a i.toNatClampNeg) :: st) hp := qv_iald mdc_129 dX3_play_59 rfl ha hi
theorem eX3_play_60 {d : Nat} {a0 a1 a2 a3 : Value} {st : List Value} {hp : qzH} : qzV d 129 60 [a0, a1, a2, a3] (st) hp = qzV d 129 62 [a0, a1, a2, a3] (.int 103 :: st) hp := qv_bipush mdc_129 dX3_play_60 ib_103 rfl
theorem eX3_play_62 {d : Nat} {a0 a1 a2 a3 : Value} {x y : Int32} {st : List Value} {hp : qzH} : qzV d 129 62 [a0, a1, a2, a3] (.int y :: .int x :: st) hp = if ¬ x = y then qzV d 129 69 [a0, a1, a2, a3] (st) hp else qzV d 129 65 [a0, a1, a2, a3] (st) hp := qv_if2 mdc_129 dX3_play_62 rfl rfl rfl
theorem eX3_play_65 {d : Nat} {a0 a1 a2 a3 : Value} {st : List Value} {hp : qzH} : qzV d 129 65 [a0, a1, a2, a3] (st) hp = qzV d 129 66 [a0, a1, a2, a3] (.int 1 :: st) hp := qv_iconst mdc_129 dX3_play_65 il_1 rfl
theorem eX3_play_66 {d : Nat} {a0 a1 a2 a3 : Value} {st : List Value} {hp : qzH} : qzV d 129 66 [a0, a1, a2, a3] (st) hp = qzV d 129 70 [a0, a1, a2, a3] (st) hp := qv_goto mdc_129 dX3_play_66 rfl
theorem eX3_play_69 {d : Nat} {a0 a1 a2 a3 : Value} {st : List Value} {hp : qzH} : qzV d 129 69 [a0, a1, a2, a3] (st) hp = qzV d 129 70 [a0, a1, a2, a3] (.int 2 :: st) hp := qv_iconst mdc_129 dX3_play_69 il_2 rfl
theorem eX3_play_70 {d : Nat} {a0 a1 a2 a3 : Value} {x y : Int32} {st : List Value} {hp : qzH} : qzV d 129 70 [a0, a1, a2, a3] (.int y :: .int x :: st) hp = qzV d 129 71 [a0, a1, a2, a3] (.int (x + y) :: st) hp := qv_bin (f := fun x y => x + y) mdc_129 dX3_play_70 rfl rfl
theorem eX3_play_71 {d : Nat} {a0 a1 a2 a3 : Value} {x : Int32} {st : List Value} {hp : qzH} : qzV d 129 71 [a0, a1, a2, a3] (.int x :: st) hp = qzV d 129 72 [a0, a1, .int x, a3] (st) hp := qv_istore (i := 2) mdc_129 dX3_play_71 rfl (Nat.le_of_ble_eq_true rfl) rfl rfl
theorem eX3_play_72 {d : Nat} {a0 a2 a3 : Value} {x : Int32} {st : List Value} {hp : qzH} : qzV d 129 72 [a0, .int x, a2, a3] (st) hp = qzV d 129 73 [a0, .int x, a2, a3] (.int x :: st) hp := qv_iload (i := 1) mdc_129 dX3_play_72 rfl rfl rfl
theorem eX3_play_73 {d : Nat} {a0 a1 a2 : Value} {x : Int32} {st : List Value} {hp : qzH} : qzV d 129 73 [a0, a1, a2, .int x] (st) hp = qzV d 129 74 [a0, a1, a2, .int x] (.int x :: st) hp := qv_iload (i := 3) mdc_129 dX3_play_73 rfl rfl rfl
theorem eX3_play_74 {d : Nat} {a0 a1 a2 a3 : Value} {x : Int32} {st : List Value} {hp : qzH} : qzV d 129 74 [a0, a1, a2, a3] (.int x :: st) hp = if x = 0 then qzV d 129 81 [a0, a1, a2, a3] (st) hp else qzV d 129 77 [a0, a1, a2, a3] (st) hp := qv_if1 mdc_129 dX3_play_74 rfl rfl rfl
theorem eX3_play_77 {d : Nat} {a0 a1 a2 a3 : Value} {st : List Value} {hp : qzH} : qzV d 129 77 [a0, a1, a2, a3] (st) hp = qzV d 129 78 [a0, a1, a2, a3] (.int 1 :: st) hp := qv_iconst mdc_129 dX3_play_77 il_1 rfl
theorem eX3_play_78 {d : Nat} {a0 a1 a2 a3 : Value} {st : List Value} {hp : qzH} : qzV d 129 78 [a0, a1, a2, a3] (st) hp = qzV d 129 82 [a0, a1, a2, a3] (st) hp := qv_goto mdc_129 dX3_play_78 rfl
theorem eX3_play_81 {d : Nat} {a0 a1 a2 a3 : Value} {st : List Value} {hp : qzH} : qzV d 129 81 [a0, a1, a2, a3] (st) hp = qzV d 129 82 [a0, a1, a2, a3] (.int 0 :: st) hp := qv_iconst mdc_129 dX3_play_81 il_0 rfl
theorem eX3_play_82 {d : Nat} {a0 a1 a2 a3 : Value} {x y : Int32} {st : List Value} {hp : qzH} : qzV d 129 82 [a0, a1, a2, a3] (.int y :: .int x :: st) hp = qzV d 129 83 [a0, a1, a2, a3] (.int (x + y) :: st) hp := qv_bin (f := fun x y => x + y) mdc_129 dX3_play_82 rfl rfl
theorem eX3_play_83 {d : Nat} {a0 a1 a2 a3 : Value} {x : Int32} {st : List Value} {hp : qzH} : qzV d 129 83 [a0, a1, a2, a3] (.int x :: st) hp = qzV d 129 84 [a0, .int x, a2, a3] (st) hp := qv_istore (i := 1) mdc_129 dX3_play_83 rfl (Nat.le_of_ble_eq_true rfl) rfl rfl
theorem eX3_play_84 {d : Nat} {a0 a1 a2 a3 : Value} {st : List Value} {hp : qzH} : qzV d 129 84 [a0, a1, a2, a3] (st) hp = qzV d 129 24 [a0, a1, a2, a3] (st) hp := qv_goto mdc_129 dX3_play_84 rfl
theorem eX3_play_87 {d : Nat} {a1 a2 a3 : Value} {x : Nat} {st : List Value} {hp : qzH} : qzV d 129 87 [.ref x, a1, a2, a3] (st) hp = qzV d 129 88 [.ref x, a1, a2, a3] (.ref x :: st) hp := qv_aload (i := 0) mdc_129 dX3_play_87 rfl rfl rfl
theorem eX3_play_88 {d : Nat} {a0 a1 a2 a3 : Value} {st : List Value} {hp : qzH} : qzV d 129 88 [a0, a1, a2, a3] (st) hp = qzV d 129 89 [a0, a1, a2, a3] (.int 0 :: st) hp := qv_iconst mdc_129 dX3_play_88 il_0 rfl
theorem eX3_play_89 {d : Nat} {a0 a1 a2 a3 : Value} {a : Nat} {x : Int32} {st : List Value} {hp : qzH} (ha : qzArr 3 a hp.1 = true) : qzV d 129 89 [a0, a1, a2, a3] (.int x :: .ref a :: st) hp = qzV d 129 92 [a0, a1, a2, a3] st (hp.1, hp.2.1, qzUp hp.2.2 a 7 x) := qv_putI mdc_129 dX3_play_89 mdo_129 qff_3_116 ⟨by decide, rfl, rfl⟩ rfl ha ⟨rfl, rfl⟩
theorem eX3_play_92 {d : Nat} {a0 a2 a3 : Value} {x : Int32} {st : List Value} {hp : qzH} : qzV d 129 92 [a0, .int x, a2, a3] (st) hp = qzV d 129 93 [a0, .int x, a2, a3] (.int x :: st) hp := qv_iload (i := 1) mdc_129 dX3_play_92 rfl rfl rfl
theorem eX3_play_93 {d : Nat} {a0 a1 a2 a3 : Value} {v : Int32} {hp : qzH} : qzV d 129 93 [a0, a1, a2, a3] [.int v] hp = some (some (.int v), hp) := qv_iret mdc_129 dX3_play_93 mdr_129 rfl
theorem dX3_stripe_0 : decode cX3_stripe 0 = .ok (.iload_n 1, 1) := by decide +kernel
theorem dX3_stripe_1 : decode cX3_stripe 1 = .ok (.iconst 0, 1) := by decide +kernel
theorem dX3_stripe_2 : decode cX3_stripe 2 = .ok (.aload_n 0, 1) := by decide +kernel
theorem dX3_stripe_3 : decode cX3_stripe 3 = .ok (.getfield 7, 3) := by decide +kernel
theorem dX3_stripe_6 : decode cX3_stripe 6 = .ok (.iconst 0, 1) := by decide +kernel
theorem dX3_stripe_7 : decode cX3_stripe 7 = .ok (.iaload, 1) := by decide +kernel
theorem dX3_stripe_8 : decode cX3_stripe 8 = .ok (.iconst 1, 1) := by decide +kernel
theorem dX3_stripe_9 : decode cX3_stripe 9 = .ok (.isub, 1) := by decide +kernel
theorem dX3_stripe_10 : decode cX3_stripe 10 = .ok (.invokestatic 62, 3) := by decide +kernel
theorem dX3_stripe_13 : decode cX3_stripe 13 = .ok (.ifCond .eq 15, 3) := by decide +kernel
theorem dX3_stripe_16 : decode cX3_stripe 16 = .ok (.aload_n 0, 1) := by decide +kernel
theorem dX3_stripe_17 : decode cX3_stripe 17 = .ok (.getfield 7, 3) := by decide +kernel
theorem dX3_stripe_20 : decode cX3_stripe 20 = .ok (.bipush 8, 2) := by decide +kernel
theorem dX3_stripe_22 : decode cX3_stripe 22 = .ok (.iload_n 1, 1) := by decide +kernel
theorem dX3_stripe_23 : decode cX3_stripe 23 = .ok (.iadd, 1) := by decide +kernel
theorem dX3_stripe_24 : decode cX3_stripe 24 = .ok (.iaload, 1) := by decide +kernel
theorem dX3_stripe_25 : decode cX3_stripe 25 = .ok (.goto 4, 3) := by decide +kernel
theorem dX3_stripe_28 : decode cX3_stripe 28 = .ok (.iconst (-1), 1) := by decide +kernel
theorem dX3_stripe_29 : decode cX3_stripe 29 = .ok (.ireturn, 1) := by decide +kernel
theorem eX3_stripe_0 {d : Nat} {a0 : Value} {x : Int32} {st : List Value} {hp : qzH} : qzV d 130 0 [a0, .int x] (st) hp = qzV d 130 1 [a0, .int x] (.int x :: st) hp := qv_iload (i := 1) mdc_130 dX3_stripe_0 rfl rfl rfl
theorem eX3_stripe_1 {d : Nat} {a0 a1 : Value} {st : List Value} {hp : qzH} : qzV d 130 1 [a0, a1] (st) hp = qzV d 130 2 [a0, a1] (.int 0 :: st) hp := qv_iconst mdc_130 dX3_stripe_1 il_0 rfl
theorem eX3_stripe_2 {d : Nat} {a1 : Value} {x : Nat} {st : List Value} {hp : qzH} : qzV d 130 2 [.ref x, a1] (st) hp = qzV d 130 3 [.ref x, a1] (.ref x :: st) hp := qv_aload (i := 0) mdc_130 dX3_stripe_2 rfl rfl rfl
theorem eX3_stripe_3 {d : Nat} {a0 a1 : Value} {a : Nat} {st : List Value} {hp : qzH} (ha : qzArr 3 a hp.1 = true) : qzV d 130 3 [a0, a1] (.ref a :: st) hp = qzV d 130 6 [a0, a1] (va_rf (hp.2.1 a 0) :: st) hp := qv_getR mdc_130 dX3_stripe_3 mdo_130 qff_3_7 ⟨by decide, rfl⟩ rfl ha
theorem eX3_stripe_6 {d : Nat} {a0 a1 : Value} {st : List Value} {hp : qzH} : qzV d 130 6 [a0, a1] (st) hp = qzV d 130 7 [a0, a1] (.int 0 :: st) hp := qv_iconst mdc_130 dX3_stripe_6 il_0 rfl
theorem eX3_stripe_7 {d : Nat} {a0 a1 : Value} {i : Int32} {a : Nat} {st : List Value} {hp : qzH} (ha : qzArr 4 a hp.1 = true) (hi : qzIn i (qzk a).2 = true) : qzV d 130 7 [a0, a1] (.int i :: .ref a :: st) hp = qzV d 130 8 [a0, a1] (.int (hp.2.2 a i.toNatClampNeg) :: st) hp := qv_iald mdc_130 dX3_stripe_7 rfl ha hi
theorem eX3_stripe_8 {d : Nat} {a0 a1 : Value} {st : List Value} {hp : qzH} : qzV d 130 8 [a0, a1] (st) hp = qzV d 130 9 [a0, a1] (.int 1 :: st) hp := qv_iconst mdc_130 dX3_stripe_8 il_1 rfl
theorem eX3_stripe_9 {d : Nat} {a0 a1 : Value} {x y : Int32} {st : List Value} {hp : qzH} : qzV d 130 9 [a0, a1] (.int y :: .int x :: st) hp = qzV d 130 10 [a0, a1] (.int (x - y) :: st) hp := qv_bin (f := fun x y => x - y) mdc_130 dX3_stripe_9 rfl rfl
theorem eX3_stripe_10 {d : Nat} {a0 a1 : Value} {w0 w1 w2 : Value} {st : List Value} {hp : qzH} (h8 : st.length ≤ 8) : qzV (d + 1) 130 10 [a0, a1] (w2 :: w1 :: w0 :: st) hp = (qzC d 87 [w0, w1, w2] hp).bind (fun r => qzV (d + 1) 130 13 [a0, a1] (r.1.toList ++ st) r.2) := qv_calls (n := 3) mdc_130 dX3_stripe_10 mdo_130 (by decide) qfc_3_62 ⟨rfl, by decide, rfl⟩ rfl ⟨rfl, rfl, by simp only [List.length_cons]; omega⟩ h8
theorem eX3_stripe_13 {d : Nat} {a0 a1 : Value} {x : Int32} {st : List Value} {hp : qzH} : qzV d 130 13 [a0, a1] (.int x :: st) hp = if x = 0 then qzV d 130 28 [a0, a1] (st) hp else qzV d 130 16 [a0, a1] (st) hp := qv_if1 mdc_130 dX3_stripe_13 rfl rfl rfl
theorem eX3_stripe_16 {d : Nat} {a1 : Value} {x : Nat} {st : List Value} {hp : qzH} : qzV d 130 16 [.ref x, a1] (st) hp = qzV d 130 17 [.ref x, a1] (.ref x :: st) hp := qv_aload (i := 0) mdc_130 dX3_stripe_16 rfl rfl rfl
theorem eX3_stripe_17 {d : Nat} {a0 a1 : Value} {a : Nat} {st : List Value} {hp : qzH} (ha : qzArr 3 a hp.1 = true) : qzV d 130 17 [a0, a1] (.ref a :: st) hp = qzV d 130 20 [a0, a1] (va_rf (hp.2.1 a 0) :: st) hp := qv_getR mdc_130 dX3_stripe_17 mdo_130 qff_3_7 ⟨by decide, rfl⟩ rfl ha
theorem eX3_stripe_20 {d : Nat} {a0 a1 : Value} {st : List Value} {hp : qzH} : qzV d 130 20 [a0, a1] (st) hp = qzV d 130 22 [a0, a1] (.int 8 :: st) hp := qv_bipush mdc_130 dX3_stripe_20 ib_8 rfl
theorem eX3_stripe_22 {d : Nat} {a0 : Value} {x : Int32} {st : List Value} {hp : qzH} : qzV d 130 22 [a0, .int x] (st) hp = qzV d 130 23 [a0, .int x] (.int x :: st) hp := qv_iload (i := 1) mdc_130 dX3_stripe_22 rfl rfl rfl
theorem eX3_stripe_23 {d : Nat} {a0 a1 : Value} {x y : Int32} {st : List Value} {hp : qzH} : qzV d 130 23 [a0, a1] (.int y :: .int x :: st) hp = qzV d 130 24 [a0, a1] (.int (x + y) :: st) hp := qv_bin (f := fun x y => x + y) mdc_130 dX3_stripe_23 rfl rfl
theorem eX3_stripe_24 {d : Nat} {a0 a1 : Value} {i : Int32} {a : Nat} {st : List Value} {hp : qzH} (ha : qzArr 4 a hp.1 = true) (hi : qzIn i (qzk a).2 = true) : qzV d 130 24 [a0, a1] (.int i :: .ref a :: st) hp = qzV d 130 25 [a0, a1] (.int (hp.2.2 a i.toNatClampNeg) :: st) hp := qv_iald mdc_130 dX3_stripe_24 rfl ha hi
theorem eX3_stripe_25 {d : Nat} {a0 a1 : Value} {st : List Value} {hp : qzH} : qzV d 130 25 [a0, a1] (st) hp = qzV d 130 29 [a0, a1] (st) hp := qv_goto mdc_130 dX3_stripe_25 rfl
theorem eX3_stripe_28 {d : Nat} {a0 a1 : Value} {st : List Value} {hp : qzH} : qzV d 130 28 [a0, a1] (st) hp = qzV d 130 29 [a0, a1] (.int (-1) :: st) hp := qv_iconst mdc_130 dX3_stripe_28 il_m1 rfl
theorem eX3_stripe_29 {d : Nat} {a0 a1 : Value} {v : Int32} {hp : qzH} : qzV d 130 29 [a0, a1] [.int v] hp = some (some (.int v), hp) := qv_iret mdc_130 dX3_stripe_29 mdr_130 rfl
theorem dX3_coat_0 : decode cX3_coat 0 = .ok (.iload_n 1, 1) := by decide +kernel
theorem dX3_coat_1 : decode cX3_coat 1 = .ok (.iconst 0, 1) := by decide +kernel
theorem dX3_coat_2 : decode cX3_coat 2 = .ok (.iconst 1, 1) := by decide +kernel
theorem dX3_coat_3 : decode cX3_coat 3 = .ok (.invokestatic 62, 3) := by decide +kernel
theorem dX3_coat_6 : decode cX3_coat 6 = .ok (.ifCond .eq 12, 3) := by decide +kernel
theorem dX3_coat_9 : decode cX3_coat 9 = .ok (.iload_n 2, 1) := by decide +kernel
theorem dX3_coat_10 : decode cX3_coat 10 = .ok (.iconst 0, 1) := by decide +kernel
theorem dX3_coat_11 : decode cX3_coat 11 = .ok (.iconst 5, 1) := by decide +kernel
theorem dX3_coat_12 : decode cX3_coat 12 = .ok (.invokestatic 62, 3) := by decide +kernel
theorem dX3_coat_15 : decode cX3_coat 15 = .ok (.ifCond .ne 5, 3) := by decide +kernel
theorem dX3_coat_18 : decode cX3_coat 18 = .ok (.iconst (-1), 1) := by decide +kernel
theorem dX3_coat_19 : decode cX3_coat 19 = .ok (.ireturn, 1) := by decide +kernel
theorem dX3_coat_20 : decode cX3_coat 20 = .ok (.iload_n 2, 1) := by decide +kernel
theorem dX3_coat_21 : decode cX3_coat 21 = .ok (.iconst 3, 1) := by decide +kernel
theorem dX3_coat_22 : decode cX3_coat 22 = .ok (.if_icmp .eq 12, 3) := by decide +kernel
theorem dX3_coat_25 : decode cX3_coat 25 = .ok (.aload_n 0, 1) := by decide +kernel
theorem dX3_coat_26 : decode cX3_coat 26 = .ok (.iload_n 1, 1) := by decide +kernel
theorem dX3_coat_27 : decode cX3_coat 27 = .ok (.iload_n 2, 1) := by decide +kernel
theorem dX3_coat_28 : decode cX3_coat 28 = .ok (.invokevirtual 50, 3) := by decide +kernel
theorem dX3_coat_31 : decode cX3_coat 31 = .ok (.goto 25, 3) := by decide +kernel
theorem dX3_coat_34 : decode cX3_coat 34 = .ok (.aload_n 0, 1) := by decide +kernel
theorem dX3_coat_35 : decode cX3_coat 35 = .ok (.iload_n 1, 1) := by decide +kernel
theorem dX3_coat_36 : decode cX3_coat 36 = .ok (.iconst 3, 1) := by decide +kernel
theorem dX3_coat_37 : decode cX3_coat 37 = .ok (.invokevirtual 50, 3) := by decide +kernel
theorem dX3_coat_40 : decode cX3_coat 40 = .ok (.ifCond .ne 8, 3) := by decide +kernel
theorem dX3_coat_43 : decode cX3_coat 43 = .ok (.bipush (-4), 2) := by decide +kernel
theorem dX3_coat_45 : decode cX3_coat 45 = .ok (.goto 11, 3) := by decide +kernel
theorem dX3_coat_48 : decode cX3_coat 48 = .ok (.aload_n 0, 1) := by decide +kernel
theorem dX3_coat_49 : decode cX3_coat 49 = .ok (.iload_n 1, 1) := by decide +kernel
theorem dX3_coat_50 : decode cX3_coat 50 = .ok (.iconst 3, 1) := by decide +kernel
theorem dX3_coat_51 : decode cX3_coat 51 = .ok (.invokevirtual 50, 3) := by decide +kernel
theorem dX3_coat_54 : decode cX3_coat 54 = .ok (.iconst 1, 1) := by decide +kernel
theorem dX3_coat_55 : decode cX3_coat 55 = .ok (.isub, 1) := by decide +kernel
theorem dX3_coat_56 : decode cX3_coat 56 = .ok (.ireturn, 1) := by decide +kernel
theorem eX3_coat_0 {d : Nat} {a0 a2 : Value} {x : Int32} {st : List Value} {hp : qzH} : qzV d 131 0 [a0, .int x, a2] (st) hp = qzV d 131 1 [a0, .int x, a2] (.int x :: st) hp := qv_iload (i := 1) mdc_131 dX3_coat_0 rfl rfl rfl
theorem eX3_coat_1 {d : Nat} {a0 a1 a2 : Value} {st : List Value} {hp : qzH} : qzV d 131 1 [a0, a1, a2] (st) hp = qzV d 131 2 [a0, a1, a2] (.int 0 :: st) hp := qv_iconst mdc_131 dX3_coat_1 il_0 rfl
theorem eX3_coat_2 {d : Nat} {a0 a1 a2 : Value} {st : List Value} {hp : qzH} : qzV d 131 2 [a0, a1, a2] (st) hp = qzV d 131 3 [a0, a1, a2] (.int 1 :: st) hp := qv_iconst mdc_131 dX3_coat_2 il_1 rfl
theorem eX3_coat_3 {d : Nat} {a0 a1 a2 : Value} {w0 w1 w2 : Value} {st : List Value} {hp : qzH} (h8 : st.length ≤ 8) : qzV (d + 1) 131 3 [a0, a1, a2] (w2 :: w1 :: w0 :: st) hp = (qzC d 87 [w0, w1, w2] hp).bind (fun r => qzV (d + 1) 131 6 [a0, a1, a2] (r.1.toList ++ st) r.2) := qv_calls (n := 3) mdc_131 dX3_coat_3 mdo_131 (by decide) qfc_3_62 ⟨rfl, by decide, rfl⟩ rfl ⟨rfl, rfl, by simp only [List.length_cons]; omega⟩ h8
theorem eX3_coat_6 {d : Nat} {a0 a1 a2 : Value} {x : Int32} {st : List Value} {hp : qzH} : qzV d 131 6 [a0, a1, a2] (.int x :: st) hp = if x = 0 then qzV d 131 18 [a0, a1, a2] (st) hp else qzV d 131 9 [a0, a1, a2] (st) hp := qv_if1 mdc_131 dX3_coat_6 rfl rfl rfl
theorem eX3_coat_9 {d : Nat} {a0 a1 : Value} {x : Int32} {st : List Value} {hp : qzH} : qzV d 131 9 [a0, a1, .int x] (st) hp = qzV d 131 10 [a0, a1, .int x] (.int x :: st) hp := qv_iload (i := 2) mdc_131 dX3_coat_9 rfl rfl rfl
theorem eX3_coat_10 {d : Nat} {a0 a1 a2 : Value} {st : List Value} {hp : qzH} : qzV d 131 10 [a0, a1, a2] (st) hp = qzV d 131 11 [a0, a1, a2] (.int 0 :: st) hp := qv_iconst mdc_131 dX3_coat_10 il_0 rfl
theorem eX3_coat_11 {d : Nat} {a0 a1 a2 : Value} {st : List Value} {hp : qzH} : qzV d 131 11 [a0, a1, a2] (st) hp = qzV d 131 12 [a0, a1, a2] (.int 5 :: st) hp := qv_iconst mdc_131 dX3_coat_11 il_5 rfl
theorem eX3_coat_12 {d : Nat} {a0 a1 a2 : Value} {w0 w1 w2 : Value} {st : List Value} {hp : qzH} (h8 : st.length ≤ 8) : qzV (d + 1) 131 12 [a0, a1, a2] (w2 :: w1 :: w0 :: st) hp = (qzC d 87 [w0, w1, w2] hp).bind (fun r => qzV (d + 1) 131 15 [a0, a1, a2] (r.1.toList ++ st) r.2) := qv_calls (n := 3) mdc_131 dX3_coat_12 mdo_131 (by decide) qfc_3_62 ⟨rfl, by decide, rfl⟩ rfl ⟨rfl, rfl, by simp only [List.length_cons]; omega⟩ h8
theorem eX3_coat_15 {d : Nat} {a0 a1 a2 : Value} {x : Int32} {st : List Value} {hp : qzH} : qzV d 131 15 [a0, a1, a2] (.int x :: st) hp = if ¬ x = 0 then qzV d 131 20 [a0, a1, a2] (st) hp else qzV d 131 18 [a0, a1, a2] (st) hp := qv_if1 mdc_131 dX3_coat_15 rfl rfl rfl
theorem eX3_coat_18 {d : Nat} {a0 a1 a2 : Value} {st : List Value} {hp : qzH} : qzV d 131 18 [a0, a1, a2] (st) hp = qzV d 131 19 [a0, a1, a2] (.int (-1) :: st) hp := qv_iconst mdc_131 dX3_coat_18 il_m1 rfl
theorem eX3_coat_19 {d : Nat} {a0 a1 a2 : Value} {v : Int32} {hp : qzH} : qzV d 131 19 [a0, a1, a2] [.int v] hp = some (some (.int v), hp) := qv_iret mdc_131 dX3_coat_19 mdr_131 rfl
theorem eX3_coat_20 {d : Nat} {a0 a1 : Value} {x : Int32} {st : List Value} {hp : qzH} : qzV d 131 20 [a0, a1, .int x] (st) hp = qzV d 131 21 [a0, a1, .int x] (.int x :: st) hp := qv_iload (i := 2) mdc_131 dX3_coat_20 rfl rfl rfl
theorem eX3_coat_21 {d : Nat} {a0 a1 a2 : Value} {st : List Value} {hp : qzH} : qzV d 131 21 [a0, a1, a2] (st) hp = qzV d 131 22 [a0, a1, a2] (.int 3 :: st) hp := qv_iconst mdc_131 dX3_coat_21 il_3 rfl
theorem eX3_coat_22 {d : Nat} {a0 a1 a2 : Value} {x y : Int32} {st : List Value} {hp : qzH} : qzV d 131 22 [a0, a1, a2] (.int y :: .int x :: st) hp = if x = y then qzV d 131 34 [a0, a1, a2] (st) hp else qzV d 131 25 [a0, a1, a2] (st) hp := qv_if2 mdc_131 dX3_coat_22 rfl rfl rfl
theorem eX3_coat_25 {d : Nat} {a1 a2 : Value} {x : Nat} {st : List Value} {hp : qzH} : qzV d 131 25 [.ref x, a1, a2] (st) hp = qzV d 131 26 [.ref x, a1, a2] (.ref x :: st) hp := qv_aload (i := 0) mdc_131 dX3_coat_25 rfl rfl rfl
theorem eX3_coat_26 {d : Nat} {a0 a2 : Value} {x : Int32} {st : List Value} {hp : qzH} : qzV d 131 26 [a0, .int x, a2] (st) hp = qzV d 131 27 [a0, .int x, a2] (.int x :: st) hp := qv_iload (i := 1) mdc_131 dX3_coat_26 rfl rfl rfl
theorem eX3_coat_27 {d : Nat} {a0 a1 : Value} {x : Int32} {st : List Value} {hp : qzH} : qzV d 131 27 [a0, a1, .int x] (st) hp = qzV d 131 28 [a0, a1, .int x] (.int x :: st) hp := qv_iload (i := 2) mdc_131 dX3_coat_27 rfl rfl rfl
theorem eX3_coat_28 {d : Nat} {a0 a1 a2 : Value} {w0 w1 : Value} {b : Nat} {st : List Value} {hp : qzH} (h8 : st.length ≤ 8) (hb : qzArr 3 b hp.1 = true) : qzV (d + 1) 131 28 [a0, a1, a2] (w1 :: w0 :: .ref b :: st) hp = (qzC d 91 (.ref b :: [w0, w1]) hp).bind (fun r => qzV (d + 1) 131 31 [a0, a1, a2] (r.1.toList ++ st) r.2) := qv_callv (n := 2) mdc_131 dX3_coat_28 mdo_131 (by decide) qfc_3_50 ⟨rfl, by decide, rfl⟩ rfl ⟨rfl, rfl, by simp only [List.length_cons]; omega⟩ h8 hb
theorem eX3_coat_31 {d : Nat} {a0 a1 a2 : Value} {st : List Value} {hp : qzH} : qzV d 131 31 [a0, a1, a2] (st) hp = qzV d 131 56 [a0, a1, a2] (st) hp := qv_goto mdc_131 dX3_coat_31 rfl
theorem eX3_coat_34 {d : Nat} {a1 a2 : Value} {x : Nat} {st : List Value} {hp : qzH} : qzV d 131 34 [.ref x, a1, a2] (st) hp = qzV d 131 35 [.ref x, a1, a2] (.ref x :: st) hp := qv_aload (i := 0) mdc_131 dX3_coat_34 rfl rfl rfl
theorem eX3_coat_35 {d : Nat} {a0 a2 : Value} {x : Int32} {st : List Value} {hp : qzH} : qzV d 131 35 [a0, .int x, a2] (st) hp = qzV d 131 36 [a0, .int x, a2] (.int x :: st) hp := qv_iload (i := 1) mdc_131 dX3_coat_35 rfl rfl rfl
theorem eX3_coat_36 {d : Nat} {a0 a1 a2 : Value} {st : List Value} {hp : qzH} : qzV d 131 36 [a0, a1, a2] (st) hp = qzV d 131 37 [a0, a1, a2] (.int 3 :: st) hp := qv_iconst mdc_131 dX3_coat_36 il_3 rfl
theorem eX3_coat_37 {d : Nat} {a0 a1 a2 : Value} {w0 w1 : Value} {b : Nat} {st : List Value} {hp : qzH} (h8 : st.length ≤ 8) (hb : qzArr 3 b hp.1 = true) : qzV (d + 1) 131 37 [a0, a1, a2] (w1 :: w0 :: .ref b :: st) hp = (qzC d 91 (.ref b :: [w0, w1]) hp).bind (fun r => qzV (d + 1) 131 40 [a0, a1, a2] (r.1.toList ++ st) r.2) := qv_callv (n := 2) mdc_131 dX3_coat_37 mdo_131 (by decide) qfc_3_50 ⟨rfl, by decide, rfl⟩ rfl ⟨rfl, rfl, by simp only [List.length_cons]; omega⟩ h8 hb
theorem eX3_coat_40 {d : Nat} {a0 a1 a2 : Value} {x : Int32} {st : List Value} {hp : qzH} : qzV d 131 40 [a0, a1, a2] (.int x :: st) hp = if ¬ x = 0 then qzV d 131 48 [a0, a1, a2] (st) hp else qzV d 131 43 [a0, a1, a2] (st) hp := qv_if1 mdc_131 dX3_coat_40 rfl rfl rfl
theorem eX3_coat_43 {d : Nat} {a0 a1 a2 : Value} {st : List Value} {hp : qzH} : qzV d 131 43 [a0, a1, a2] (st) hp = qzV d 131 45 [a0, a1, a2] (.int (-4) :: st) hp := qv_bipush mdc_131 dX3_coat_43 ib_m4 rfl
theorem eX3_coat_45 {d : Nat} {a0 a1 a2 : Value} {st : List Value} {hp : qzH} : qzV d 131 45 [a0, a1, a2] (st) hp = qzV d 131 56 [a0, a1, a2] (st) hp := qv_goto mdc_131 dX3_coat_45 rfl
theorem eX3_coat_48 {d : Nat} {a1 a2 : Value} {x : Nat} {st : List Value} {hp : qzH} : qzV d 131 48 [.ref x, a1, a2] (st) hp = qzV d 131 49 [.ref x, a1, a2] (.ref x :: st) hp := qv_aload (i := 0) mdc_131 dX3_coat_48 rfl rfl rfl
theorem eX3_coat_49 {d : Nat} {a0 a2 : Value} {x : Int32} {st : List Value} {hp : qzH} : qzV d 131 49 [a0, .int x, a2] (st) hp = qzV d 131 50 [a0, .int x, a2] (.int x :: st) hp := qv_iload (i := 1) mdc_131 dX3_coat_49 rfl rfl rfl
theorem eX3_coat_50 {d : Nat} {a0 a1 a2 : Value} {st : List Value} {hp : qzH} : qzV d 131 50 [a0, a1, a2] (st) hp = qzV d 131 51 [a0, a1, a2] (.int 3 :: st) hp := qv_iconst mdc_131 dX3_coat_50 il_3 rfl
theorem eX3_coat_51 {d : Nat} {a0 a1 a2 : Value} {w0 w1 : Value} {b : Nat} {st : List Value} {hp : qzH} (h8 : st.length ≤ 8) (hb : qzArr 3 b hp.1 = true) : qzV (d + 1) 131 51 [a0, a1, a2] (w1 :: w0 :: .ref b :: st) hp = (qzC d 91 (.ref b :: [w0, w1]) hp).bind (fun r => qzV (d + 1) 131 54 [a0, a1, a2] (r.1.toList ++ st) r.2) := qv_callv (n := 2) mdc_131 dX3_coat_51 mdo_131 (by decide) qfc_3_50 ⟨rfl, by decide, rfl⟩ rfl ⟨rfl, rfl, by simp only [List.length_cons]; omega⟩ h8 hb
theorem eX3_coat_54 {d : Nat} {a0 a1 a2 : Value} {st : List Value} {hp : qzH} : qzV d 131 54 [a0, a1, a2] (st) hp = qzV d 131 55 [a0, a1, a2] (.int 1 :: st) hp := qv_iconst mdc_131 dX3_coat_54 il_1 rfl
theorem eX3_coat_55 {d : Nat} {a0 a1 a2 : Value} {x y : Int32} {st : List Value} {hp : qzH} : qzV d 131 55 [a0, a1, a2] (.int y :: .int x :: st) hp = qzV d 131 56 [a0, a1, a2] (.int (x - y) :: st) hp := qv_bin (f := fun x y => x - y) mdc_131 dX3_coat_55 rfl rfl
theorem eX3_coat_56 {d : Nat} {a0 a1 a2 : Value} {v : Int32} {hp : qzH} : qzV d 131 56 [a0, a1, a2] [.int v] hp = some (some (.int v), hp) := qv_iret mdc_131 dX3_coat_56 mdr_131 rfl
theorem dX3_piece_0 : decode cX3_piece 0 = .ok (.iload_n 1, 1) := by decide +kernel
theorem dX3_piece_1 : decode cX3_piece 1 = .ok (.iconst 0, 1) := by decide +kernel
theorem dX3_piece_2 : decode cX3_piece 2 = .ok (.iconst 1, 1) := by decide +kernel
theorem dX3_piece_3 : decode cX3_piece 3 = .ok (.invokestatic 62, 3) := by decide +kernel
theorem dX3_piece_6 : decode cX3_piece 6 = .ok (.ifCond .eq 16, 3) := by decide +kernel
theorem dX3_piece_9 : decode cX3_piece 9 = .ok (.iload_n 2, 1) := by decide +kernel
theorem dX3_piece_10 : decode cX3_piece 10 = .ok (.ifCond .lt 12, 3) := by decide +kernel
theorem dX3_piece_13 : decode cX3_piece 13 = .ok (.iload_n 3, 1) := by decide +kernel
theorem dX3_piece_14 : decode cX3_piece 14 = .ok (.iconst 0, 1) := by decide +kernel
theorem dX3_piece_15 : decode cX3_piece 15 = .ok (.iconst 3, 1) := by decide +kernel
theorem dX3_piece_16 : decode cX3_piece 16 = .ok (.invokestatic 62, 3) := by decide +kernel
theorem dX3_piece_19 : decode cX3_piece 19 = .ok (.ifCond .ne 5, 3) := by decide +kernel
theorem dX3_piece_22 : decode cX3_piece 22 = .ok (.iconst (-1), 1) := by decide +kernel
theorem dX3_piece_23 : decode cX3_piece 23 = .ok (.ireturn, 1) := by decide +kernel
theorem dX3_piece_24 : decode cX3_piece 24 = .ok (.iload_n 2, 1) := by decide +kernel
theorem dX3_piece_25 : decode cX3_piece 25 = .ok (.aload_n 0, 1) := by decide +kernel
theorem dX3_piece_26 : decode cX3_piece 26 = .ok (.iload_n 1, 1) := by decide +kernel
theorem dX3_piece_27 : decode cX3_piece 27 = .ok (.iconst 1, 1) := by decide +kernel
theorem dX3_piece_28 : decode cX3_piece 28 = .ok (.invokevirtual 50, 3) := by decide +kernel
theorem dX3_piece_31 : decode cX3_piece 31 = .ok (.if_icmp .ge 24, 3) := by decide +kernel
theorem dX3_piece_34 : decode cX3_piece 34 = .ok (.aload_n 0, 1) := by decide +kernel
theorem dX3_piece_35 : decode cX3_piece 35 = .ok (.getfield 7, 3) := by decide +kernel
theorem dX3_piece_38 : decode cX3_piece 38 = .ok (.bipush 40, 2) := by decide +kernel
theorem dX3_piece_40 : decode cX3_piece 40 = .ok (.bipush 40, 2) := by decide +kernel
theorem dX3_piece_42 : decode cX3_piece 42 = .ok (.iload_n 1, 1) := by decide +kernel
theorem dX3_piece_43 : decode cX3_piece 43 = .ok (.imul, 1) := by decide +kernel
theorem dX3_piece_44 : decode cX3_piece 44 = .ok (.iadd, 1) := by decide +kernel
theorem dX3_piece_45 : decode cX3_piece 45 = .ok (.iconst 4, 1) := by decide +kernel
theorem dX3_piece_46 : decode cX3_piece 46 = .ok (.iload_n 2, 1) := by decide +kernel
theorem dX3_piece_47 : decode cX3_piece 47 = .ok (.imul, 1) := by decide +kernel
theorem dX3_piece_48 : decode cX3_piece 48 = .ok (.iadd, 1) := by decide +kernel
theorem dX3_piece_49 : decode cX3_piece 49 = .ok (.iload_n 3, 1) := by decide +kernel
theorem dX3_piece_50 : decode cX3_piece 50 = .ok (.iadd, 1) := by decide +kernel
theorem dX3_piece_51 : decode cX3_piece 51 = .ok (.iaload, 1) := by decide +kernel
theorem dX3_piece_52 : decode cX3_piece 52 = .ok (.goto 5, 3) := by decide +kernel
theorem dX3_piece_55 : decode cX3_piece 55 = .ok (.bipush (-4), 2) := by decide +kernel
theorem dX3_piece_57 : decode cX3_piece 57 = .ok (.ireturn, 1) := by decide +kernel
theorem eX3_piece_0 {d : Nat} {a0 a2 a3 : Value} {x : Int32} {st : List Value} {hp : qzH} : qzV d 132 0 [a0, .int x, a2, a3] (st) hp = qzV d 132 1 [a0, .int x, a2, a3] (.int x :: st) hp := qv_iload (i := 1) mdc_132 dX3_piece_0 rfl rfl rfl
theorem eX3_piece_1 {d : Nat} {a0 a1 a2 a3 : Value} {st : List Value} {hp : qzH} : qzV d 132 1 [a0, a1, a2, a3] (st) hp = qzV d 132 2 [a0, a1, a2, a3] (.int 0 :: st) hp := qv_iconst mdc_132 dX3_piece_1 il_0 rfl
theorem eX3_piece_2 {d : Nat} {a0 a1 a2 a3 : Value} {st : List Value} {hp : qzH} : qzV d 132 2 [a0, a1, a2, a3] (st) hp = qzV d 132 3 [a0, a1, a2, a3] (.int 1 :: st) hp := qv_iconst mdc_132 dX3_piece_2 il_1 rfl
theorem eX3_piece_3 {d : Nat} {a0 a1 a2 a3 : Value} {w0 w1 w2 : Value} {st : List Value} {hp : qzH} (h8 : st.length ≤ 8) : qzV (d + 1) 132 3 [a0, a1, a2, a3] (w2 :: w1 :: w0 :: st) hp = (qzC d 87 [w0, w1, w2] hp).bind (fun r => qzV (d + 1) 132 6 [a0, a1, a2, a3] (r.1.toList ++ st) r.2) := qv_calls (n := 3) mdc_132 dX3_piece_3 mdo_132 (by decide) qfc_3_62 ⟨rfl, by decide, rfl⟩ rfl ⟨rfl, rfl, by simp only [List.length_cons]; omega⟩ h8
theorem eX3_piece_6 {d : Nat} {a0 a1 a2 a3 : Value} {x : Int32} {st : List Value} {hp : qzH} : qzV d 132 6 [a0, a1, a2, a3] (.int x :: st) hp = if x = 0 then qzV d 132 22 [a0, a1, a2, a3] (st) hp else qzV d 132 9 [a0, a1, a2, a3] (st) hp := qv_if1 mdc_132 dX3_piece_6 rfl rfl rfl
theorem eX3_piece_9 {d : Nat} {a0 a1 a3 : Value} {x : Int32} {st : List Value} {hp : qzH} : qzV d 132 9 [a0, a1, .int x, a3] (st) hp = qzV d 132 10 [a0, a1, .int x, a3] (.int x :: st) hp := qv_iload (i := 2) mdc_132 dX3_piece_9 rfl rfl rfl
theorem eX3_piece_10 {d : Nat} {a0 a1 a2 a3 : Value} {x : Int32} {st : List Value} {hp : qzH} : qzV d 132 10 [a0, a1, a2, a3] (.int x :: st) hp = if x < 0 then qzV d 132 22 [a0, a1, a2, a3] (st) hp else qzV d 132 13 [a0, a1, a2, a3] (st) hp := qv_if1 mdc_132 dX3_piece_10 rfl rfl rfl
theorem eX3_piece_13 {d : Nat} {a0 a1 a2 : Value} {x : Int32} {st : List Value} {hp : qzH} : qzV d 132 13 [a0, a1, a2, .int x] (st) hp = qzV d 132 14 [a0, a1, a2, .int x] (.int x :: st) hp := qv_iload (i := 3) mdc_132 dX3_piece_13 rfl rfl rfl
theorem eX3_piece_14 {d : Nat} {a0 a1 a2 a3 : Value} {st : List Value} {hp : qzH} : qzV d 132 14 [a0, a1, a2, a3] (st) hp = qzV d 132 15 [a0, a1, a2, a3] (.int 0 :: st) hp := qv_iconst mdc_132 dX3_piece_14 il_0 rfl
theorem eX3_piece_15 {d : Nat} {a0 a1 a2 a3 : Value} {st : List Value} {hp : qzH} : qzV d 132 15 [a0, a1, a2, a3] (st) hp = qzV d 132 16 [a0, a1, a2, a3] (.int 3 :: st) hp := qv_iconst mdc_132 dX3_piece_15 il_3 rfl
theorem eX3_piece_16 {d : Nat} {a0 a1 a2 a3 : Value} {w0 w1 w2 : Value} {st : List Value} {hp : qzH} (h8 : st.length ≤ 8) : qzV (d + 1) 132 16 [a0, a1, a2, a3] (w2 :: w1 :: w0 :: st) hp = (qzC d 87 [w0, w1, w2] hp).bind (fun r => qzV (d + 1) 132 19 [a0, a1, a2, a3] (r.1.toList ++ st) r.2) := qv_calls (n := 3) mdc_132 dX3_piece_16 mdo_132 (by decide) qfc_3_62 ⟨rfl, by decide, rfl⟩ rfl ⟨rfl, rfl, by simp only [List.length_cons]; omega⟩ h8
theorem eX3_piece_19 {d : Nat} {a0 a1 a2 a3 : Value} {x : Int32} {st : List Value} {hp : qzH} : qzV d 132 19 [a0, a1, a2, a3] (.int x :: st) hp = if ¬ x = 0 then qzV d 132 24 [a0, a1, a2, a3] (st) hp else qzV d 132 22 [a0, a1, a2, a3] (st) hp := qv_if1 mdc_132 dX3_piece_19 rfl rfl rfl
theorem eX3_piece_22 {d : Nat} {a0 a1 a2 a3 : Value} {st : List Value} {hp : qzH} : qzV d 132 22 [a0, a1, a2, a3] (st) hp = qzV d 132 23 [a0, a1, a2, a3] (.int (-1) :: st) hp := qv_iconst mdc_132 dX3_piece_22 il_m1 rfl
theorem eX3_piece_23 {d : Nat} {a0 a1 a2 a3 : Value} {v : Int32} {hp : qzH} : qzV d 132 23 [a0, a1, a2, a3] [.int v] hp = some (some (.int v), hp) := qv_iret mdc_132 dX3_piece_23 mdr_132 rfl
theorem eX3_piece_24 {d : Nat} {a0 a1 a3 : Value} {x : Int32} {st : List Value} {hp : qzH} : qzV d 132 24 [a0, a1, .int x, a3] (st) hp = qzV d 132 25 [a0, a1, .int x, a3] (.int x :: st) hp := qv_iload (i := 2) mdc_132 dX3_piece_24 rfl rfl rfl
theorem eX3_piece_25 {d : Nat} {a1 a2 a3 : Value} {x : Nat} {st : List Value} {hp : qzH} : qzV d 132 25 [.ref x, a1, a2, a3] (st) hp = qzV d 132 26 [.ref x, a1, a2, a3] (.ref x :: st) hp := qv_aload (i := 0) mdc_132 dX3_piece_25 rfl rfl rfl
theorem eX3_piece_26 {d : Nat} {a0 a2 a3 : Value} {x : Int32} {st : List Value} {hp : qzH} : qzV d 132 26 [a0, .int x, a2, a3] (st) hp = qzV d 132 27 [a0, .int x, a2, a3] (.int x :: st) hp := qv_iload (i := 1) mdc_132 dX3_piece_26 rfl rfl rfl
theorem eX3_piece_27 {d : Nat} {a0 a1 a2 a3 : Value} {st : List Value} {hp : qzH} : qzV d 132 27 [a0, a1, a2, a3] (st) hp = qzV d 132 28 [a0, a1, a2, a3] (.int 1 :: st) hp := qv_iconst mdc_132 dX3_piece_27 il_1 rfl
theorem eX3_piece_28 {d : Nat} {a0 a1 a2 a3 : Value} {w0 w1 : Value} {b : Nat} {st : List Value} {hp : qzH} (h8 : st.length ≤ 8) (hb : qzArr 3 b hp.1 = true) : qzV (d + 1) 132 28 [a0, a1, a2, a3] (w1 :: w0 :: .ref b :: st) hp = (qzC d 91 (.ref b :: [w0, w1]) hp).bind (fun r => qzV (d + 1) 132 31 [a0, a1, a2, a3] (r.1.toList ++ st) r.2) := qv_callv (n := 2) mdc_132 dX3_piece_28 mdo_132 (by decide) qfc_3_50 ⟨rfl, by decide, rfl⟩ rfl ⟨rfl, rfl, by simp only [List.length_cons]; omega⟩ h8 hb
theorem eX3_piece_31 {d : Nat} {a0 a1 a2 a3 : Value} {x y : Int32} {st : List Value} {hp : qzH} : qzV d 132 31 [a0, a1, a2, a3] (.int y :: .int x :: st) hp = if y ≤ x then qzV d 132 55 [a0, a1, a2, a3] (st) hp else qzV d 132 34 [a0, a1, a2, a3] (st) hp := qv_if2 mdc_132 dX3_piece_31 rfl rfl rfl
theorem eX3_piece_34 {d : Nat} {a1 a2 a3 : Value} {x : Nat} {st : List Value} {hp : qzH} : qzV d 132 34 [.ref x, a1, a2, a3] (st) hp = qzV d 132 35 [.ref x, a1, a2, a3] (.ref x :: st) hp := qv_aload (i := 0) mdc_132 dX3_piece_34 rfl rfl rfl
theorem eX3_piece_35 {d : Nat} {a0 a1 a2 a3 : Value} {a : Nat} {st : List Value} {hp : qzH} (ha : qzArr 3 a hp.1 = true) : qzV d 132 35 [a0, a1, a2, a3] (.ref a :: st) hp = qzV d 132 38 [a0, a1, a2, a3] (va_rf (hp.2.1 a 0) :: st) hp := qv_getR mdc_132 dX3_piece_35 mdo_132 qff_3_7 ⟨by decide, rfl⟩ rfl ha
theorem eX3_piece_38 {d : Nat} {a0 a1 a2 a3 : Value} {st : List Value} {hp : qzH} : qzV d 132 38 [a0, a1, a2, a3] (st) hp = qzV d 132 40 [a0, a1, a2, a3] (.int 40 :: st) hp := qv_bipush mdc_132 dX3_piece_38 ib_40 rfl
theorem eX3_piece_40 {d : Nat} {a0 a1 a2 a3 : Value} {st : List Value} {hp : qzH} : qzV d 132 40 [a0, a1, a2, a3] (st) hp = qzV d 132 42 [a0, a1, a2, a3] (.int 40 :: st) hp := qv_bipush mdc_132 dX3_piece_40 ib_40 rfl
theorem eX3_piece_42 {d : Nat} {a0 a2 a3 : Value} {x : Int32} {st : List Value} {hp : qzH} : qzV d 132 42 [a0, .int x, a2, a3] (st) hp = qzV d 132 43 [a0, .int x, a2, a3] (.int x :: st) hp := qv_iload (i := 1) mdc_132 dX3_piece_42 rfl rfl rfl
theorem eX3_piece_43 {d : Nat} {a0 a1 a2 a3 : Value} {x y : Int32} {st : List Value} {hp : qzH} : qzV d 132 43 [a0, a1, a2, a3] (.int y :: .int x :: st) hp = qzV d 132 44 [a0, a1, a2, a3] (.int (x * y) :: st) hp := qv_bin (f := fun x y => x * y) mdc_132 dX3_piece_43 rfl rfl
theorem eX3_piece_44 {d : Nat} {a0 a1 a2 a3 : Value} {x y : Int32} {st : List Value} {hp : qzH} : qzV d 132 44 [a0, a1, a2, a3] (.int y :: .int x :: st) hp = qzV d 132 45 [a0, a1, a2, a3] (.int (x + y) :: st) hp := qv_bin (f := fun x y => x + y) mdc_132 dX3_piece_44 rfl rfl
theorem eX3_piece_45 {d : Nat} {a0 a1 a2 a3 : Value} {st : List Value} {hp : qzH} : qzV d 132 45 [a0, a1, a2, a3] (st) hp = qzV d 132 46 [a0, a1, a2, a3] (.int 4 :: st) hp := qv_iconst mdc_132 dX3_piece_45 il_4 rfl
theorem eX3_piece_46 {d : Nat} {a0 a1 a3 : Value} {x : Int32} {st : List Value} {hp : qzH} : qzV d 132 46 [a0, a1, .int x, a3] (st) hp = qzV d 132 47 [a0, a1, .int x, a3] (.int x :: st) hp := qv_iload (i := 2) mdc_132 dX3_piece_46 rfl rfl rfl
theorem eX3_piece_47 {d : Nat} {a0 a1 a2 a3 : Value} {x y : Int32} {st : List Value} {hp : qzH} : qzV d 132 47 [a0, a1, a2, a3] (.int y :: .int x :: st) hp = qzV d 132 48 [a0, a1, a2, a3] (.int (x * y) :: st) hp := qv_bin (f := fun x y => x * y) mdc_132 dX3_piece_47 rfl rfl
theorem eX3_piece_48 {d : Nat} {a0 a1 a2 a3 : Value} {x y : Int32} {st : List Value} {hp : qzH} : qzV d 132 48 [a0, a1, a2, a3] (.int y :: .int x :: st) hp = qzV d 132 49 [a0, a1, a2, a3] (.int (x + y) :: st) hp := qv_bin (f := fun x y => x + y) mdc_132 dX3_piece_48 rfl rfl
theorem eX3_piece_49 {d : Nat} {a0 a1 a2 : Value} {x : Int32} {st : List Value} {hp : qzH} : qzV d 132 49 [a0, a1, a2, .int x] (st) hp = qzV d 132 50 [a0, a1, a2, .int x] (.int x :: st) hp := qv_iload (i := 3) mdc_132 dX3_piece_49 rfl rfl rfl
theorem eX3_piece_50 {d : Nat} {a0 a1 a2 a3 : Value} {x y : Int32} {st : List Value} {hp : qzH} : qzV d 132 50 [a0, a1, a2, a3] (.int y :: .int x :: st) hp = qzV d 132 51 [a0, a1, a2, a3] (.int (x + y) :: st) hp := qv_bin (f := fun x y => x + y) mdc_132 dX3_piece_50 rfl rfl
theorem eX3_piece_51 {d : Nat} {a0 a1 a2 a3 : Value} {i : Int32} {a : Nat} {st : List Value} {hp : qzH} (ha : qzArr 4 a hp.1 = true) (hi : qzIn i (qzk a).2 = true) : qzV d 132 51 [a0, a1, a2, a3] (.int i :: .ref a :: st) hp = qzV d 132 52 [a0, a1, a2, a3] (.int (hp.2.2 a i.toNatClampNeg) :: st) hp := qv_iald mdc_132 dX3_piece_51 rfl ha hi
theorem eX3_piece_52 {d : Nat} {a0 a1 a2 a3 : Value} {st : List Value} {hp : qzH} : qzV d 132 52 [a0, a1, a2, a3] (st) hp = qzV d 132 57 [a0, a1, a2, a3] (st) hp := qv_goto mdc_132 dX3_piece_52 rfl
theorem eX3_piece_55 {d : Nat} {a0 a1 a2 a3 : Value} {st : List Value} {hp : qzH} : qzV d 132 55 [a0, a1, a2, a3] (st) hp = qzV d 132 57 [a0, a1, a2, a3] (.int (-4) :: st) hp := qv_bipush mdc_132 dX3_piece_55 ib_m4 rfl
theorem eX3_piece_57 {d : Nat} {a0 a1 a2 a3 : Value} {v : Int32} {hp : qzH} : qzV d 132 57 [a0, a1, a2, a3] [.int v] hp = some (some (.int v), hp) := qv_iret mdc_132 dX3_piece_57 mdr_132 rfl
theorem dX3_changes_0 : decode cX3_changes 0 = .ok (.iconst 0, 1) := by decide +kernel
theorem dX3_changes_1 : decode cX3_changes 1 = .ok (.istore_n 1, 1) := by decide +kernel
theorem dX3_changes_2 : decode cX3_changes 2 = .ok (.aload_n 0, 1) := by decide +kernel
theorem dX3_changes_3 : decode cX3_changes 3 = .ok (.getfield 7, 3) := by decide +kernel
theorem dX3_changes_6 : decode cX3_changes 6 = .ok (.iconst 1, 1) := by decide +kernel
theorem dX3_changes_7 : decode cX3_changes 7 = .ok (.iaload, 1) := by decide +kernel
theorem dX3_changes_8 : decode cX3_changes 8 = .ok (.iconst 1, 1) := by decide +kernel
theorem dX3_changes_9 : decode cX3_changes 9 = .ok (.iadd, 1) := by decide +kernel
theorem dX3_changes_10 : decode cX3_changes 10 = .ok (.istore_n 2, 1) := by decide +kernel
theorem dX3_changes_11 : decode cX3_changes 11 = .ok (.iload_n 2, 1) := by decide +kernel
theorem dX3_changes_12 : decode cX3_changes 12 = .ok (.aload_n 0, 1) := by decide +kernel
theorem dX3_changes_13 : decode cX3_changes 13 = .ok (.getfield 7, 3) := by decide +kernel
theorem dX3_changes_16 : decode cX3_changes 16 = .ok (.iconst 1, 1) := by decide +kernel
theorem dX3_changes_17 : decode cX3_changes 17 = .ok (.iaload, 1) := by decide +kernel
theorem dX3_changes_18 : decode cX3_changes 18 = .ok (.aload_n 0, 1) := by decide +kernel
theorem dX3_changes_19 : decode cX3_changes 19 = .ok (.getfield 7, 3) := by decide +kernel
theorem dX3_changes_22 : decode cX3_changes 22 = .ok (.iconst 2, 1) := by decide +kernel
theorem dX3_changes_23 : decode cX3_changes 23 = .ok (.iaload, 1) := by decide +kernel
theorem dX3_changes_24 : decode cX3_changes 24 = .ok (.iadd, 1) := by decide +kernel
theorem dX3_changes_25 : decode cX3_changes 25 = .ok (.if_icmp .ge 40, 3) := by decide +kernel
theorem dX3_changes_28 : decode cX3_changes 28 = .ok (.iload_n 1, 1) := by decide +kernel
theorem dX3_changes_29 : decode cX3_changes 29 = .ok (.aload_n 0, 1) := by decide +kernel
theorem dX3_changes_30 : decode cX3_changes 30 = .ok (.getfield 7, 3) := by decide +kernel
theorem dX3_changes_33 : decode cX3_changes 33 = .ok (.bipush 8, 2) := by decide +kernel
theorem dX3_changes_35 : decode cX3_changes 35 = .ok (.iload_n 2, 1) := by decide +kernel
theorem dX3_changes_36 : decode cX3_changes 36 = .ok (.iadd, 1) := by decide +kernel
theorem dX3_changes_37 : decode cX3_changes 37 = .ok (.iaload, 1) := by decide +kernel
theorem dX3_changes_38 : decode cX3_changes 38 = .ok (.aload_n 0, 1) := by decide +kernel
theorem dX3_changes_39 : decode cX3_changes 39 = .ok (.getfield 7, 3) := by decide +kernel
theorem dX3_changes_42 : decode cX3_changes 42 = .ok (.bipush 8, 2) := by decide +kernel
theorem dX3_changes_44 : decode cX3_changes 44 = .ok (.iload_n 2, 1) := by decide +kernel
theorem dX3_changes_45 : decode cX3_changes 45 = .ok (.iadd, 1) := by decide +kernel
theorem dX3_changes_46 : decode cX3_changes 46 = .ok (.iconst 1, 1) := by decide +kernel
theorem dX3_changes_47 : decode cX3_changes 47 = .ok (.isub, 1) := by decide +kernel
theorem dX3_changes_48 : decode cX3_changes 48 = .ok (.iaload, 1) := by decide +kernel
theorem dX3_changes_49 : decode cX3_changes 49 = .ok (.if_icmp .ne 7, 3) := by decide +kernel
theorem dX3_changes_52 : decode cX3_changes 52 = .ok (.iconst 0, 1) := by decide +kernel
theorem dX3_changes_53 : decode cX3_changes 53 = .ok (.goto 4, 3) := by decide +kernel
theorem dX3_changes_56 : decode cX3_changes 56 = .ok (.iconst 1, 1) := by decide +kernel
theorem dX3_changes_57 : decode cX3_changes 57 = .ok (.iadd, 1) := by decide +kernel
theorem dX3_changes_58 : decode cX3_changes 58 = .ok (.istore_n 1, 1) := by decide +kernel
theorem dX3_changes_59 : decode cX3_changes 59 = .ok (.iinc 2 1, 3) := by decide +kernel
theorem dX3_changes_62 : decode cX3_changes 62 = .ok (.goto (-51), 3) := by decide +kernel
theorem dX3_changes_65 : decode cX3_changes 65 = .ok (.iload_n 1, 1) := by decide +kernel
theorem dX3_changes_66 : decode cX3_changes 66 = .ok (.ireturn, 1) := by decide +kernel
theorem eX3_changes_0 {d : Nat} {a0 a1 a2 : Value} {st : List Value} {hp : qzH} : qzV d 133 0 [a0, a1, a2] (st) hp = qzV d 133 1 [a0, a1, a2] (.int 0 :: st) hp := qv_iconst mdc_133 dX3_changes_0 il_0 rfl
theorem eX3_changes_1 {d : Nat} {a0 a1 a2 : Value} {x : Int32} {st : List Value} {hp : qzH} : qzV d 133 1 [a0, a1, a2] (.int x :: st) hp = qzV d 133 2 [a0, .int x, a2] (st) hp := qv_istore (i := 1) mdc_133 dX3_changes_1 rfl (Nat.le_of_ble_eq_true rfl) rfl rfl
theorem eX3_changes_2 {d : Nat} {a1 a2 : Value} {x : Nat} {st : List Value} {hp : qzH} : qzV d 133 2 [.ref x, a1, a2] (st) hp = qzV d 133 3 [.ref x, a1, a2] (.ref x :: st) hp := qv_aload (i := 0) mdc_133 dX3_changes_2 rfl rfl rfl
theorem eX3_changes_3 {d : Nat} {a0 a1 a2 : Value} {a : Nat} {st : List Value} {hp : qzH} (ha : qzArr 3 a hp.1 = true) : qzV d 133 3 [a0, a1, a2] (.ref a :: st) hp = qzV d 133 6 [a0, a1, a2] (va_rf (hp.2.1 a 0) :: st) hp := qv_getR mdc_133 dX3_changes_3 mdo_133 qff_3_7 ⟨by decide, rfl⟩ rfl ha
theorem eX3_changes_6 {d : Nat} {a0 a1 a2 : Value} {st : List Value} {hp : qzH} : qzV d 133 6 [a0, a1, a2] (st) hp = qzV d 133 7 [a0, a1, a2] (.int 1 :: st) hp := qv_iconst mdc_133 dX3_changes_6 il_1 rfl
theorem eX3_changes_7 {d : Nat} {a0 a1 a2 : Value} {i : Int32} {a : Nat} {st : List Value} {hp : qzH} (ha : qzArr 4 a hp.1 = true) (hi : qzIn i (qzk a).2 = true) : qzV d 133 7 [a0, a1, a2] (.int i :: .ref a :: st) hp = qzV d 133 8 [a0, a1, a2] (.int (hp.2.2 a i.toNatClampNeg) :: st) hp := qv_iald mdc_133 dX3_changes_7 rfl ha hi
theorem eX3_changes_8 {d : Nat} {a0 a1 a2 : Value} {st : List Value} {hp : qzH} : qzV d 133 8 [a0, a1, a2] (st) hp = qzV d 133 9 [a0, a1, a2] (.int 1 :: st) hp := qv_iconst mdc_133 dX3_changes_8 il_1 rfl
theorem eX3_changes_9 {d : Nat} {a0 a1 a2 : Value} {x y : Int32} {st : List Value} {hp : qzH} : qzV d 133 9 [a0, a1, a2] (.int y :: .int x :: st) hp = qzV d 133 10 [a0, a1, a2] (.int (x + y) :: st) hp := qv_bin (f := fun x y => x + y) mdc_133 dX3_changes_9 rfl rfl
theorem eX3_changes_10 {d : Nat} {a0 a1 a2 : Value} {x : Int32} {st : List Value} {hp : qzH} : qzV d 133 10 [a0, a1, a2] (.int x :: st) hp = qzV d 133 11 [a0, a1, .int x] (st) hp := qv_istore (i := 2) mdc_133 dX3_changes_10 rfl (Nat.le_of_ble_eq_true rfl) rfl rfl
theorem eX3_changes_11 {d : Nat} {a0 a1 : Value} {x : Int32} {st : List Value} {hp : qzH} : qzV d 133 11 [a0, a1, .int x] (st) hp = qzV d 133 12 [a0, a1, .int x] (.int x :: st) hp := qv_iload (i := 2) mdc_133 dX3_changes_11 rfl rfl rfl
theorem eX3_changes_12 {d : Nat} {a1 a2 : Value} {x : Nat} {st : List Value} {hp : qzH} : qzV d 133 12 [.ref x, a1, a2] (st) hp = qzV d 133 13 [.ref x, a1, a2] (.ref x :: st) hp := qv_aload (i := 0) mdc_133 dX3_changes_12 rfl rfl rfl
theorem eX3_changes_13 {d : Nat} {a0 a1 a2 : Value} {a : Nat} {st : List Value} {hp : qzH} (ha : qzArr 3 a hp.1 = true) : qzV d 133 13 [a0, a1, a2] (.ref a :: st) hp = qzV d 133 16 [a0, a1, a2] (va_rf (hp.2.1 a 0) :: st) hp := qv_getR mdc_133 dX3_changes_13 mdo_133 qff_3_7 ⟨by decide, rfl⟩ rfl ha
theorem eX3_changes_16 {d : Nat} {a0 a1 a2 : Value} {st : List Value} {hp : qzH} : qzV d 133 16 [a0, a1, a2] (st) hp = qzV d 133 17 [a0, a1, a2] (.int 1 :: st) hp := qv_iconst mdc_133 dX3_changes_16 il_1 rfl
theorem eX3_changes_17 {d : Nat} {a0 a1 a2 : Value} {i : Int32} {a : Nat} {st : List Value} {hp : qzH} (ha : qzArr 4 a hp.1 = true) (hi : qzIn i (qzk a).2 = true) : qzV d 133 17 [a0, a1, a2] (.int i :: .ref a :: st) hp = qzV d 133 18 [a0, a1, a2] (.int (hp.2.2 a i.toNatClampNeg) :: st) hp := qv_iald mdc_133 dX3_changes_17 rfl ha hi
theorem eX3_changes_18 {d : Nat} {a1 a2 : Value} {x : Nat} {st : List Value} {hp : qzH} : qzV d 133 18 [.ref x, a1, a2] (st) hp = qzV d 133 19 [.ref x, a1, a2] (.ref x :: st) hp := qv_aload (i := 0) mdc_133 dX3_changes_18 rfl rfl rfl
theorem eX3_changes_19 {d : Nat} {a0 a1 a2 : Value} {a : Nat} {st : List Value} {hp : qzH} (ha : qzArr 3 a hp.1 = true) : qzV d 133 19 [a0, a1, a2] (.ref a :: st) hp = qzV d 133 22 [a0, a1, a2] (va_rf (hp.2.1 a 0) :: st) hp := qv_getR mdc_133 dX3_changes_19 mdo_133 qff_3_7 ⟨by decide, rfl⟩ rfl ha
theorem eX3_changes_22 {d : Nat} {a0 a1 a2 : Value} {st : List Value} {hp : qzH} : qzV d 133 22 [a0, a1, a2] (st) hp = qzV d 133 23 [a0, a1, a2] (.int 2 :: st) hp := qv_iconst mdc_133 dX3_changes_22 il_2 rfl
theorem eX3_changes_23 {d : Nat} {a0 a1 a2 : Value} {i : Int32} {a : Nat} {st : List Value} {hp : qzH} (ha : qzArr 4 a hp.1 = true) (hi : qzIn i (qzk a).2 = true) : qzV d 133 23 [a0, a1, a2] (.int i :: .ref a :: st) hp = qzV d 133 24 [a0, a1, a2] (.int (hp.2.2 a i.toNatClampNeg) :: st) hp := qv_iald mdc_133 dX3_changes_23 rfl ha hi
theorem eX3_changes_24 {d : Nat} {a0 a1 a2 : Value} {x y : Int32} {st : List Value} {hp : qzH} : qzV d 133 24 [a0, a1, a2] (.int y :: .int x :: st) hp = qzV d 133 25 [a0, a1, a2] (.int (x + y) :: st) hp := qv_bin (f := fun x y => x + y) mdc_133 dX3_changes_24 rfl rfl
theorem eX3_changes_25 {d : Nat} {a0 a1 a2 : Value} {x y : Int32} {st : List Value} {hp : qzH} : qzV d 133 25 [a0, a1, a2] (.int y :: .int x :: st) hp = if y ≤ x then qzV d 133 65 [a0, a1, a2] (st) hp else qzV d 133 28 [a0, a1, a2] (st) hp := qv_if2 mdc_133 dX3_changes_25 rfl rfl rfl
theorem eX3_changes_28 {d : Nat} {a0 a2 : Value} {x : Int32} {st : List Value} {hp : qzH} : qzV d 133 28 [a0, .int x, a2] (st) hp = qzV d 133 29 [a0, .int x, a2] (.int x :: st) hp := qv_iload (i := 1) mdc_133 dX3_changes_28 rfl rfl rfl
theorem eX3_changes_29 {d : Nat} {a1 a2 : Value} {x : Nat} {st : List Value} {hp : qzH} : qzV d 133 29 [.ref x, a1, a2] (st) hp = qzV d 133 30 [.ref x, a1, a2] (.ref x :: st) hp := qv_aload (i := 0) mdc_133 dX3_changes_29 rfl rfl rfl
theorem eX3_changes_30 {d : Nat} {a0 a1 a2 : Value} {a : Nat} {st : List Value} {hp : qzH} (ha : qzArr 3 a hp.1 = true) : qzV d 133 30 [a0, a1, a2] (.ref a :: st) hp = qzV d 133 33 [a0, a1, a2] (va_rf (hp.2.1 a 0) :: st) hp := qv_getR mdc_133 dX3_changes_30 mdo_133 qff_3_7 ⟨by decide, rfl⟩ rfl ha
theorem eX3_changes_33 {d : Nat} {a0 a1 a2 : Value} {st : List Value} {hp : qzH} : qzV d 133 33 [a0, a1, a2] (st) hp = qzV d 133 35 [a0, a1, a2] (.int 8 :: st) hp := qv_bipush mdc_133 dX3_changes_33 ib_8 rfl
theorem eX3_changes_35 {d : Nat} {a0 a1 : Value} {x : Int32} {st : List Value} {hp : qzH} : qzV d 133 35 [a0, a1, .int x] (st) hp = qzV d 133 36 [a0, a1, .int x] (.int x :: st) hp := qv_iload (i := 2) mdc_133 dX3_changes_35 rfl rfl rfl
theorem eX3_changes_36 {d : Nat} {a0 a1 a2 : Value} {x y : Int32} {st : List Value} {hp : qzH} : qzV d 133 36 [a0, a1, a2] (.int y :: .int x :: st) hp = qzV d 133 37 [a0, a1, a2] (.int (x + y) :: st) hp := qv_bin (f := fun x y => x + y) mdc_133 dX3_changes_36 rfl rfl
theorem eX3_changes_37 {d : Nat} {a0 a1 a2 : Value} {i : Int32} {a : Nat} {st : List Value} {hp : qzH} (ha : qzArr 4 a hp.1 = true) (hi : qzIn i (qzk a).2 = true) : qzV d 133 37 [a0, a1, a2] (.int i :: .ref a :: st) hp = qzV d 133 38 [a0, a1, a2] (.int (hp.2.2 a i.toNatClampNeg) :: st) hp := qv_iald mdc_133 dX3_changes_37 rfl ha hi
theorem eX3_changes_38 {d : Nat} {a1 a2 : Value} {x : Nat} {st : List Value} {hp : qzH} : qzV d 133 38 [.ref x, a1, a2] (st) hp = qzV d 133 39 [.ref x, a1, a2] (.ref x :: st) hp := qv_aload (i := 0) mdc_133 dX3_changes_38 rfl rfl rfl
theorem eX3_changes_39 {d : Nat} {a0 a1 a2 : Value} {a : Nat} {st : List Value} {hp : qzH} (ha : qzArr 3 a hp.1 = true) : qzV d 133 39 [a0, a1, a2] (.ref a :: st) hp = qzV d 133 42 [a0, a1, a2] (va_rf (hp.2.1 a 0) :: st) hp := qv_getR mdc_133 dX3_changes_39 mdo_133 qff_3_7 ⟨by decide, rfl⟩ rfl ha
theorem eX3_changes_42 {d : Nat} {a0 a1 a2 : Value} {st : List Value} {hp : qzH} : qzV d 133 42 [a0, a1, a2] (st) hp = qzV d 133 44 [a0, a1, a2] (.int 8 :: st) hp := qv_bipush mdc_133 dX3_changes_42 ib_8 rfl
theorem eX3_changes_44 {d : Nat} {a0 a1 : Value} {x : Int32} {st : List Value} {hp : qzH} : qzV d 133 44 [a0, a1, .int x] (st) hp = qzV d 133 45 [a0, a1, .int x] (.int x :: st) hp := qv_iload (i := 2) mdc_133 dX3_changes_44 rfl rfl rfl
theorem eX3_changes_45 {d : Nat} {a0 a1 a2 : Value} {x y : Int32} {st : List Value} {hp : qzH} : qzV d 133 45 [a0, a1, a2] (.int y :: .int x :: st) hp = qzV d 133 46 [a0, a1, a2] (.int (x + y) :: st) hp := qv_bin (f := fun x y => x + y) mdc_133 dX3_changes_45 rfl rfl
theorem eX3_changes_46 {d : Nat} {a0 a1 a2 : Value} {st : List Value} {hp : qzH} : qzV d 133 46 [a0, a1, a2] (st) hp = qzV d 133 47 [a0, a1, a2] (.int 1 :: st) hp := qv_iconst mdc_133 dX3_changes_46 il_1 rfl
theorem eX3_changes_47 {d : Nat} {a0 a1 a2 : Value} {x y : Int32} {st : List Value} {hp : qzH} : qzV d 133 47 [a0, a1, a2] (.int y :: .int x :: st) hp = qzV d 133 48 [a0, a1, a2] (.int (x - y) :: st) hp := qv_bin (f := fun x y => x - y) mdc_133 dX3_changes_47 rfl rfl
theorem eX3_changes_48 {d : Nat} {a0 a1 a2 : Value} {i : Int32} {a : Nat} {st : List Value} {hp : qzH} (ha : qzArr 4 a hp.1 = true) (hi : qzIn i (qzk a).2 = true) : qzV d 133 48 [a0, a1, a2] (.int i :: .ref a :: st) hp = qzV d 133 49 [a0, a1, a2] (.int (hp.2.2 a i.toNatClampNeg) :: st) hp := qv_iald mdc_133 dX3_changes_48 rfl ha hi
theorem eX3_changes_49 {d : Nat} {a0 a1 a2 : Value} {x y : Int32} {st : List Value} {hp : qzH} : qzV d 133 49 [a0, a1, a2] (.int y :: .int x :: st) hp = if ¬ x = y then qzV d 133 56 [a0, a1, a2] (st) hp else qzV d 133 52 [a0, a1, a2] (st) hp := qv_if2 mdc_133 dX3_changes_49 rfl rfl rfl
theorem eX3_changes_52 {d : Nat} {a0 a1 a2 : Value} {st : List Value} {hp : qzH} : qzV d 133 52 [a0, a1, a2] (st) hp = qzV d 133 53 [a0, a1, a2] (.int 0 :: st) hp := qv_iconst mdc_133 dX3_changes_52 il_0 rfl
theorem eX3_changes_53 {d : Nat} {a0 a1 a2 : Value} {st : List Value} {hp : qzH} : qzV d 133 53 [a0, a1, a2] (st) hp = qzV d 133 57 [a0, a1, a2] (st) hp := qv_goto mdc_133 dX3_changes_53 rfl
theorem eX3_changes_56 {d : Nat} {a0 a1 a2 : Value} {st : List Value} {hp : qzH} : qzV d 133 56 [a0, a1, a2] (st) hp = qzV d 133 57 [a0, a1, a2] (.int 1 :: st) hp := qv_iconst mdc_133 dX3_changes_56 il_1 rfl
theorem eX3_changes_57 {d : Nat} {a0 a1 a2 : Value} {x y : Int32} {st : List Value} {hp : qzH} : qzV d 133 57 [a0, a1, a2] (.int y :: .int x :: st) hp = qzV d 133 58 [a0, a1, a2] (.int (x + y) :: st) hp := qv_bin (f := fun x y => x + y) mdc_133 dX3_changes_57 rfl rfl
theorem eX3_changes_58 {d : Nat} {a0 a1 a2 : Value} {x : Int32} {st : List Value} {hp : qzH} : qzV d 133 58 [a0, a1, a2] (.int x :: st) hp = qzV d 133 59 [a0, .int x, a2] (st) hp := qv_istore (i := 1) mdc_133 dX3_changes_58 rfl (Nat.le_of_ble_eq_true rfl) rfl rfl
theorem eX3_changes_59 {d : Nat} {a0 a1 : Value} {x : Int32} {st : List Value} {hp : qzH} : qzV d 133 59 [a0, a1, .int x] (st) hp = qzV d 133 62 [a0, a1, .int (x + 1)] (st) hp := qv_iinc mdc_133 dX3_changes_59 rfl il_1 rfl rfl
theorem eX3_changes_62 {d : Nat} {a0 a1 a2 : Value} {st : List Value} {hp : qzH} : qzV d 133 62 [a0, a1, a2] (st) hp = qzV d 133 11 [a0, a1, a2] (st) hp := qv_goto mdc_133 dX3_changes_62 rfl
theorem eX3_changes_65 {d : Nat} {a0 a2 : Value} {x : Int32} {st : List Value} {hp : qzH} : qzV d 133 65 [a0, .int x, a2] (st) hp = qzV d 133 66 [a0, .int x, a2] (.int x :: st) hp := qv_iload (i := 1) mdc_133 dX3_changes_65 rfl rfl rfl
theorem eX3_changes_66 {d : Nat} {a0 a1 a2 : Value} {v : Int32} {hp : qzH} : qzV d 133 66 [a0, a1, a2] [.int v] hp = some (some (.int v), hp) := qv_iret mdc_133 dX3_changes_66 mdr_133 rfl
theorem dX3_leftOf_0 : decode cX3_leftOf 0 = .ok (.iconst 0, 1) := by decide +kernel
theorem dX3_leftOf_1 : decode cX3_leftOf 1 = .ok (.istore_n 2, 1) := by decide +kernel
theorem dX3_leftOf_2 : decode cX3_leftOf 2 = .ok (.aload_n 0, 1) := by decide +kernel
theorem dX3_leftOf_3 : decode cX3_leftOf 3 = .ok (.getfield 7, 3) := by decide +kernel
theorem dX3_leftOf_6 : decode cX3_leftOf 6 = .ok (.iconst 1, 1) := by decide +kernel
theorem dX3_leftOf_7 : decode cX3_leftOf 7 = .ok (.iaload, 1) := by decide +kernel
theorem dX3_leftOf_8 : decode cX3_leftOf 8 = .ok (.istore_n 3, 1) := by decide +kernel
theorem dX3_leftOf_9 : decode cX3_leftOf 9 = .ok (.iload_n 3, 1) := by decide +kernel
theorem dX3_leftOf_10 : decode cX3_leftOf 10 = .ok (.aload_n 0, 1) := by decide +kernel
theorem dX3_leftOf_11 : decode cX3_leftOf 11 = .ok (.getfield 7, 3) := by decide +kernel
theorem dX3_leftOf_14 : decode cX3_leftOf 14 = .ok (.iconst 1, 1) := by decide +kernel
theorem dX3_leftOf_15 : decode cX3_leftOf 15 = .ok (.iaload, 1) := by decide +kernel
theorem dX3_leftOf_16 : decode cX3_leftOf 16 = .ok (.aload_n 0, 1) := by decide +kernel
theorem dX3_leftOf_17 : decode cX3_leftOf 17 = .ok (.getfield 7, 3) := by decide +kernel
theorem dX3_leftOf_20 : decode cX3_leftOf 20 = .ok (.iconst 2, 1) := by decide +kernel
theorem dX3_leftOf_21 : decode cX3_leftOf 21 = .ok (.iaload, 1) := by decide +kernel
theorem dX3_leftOf_22 : decode cX3_leftOf 22 = .ok (.iadd, 1) := by decide +kernel
theorem dX3_leftOf_23 : decode cX3_leftOf 23 = .ok (.if_icmp .ge 30, 3) := by decide +kernel
theorem dX3_leftOf_26 : decode cX3_leftOf 26 = .ok (.iload_n 2, 1) := by decide +kernel
theorem dX3_leftOf_27 : decode cX3_leftOf 27 = .ok (.aload_n 0, 1) := by decide +kernel
theorem dX3_leftOf_28 : decode cX3_leftOf 28 = .ok (.getfield 7, 3) := by decide +kernel
theorem dX3_leftOf_31 : decode cX3_leftOf 31 = .ok (.bipush 8, 2) := by decide +kernel
theorem dX3_leftOf_33 : decode cX3_leftOf 33 = .ok (.iload_n 3, 1) := by decide +kernel
theorem dX3_leftOf_34 : decode cX3_leftOf 34 = .ok (.iadd, 1) := by decide +kernel
theorem dX3_leftOf_35 : decode cX3_leftOf 35 = .ok (.iaload, 1) := by decide +kernel
theorem dX3_leftOf_36 : decode cX3_leftOf 36 = .ok (.iload_n 1, 1) := by decide +kernel
theorem dX3_leftOf_37 : decode cX3_leftOf 37 = .ok (.if_icmp .ne 7, 3) := by decide +kernel
theorem dX3_leftOf_40 : decode cX3_leftOf 40 = .ok (.iconst 1, 1) := by decide +kernel
theorem dX3_leftOf_41 : decode cX3_leftOf 41 = .ok (.goto 4, 3) := by decide +kernel
theorem dX3_leftOf_44 : decode cX3_leftOf 44 = .ok (.iconst 0, 1) := by decide +kernel
theorem dX3_leftOf_45 : decode cX3_leftOf 45 = .ok (.iadd, 1) := by decide +kernel
theorem dX3_leftOf_46 : decode cX3_leftOf 46 = .ok (.istore_n 2, 1) := by decide +kernel
theorem dX3_leftOf_47 : decode cX3_leftOf 47 = .ok (.iinc 3 1, 3) := by decide +kernel
theorem dX3_leftOf_50 : decode cX3_leftOf 50 = .ok (.goto (-41), 3) := by decide +kernel
theorem dX3_leftOf_53 : decode cX3_leftOf 53 = .ok (.iload_n 2, 1) := by decide +kernel
theorem dX3_leftOf_54 : decode cX3_leftOf 54 = .ok (.ireturn, 1) := by decide +kernel
theorem eX3_leftOf_0 {d : Nat} {a0 a1 a2 a3 : Value} {st : List Value} {hp : qzH} : qzV d 134 0 [a0, a1, a2, a3] (st) hp = qzV d 134 1 [a0, a1, a2, a3] (.int 0 :: st) hp := qv_iconst mdc_134 dX3_leftOf_0 il_0 rfl
theorem eX3_leftOf_1 {d : Nat} {a0 a1 a2 a3 : Value} {x : Int32} {st : List Value} {hp : qzH} : qzV d 134 1 [a0, a1, a2, a3] (.int x :: st) hp = qzV d 134 2 [a0, a1, .int x, a3] (st) hp := qv_istore (i := 2) mdc_134 dX3_leftOf_1 rfl (Nat.le_of_ble_eq_true rfl) rfl rfl
theorem eX3_leftOf_2 {d : Nat} {a1 a2 a3 : Value} {x : Nat} {st : List Value} {hp : qzH} : qzV d 134 2 [.ref x, a1, a2, a3] (st) hp = qzV d 134 3 [.ref x, a1, a2, a3] (.ref x :: st) hp := qv_aload (i := 0) mdc_134 dX3_leftOf_2 rfl rfl rfl
theorem eX3_leftOf_3 {d : Nat} {a0 a1 a2 a3 : Value} {a : Nat} {st : List Value} {hp : qzH} (ha : qzArr 3 a hp.1 = true) : qzV d 134 3 [a0, a1, a2, a3] (.ref a :: st) hp = qzV d 134 6 [a0, a1, a2, a3] (va_rf (hp.2.1 a 0) :: st) hp := qv_getR mdc_134 dX3_leftOf_3 mdo_134 qff_3_7 ⟨by decide, rfl⟩ rfl ha
theorem eX3_leftOf_6 {d : Nat} {a0 a1 a2 a3 : Value} {st : List Value} {hp : qzH} : qzV d 134 6 [a0, a1, a2, a3] (st) hp = qzV d 134 7 [a0, a1, a2, a3] (.int 1 :: st) hp := qv_iconst mdc_134 dX3_leftOf_6 il_1 rfl
theorem eX3_leftOf_7 {d : Nat} {a0 a1 a2 a3 : Value} {i : Int32} {a : Nat} {st : List Value} {hp : qzH} (ha : qzArr 4 a hp.1 = true) (hi : qzIn i (qzk a).2 = true) : qzV d 134 7 [a0, a1, a2, a3] (.int i :: .ref a :: st) hp = qzV d 134 8 [a0, a1, a2, a3] (.int (hp.2.2 a i.toNatClampNeg) :: st) hp := qv_iald mdc_134 dX3_leftOf_7 rfl ha hi
theorem eX3_leftOf_8 {d : Nat} {a0 a1 a2 a3 : Value} {x : Int32} {st : List Value} {hp : qzH} : qzV d 134 8 [a0, a1, a2, a3] (.int x :: st) hp = qzV d 134 9 [a0, a1, a2, .int x] (st) hp := qv_istore (i := 3) mdc_134 dX3_leftOf_8 rfl (Nat.le_of_ble_eq_true rfl) rfl rfl
theorem eX3_leftOf_9 {d : Nat} {a0 a1 a2 : Value} {x : Int32} {st : List Value} {hp : qzH} : qzV d 134 9 [a0, a1, a2, .int x] (st) hp = qzV d 134 10 [a0, a1, a2, .int x] (.int x :: st) hp := qv_iload (i := 3) mdc_134 dX3_leftOf_9 rfl rfl rfl
theorem eX3_leftOf_10 {d : Nat} {a1 a2 a3 : Value} {x : Nat} {st : List Value} {hp : qzH} : qzV d 134 10 [.ref x, a1, a2, a3] (st) hp = qzV d 134 11 [.ref x, a1, a2, a3] (.ref x :: st) hp := qv_aload (i := 0) mdc_134 dX3_leftOf_10 rfl rfl rfl
theorem eX3_leftOf_11 {d : Nat} {a0 a1 a2 a3 : Value} {a : Nat} {st : List Value} {hp : qzH} (ha : qzArr 3 a hp.1 = true) : qzV d 134 11 [a0, a1, a2, a3] (.ref a :: st) hp = qzV d 134 14 [a0, a1, a2, a3] (va_rf (hp.2.1 a 0) :: st) hp := qv_getR mdc_134 dX3_leftOf_11 mdo_134 qff_3_7 ⟨by decide, rfl⟩ rfl ha
theorem eX3_leftOf_14 {d : Nat} {a0 a1 a2 a3 : Value} {st : List Value} {hp : qzH} : qzV d 134 14 [a0, a1, a2, a3] (st) hp = qzV d 134 15 [a0, a1, a2, a3] (.int 1 :: st) hp := qv_iconst mdc_134 dX3_leftOf_14 il_1 rfl
theorem eX3_leftOf_15 {d : Nat} {a0 a1 a2 a3 : Value} {i : Int32} {a : Nat} {st : List Value} {hp : qzH} (ha : qzArr 4 a hp.1 = true) (hi : qzIn i (qzk a).2 = true) : qzV d 134 15 [a0, a1, a2, a3] (.int i :: .ref a :: st) hp = qzV d 134 16 [a0, a1, a2, a3] (.int (hp.2.2 a i.toNatClampNeg) :: st) hp := qv_iald mdc_134 dX3_leftOf_15 rfl ha hi
theorem eX3_leftOf_16 {d : Nat} {a1 a2 a3 : Value} {x : Nat} {st : List Value} {hp : qzH} : qzV d 134 16 [.ref x, a1, a2, a3] (st) hp = qzV d 134 17 [.ref x, a1, a2, a3] (.ref x :: st) hp := qv_aload (i := 0) mdc_134 dX3_leftOf_16 rfl rfl rfl
theorem eX3_leftOf_17 {d : Nat} {a0 a1 a2 a3 : Value} {a : Nat} {st : List Value} {hp : qzH} (ha : qzArr 3 a hp.1 = true) : qzV d 134 17 [a0, a1, a2, a3] (.ref a :: st) hp = qzV d 134 20 [a0, a1, a2, a3] (va_rf (hp.2.1 a 0) :: st) hp := qv_getR mdc_134 dX3_leftOf_17 mdo_134 qff_3_7 ⟨by decide, rfl⟩ rfl ha
theorem eX3_leftOf_20 {d : Nat} {a0 a1 a2 a3 : Value} {st : List Value} {hp : qzH} : qzV d 134 20 [a0, a1, a2, a3] (st) hp = qzV d 134 21 [a0, a1, a2, a3] (.int 2 :: st) hp := qv_iconst mdc_134 dX3_leftOf_20 il_2 rfl
theorem eX3_leftOf_21 {d : Nat} {a0 a1 a2 a3 : Value} {i : Int32} {a : Nat} {st : List Value} {hp : qzH} (ha : qzArr 4 a hp.1 = true) (hi : qzIn i (qzk a).2 = true) : qzV d 134 21 [a0, a1, a2, a3] (.int i :: .ref a :: st) hp = qzV d 134 22 [a0, a1, a2, a3] (.int (hp.2.2 a i.toNatClampNeg) :: st) hp := qv_iald mdc_134 dX3_leftOf_21 rfl ha hi
theorem eX3_leftOf_22 {d : Nat} {a0 a1 a2 a3 : Value} {x y : Int32} {st : List Value} {hp : qzH} : qzV d 134 22 [a0, a1, a2, a3] (.int y :: .int x :: st) hp = qzV d 134 23 [a0, a1, a2, a3] (.int (x + y) :: st) hp := qv_bin (f := fun x y => x + y) mdc_134 dX3_leftOf_22 rfl rfl
theorem eX3_leftOf_23 {d : Nat} {a0 a1 a2 a3 : Value} {x y : Int32} {st : List Value} {hp : qzH} : qzV d 134 23 [a0, a1, a2, a3] (.int y :: .int x :: st) hp = if y ≤ x then qzV d 134 53 [a0, a1, a2, a3] (st) hp else qzV d 134 26 [a0, a1, a2, a3] (st) hp := qv_if2 mdc_134 dX3_leftOf_23 rfl rfl rfl
theorem eX3_leftOf_26 {d : Nat} {a0 a1 a3 : Value} {x : Int32} {st : List Value} {hp : qzH} : qzV d 134 26 [a0, a1, .int x, a3] (st) hp = qzV d 134 27 [a0, a1, .int x, a3] (.int x :: st) hp := qv_iload (i := 2) mdc_134 dX3_leftOf_26 rfl rfl rfl
theorem eX3_leftOf_27 {d : Nat} {a1 a2 a3 : Value} {x : Nat} {st : List Value} {hp : qzH} : qzV d 134 27 [.ref x, a1, a2, a3] (st) hp = qzV d 134 28 [.ref x, a1, a2, a3] (.ref x :: st) hp := qv_aload (i := 0) mdc_134 dX3_leftOf_27 rfl rfl rfl
theorem eX3_leftOf_28 {d : Nat} {a0 a1 a2 a3 : Value} {a : Nat} {st : List Value} {hp : qzH} (ha : qzArr 3 a hp.1 = true) : qzV d 134 28 [a0, a1, a2, a3] (.ref a :: st) hp = qzV d 134 31 [a0, a1, a2, a3] (va_rf (hp.2.1 a 0) :: st) hp := qv_getR mdc_134 dX3_leftOf_28 mdo_134 qff_3_7 ⟨by decide, rfl⟩ rfl ha
theorem eX3_leftOf_31 {d : Nat} {a0 a1 a2 a3 : Value} {st : List Value} {hp : qzH} : qzV d 134 31 [a0, a1, a2, a3] (st) hp = qzV d 134 33 [a0, a1, a2, a3] (.int 8 :: st) hp := qv_bipush mdc_134 dX3_leftOf_31 ib_8 rfl
theorem eX3_leftOf_33 {d : Nat} {a0 a1 a2 : Value} {x : Int32} {st : List Value} {hp : qzH} : qzV d 134 33 [a0, a1, a2, .int x] (st) hp = qzV d 134 34 [a0, a1, a2, .int x] (.int x :: st) hp := qv_iload (i := 3) mdc_134 dX3_leftOf_33 rfl rfl rfl
theorem eX3_leftOf_34 {d : Nat} {a0 a1 a2 a3 : Value} {x y : Int32} {st : List Value} {hp : qzH} : qzV d 134 34 [a0, a1, a2, a3] (.int y :: .int x :: st) hp = qzV d 134 35 [a0, a1, a2, a3] (.int (x + y) :: st) hp := qv_bin (f := fun x y => x + y) mdc_134 dX3_leftOf_34 rfl rfl
theorem eX3_leftOf_35 {d : Nat} {a0 a1 a2 a3 : Value} {i : Int32} {a : Nat} {st : List Value} {hp : qzH} (ha : qzArr 4 a hp.1 = true) (hi : qzIn i (qzk a).2 = true) : qzV d 134 35 [a0, a1, a2, a3] (.int i :: .ref a :: st) hp = qzV d 134 36 [a0, a1, a2, a3] (.int (hp.2.2 a i.toNatClampNeg) :: st) hp := qv_iald mdc_134 dX3_leftOf_35 rfl ha hi
theorem eX3_leftOf_36 {d : Nat} {a0 a2 a3 : Value} {x : Int32} {st : List Value} {hp : qzH} : qzV d 134 36 [a0, .int x, a2, a3] (st) hp = qzV d 134 37 [a0, .int x, a2, a3] (.int x :: st) hp := qv_iload (i := 1) mdc_134 dX3_leftOf_36 rfl rfl rfl
theorem eX3_leftOf_37 {d : Nat} {a0 a1 a2 a3 : Value} {x y : Int32} {st : List Value} {hp : qzH} : qzV d 134 37 [a0, a1, a2, a3] (.int y :: .int x :: st) hp = if ¬ x = y then qzV d 134 44 [a0, a1, a2, a3] (st) hp else qzV d 134 40 [a0, a1, a2, a3] (st) hp := qv_if2 mdc_134 dX3_leftOf_37 rfl rfl rfl
theorem eX3_leftOf_40 {d : Nat} {a0 a1 a2 a3 : Value} {st : List Value} {hp : qzH} : qzV d 134 40 [a0, a1, a2, a3] (st) hp = qzV d 134 41 [a0, a1, a2, a3] (.int 1 :: st) hp := qv_iconst mdc_134 dX3_leftOf_40 il_1 rfl
theorem eX3_leftOf_41 {d : Nat} {a0 a1 a2 a3 : Value} {st : List Value} {hp : qzH} : qzV d 134 41 [a0, a1, a2, a3] (st) hp = qzV d 134 45 [a0, a1, a2, a3] (st) hp := qv_goto mdc_134 dX3_leftOf_41 rfl
theorem eX3_leftOf_44 {d : Nat} {a0 a1 a2 a3 : Value} {st : List Value} {hp : qzH} : qzV d 134 44 [a0, a1, a2, a3] (st) hp = qzV d 134 45 [a0, a1, a2, a3] (.int 0 :: st) hp := qv_iconst mdc_134 dX3_leftOf_44 il_0 rfl
theorem eX3_leftOf_45 {d : Nat} {a0 a1 a2 a3 : Value} {x y : Int32} {st : List Value} {hp : qzH} : qzV d 134 45 [a0, a1, a2, a3] (.int y :: .int x :: st) hp = qzV d 134 46 [a0, a1, a2, a3] (.int (x + y) :: st) hp := qv_bin (f := fun x y => x + y) mdc_134 dX3_leftOf_45 rfl rfl
theorem eX3_leftOf_46 {d : Nat} {a0 a1 a2 a3 : Value} {x : Int32} {st : List Value} {hp : qzH} : qzV d 134 46 [a0, a1, a2, a3] (.int x :: st) hp = qzV d 134 47 [a0, a1, .int x, a3] (st) hp := qv_istore (i := 2) mdc_134 dX3_leftOf_46 rfl (Nat.le_of_ble_eq_true rfl) rfl rfl
theorem eX3_leftOf_47 {d : Nat} {a0 a1 a2 : Value} {x : Int32} {st : List Value} {hp : qzH} : qzV d 134 47 [a0, a1, a2, .int x] (st) hp = qzV d 134 50 [a0, a1, a2, .int (x + 1)] (st) hp := qv_iinc mdc_134 dX3_leftOf_47 rfl il_1 rfl rfl
theorem eX3_leftOf_50 {d : Nat} {a0 a1 a2 a3 : Value} {st : List Value} {hp : qzH} : qzV d 134 50 [a0, a1, a2, a3] (st) hp = qzV d 134 9 [a0, a1, a2, a3] (st) hp := qv_goto mdc_134 dX3_leftOf_50 rfl
theorem eX3_leftOf_53 {d : Nat} {a0 a1 a3 : Value} {x : Int32} {st : List Value} {hp : qzH} : qzV d 134 53 [a0, a1, .int x, a3] (st) hp = qzV d 134 54 [a0, a1, .int x, a3] (.int x :: st) hp := qv_iload (i := 2) mdc_134 dX3_leftOf_53 rfl rfl rfl
theorem eX3_leftOf_54 {d : Nat} {a0 a1 a2 a3 : Value} {v : Int32} {hp : qzH} : qzV d 134 54 [a0, a1, a2, a3] [.int v] hp = some (some (.int v), hp) := qv_iret mdc_134 dX3_leftOf_54 mdr_134 rfl
theorem dX3_coloursLeft_0 : decode cX3_coloursLeft 0 = .ok (.iconst 0, 1) := by decide +kernel
theorem dX3_coloursLeft_1 : decode cX3_coloursLeft 1 = .ok (.istore_n 1, 1) := by decide +kernel
theorem dX3_coloursLeft_2 : decode cX3_coloursLeft 2 = .ok (.iconst 0, 1) := by decide +kernel
theorem dX3_coloursLeft_3 : decode cX3_coloursLeft 3 = .ok (.istore_n 2, 1) := by decide +kernel
theorem dX3_coloursLeft_4 : decode cX3_coloursLeft 4 = .ok (.iload_n 2, 1) := by decide +kernel
theorem dX3_coloursLeft_5 : decode cX3_coloursLeft 5 = .ok (.bipush 6, 2) := by decide +kernel
theorem dX3_coloursLeft_7 : decode cX3_coloursLeft 7 = .ok (.if_icmp .ge 25, 3) := by decide +kernel
theorem dX3_coloursLeft_10 : decode cX3_coloursLeft 10 = .ok (.iload_n 1, 1) := by decide +kernel
theorem dX3_coloursLeft_11 : decode cX3_coloursLeft 11 = .ok (.aload_n 0, 1) := by decide +kernel
theorem dX3_coloursLeft_12 : decode cX3_coloursLeft 12 = .ok (.iload_n 2, 1) := by decide +kernel
theorem dX3_coloursLeft_13 : decode cX3_coloursLeft 13 = .ok (.invokevirtual 164, 3) := by decide +kernel
theorem dX3_coloursLeft_16 : decode cX3_coloursLeft 16 = .ok (.ifCond .le 7, 3) := by decide +kernel
theorem dX3_coloursLeft_19 : decode cX3_coloursLeft 19 = .ok (.iconst 1, 1) := by decide +kernel
theorem dX3_coloursLeft_20 : decode cX3_coloursLeft 20 = .ok (.goto 4, 3) := by decide +kernel
theorem dX3_coloursLeft_23 : decode cX3_coloursLeft 23 = .ok (.iconst 0, 1) := by decide +kernel
theorem dX3_coloursLeft_24 : decode cX3_coloursLeft 24 = .ok (.iadd, 1) := by decide +kernel
theorem dX3_coloursLeft_25 : decode cX3_coloursLeft 25 = .ok (.istore_n 1, 1) := by decide +kernel
theorem dX3_coloursLeft_26 : decode cX3_coloursLeft 26 = .ok (.iinc 2 1, 3) := by decide +kernel
theorem dX3_coloursLeft_29 : decode cX3_coloursLeft 29 = .ok (.goto (-25), 3) := by decide +kernel
theorem dX3_coloursLeft_32 : decode cX3_coloursLeft 32 = .ok (.iload_n 1, 1) := by decide +kernel
theorem dX3_coloursLeft_33 : decode cX3_coloursLeft 33 = .ok (.ireturn, 1) := by decide +kernel
theorem eX3_coloursLeft_0 {d : Nat} {a0 a1 a2 : Value} {st : List Value} {hp : qzH} : qzV d 135 0 [a0, a1, a2] (st) hp = qzV d 135 1 [a0, a1, a2] (.int 0 :: st) hp := qv_iconst mdc_135 dX3_coloursLeft_0 il_0 rfl
theorem eX3_coloursLeft_1 {d : Nat} {a0 a1 a2 : Value} {x : Int32} {st : List Value} {hp : qzH} : qzV d 135 1 [a0, a1, a2] (.int x :: st) hp = qzV d 135 2 [a0, .int x, a2] (st) hp := qv_istore (i := 1) mdc_135 dX3_coloursLeft_1 rfl (Nat.le_of_ble_eq_true rfl) rfl rfl
theorem eX3_coloursLeft_2 {d : Nat} {a0 a1 a2 : Value} {st : List Value} {hp : qzH} : qzV d 135 2 [a0, a1, a2] (st) hp = qzV d 135 3 [a0, a1, a2] (.int 0 :: st) hp := qv_iconst mdc_135 dX3_coloursLeft_2 il_0 rfl
theorem eX3_coloursLeft_3 {d : Nat} {a0 a1 a2 : Value} {x : Int32} {st : List Value} {hp : qzH} : qzV d 135 3 [a0, a1, a2] (.int x :: st) hp = qzV d 135 4 [a0, a1, .int x] (st) hp := qv_istore (i := 2) mdc_135 dX3_coloursLeft_3 rfl (Nat.le_of_ble_eq_true rfl) rfl rfl
theorem eX3_coloursLeft_4 {d : Nat} {a0 a1 : Value} {x : Int32} {st : List Value} {hp : qzH} : qzV d 135 4 [a0, a1, .int x] (st) hp = qzV d 135 5 [a0, a1, .int x] (.int x :: st) hp := qv_iload (i := 2) mdc_135 dX3_coloursLeft_4 rfl rfl rfl
theorem eX3_coloursLeft_5 {d : Nat} {a0 a1 a2 : Value} {st : List Value} {hp : qzH} : qzV d 135 5 [a0, a1, a2] (st) hp = qzV d 135 7 [a0, a1, a2] (.int 6 :: st) hp := qv_bipush mdc_135 dX3_coloursLeft_5 ib_6 rfl
theorem eX3_coloursLeft_7 {d : Nat} {a0 a1 a2 : Value} {x y : Int32} {st : List Value} {hp : qzH} : qzV d 135 7 [a0, a1, a2] (.int y :: .int x :: st) hp = if y ≤ x then qzV d 135 32 [a0, a1, a2] (st) hp else qzV d 135 10 [a0, a1, a2] (st) hp := qv_if2 mdc_135 dX3_coloursLeft_7 rfl rfl rfl
theorem eX3_coloursLeft_10 {d : Nat} {a0 a2 : Value} {x : Int32} {st : List Value} {hp : qzH} : qzV d 135 10 [a0, .int x, a2] (st) hp = qzV d 135 11 [a0, .int x, a2] (.int x :: st) hp := qv_iload (i := 1) mdc_135 dX3_coloursLeft_10 rfl rfl rfl
theorem eX3_coloursLeft_11 {d : Nat} {a1 a2 : Value} {x : Nat} {st : List Value} {hp : qzH} : qzV d 135 11 [.ref x, a1, a2] (st) hp = qzV d 135 12 [.ref x, a1, a2] (.ref x :: st) hp := qv_aload (i := 0) mdc_135 dX3_coloursLeft_11 rfl rfl rfl
theorem eX3_coloursLeft_12 {d : Nat} {a0 a1 : Value} {x : Int32} {st : List Value} {hp : qzH} : qzV d 135 12 [a0, a1, .int x] (st) hp = qzV d 135 13 [a0, a1, .int x] (.int x :: st) hp := qv_iload (i := 2) mdc_135 dX3_coloursLeft_12 rfl rfl rfl
theorem eX3_coloursLeft_13 {d : Nat} {a0 a1 a2 : Value} {w0 : Value} {b : Nat} {st : List Value} {hp : qzH} (h8 : st.length ≤ 8) (hb : qzArr 3 b hp.1 = true) : qzV (d + 1) 135 13 [a0, a1, a2] (w0 :: .ref b :: st) hp = (qzC d 134 (.ref b :: [w0]) hp).bind (fun r => qzV (d + 1) 135 16 [a0, a1, a2] (r.1.toList ++ st) r.2) := qv_callv (n := 1) mdc_135 dX3_coloursLeft_13 mdo_135 (by decide) qfc_3_164 ⟨rfl, by decide, rfl⟩ rfl ⟨rfl, rfl, by simp only [List.length_cons]; omega⟩ h8 hb
theorem eX3_coloursLeft_16 {d : Nat} {a0 a1 a2 : Value} {x : Int32} {st : List Value} {hp : qzH} : qzV d 135 16 [a0, a1, a2] (.int x :: st) hp = if x ≤ 0 then qzV d 135 23 [a0, a1, a2] (st) hp else qzV d 135 19 [a0, a1, a2] (st) hp := qv_if1 mdc_135 dX3_coloursLeft_16 rfl rfl rfl
theorem eX3_coloursLeft_19 {d : Nat} {a0 a1 a2 : Value} {st : List Value} {hp : qzH} : qzV d 135 19 [a0, a1, a2] (st) hp = qzV d 135 20 [a0, a1, a2] (.int 1 :: st) hp := qv_iconst mdc_135 dX3_coloursLeft_19 il_1 rfl
theorem eX3_coloursLeft_20 {d : Nat} {a0 a1 a2 : Value} {st : List Value} {hp : qzH} : qzV d 135 20 [a0, a1, a2] (st) hp = qzV d 135 24 [a0, a1, a2] (st) hp := qv_goto mdc_135 dX3_coloursLeft_20 rfl
theorem eX3_coloursLeft_23 {d : Nat} {a0 a1 a2 : Value} {st : List Value} {hp : qzH} : qzV d 135 23 [a0, a1, a2] (st) hp = qzV d 135 24 [a0, a1, a2] (.int 0 :: st) hp := qv_iconst mdc_135 dX3_coloursLeft_23 il_0 rfl
theorem eX3_coloursLeft_24 {d : Nat} {a0 a1 a2 : Value} {x y : Int32} {st : List Value} {hp : qzH} : qzV d 135 24 [a0, a1, a2] (.int y :: .int x :: st) hp = qzV d 135 25 [a0, a1, a2] (.int (x + y) :: st) hp := qv_bin (f := fun x y => x + y) mdc_135 dX3_coloursLeft_24 rfl rfl
theorem eX3_coloursLeft_25 {d : Nat} {a0 a1 a2 : Value} {x : Int32} {st : List Value} {hp : qzH} : qzV d 135 25 [a0, a1, a2] (.int x :: st) hp = qzV d 135 26 [a0, .int x, a2] (st) hp := qv_istore (i := 1) mdc_135 dX3_coloursLeft_25 rfl (Nat.le_of_ble_eq_true rfl) rfl rfl
theorem eX3_coloursLeft_26 {d : Nat} {a0 a1 : Value} {x : Int32} {st : List Value} {hp : qzH} : qzV d 135 26 [a0, a1, .int x] (st) hp = qzV d 135 29 [a0, a1, .int (x + 1)] (st) hp := qv_iinc mdc_135 dX3_coloursLeft_26 rfl il_1 rfl rfl
theorem eX3_coloursLeft_29 {d : Nat} {a0 a1 a2 : Value} {st : List Value} {hp : qzH} : qzV d 135 29 [a0, a1, a2] (st) hp = qzV d 135 4 [a0, a1, a2] (st) hp := qv_goto mdc_135 dX3_coloursLeft_29 rfl
theorem eX3_coloursLeft_32 {d : Nat} {a0 a2 : Value} {x : Int32} {st : List Value} {hp : qzH} : qzV d 135 32 [a0, .int x, a2] (st) hp = qzV d 135 33 [a0, .int x, a2] (.int x :: st) hp := qv_iload (i := 1) mdc_135 dX3_coloursLeft_32 rfl rfl rfl
theorem eX3_coloursLeft_33 {d : Nat} {a0 a1 a2 : Value} {v : Int32} {hp : qzH} : qzV d 135 33 [a0, a1, a2] [.int v] hp = some (some (.int v), hp) := qv_iret mdc_135 dX3_coloursLeft_33 mdr_135 rfl
theorem dX3_longestFold_0 : decode cX3_longestFold 0 = .ok (.aload_n 0, 1) := by decide +kernel
theorem dX3_longestFold_1 : decode cX3_longestFold 1 = .ok (.getfield 7, 3) := by decide +kernel
theorem dX3_longestFold_4 : decode cX3_longestFold 4 = .ok (.iconst 2, 1) := by decide +kernel
theorem dX3_longestFold_5 : decode cX3_longestFold 5 = .ok (.iaload, 1) := by decide +kernel
theorem dX3_longestFold_6 : decode cX3_longestFold 6 = .ok (.ifCond .le 7, 3) := by decide +kernel
theorem dX3_longestFold_9 : decode cX3_longestFold 9 = .ok (.iconst 1, 1) := by decide +kernel
theorem dX3_longestFold_10 : decode cX3_longestFold 10 = .ok (.goto 4, 3) := by decide +kernel
theorem dX3_longestFold_13 : decode cX3_longestFold 13 = .ok (.iconst 0, 1) := by decide +kernel
theorem dX3_longestFold_14 : decode cX3_longestFold 14 = .ok (.istore_n 1, 1) := by decide +kernel
theorem dX3_longestFold_15 : decode cX3_longestFold 15 = .ok (.aload_n 0, 1) := by decide +kernel
theorem dX3_longestFold_16 : decode cX3_longestFold 16 = .ok (.getfield 7, 3) := by decide +kernel
theorem dX3_longestFold_19 : decode cX3_longestFold 19 = .ok (.iconst 1, 1) := by decide +kernel
theorem dX3_longestFold_20 : decode cX3_longestFold 20 = .ok (.iaload, 1) := by decide +kernel
theorem dX3_longestFold_21 : decode cX3_longestFold 21 = .ok (.istore_n 2, 1) := by decide +kernel
theorem dX3_longestFold_22 : decode cX3_longestFold 22 = .ok (.iload_n 2, 1) := by decide +kernel
theorem dX3_longestFold_23 : decode cX3_longestFold 23 = .ok (.aload_n 0, 1) := by decide +kernel
theorem dX3_longestFold_24 : decode cX3_longestFold 24 = .ok (.getfield 7, 3) := by decide +kernel
theorem dX3_longestFold_27 : decode cX3_longestFold 27 = .ok (.iconst 1, 1) := by decide +kernel
theorem dX3_longestFold_28 : decode cX3_longestFold 28 = .ok (.iaload, 1) := by decide +kernel
theorem dX3_longestFold_29 : decode cX3_longestFold 29 = .ok (.aload_n 0, 1) := by decide +kernel
theorem dX3_longestFold_30 : decode cX3_longestFold 30 = .ok (.getfield 7, 3) := by decide +kernel
theorem dX3_longestFold_33 : decode cX3_longestFold 33 = .ok (.iconst 2, 1) := by decide +kernel
theorem dX3_longestFold_34 : decode cX3_longestFold 34 = .ok (.iaload, 1) := by decide +kernel
theorem dX3_longestFold_35 : decode cX3_longestFold 35 = .ok (.iadd, 1) := by decide +kernel
theorem dX3_longestFold_36 : decode cX3_longestFold 36 = .ok (.if_icmp .ge 56, 3) := by decide +kernel
theorem dX3_longestFold_39 : decode cX3_longestFold 39 = .ok (.iconst 2, 1) := by decide +kernel
theorem dX3_longestFold_40 : decode cX3_longestFold 40 = .ok (.istore_n 3, 1) := by decide +kernel
theorem dX3_longestFold_41 : decode cX3_longestFold 41 = .ok (.iload_n 2, 1) := by decide +kernel
theorem dX3_longestFold_42 : decode cX3_longestFold 42 = .ok (.iload_n 3, 1) := by decide +kernel
theorem dX3_longestFold_43 : decode cX3_longestFold 43 = .ok (.iadd, 1) := by decide +kernel
theorem dX3_longestFold_44 : decode cX3_longestFold 44 = .ok (.aload_n 0, 1) := by decide +kernel
theorem dX3_longestFold_45 : decode cX3_longestFold 45 = .ok (.getfield 7, 3) := by decide +kernel
theorem dX3_longestFold_48 : decode cX3_longestFold 48 = .ok (.iconst 1, 1) := by decide +kernel
theorem dX3_longestFold_49 : decode cX3_longestFold 49 = .ok (.iaload, 1) := by decide +kernel
theorem dX3_longestFold_50 : decode cX3_longestFold 50 = .ok (.aload_n 0, 1) := by decide +kernel
theorem dX3_longestFold_51 : decode cX3_longestFold 51 = .ok (.getfield 7, 3) := by decide +kernel
theorem dX3_longestFold_54 : decode cX3_longestFold 54 = .ok (.iconst 2, 1) := by decide +kernel
theorem dX3_longestFold_55 : decode cX3_longestFold 55 = .ok (.iaload, 1) := by decide +kernel
theorem dX3_longestFold_56 : decode cX3_longestFold 56 = .ok (.iadd, 1) := by decide +kernel
theorem dX3_longestFold_57 : decode cX3_longestFold 57 = .ok (.if_icmp .gt 29, 3) := by decide +kernel
theorem dX3_longestFold_60 : decode cX3_longestFold 60 = .ok (.iload_n 3, 1) := by decide +kernel
theorem dX3_longestFold_61 : decode cX3_longestFold 61 = .ok (.iload_n 1, 1) := by decide +kernel
theorem dX3_longestFold_62 : decode cX3_longestFold 62 = .ok (.if_icmp .le 16, 3) := by decide +kernel
theorem dX3_longestFold_65 : decode cX3_longestFold 65 = .ok (.aload_n 0, 1) := by decide +kernel
theorem dX3_longestFold_66 : decode cX3_longestFold 66 = .ok (.iload_n 2, 1) := by decide +kernel
theorem dX3_longestFold_67 : decode cX3_longestFold 67 = .ok (.iload_n 3, 1) := by decide +kernel
theorem dX3_longestFold_68 : decode cX3_longestFold 68 = .ok (.invokevirtual 39, 3) := by decide +kernel
theorem dX3_longestFold_71 : decode cX3_longestFold 71 = .ok (.ifCond .eq 7, 3) := by decide +kernel
theorem dX3_longestFold_74 : decode cX3_longestFold 74 = .ok (.iload_n 3, 1) := by decide +kernel
theorem dX3_longestFold_75 : decode cX3_longestFold 75 = .ok (.goto 4, 3) := by decide +kernel
theorem dX3_longestFold_78 : decode cX3_longestFold 78 = .ok (.iload_n 1, 1) := by decide +kernel
theorem dX3_longestFold_79 : decode cX3_longestFold 79 = .ok (.istore_n 1, 1) := by decide +kernel
theorem dX3_longestFold_80 : decode cX3_longestFold 80 = .ok (.iinc 3 1, 3) := by decide +kernel
theorem dX3_longestFold_83 : decode cX3_longestFold 83 = .ok (.goto (-42), 3) := by decide +kernel
theorem dX3_longestFold_86 : decode cX3_longestFold 86 = .ok (.iinc 2 1, 3) := by decide +kernel
theorem dX3_longestFold_89 : decode cX3_longestFold 89 = .ok (.goto (-67), 3) := by decide +kernel
theorem dX3_longestFold_92 : decode cX3_longestFold 92 = .ok (.iload_n 1, 1) := by decide +kernel
theorem dX3_longestFold_93 : decode cX3_longestFold 93 = .ok (.ireturn, 1) := by decide +kernel
theorem eX3_longestFold_0 {d : Nat} {a1 a2 a3 : Value} {x : Nat} {st : List Value} {hp : qzH} : qzV d 136 0 [.ref x, a1, a2, a3] (st) hp = qzV d 136 1 [.ref x, a1, a2, a3] (.ref x :: st) hp := qv_aload (i := 0) mdc_136 dX3_longestFold_0 rfl rfl rfl
theorem eX3_longestFold_1 {d : Nat} {a0 a1 a2 a3 : Value} {a : Nat} {st : List Value} {hp : qzH} (ha : qzArr 3 a hp.1 = true) : qzV d 136 1 [a0, a1, a2, a3] (.ref a :: st) hp = qzV d 136 4 [a0, a1, a2, a3] (va_rf (hp.2.1 a 0) :: st) hp := qv_getR mdc_136 dX3_longestFold_1 mdo_136 qff_3_7 ⟨by decide, rfl⟩ rfl ha
theorem eX3_longestFold_4 {d : Nat} {a0 a1 a2 a3 : Value} {st : List Value} {hp : qzH} : qzV d 136 4 [a0, a1, a2, a3] (st) hp = qzV d 136 5 [a0, a1, a2, a3] (.int 2 :: st) hp := qv_iconst mdc_136 dX3_longestFold_4 il_2 rfl
theorem eX3_longestFold_5 {d : Nat} {a0 a1 a2 a3 : Value} {i : Int32} {a : Nat} {st : List Value} {hp : qzH} (ha : qzArr 4 a hp.1 = true) (hi : qzIn i (qzk a).2 = true) : qzV d 136 5 [a0, a1, a2, a3] (.int i :: .ref a :: st) hp = qzV d 136 6 [a0, a1, a2, a3] (.int (hp.2.2 a i.toNatClampNeg) :: st) hp := qv_iald mdc_136 dX3_longestFold_5 rfl ha hi
theorem eX3_longestFold_6 {d : Nat} {a0 a1 a2 a3 : Value} {x : Int32} {st : List Value} {hp : qzH} : qzV d 136 6 [a0, a1, a2, a3] (.int x :: st) hp = if x ≤ 0 then qzV d 136 13 [a0, a1, a2, a3] (st) hp else qzV d 136 9 [a0, a1, a2, a3] (st) hp := qv_if1 mdc_136 dX3_longestFold_6 rfl rfl rfl
theorem eX3_longestFold_9 {d : Nat} {a0 a1 a2 a3 : Value} {st : List Value} {hp : qzH} : qzV d 136 9 [a0, a1, a2, a3] (st) hp = qzV d 136 10 [a0, a1, a2, a3] (.int 1 :: st) hp := qv_iconst mdc_136 dX3_longestFold_9 il_1 rfl
theorem eX3_longestFold_10 {d : Nat} {a0 a1 a2 a3 : Value} {st : List Value} {hp : qzH} : qzV d 136 10 [a0, a1, a2, a3] (st) hp = qzV d 136 14 [a0, a1, a2, a3] (st) hp := qv_goto mdc_136 dX3_longestFold_10 rfl
theorem eX3_longestFold_13 {d : Nat} {a0 a1 a2 a3 : Value} {st : List Value} {hp : qzH} : qzV d 136 13 [a0, a1, a2, a3] (st) hp = qzV d 136 14 [a0, a1, a2, a3] (.int 0 :: st) hp := qv_iconst mdc_136 dX3_longestFold_13 il_0 rfl
theorem eX3_longestFold_14 {d : Nat} {a0 a1 a2 a3 : Value} {x : Int32} {st : List Value} {hp : qzH} : qzV d 136 14 [a0, a1, a2, a3] (.int x :: st) hp = qzV d 136 15 [a0, .int x, a2, a3] (st) hp := qv_istore (i := 1) mdc_136 dX3_longestFold_14 rfl (Nat.le_of_ble_eq_true rfl) rfl rfl
theorem eX3_longestFold_15 {d : Nat} {a1 a2 a3 : Value} {x : Nat} {st : List Value} {hp : qzH} : qzV d 136 15 [.ref x, a1, a2, a3] (st) hp = qzV d 136 16 [.ref x, a1, a2, a3] (.ref x :: st) hp := qv_aload (i := 0) mdc_136 dX3_longestFold_15 rfl rfl rfl
theorem eX3_longestFold_16 {d : Nat} {a0 a1 a2 a3 : Value} {a : Nat} {st : List Value} {hp : qzH} (ha : qzArr 3 a hp.1 = true) : qzV d 136 16 [a0, a1, a2, a3] (.ref a :: st) hp = qzV d 136 19 [a0, a1, a2, a3] (va_rf (hp.2.1 a 0) :: st) hp := qv_getR mdc_136 dX3_longestFold_16 mdo_136 qff_3_7 ⟨by decide, rfl⟩ rfl ha
theorem eX3_longestFold_19 {d : Nat} {a0 a1 a2 a3 : Value} {st : List Value} {hp : qzH} : qzV d 136 19 [a0, a1, a2, a3] (st) hp = qzV d 136 20 [a0, a1, a2, a3] (.int 1 :: st) hp := qv_iconst mdc_136 dX3_longestFold_19 il_1 rfl
theorem eX3_longestFold_20 {d : Nat} {a0 a1 a2 a3 : Value} {i : Int32} {a : Nat} {st : List Value} {hp : qzH} (ha : qzArr 4 a hp.1 = true) (hi : qzIn i (qzk a).2 = true) : qzV d 136 20 [a0, a1, a2, a3] (.int i :: .ref a :: st) hp = qzV d 136 21 [a0, a1, a2, a3] (.int (hp.2.2 a i.toNatClampNeg) :: st) hp := qv_iald mdc_136 dX3_longestFold_20 rfl ha hi
theorem eX3_longestFold_21 {d : Nat} {a0 a1 a2 a3 : Value} {x : Int32} {st : List Value} {hp : qzH} : qzV d 136 21 [a0, a1, a2, a3] (.int x :: st) hp = qzV d 136 22 [a0, a1, .int x, a3] (st) hp := qv_istore (i := 2) mdc_136 dX3_longestFold_21 rfl (Nat.le_of_ble_eq_true rfl) rfl rfl
theorem eX3_longestFold_22 {d : Nat} {a0 a1 a3 : Value} {x : Int32} {st : List Value} {hp : qzH} : qzV d 136 22 [a0, a1, .int x, a3] (st) hp = qzV d 136 23 [a0, a1, .int x, a3] (.int x :: st) hp := qv_iload (i := 2) mdc_136 dX3_longestFold_22 rfl rfl rfl
theorem eX3_longestFold_23 {d : Nat} {a1 a2 a3 : Value} {x : Nat} {st : List Value} {hp : qzH} : qzV d 136 23 [.ref x, a1, a2, a3] (st) hp = qzV d 136 24 [.ref x, a1, a2, a3] (.ref x :: st) hp := qv_aload (i := 0) mdc_136 dX3_longestFold_23 rfl rfl rfl
theorem eX3_longestFold_24 {d : Nat} {a0 a1 a2 a3 : Value} {a : Nat} {st : List Value} {hp : qzH} (ha : qzArr 3 a hp.1 = true) : qzV d 136 24 [a0, a1, a2, a3] (.ref a :: st) hp = qzV d 136 27 [a0, a1, a2, a3] (va_rf (hp.2.1 a 0) :: st) hp := qv_getR mdc_136 dX3_longestFold_24 mdo_136 qff_3_7 ⟨by decide, rfl⟩ rfl ha
theorem eX3_longestFold_27 {d : Nat} {a0 a1 a2 a3 : Value} {st : List Value} {hp : qzH} : qzV d 136 27 [a0, a1, a2, a3] (st) hp = qzV d 136 28 [a0, a1, a2, a3] (.int 1 :: st) hp := qv_iconst mdc_136 dX3_longestFold_27 il_1 rfl
theorem eX3_longestFold_28 {d : Nat} {a0 a1 a2 a3 : Value} {i : Int32} {a : Nat} {st : List Value} {hp : qzH} (ha : qzArr 4 a hp.1 = true) (hi : qzIn i (qzk a).2 = true) : qzV d 136 28 [a0, a1, a2, a3] (.int i :: .ref a :: st) hp = qzV d 136 29 [a0, a1, a2, a3] (.int (hp.2.2 a i.toNatClampNeg) :: st) hp := qv_iald mdc_136 dX3_longestFold_28 rfl ha hi
theorem eX3_longestFold_29 {d : Nat} {a1 a2 a3 : Value} {x : Nat} {st : List Value} {hp : qzH} : qzV d 136 29 [.ref x, a1, a2, a3] (st) hp = qzV d 136 30 [.ref x, a1, a2, a3] (.ref x :: st) hp := qv_aload (i := 0) mdc_136 dX3_longestFold_29 rfl rfl rfl
theorem eX3_longestFold_30 {d : Nat} {a0 a1 a2 a3 : Value} {a : Nat} {st : List Value} {hp : qzH} (ha : qzArr 3 a hp.1 = true) : qzV d 136 30 [a0, a1, a2, a3] (.ref a :: st) hp = qzV d 136 33 [a0, a1, a2, a3] (va_rf (hp.2.1 a 0) :: st) hp := qv_getR mdc_136 dX3_longestFold_30 mdo_136 qff_3_7 ⟨by decide, rfl⟩ rfl ha
theorem eX3_longestFold_33 {d : Nat} {a0 a1 a2 a3 : Value} {st : List Value} {hp : qzH} : qzV d 136 33 [a0, a1, a2, a3] (st) hp = qzV d 136 34 [a0, a1, a2, a3] (.int 2 :: st) hp := qv_iconst mdc_136 dX3_longestFold_33 il_2 rfl
theorem eX3_longestFold_34 {d : Nat} {a0 a1 a2 a3 : Value} {i : Int32} {a : Nat} {st : List Value} {hp : qzH} (ha : qzArr 4 a hp.1 = true) (hi : qzIn i (qzk a).2 = true) : qzV d 136 34 [a0, a1, a2, a3] (.int i :: .ref a :: st) hp = qzV d 136 35 [a0, a1, a2, a3] (.int (hp.2.2 a i.toNatClampNeg) :: st) hp := qv_iald mdc_136 dX3_longestFold_34 rfl ha hi
theorem eX3_longestFold_35 {d : Nat} {a0 a1 a2 a3 : Value} {x y : Int32} {st : List Value} {hp : qzH} : qzV d 136 35 [a0, a1, a2, a3] (.int y :: .int x :: st) hp = qzV d 136 36 [a0, a1, a2, a3] (.int (x + y) :: st) hp := qv_bin (f := fun x y => x + y) mdc_136 dX3_longestFold_35 rfl rfl
theorem eX3_longestFold_36 {d : Nat} {a0 a1 a2 a3 : Value} {x y : Int32} {st : List Value} {hp : qzH} : qzV d 136 36 [a0, a1, a2, a3] (.int y :: .int x :: st) hp = if y ≤ x then qzV d 136 92 [a0, a1, a2, a3] (st) hp else qzV d 136 39 [a0, a1, a2, a3] (st) hp := qv_if2 mdc_136 dX3_longestFold_36 rfl rfl rfl
theorem eX3_longestFold_39 {d : Nat} {a0 a1 a2 a3 : Value} {st : List Value} {hp : qzH} : qzV d 136 39 [a0, a1, a2, a3] (st) hp = qzV d 136 40 [a0, a1, a2, a3] (.int 2 :: st) hp := qv_iconst mdc_136 dX3_longestFold_39 il_2 rfl
theorem eX3_longestFold_40 {d : Nat} {a0 a1 a2 a3 : Value} {x : Int32} {st : List Value} {hp : qzH} : qzV d 136 40 [a0, a1, a2, a3] (.int x :: st) hp = qzV d 136 41 [a0, a1, a2, .int x] (st) hp := qv_istore (i := 3) mdc_136 dX3_longestFold_40 rfl (Nat.le_of_ble_eq_true rfl) rfl rfl
theorem eX3_longestFold_41 {d : Nat} {a0 a1 a3 : Value} {x : Int32} {st : List Value} {hp : qzH} : qzV d 136 41 [a0, a1, .int x, a3] (st) hp = qzV d 136 42 [a0, a1, .int x, a3] (.int x :: st) hp := qv_iload (i := 2) mdc_136 dX3_longestFold_41 rfl rfl rfl
theorem eX3_longestFold_42 {d : Nat} {a0 a1 a2 : Value} {x : Int32} {st : List Value} {hp : qzH} : qzV d 136 42 [a0, a1, a2, .int x] (st) hp = qzV d 136 43 [a0, a1, a2, .int x] (.int x :: st) hp := qv_iload (i := 3) mdc_136 dX3_longestFold_42 rfl rfl rfl
theorem eX3_longestFold_43 {d : Nat} {a0 a1 a2 a3 : Value} {x y : Int32} {st : List Value} {hp : qzH} : qzV d 136 43 [a0, a1, a2, a3] (.int y :: .int x :: st) hp = qzV d 136 44 [a0, a1, a2, a3] (.int (x + y) :: st) hp := qv_bin (f := fun x y => x + y) mdc_136 dX3_longestFold_43 rfl rfl
theorem eX3_longestFold_44 {d : Nat} {a1 a2 a3 : Value} {x : Nat} {st : List Value} {hp : qzH} : qzV d 136 44 [.ref x, a1, a2, a3] (st) hp = qzV d 136 45 [.ref x, a1, a2, a3] (.ref x :: st) hp := qv_aload (i := 0) mdc_136 dX3_longestFold_44 rfl rfl rfl
theorem eX3_longestFold_45 {d : Nat} {a0 a1 a2 a3 : Value} {a : Nat} {st : List Value} {hp : qzH} (ha : qzArr 3 a hp.1 = true) : qzV d 136 45 [a0, a1, a2, a3] (.ref a :: st) hp = qzV d 136 48 [a0, a1, a2, a3] (va_rf (hp.2.1 a 0) :: st) hp := qv_getR mdc_136 dX3_longestFold_45 mdo_136 qff_3_7 ⟨by decide, rfl⟩ rfl ha
theorem eX3_longestFold_48 {d : Nat} {a0 a1 a2 a3 : Value} {st : List Value} {hp : qzH} : qzV d 136 48 [a0, a1, a2, a3] (st) hp = qzV d 136 49 [a0, a1, a2, a3] (.int 1 :: st) hp := qv_iconst mdc_136 dX3_longestFold_48 il_1 rfl
theorem eX3_longestFold_49 {d : Nat} {a0 a1 a2 a3 : Value} {i : Int32} {a : Nat} {st : List Value} {hp : qzH} (ha : qzArr 4 a hp.1 = true) (hi : qzIn i (qzk a).2 = true) : qzV d 136 49 [a0, a1, a2, a3] (.int i :: .ref a :: st) hp = qzV d 136 50 [a0, a1, a2, a3] (.int (hp.2.2 a i.toNatClampNeg) :: st) hp := qv_iald mdc_136 dX3_longestFold_49 rfl ha hi
theorem eX3_longestFold_50 {d : Nat} {a1 a2 a3 : Value} {x : Nat} {st : List Value} {hp : qzH} : qzV d 136 50 [.ref x, a1, a2, a3] (st) hp = qzV d 136 51 [.ref x, a1, a2, a3] (.ref x :: st) hp := qv_aload (i := 0) mdc_136 dX3_longestFold_50 rfl rfl rfl
theorem eX3_longestFold_51 {d : Nat} {a0 a1 a2 a3 : Value} {a : Nat} {st : List Value} {hp : qzH} (ha : qzArr 3 a hp.1 = true) : qzV d 136 51 [a0, a1, a2, a3] (.ref a :: st) hp = qzV d 136 54 [a0, a1, a2, a3] (va_rf (hp.2.1 a 0) :: st) hp := qv_getR mdc_136 dX3_longestFold_51 mdo_136 qff_3_7 ⟨by decide, rfl⟩ rfl ha
theorem eX3_longestFold_54 {d : Nat} {a0 a1 a2 a3 : Value} {st : List Value} {hp : qzH} : qzV d 136 54 [a0, a1, a2, a3] (st) hp = qzV d 136 55 [a0, a1, a2, a3] (.int 2 :: st) hp := qv_iconst mdc_136 dX3_longestFold_54 il_2 rfl
theorem eX3_longestFold_55 {d : Nat} {a0 a1 a2 a3 : Value} {i : Int32} {a : Nat} {st : List Value} {hp : qzH} (ha : qzArr 4 a hp.1 = true) (hi : qzIn i (qzk a).2 = true) : qzV d 136 55 [a0, a1, a2, a3] (.int i :: .ref a :: st) hp = qzV d 136 56 [a0, a1, a2, a3] (.int (hp.2.2 a i.toNatClampNeg) :: st) hp := qv_iald mdc_136 dX3_longestFold_55 rfl ha hi
theorem eX3_longestFold_56 {d : Nat} {a0 a1 a2 a3 : Value} {x y : Int32} {st : List Value} {hp : qzH} : qzV d 136 56 [a0, a1, a2, a3] (.int y :: .int x :: st) hp = qzV d 136 57 [a0, a1, a2, a3] (.int (x + y) :: st) hp := qv_bin (f := fun x y => x + y) mdc_136 dX3_longestFold_56 rfl rfl
theorem eX3_longestFold_57 {d : Nat} {a0 a1 a2 a3 : Value} {x y : Int32} {st : List Value} {hp : qzH} : qzV d 136 57 [a0, a1, a2, a3] (.int y :: .int x :: st) hp = if y < x then qzV d 136 86 [a0, a1, a2, a3] (st) hp else qzV d 136 60 [a0, a1, a2, a3] (st) hp := qv_if2 mdc_136 dX3_longestFold_57 rfl rfl rfl
theorem eX3_longestFold_60 {d : Nat} {a0 a1 a2 : Value} {x : Int32} {st : List Value} {hp : qzH} : qzV d 136 60 [a0, a1, a2, .int x] (st) hp = qzV d 136 61 [a0, a1, a2, .int x] (.int x :: st) hp := qv_iload (i := 3) mdc_136 dX3_longestFold_60 rfl rfl rfl
theorem eX3_longestFold_61 {d : Nat} {a0 a2 a3 : Value} {x : Int32} {st : List Value} {hp : qzH} : qzV d 136 61 [a0, .int x, a2, a3] (st) hp = qzV d 136 62 [a0, .int x, a2, a3] (.int x :: st) hp := qv_iload (i := 1) mdc_136 dX3_longestFold_61 rfl rfl rfl
theorem eX3_longestFold_62 {d : Nat} {a0 a1 a2 a3 : Value} {x y : Int32} {st : List Value} {hp : qzH} : qzV d 136 62 [a0, a1, a2, a3] (.int y :: .int x :: st) hp = if x ≤ y then qzV d 136 78 [a0, a1, a2, a3] (st) hp else qzV d 136 65 [a0, a1, a2, a3] (st) hp := qv_if2 mdc_136 dX3_longestFold_62 rfl rfl rfl
theorem eX3_longestFold_65 {d : Nat} {a1 a2 a3 : Value} {x : Nat} {st : List Value} {hp : qzH} : qzV d 136 65 [.ref x, a1, a2, a3] (st) hp = qzV d 136 66 [.ref x, a1, a2, a3] (.ref x :: st) hp := qv_aload (i := 0) mdc_136 dX3_longestFold_65 rfl rfl rfl
theorem eX3_longestFold_66 {d : Nat} {a0 a1 a3 : Value} {x : Int32} {st : List Value} {hp : qzH} : qzV d 136 66 [a0, a1, .int x, a3] (st) hp = qzV d 136 67 [a0, a1, .int x, a3] (.int x :: st) hp := qv_iload (i := 2) mdc_136 dX3_longestFold_66 rfl rfl rfl
theorem eX3_longestFold_67 {d : Nat} {a0 a1 a2 : Value} {x : Int32} {st : List Value} {hp : qzH} : qzV d 136 67 [a0, a1, a2, .int x] (st) hp = qzV d 136 68 [a0, a1, a2, .int x] (.int x :: st) hp := qv_iload (i := 3) mdc_136 dX3_longestFold_67 rfl rfl rfl
theorem eX3_longestFold_68 {d : Nat} {a0 a1 a2 a3 : Value} {w0 w1 : Value} {b : Nat} {st : List Value} {hp : qzH} (h8 : st.length ≤ 8) (hb : qzArr 3 b hp.1 = true) : qzV (d + 1) 136 68 [a0, a1, a2, a3] (w1 :: w0 :: .ref b :: st) hp = (qzC d 95 (.ref b :: [w0, w1]) hp).bind (fun r => qzV (d + 1) 136 71 [a0, a1, a2, a3] (r.1.toList ++ st) r.2) := qv_callv (n := 2) mdc_136 dX3_longestFold_68 mdo_136 (by decide) qfc_3_39 ⟨rfl, by decide, rfl⟩ rfl ⟨rfl, rfl, by simp only [List.length_cons]; omega⟩ h8 hb
theorem eX3_longestFold_71 {d : Nat} {a0 a1 a2 a3 : Value} {x : Int32} {st : List Value} {hp : qzH} : qzV d 136 71 [a0, a1, a2, a3] (.int x :: st) hp = if x = 0 then qzV d 136 78 [a0, a1, a2, a3] (st) hp else qzV d 136 74 [a0, a1, a2, a3] (st) hp := qv_if1 mdc_136 dX3_longestFold_71 rfl rfl rfl
theorem eX3_longestFold_74 {d : Nat} {a0 a1 a2 : Value} {x : Int32} {st : List Value} {hp : qzH} : qzV d 136 74 [a0, a1, a2, .int x] (st) hp = qzV d 136 75 [a0, a1, a2, .int x] (.int x :: st) hp := qv_iload (i := 3) mdc_136 dX3_longestFold_74 rfl rfl rfl
theorem eX3_longestFold_75 {d : Nat} {a0 a1 a2 a3 : Value} {st : List Value} {hp : qzH} : qzV d 136 75 [a0, a1, a2, a3] (st) hp = qzV d 136 79 [a0, a1, a2, a3] (st) hp := qv_goto mdc_136 dX3_longestFold_75 rfl
theorem eX3_longestFold_78 {d : Nat} {a0 a2 a3 : Value} {x : Int32} {st : List Value} {hp : qzH} : qzV d 136 78 [a0, .int x, a2, a3] (st) hp = qzV d 136 79 [a0, .int x, a2, a3] (.int x :: st) hp := qv_iload (i := 1) mdc_136 dX3_longestFold_78 rfl rfl rfl
theorem eX3_longestFold_79 {d : Nat} {a0 a1 a2 a3 : Value} {x : Int32} {st : List Value} {hp : qzH} : qzV d 136 79 [a0, a1, a2, a3] (.int x :: st) hp = qzV d 136 80 [a0, .int x, a2, a3] (st) hp := qv_istore (i := 1) mdc_136 dX3_longestFold_79 rfl (Nat.le_of_ble_eq_true rfl) rfl rfl
theorem eX3_longestFold_80 {d : Nat} {a0 a1 a2 : Value} {x : Int32} {st : List Value} {hp : qzH} : qzV d 136 80 [a0, a1, a2, .int x] (st) hp = qzV d 136 83 [a0, a1, a2, .int (x + 1)] (st) hp := qv_iinc mdc_136 dX3_longestFold_80 rfl il_1 rfl rfl
theorem eX3_longestFold_83 {d : Nat} {a0 a1 a2 a3 : Value} {st : List Value} {hp : qzH} : qzV d 136 83 [a0, a1, a2, a3] (st) hp = qzV d 136 41 [a0, a1, a2, a3] (st) hp := qv_goto mdc_136 dX3_longestFold_83 rfl
theorem eX3_longestFold_86 {d : Nat} {a0 a1 a3 : Value} {x : Int32} {st : List Value} {hp : qzH} : qzV d 136 86 [a0, a1, .int x, a3] (st) hp = qzV d 136 89 [a0, a1, .int (x + 1), a3] (st) hp := qv_iinc mdc_136 dX3_longestFold_86 rfl il_1 rfl rfl
theorem eX3_longestFold_89 {d : Nat} {a0 a1 a2 a3 : Value} {st : List Value} {hp : qzH} : qzV d 136 89 [a0, a1, a2, a3] (st) hp = qzV d 136 22 [a0, a1, a2, a3] (st) hp := qv_goto mdc_136 dX3_longestFold_89 rfl
theorem eX3_longestFold_92 {d : Nat} {a0 a2 a3 : Value} {x : Int32} {st : List Value} {hp : qzH} : qzV d 136 92 [a0, .int x, a2, a3] (st) hp = qzV d 136 93 [a0, .int x, a2, a3] (.int x :: st) hp := qv_iload (i := 1) mdc_136 dX3_longestFold_92 rfl rfl rfl
theorem eX3_longestFold_93 {d : Nat} {a0 a1 a2 a3 : Value} {v : Int32} {hp : qzH} : qzV d 136 93 [a0, a1, a2, a3] [.int v] hp = some (some (.int v), hp) := qv_iret mdc_136 dX3_longestFold_93 mdr_136 rfl
theorem dX3_count_0 : decode cX3_count 0 = .ok (.iload_n 1, 1) := by decide +kernel
theorem dX3_count_1 : decode cX3_count 1 = .ok (.tableswitch 195 0 13 #[71, 78, 85, 104, 132, 151, 158, 163, 168, 173, 173, 173, 185, 190], 71) := by decide +kernel
theorem dX3_count_72 : decode cX3_count 72 = .ok (.aload_n 0, 1) := by decide +kernel
theorem dX3_count_73 : decode cX3_count 73 = .ok (.getfield 7, 3) := by decide +kernel
theorem dX3_count_76 : decode cX3_count 76 = .ok (.iconst 0, 1) := by decide +kernel
theorem dX3_count_77 : decode cX3_count 77 = .ok (.iaload, 1) := by decide +kernel
theorem dX3_count_78 : decode cX3_count 78 = .ok (.ireturn, 1) := by decide +kernel
theorem dX3_count_79 : decode cX3_count 79 = .ok (.aload_n 0, 1) := by decide +kernel
theorem dX3_count_80 : decode cX3_count 80 = .ok (.getfield 7, 3) := by decide +kernel
theorem dX3_count_83 : decode cX3_count 83 = .ok (.iconst 2, 1) := by decide +kernel
theorem dX3_count_84 : decode cX3_count 84 = .ok (.iaload, 1) := by decide +kernel
theorem dX3_count_85 : decode cX3_count 85 = .ok (.ireturn, 1) := by decide +kernel
theorem dX3_count_86 : decode cX3_count 86 = .ok (.aload_n 0, 1) := by decide +kernel
theorem dX3_count_87 : decode cX3_count 87 = .ok (.invokevirtual 106, 3) := by decide +kernel
theorem dX3_count_90 : decode cX3_count 90 = .ok (.ifCond .eq 8, 3) := by decide +kernel
theorem dX3_count_93 : decode cX3_count 93 = .ok (.bipush (-4), 2) := by decide +kernel
theorem dX3_count_95 : decode cX3_count 95 = .ok (.goto 9, 3) := by decide +kernel
theorem dX3_count_98 : decode cX3_count 98 = .ok (.aload_n 0, 1) := by decide +kernel
theorem dX3_count_99 : decode cX3_count 99 = .ok (.getfield 7, 3) := by decide +kernel
theorem dX3_count_102 : decode cX3_count 102 = .ok (.iconst 1, 1) := by decide +kernel
theorem dX3_count_103 : decode cX3_count 103 = .ok (.iaload, 1) := by decide +kernel
theorem dX3_count_104 : decode cX3_count 104 = .ok (.ireturn, 1) := by decide +kernel
theorem dX3_count_105 : decode cX3_count 105 = .ok (.aload_n 0, 1) := by decide +kernel
theorem dX3_count_106 : decode cX3_count 106 = .ok (.invokevirtual 106, 3) := by decide +kernel
theorem dX3_count_109 : decode cX3_count 109 = .ok (.ifCond .eq 8, 3) := by decide +kernel
theorem dX3_count_112 : decode cX3_count 112 = .ok (.bipush (-4), 2) := by decide +kernel
theorem dX3_count_114 : decode cX3_count 114 = .ok (.goto 18, 3) := by decide +kernel
theorem dX3_count_117 : decode cX3_count 117 = .ok (.aload_n 0, 1) := by decide +kernel
theorem dX3_count_118 : decode cX3_count 118 = .ok (.getfield 7, 3) := by decide +kernel
theorem dX3_count_121 : decode cX3_count 121 = .ok (.iconst 1, 1) := by decide +kernel
theorem dX3_count_122 : decode cX3_count 122 = .ok (.iaload, 1) := by decide +kernel
theorem dX3_count_123 : decode cX3_count 123 = .ok (.aload_n 0, 1) := by decide +kernel
theorem dX3_count_124 : decode cX3_count 124 = .ok (.getfield 7, 3) := by decide +kernel
theorem dX3_count_127 : decode cX3_count 127 = .ok (.iconst 2, 1) := by decide +kernel
theorem dX3_count_128 : decode cX3_count 128 = .ok (.iaload, 1) := by decide +kernel
theorem dX3_count_129 : decode cX3_count 129 = .ok (.iadd, 1) := by decide +kernel
theorem dX3_count_130 : decode cX3_count 130 = .ok (.iconst 1, 1) := by decide +kernel
theorem dX3_count_131 : decode cX3_count 131 = .ok (.isub, 1) := by decide +kernel
theorem dX3_count_132 : decode cX3_count 132 = .ok (.ireturn, 1) := by decide +kernel
theorem dX3_count_133 : decode cX3_count 133 = .ok (.aload_n 0, 1) := by decide +kernel
theorem dX3_count_134 : decode cX3_count 134 = .ok (.invokevirtual 106, 3) := by decide +kernel
theorem dX3_count_137 : decode cX3_count 137 = .ok (.ifCond .eq 8, 3) := by decide +kernel
theorem dX3_count_140 : decode cX3_count 140 = .ok (.bipush (-4), 2) := by decide +kernel
theorem dX3_count_142 : decode cX3_count 142 = .ok (.goto 9, 3) := by decide +kernel
theorem dX3_count_145 : decode cX3_count 145 = .ok (.aload_n 0, 1) := by decide +kernel
theorem dX3_count_146 : decode cX3_count 146 = .ok (.getfield 7, 3) := by decide +kernel
theorem dX3_count_149 : decode cX3_count 149 = .ok (.iconst 3, 1) := by decide +kernel
theorem dX3_count_150 : decode cX3_count 150 = .ok (.iaload, 1) := by decide +kernel
theorem dX3_count_151 : decode cX3_count 151 = .ok (.ireturn, 1) := by decide +kernel
theorem dX3_count_152 : decode cX3_count 152 = .ok (.aload_n 0, 1) := by decide +kernel
theorem dX3_count_153 : decode cX3_count 153 = .ok (.getfield 7, 3) := by decide +kernel
theorem dX3_count_156 : decode cX3_count 156 = .ok (.iconst 4, 1) := by decide +kernel
theorem dX3_count_157 : decode cX3_count 157 = .ok (.iaload, 1) := by decide +kernel
theorem dX3_count_158 : decode cX3_count 158 = .ok (.ireturn, 1) := by decide +kernel
theorem dX3_count_159 : decode cX3_count 159 = .ok (.aload_n 0, 1) := by decide +kernel
theorem dX3_count_160 : decode cX3_count 160 = .ok (.invokevirtual 167, 3) := by decide +kernel
theorem dX3_count_163 : decode cX3_count 163 = .ok (.ireturn, 1) := by decide +kernel
theorem dX3_count_164 : decode cX3_count 164 = .ok (.aload_n 0, 1) := by decide +kernel
theorem dX3_count_165 : decode cX3_count 165 = .ok (.invokevirtual 170, 3) := by decide +kernel
theorem dX3_count_168 : decode cX3_count 168 = .ok (.ireturn, 1) := by decide +kernel
theorem dX3_count_169 : decode cX3_count 169 = .ok (.aload_n 0, 1) := by decide +kernel
theorem dX3_count_170 : decode cX3_count 170 = .ok (.invokevirtual 173, 3) := by decide +kernel
theorem dX3_count_173 : decode cX3_count 173 = .ok (.ireturn, 1) := by decide +kernel
theorem dX3_count_174 : decode cX3_count 174 = .ok (.aload_n 0, 1) := by decide +kernel
theorem dX3_count_175 : decode cX3_count 175 = .ok (.getfield 7, 3) := by decide +kernel
theorem dX3_count_178 : decode cX3_count 178 = .ok (.iconst 5, 1) := by decide +kernel
theorem dX3_count_179 : decode cX3_count 179 = .ok (.iload_n 1, 1) := by decide +kernel
theorem dX3_count_180 : decode cX3_count 180 = .ok (.iadd, 1) := by decide +kernel
theorem dX3_count_181 : decode cX3_count 181 = .ok (.bipush 9, 2) := by decide +kernel
theorem dX3_count_183 : decode cX3_count 183 = .ok (.isub, 1) := by decide +kernel
theorem dX3_count_184 : decode cX3_count 184 = .ok (.iaload, 1) := by decide +kernel
theorem dX3_count_185 : decode cX3_count 185 = .ok (.ireturn, 1) := by decide +kernel
theorem dX3_count_186 : decode cX3_count 186 = .ok (.aload_n 0, 1) := by decide +kernel
theorem dX3_count_187 : decode cX3_count 187 = .ok (.getfield 116, 3) := by decide +kernel
theorem dX3_count_190 : decode cX3_count 190 = .ok (.ireturn, 1) := by decide +kernel
theorem dX3_count_191 : decode cX3_count 191 = .ok (.aload_n 0, 1) := by decide +kernel
theorem dX3_count_192 : decode cX3_count 192 = .ok (.getfield 31, 3) := by decide +kernel
theorem dX3_count_195 : decode cX3_count 195 = .ok (.ireturn, 1) := by decide +kernel
theorem dX3_count_196 : decode cX3_count 196 = .ok (.iconst (-1), 1) := by decide +kernel
theorem dX3_count_197 : decode cX3_count 197 = .ok (.ireturn, 1) := by decide +kernel
theorem eX3_count_0 {d : Nat} {a0 : Value} {x : Int32} {st : List Value} {hp : qzH} : qzV d 137 0 [a0, .int x] (st) hp = qzV d 137 1 [a0, .int x] (.int x :: st) hp := qv_iload (i := 1) mdc_137 dX3_count_0 rfl rfl rfl
theorem eX3_count_1_0 {d : Nat} {a0 a1 : Value} {st : List Value} {hp : qzH} : qzV d 137 1 [a0, a1] (.int 0 :: st) hp = qzV d 137 72 [a0, a1] (st) hp := qv_tsw mdc_137 dX3_count_1 (by decide)
theorem eX3_count_1_1 {d : Nat} {a0 a1 : Value} {st : List Value} {hp : qzH} : qzV d 137 1 [a0, a1] (.int 1 :: st) hp = qzV d 137 79 [a0, a1] (st) hp := qv_tsw mdc_137 dX3_count_1 (by decide)
theorem eX3_count_1_2 {d : Nat} {a0 a1 : Value} {st : List Value} {hp : qzH} : qzV d 137 1 [a0, a1] (.int 2 :: st) hp = qzV d 137 86 [a0, a1] (st) hp := qv_tsw mdc_137 dX3_count_1 (by decide)
theorem eX3_count_1_3 {d : Nat} {a0 a1 : Value} {st : List Value} {hp : qzH} : qzV d 137 1 [a0, a1] (.int 3 :: st) hp = qzV d 137 105 [a0, a1] (st) hp := qv_tsw mdc_137 dX3_count_1 (by decide)
theorem eX3_count_1_4 {d : Nat} {a0 a1 : Value} {st : List Value} {hp : qzH} : qzV d 137 1 [a0, a1] (.int 4 :: st) hp = qzV d 137 133 [a0, a1] (st) hp := qv_tsw mdc_137 dX3_count_1 (by decide)
theorem eX3_count_1_5 {d : Nat} {a0 a1 : Value} {st : List Value} {hp : qzH} : qzV d 137 1 [a0, a1] (.int 5 :: st) hp = qzV d 137 152 [a0, a1] (st) hp := qv_tsw mdc_137 dX3_count_1 (by decide)
theorem eX3_count_1_6 {d : Nat} {a0 a1 : Value} {st : List Value} {hp : qzH} : qzV d 137 1 [a0, a1] (.int 6 :: st) hp = qzV d 137 159 [a0, a1] (st) hp := qv_tsw mdc_137 dX3_count_1 (by decide)
theorem eX3_count_1_7 {d : Nat} {a0 a1 : Value} {st : List Value} {hp : qzH} : qzV d 137 1 [a0, a1] (.int 7 :: st) hp = qzV d 137 164 [a0, a1] (st) hp := qv_tsw mdc_137 dX3_count_1 (by decide)
theorem eX3_count_1_8 {d : Nat} {a0 a1 : Value} {st : List Value} {hp : qzH} : qzV d 137 1 [a0, a1] (.int 8 :: st) hp = qzV d 137 169 [a0, a1] (st) hp := qv_tsw mdc_137 dX3_count_1 (by decide)
theorem eX3_count_1_9 {d : Nat} {a0 a1 : Value} {st : List Value} {hp : qzH} : qzV d 137 1 [a0, a1] (.int 9 :: st) hp = qzV d 137 174 [a0, a1] (st) hp := qv_tsw mdc_137 dX3_count_1 (by decide)
theorem eX3_count_1_10 {d : Nat} {a0 a1 : Value} {st : List Value} {hp : qzH} : qzV d 137 1 [a0, a1] (.int 10 :: st) hp = qzV d 137 174 [a0, a1] (st) hp := qv_tsw mdc_137 dX3_count_1 (by decide)
theorem eX3_count_1_11 {d : Nat} {a0 a1 : Value} {st : List Value} {hp : qzH} : qzV d 137 1 [a0, a1] (.int 11 :: st) hp = qzV d 137 174 [a0, a1] (st) hp := qv_tsw mdc_137 dX3_count_1 (by decide)
theorem eX3_count_1_12 {d : Nat} {a0 a1 : Value} {st : List Value} {hp : qzH} : qzV d 137 1 [a0, a1] (.int 12 :: st) hp = qzV d 137 186 [a0, a1] (st) hp := qv_tsw mdc_137 dX3_count_1 (by decide)
theorem eX3_count_1_13 {d : Nat} {a0 a1 : Value} {st : List Value} {hp : qzH} : qzV d 137 1 [a0, a1] (.int 13 :: st) hp = qzV d 137 191 [a0, a1] (st) hp := qv_tsw mdc_137 dX3_count_1 (by decide)
theorem eX3_count_1_d {d : Nat} {a0 a1 : Value} {x : Int32} {st : List Value} {hp : qzH} (hx : x.toInt < 0 ∨ 13 < x.toInt) : qzV d 137 1 [a0, a1] (.int x :: st) hp = qzV d 137 196 [a0, a1] (st) hp := qv_tsw mdc_137 dX3_count_1 (by rw [if_pos hx]; rfl)
theorem eX3_count_72 {d : Nat} {a1 : Value} {x : Nat} {st : List Value} {hp : qzH} : qzV d 137 72 [.ref x, a1] (st) hp = qzV d 137 73 [.ref x, a1] (.ref x :: st) hp := qv_aload (i := 0) mdc_137 dX3_count_72 rfl rfl rfl
theorem eX3_count_73 {d : Nat} {a0 a1 : Value} {a : Nat} {st : List Value} {hp : qzH} (ha : qzArr 3 a hp.1 = true) : qzV d 137 73 [a0, a1] (.ref a :: st) hp = qzV d 137 76 [a0, a1] (va_rf (hp.2.1 a 0) :: st) hp := qv_getR mdc_137 dX3_count_73 mdo_137 qff_3_7 ⟨by decide, rfl⟩ rfl ha
theorem eX3_count_76 {d : Nat} {a0 a1 : Value} {st : List Value} {hp : qzH} : qzV d 137 76 [a0, a1] (st) hp = qzV d 137 77 [a0, a1] (.int 0 :: st) hp := qv_iconst mdc_137 dX3_count_76 il_0 rfl
theorem eX3_count_77 {d : Nat} {a0 a1 : Value} {i : Int32} {a : Nat} {st : List Value} {hp : qzH} (ha : qzArr 4 a hp.1 = true) (hi : qzIn i (qzk a).2 = true) : qzV d 137 77 [a0, a1] (.int i :: .ref a :: st) hp = qzV d 137 78 [a0, a1] (.int (hp.2.2 a i.toNatClampNeg) :: st) hp := qv_iald mdc_137 dX3_count_77 rfl ha hi
theorem eX3_count_78 {d : Nat} {a0 a1 : Value} {v : Int32} {hp : qzH} : qzV d 137 78 [a0, a1] [.int v] hp = some (some (.int v), hp) := qv_iret mdc_137 dX3_count_78 mdr_137 rfl
theorem eX3_count_79 {d : Nat} {a1 : Value} {x : Nat} {st : List Value} {hp : qzH} : qzV d 137 79 [.ref x, a1] (st) hp = qzV d 137 80 [.ref x, a1] (.ref x :: st) hp := qv_aload (i := 0) mdc_137 dX3_count_79 rfl rfl rfl
theorem eX3_count_80 {d : Nat} {a0 a1 : Value} {a : Nat} {st : List Value} {hp : qzH} (ha : qzArr 3 a hp.1 = true) : qzV d 137 80 [a0, a1] (.ref a :: st) hp = qzV d 137 83 [a0, a1] (va_rf (hp.2.1 a 0) :: st) hp := qv_getR mdc_137 dX3_count_80 mdo_137 qff_3_7 ⟨by decide, rfl⟩ rfl ha
theorem eX3_count_83 {d : Nat} {a0 a1 : Value} {st : List Value} {hp : qzH} : qzV d 137 83 [a0, a1] (st) hp = qzV d 137 84 [a0, a1] (.int 2 :: st) hp := qv_iconst mdc_137 dX3_count_83 il_2 rfl
theorem eX3_count_84 {d : Nat} {a0 a1 : Value} {i : Int32} {a : Nat} {st : List Value} {hp : qzH} (ha : qzArr 4 a hp.1 = true) (hi : qzIn i (qzk a).2 = true) : qzV d 137 84 [a0, a1] (.int i :: .ref a :: st) hp = qzV d 137 85 [a0, a1] (.int (hp.2.2 a i.toNatClampNeg) :: st) hp := qv_iald mdc_137 dX3_count_84 rfl ha hi
theorem eX3_count_85 {d : Nat} {a0 a1 : Value} {v : Int32} {hp : qzH} : qzV d 137 85 [a0, a1] [.int v] hp = some (some (.int v), hp) := qv_iret mdc_137 dX3_count_85 mdr_137 rfl
theorem eX3_count_86 {d : Nat} {a1 : Value} {x : Nat} {st : List Value} {hp : qzH} : qzV d 137 86 [.ref x, a1] (st) hp = qzV d 137 87 [.ref x, a1] (.ref x :: st) hp := qv_aload (i := 0) mdc_137 dX3_count_86 rfl rfl rfl
theorem eX3_count_87 {d : Nat} {a0 a1 : Value} {b : Nat} {st : List Value} {hp : qzH} (h8 : st.length ≤ 8) (hb : qzArr 3 b hp.1 = true) : qzV (d + 1) 137 87 [a0, a1] (.ref b :: st) hp = (qzC d 93 (.ref b :: []) hp).bind (fun r => qzV (d + 1) 137 90 [a0, a1] (r.1.toList ++ st) r.2) := qv_callv (n := 0) mdc_137 dX3_count_87 mdo_137 (by decide) qfc_3_106 ⟨rfl, by decide, rfl⟩ rfl ⟨rfl, rfl, by simp only [List.length_cons]; omega⟩ h8 hb
theorem eX3_count_90 {d : Nat} {a0 a1 : Value} {x : Int32} {st : List Value} {hp : qzH} : qzV d 137 90 [a0, a1] (.int x :: st) hp = if x = 0 then qzV d 137 98 [a0, a1] (st) hp else qzV d 137 93 [a0, a1] (st) hp := qv_if1 mdc_137 dX3_count_90 rfl rfl rfl
theorem eX3_count_93 {d : Nat} {a0 a1 : Value} {st : List Value} {hp : qzH} : qzV d 137 93 [a0, a1] (st) hp = qzV d 137 95 [a0, a1] (.int (-4) :: st) hp := qv_bipush mdc_137 dX3_count_93 ib_m4 rfl
theorem eX3_count_95 {d : Nat} {a0 a1 : Value} {st : List Value} {hp : qzH} : qzV d 137 95 [a0, a1] (st) hp = qzV d 137 104 [a0, a1] (st) hp := qv_goto mdc_137 dX3_count_95 rfl
theorem eX3_count_98 {d : Nat} {a1 : Value} {x : Nat} {st : List Value} {hp : qzH} : qzV d 137 98 [.ref x, a1] (st) hp = qzV d 137 99 [.ref x, a1] (.ref x :: st) hp := qv_aload (i := 0) mdc_137 dX3_count_98 rfl rfl rfl
theorem eX3_count_99 {d : Nat} {a0 a1 : Value} {a : Nat} {st : List Value} {hp : qzH} (ha : qzArr 3 a hp.1 = true) : qzV d 137 99 [a0, a1] (.ref a :: st) hp = qzV d 137 102 [a0, a1] (va_rf (hp.2.1 a 0) :: st) hp := qv_getR mdc_137 dX3_count_99 mdo_137 qff_3_7 ⟨by decide, rfl⟩ rfl ha
theorem eX3_count_102 {d : Nat} {a0 a1 : Value} {st : List Value} {hp : qzH} : qzV d 137 102 [a0, a1] (st) hp = qzV d 137 103 [a0, a1] (.int 1 :: st) hp := qv_iconst mdc_137 dX3_count_102 il_1 rfl
theorem eX3_count_103 {d : Nat} {a0 a1 : Value} {i : Int32} {a : Nat} {st : List Value} {hp : qzH} (ha : qzArr 4 a hp.1 = true) (hi : qzIn i (qzk a).2 = true) : qzV d 137 103 [a0, a1] (.int i :: .ref a :: st) hp = qzV d 137 104 [a0, a1] (.int (hp.2.2 a i.toNatClampNeg) :: st) hp := qv_iald mdc_137 dX3_count_103 rfl ha hi
theorem eX3_count_104 {d : Nat} {a0 a1 : Value} {v : Int32} {hp : qzH} : qzV d 137 104 [a0, a1] [.int v] hp = some (some (.int v), hp) := qv_iret mdc_137 dX3_count_104 mdr_137 rfl
theorem eX3_count_105 {d : Nat} {a1 : Value} {x : Nat} {st : List Value} {hp : qzH} : qzV d 137 105 [.ref x, a1] (st) hp = qzV d 137 106 [.ref x, a1] (.ref x :: st) hp := qv_aload (i := 0) mdc_137 dX3_count_105 rfl rfl rfl
theorem eX3_count_106 {d : Nat} {a0 a1 : Value} {b : Nat} {st : List Value} {hp : qzH} (h8 : st.length ≤ 8) (hb : qzArr 3 b hp.1 = true) : qzV (d + 1) 137 106 [a0, a1] (.ref b :: st) hp = (qzC d 93 (.ref b :: []) hp).bind (fun r => qzV (d + 1) 137 109 [a0, a1] (r.1.toList ++ st) r.2) := qv_callv (n := 0) mdc_137 dX3_count_106 mdo_137 (by decide) qfc_3_106 ⟨rfl, by decide, rfl⟩ rfl ⟨rfl, rfl, by simp only [List.length_cons]; omega⟩ h8 hb
theorem eX3_count_109 {d : Nat} {a0 a1 : Value} {x : Int32} {st : List Value} {hp : qzH} : qzV d 137 109 [a0, a1] (.int x :: st) hp = if x = 0 then qzV d 137 117 [a0, a1] (st) hp else qzV d 137 112 [a0, a1] (st) hp := qv_if1 mdc_137 dX3_count_109 rfl rfl rfl
theorem eX3_count_112 {d : Nat} {a0 a1 : Value} {st : List Value} {hp : qzH} : qzV d 137 112 [a0, a1] (st) hp = qzV d 137 114 [a0, a1] (.int (-4) :: st) hp := qv_bipush mdc_137 dX3_count_112 ib_m4 rfl
theorem eX3_count_114 {d : Nat} {a0 a1 : Value} {st : List Value} {hp : qzH} : qzV d 137 114 [a0, a1] (st) hp = qzV d 137 132 [a0, a1] (st) hp := qv_goto mdc_137 dX3_count_114 rfl
theorem eX3_count_117 {d : Nat} {a1 : Value} {x : Nat} {st : List Value} {hp : qzH} : qzV d 137 117 [.ref x, a1] (st) hp = qzV d 137 118 [.ref x, a1] (.ref x :: st) hp := qv_aload (i := 0) mdc_137 dX3_count_117 rfl rfl rfl
theorem eX3_count_118 {d : Nat} {a0 a1 : Value} {a : Nat} {st : List Value} {hp : qzH} (ha : qzArr 3 a hp.1 = true) : qzV d 137 118 [a0, a1] (.ref a :: st) hp = qzV d 137 121 [a0, a1] (va_rf (hp.2.1 a 0) :: st) hp := qv_getR mdc_137 dX3_count_118 mdo_137 qff_3_7 ⟨by decide, rfl⟩ rfl ha
theorem eX3_count_121 {d : Nat} {a0 a1 : Value} {st : List Value} {hp : qzH} : qzV d 137 121 [a0, a1] (st) hp = qzV d 137 122 [a0, a1] (.int 1 :: st) hp := qv_iconst mdc_137 dX3_count_121 il_1 rfl
theorem eX3_count_122 {d : Nat} {a0 a1 : Value} {i : Int32} {a : Nat} {st : List Value} {hp : qzH} (ha : qzArr 4 a hp.1 = true) (hi : qzIn i (qzk a).2 = true) : qzV d 137 122 [a0, a1] (.int i :: .ref a :: st) hp = qzV d 137 123 [a0, a1] (.int (hp.2.2 a i.toNatClampNeg) :: st) hp := qv_iald mdc_137 dX3_count_122 rfl ha hi
theorem eX3_count_123 {d : Nat} {a1 : Value} {x : Nat} {st : List Value} {hp : qzH} : qzV d 137 123 [.ref x, a1] (st) hp = qzV d 137 124 [.ref x, a1] (.ref x :: st) hp := qv_aload (i := 0) mdc_137 dX3_count_123 rfl rfl rfl
theorem eX3_count_124 {d : Nat} {a0 a1 : Value} {a : Nat} {st : List Value} {hp : qzH} (ha : qzArr 3 a hp.1 = true) : qzV d 137 124 [a0, a1] (.ref a :: st) hp = qzV d 137 127 [a0, a1] (va_rf (hp.2.1 a 0) :: st) hp := qv_getR mdc_137 dX3_count_124 mdo_137 qff_3_7 ⟨by decide, rfl⟩ rfl ha
theorem eX3_count_127 {d : Nat} {a0 a1 : Value} {st : List Value} {hp : qzH} : qzV d 137 127 [a0, a1] (st) hp = qzV d 137 128 [a0, a1] (.int 2 :: st) hp := qv_iconst mdc_137 dX3_count_127 il_2 rfl
theorem eX3_count_128 {d : Nat} {a0 a1 : Value} {i : Int32} {a : Nat} {st : List Value} {hp : qzH} (ha : qzArr 4 a hp.1 = true) (hi : qzIn i (qzk a).2 = true) : qzV d 137 128 [a0, a1] (.int i :: .ref a :: st) hp = qzV d 137 129 [a0, a1] (.int (hp.2.2 a i.toNatClampNeg) :: st) hp := qv_iald mdc_137 dX3_count_128 rfl ha hi
theorem eX3_count_129 {d : Nat} {a0 a1 : Value} {x y : Int32} {st : List Value} {hp : qzH} : qzV d 137 129 [a0, a1] (.int y :: .int x :: st) hp = qzV d 137 130 [a0, a1] (.int (x + y) :: st) hp := qv_bin (f := fun x y => x + y) mdc_137 dX3_count_129 rfl rfl
theorem eX3_count_130 {d : Nat} {a0 a1 : Value} {st : List Value} {hp : qzH} : qzV d 137 130 [a0, a1] (st) hp = qzV d 137 131 [a0, a1] (.int 1 :: st) hp := qv_iconst mdc_137 dX3_count_130 il_1 rfl
theorem eX3_count_131 {d : Nat} {a0 a1 : Value} {x y : Int32} {st : List Value} {hp : qzH} : qzV d 137 131 [a0, a1] (.int y :: .int x :: st) hp = qzV d 137 132 [a0, a1] (.int (x - y) :: st) hp := qv_bin (f := fun x y => x - y) mdc_137 dX3_count_131 rfl rfl
theorem eX3_count_132 {d : Nat} {a0 a1 : Value} {v : Int32} {hp : qzH} : qzV d 137 132 [a0, a1] [.int v] hp = some (some (.int v), hp) := qv_iret mdc_137 dX3_count_132 mdr_137 rfl
theorem eX3_count_133 {d : Nat} {a1 : Value} {x : Nat} {st : List Value} {hp : qzH} : qzV d 137 133 [.ref x, a1] (st) hp = qzV d 137 134 [.ref x, a1] (.ref x :: st) hp := qv_aload (i := 0) mdc_137 dX3_count_133 rfl rfl rfl
theorem eX3_count_134 {d : Nat} {a0 a1 : Value} {b : Nat} {st : List Value} {hp : qzH} (h8 : st.length ≤ 8) (hb : qzArr 3 b hp.1 = true) : qzV (d + 1) 137 134 [a0, a1] (.ref b :: st) hp = (qzC d 93 (.ref b :: []) hp).bind (fun r => qzV (d + 1) 137 137 [a0, a1] (r.1.toList ++ st) r.2) := qv_callv (n := 0) mdc_137 dX3_count_134 mdo_137 (by decide) qfc_3_106 ⟨rfl, by decide, rfl⟩ rfl ⟨rfl, rfl, by simp only [List.length_cons]; omega⟩ h8 hb
theorem eX3_count_137 {d : Nat} {a0 a1 : Value} {x : Int32} {st : List Value} {hp : qzH} : qzV d 137 137 [a0, a1] (.int x :: st) hp = if x = 0 then qzV d 137 145 [a0, a1] (st) hp else qzV d 137 140 [a0, a1] (st) hp := qv_if1 mdc_137 dX3_count_137 rfl rfl rfl
theorem eX3_count_140 {d : Nat} {a0 a1 : Value} {st : List Value} {hp : qzH} : qzV d 137 140 [a0, a1] (st) hp = qzV d 137 142 [a0, a1] (.int (-4) :: st) hp := qv_bipush mdc_137 dX3_count_140 ib_m4 rfl
theorem eX3_count_142 {d : Nat} {a0 a1 : Value} {st : List Value} {hp : qzH} : qzV d 137 142 [a0, a1] (st) hp = qzV d 137 151 [a0, a1] (st) hp := qv_goto mdc_137 dX3_count_142 rfl
theorem eX3_count_145 {d : Nat} {a1 : Value} {x : Nat} {st : List Value} {hp : qzH} : qzV d 137 145 [.ref x, a1] (st) hp = qzV d 137 146 [.ref x, a1] (.ref x :: st) hp := qv_aload (i := 0) mdc_137 dX3_count_145 rfl rfl rfl
theorem eX3_count_146 {d : Nat} {a0 a1 : Value} {a : Nat} {st : List Value} {hp : qzH} (ha : qzArr 3 a hp.1 = true) : qzV d 137 146 [a0, a1] (.ref a :: st) hp = qzV d 137 149 [a0, a1] (va_rf (hp.2.1 a 0) :: st) hp := qv_getR mdc_137 dX3_count_146 mdo_137 qff_3_7 ⟨by decide, rfl⟩ rfl ha
theorem eX3_count_149 {d : Nat} {a0 a1 : Value} {st : List Value} {hp : qzH} : qzV d 137 149 [a0, a1] (st) hp = qzV d 137 150 [a0, a1] (.int 3 :: st) hp := qv_iconst mdc_137 dX3_count_149 il_3 rfl
theorem eX3_count_150 {d : Nat} {a0 a1 : Value} {i : Int32} {a : Nat} {st : List Value} {hp : qzH} (ha : qzArr 4 a hp.1 = true) (hi : qzIn i (qzk a).2 = true) : qzV d 137 150 [a0, a1] (.int i :: .ref a :: st) hp = qzV d 137 151 [a0, a1] (.int (hp.2.2 a i.toNatClampNeg) :: st) hp := qv_iald mdc_137 dX3_count_150 rfl ha hi
theorem eX3_count_151 {d : Nat} {a0 a1 : Value} {v : Int32} {hp : qzH} : qzV d 137 151 [a0, a1] [.int v] hp = some (some (.int v), hp) := qv_iret mdc_137 dX3_count_151 mdr_137 rfl
theorem eX3_count_152 {d : Nat} {a1 : Value} {x : Nat} {st : List Value} {hp : qzH} : qzV d 137 152 [.ref x, a1] (st) hp = qzV d 137 153 [.ref x, a1] (.ref x :: st) hp := qv_aload (i := 0) mdc_137 dX3_count_152 rfl rfl rfl
theorem eX3_count_153 {d : Nat} {a0 a1 : Value} {a : Nat} {st : List Value} {hp : qzH} (ha : qzArr 3 a hp.1 = true) : qzV d 137 153 [a0, a1] (.ref a :: st) hp = qzV d 137 156 [a0, a1] (va_rf (hp.2.1 a 0) :: st) hp := qv_getR mdc_137 dX3_count_153 mdo_137 qff_3_7 ⟨by decide, rfl⟩ rfl ha
theorem eX3_count_156 {d : Nat} {a0 a1 : Value} {st : List Value} {hp : qzH} : qzV d 137 156 [a0, a1] (st) hp = qzV d 137 157 [a0, a1] (.int 4 :: st) hp := qv_iconst mdc_137 dX3_count_156 il_4 rfl
theorem eX3_count_157 {d : Nat} {a0 a1 : Value} {i : Int32} {a : Nat} {st : List Value} {hp : qzH} (ha : qzArr 4 a hp.1 = true) (hi : qzIn i (qzk a).2 = true) : qzV d 137 157 [a0, a1] (.int i :: .ref a :: st) hp = qzV d 137 158 [a0, a1] (.int (hp.2.2 a i.toNatClampNeg) :: st) hp := qv_iald mdc_137 dX3_count_157 rfl ha hi
theorem eX3_count_158 {d : Nat} {a0 a1 : Value} {v : Int32} {hp : qzH} : qzV d 137 158 [a0, a1] [.int v] hp = some (some (.int v), hp) := qv_iret mdc_137 dX3_count_158 mdr_137 rfl
theorem eX3_count_159 {d : Nat} {a1 : Value} {x : Nat} {st : List Value} {hp : qzH} : qzV d 137 159 [.ref x, a1] (st) hp = qzV d 137 160 [.ref x, a1] (.ref x :: st) hp := qv_aload (i := 0) mdc_137 dX3_count_159 rfl rfl rfl
theorem eX3_count_160 {d : Nat} {a0 a1 : Value} {b : Nat} {st : List Value} {hp : qzH} (h8 : st.length ≤ 8) (hb : qzArr 3 b hp.1 = true) : qzV (d + 1) 137 160 [a0, a1] (.ref b :: st) hp = (qzC d 133 (.ref b :: []) hp).bind (fun r => qzV (d + 1) 137 163 [a0, a1] (r.1.toList ++ st) r.2) := qv_callv (n := 0) mdc_137 dX3_count_160 mdo_137 (by decide) qfc_3_167 ⟨rfl, by decide, rfl⟩ rfl ⟨rfl, rfl, by simp only [List.length_cons]; omega⟩ h8 hb
theorem eX3_count_163 {d : Nat} {a0 a1 : Value} {v : Int32} {hp : qzH} : qzV d 137 163 [a0, a1] [.int v] hp = some (some (.int v), hp) := qv_iret mdc_137 dX3_count_163 mdr_137 rfl
theorem eX3_count_164 {d : Nat} {a1 : Value} {x : Nat} {st : List Value} {hp : qzH} : qzV d 137 164 [.ref x, a1] (st) hp = qzV d 137 165 [.ref x, a1] (.ref x :: st) hp := qv_aload (i := 0) mdc_137 dX3_count_164 rfl rfl rfl
theorem eX3_count_165 {d : Nat} {a0 a1 : Value} {b : Nat} {st : List Value} {hp : qzH} (h8 : st.length ≤ 8) (hb : qzArr 3 b hp.1 = true) : qzV (d + 1) 137 165 [a0, a1] (.ref b :: st) hp = (qzC d 135 (.ref b :: []) hp).bind (fun r => qzV (d + 1) 137 168 [a0, a1] (r.1.toList ++ st) r.2) := qv_callv (n := 0) mdc_137 dX3_count_165 mdo_137 (by decide) qfc_3_170 ⟨rfl, by decide, rfl⟩ rfl ⟨rfl, rfl, by simp only [List.length_cons]; omega⟩ h8 hb
theorem eX3_count_168 {d : Nat} {a0 a1 : Value} {v : Int32} {hp : qzH} : qzV d 137 168 [a0, a1] [.int v] hp = some (some (.int v), hp) := qv_iret mdc_137 dX3_count_168 mdr_137 rfl
theorem eX3_count_169 {d : Nat} {a1 : Value} {x : Nat} {st : List Value} {hp : qzH} : qzV d 137 169 [.ref x, a1] (st) hp = qzV d 137 170 [.ref x, a1] (.ref x :: st) hp := qv_aload (i := 0) mdc_137 dX3_count_169 rfl rfl rfl
theorem eX3_count_170 {d : Nat} {a0 a1 : Value} {b : Nat} {st : List Value} {hp : qzH} (h8 : st.length ≤ 8) (hb : qzArr 3 b hp.1 = true) : qzV (d + 1) 137 170 [a0, a1] (.ref b :: st) hp = (qzC d 136 (.ref b :: []) hp).bind (fun r => qzV (d + 1) 137 173 [a0, a1] (r.1.toList ++ st) r.2) := qv_callv (n := 0) mdc_137 dX3_count_170 mdo_137 (by decide) qfc_3_173 ⟨rfl, by decide, rfl⟩ rfl ⟨rfl, rfl, by simp only [List.length_cons]; omega⟩ h8 hb
theorem eX3_count_173 {d : Nat} {a0 a1 : Value} {v : Int32} {hp : qzH} : qzV d 137 173 [a0, a1] [.int v] hp = some (some (.int v), hp) := qv_iret mdc_137 dX3_count_173 mdr_137 rfl
theorem eX3_count_174 {d : Nat} {a1 : Value} {x : Nat} {st : List Value} {hp : qzH} : qzV d 137 174 [.ref x, a1] (st) hp = qzV d 137 175 [.ref x, a1] (.ref x :: st) hp := qv_aload (i := 0) mdc_137 dX3_count_174 rfl rfl rfl
theorem eX3_count_175 {d : Nat} {a0 a1 : Value} {a : Nat} {st : List Value} {hp : qzH} (ha : qzArr 3 a hp.1 = true) : qzV d 137 175 [a0, a1] (.ref a :: st) hp = qzV d 137 178 [a0, a1] (va_rf (hp.2.1 a 0) :: st) hp := qv_getR mdc_137 dX3_count_175 mdo_137 qff_3_7 ⟨by decide, rfl⟩ rfl ha
theorem eX3_count_178 {d : Nat} {a0 a1 : Value} {st : List Value} {hp : qzH} : qzV d 137 178 [a0, a1] (st) hp = qzV d 137 179 [a0, a1] (.int 5 :: st) hp := qv_iconst mdc_137 dX3_count_178 il_5 rfl
theorem eX3_count_179 {d : Nat} {a0 : Value} {x : Int32} {st : List Value} {hp : qzH} : qzV d 137 179 [a0, .int x] (st) hp = qzV d 137 180 [a0, .int x] (.int x :: st) hp := qv_iload (i := 1) mdc_137 dX3_count_179 rfl rfl rfl
theorem eX3_count_180 {d : Nat} {a0 a1 : Value} {x y : Int32} {st : List Value} {hp : qzH} : qzV d 137 180 [a0, a1] (.int y :: .int x :: st) hp = qzV d 137 181 [a0, a1] (.int (x + y) :: st) hp := qv_bin (f := fun x y => x + y) mdc_137 dX3_count_180 rfl rfl
theorem eX3_count_181 {d : Nat} {a0 a1 : Value} {st : List Value} {hp : qzH} : qzV d 137 181 [a0, a1] (st) hp = qzV d 137 183 [a0, a1] (.int 9 :: st) hp := qv_bipush mdc_137 dX3_count_181 ib_9 rfl
theorem eX3_count_183 {d : Nat} {a0 a1 : Value} {x y : Int32} {st : List Value} {hp : qzH} : qzV d 137 183 [a0, a1] (.int y :: .int x :: st) hp = qzV d 137 184 [a0, a1] (.int (x - y) :: st) hp := qv_bin (f := fun x y => x - y) mdc_137 dX3_count_183 rfl rfl
theorem eX3_count_184 {d : Nat} {a0 a1 : Value} {i : Int32} {a : Nat} {st : List Value} {hp : qzH} (ha : qzArr 4 a hp.1 = true) (hi : qzIn i (qzk a).2 = true) : qzV d 137 184 [a0, a1] (.int i :: .ref a :: st) hp = qzV d 137 185 [a0, a1] (.int (hp.2.2 a i.toNatClampNeg) :: st) hp := qv_iald mdc_137 dX3_count_184 rfl ha hi
theorem eX3_count_185 {d : Nat} {a0 a1 : Value} {v : Int32} {hp : qzH} : qzV d 137 185 [a0, a1] [.int v] hp = some (some (.int v), hp) := qv_iret mdc_137 dX3_count_185 mdr_137 rfl
theorem eX3_count_186 {d : Nat} {a1 : Value} {x : Nat} {st : List Value} {hp : qzH} : qzV d 137 186 [.ref x, a1] (st) hp = qzV d 137 187 [.ref x, a1] (.ref x :: st) hp := qv_aload (i := 0) mdc_137 dX3_count_186 rfl rfl rfl
theorem eX3_count_187 {d : Nat} {a0 a1 : Value} {a : Nat} {st : List Value} {hp : qzH} (ha : qzArr 3 a hp.1 = true) : qzV d 137 187 [a0, a1] (.ref a :: st) hp = qzV d 137 190 [a0, a1] (.int (hp.2.2 a 7) :: st) hp := qv_getI mdc_137 dX3_count_187 mdo_137 qff_3_116 ⟨by decide, rfl⟩ rfl ha
theorem eX3_count_190 {d : Nat} {a0 a1 : Value} {v : Int32} {hp : qzH} : qzV d 137 190 [a0, a1] [.int v] hp = some (some (.int v), hp) := qv_iret mdc_137 dX3_count_190 mdr_137 rfl
theorem eX3_count_191 {d : Nat} {a1 : Value} {x : Nat} {st : List Value} {hp : qzH} : qzV d 137 191 [.ref x, a1] (st) hp = qzV d 137 192 [.ref x, a1] (.ref x :: st) hp := qv_aload (i := 0) mdc_137 dX3_count_191 rfl rfl rfl
theorem eX3_count_192 {d : Nat} {a0 a1 : Value} {a : Nat} {st : List Value} {hp : qzH} (ha : qzArr 3 a hp.1 = true) : qzV d 137 192 [a0, a1] (.ref a :: st) hp = qzV d 137 195 [a0, a1] (.int (hp.2.2 a 3) :: st) hp := qv_getI mdc_137 dX3_count_192 mdo_137 qff_3_31 ⟨by decide, rfl⟩ rfl ha
theorem eX3_count_195 {d : Nat} {a0 a1 : Value} {v : Int32} {hp : qzH} : qzV d 137 195 [a0, a1] [.int v] hp = some (some (.int v), hp) := qv_iret mdc_137 dX3_count_195 mdr_137 rfl
theorem eX3_count_196 {d : Nat} {a0 a1 : Value} {st : List Value} {hp : qzH} : qzV d 137 196 [a0, a1] (st) hp = qzV d 137 197 [a0, a1] (.int (-1) :: st) hp := qv_iconst mdc_137 dX3_count_196 il_m1 rfl
theorem eX3_count_197 {d : Nat} {a0 a1 : Value} {v : Int32} {hp : qzH} : qzV d 137 197 [a0, a1] [.int v] hp = some (some (.int v), hp) := qv_iret mdc_137 dX3_count_197 mdr_137 rfl
theorem dX3_left_0 : decode cX3_left 0 = .ok (.iload_n 1, 1) := by decide +kernel
theorem dX3_left_1 : decode cX3_left 1 = .ok (.iconst 0, 1) := by decide +kernel
theorem dX3_left_2 : decode cX3_left 2 = .ok (.iconst 5, 1) := by decide +kernel
theorem dX3_left_3 : decode cX3_left 3 = .ok (.invokestatic 62, 3) := by decide +kernel
theorem dX3_left_6 : decode cX3_left 6 = .ok (.ifCond .eq 11, 3) := by decide +kernel
theorem dX3_left_9 : decode cX3_left 9 = .ok (.aload_n 0, 1) := by decide +kernel
theorem dX3_left_10 : decode cX3_left 10 = .ok (.iload_n 1, 1) := by decide +kernel
theorem dX3_left_11 : decode cX3_left 11 = .ok (.invokevirtual 164, 3) := by decide +kernel
theorem dX3_left_14 : decode cX3_left 14 = .ok (.goto 4, 3) := by decide +kernel
theorem dX3_left_17 : decode cX3_left 17 = .ok (.iconst (-1), 1) := by decide +kernel
theorem dX3_left_18 : decode cX3_left 18 = .ok (.ireturn, 1) := by decide +kernel
theorem eX3_left_0 {d : Nat} {a0 : Value} {x : Int32} {st : List Value} {hp : qzH} : qzV d 138 0 [a0, .int x] (st) hp = qzV d 138 1 [a0, .int x] (.int x :: st) hp := qv_iload (i := 1) mdc_138 dX3_left_0 rfl rfl rfl
theorem eX3_left_1 {d : Nat} {a0 a1 : Value} {st : List Value} {hp : qzH} : qzV d 138 1 [a0, a1] (st) hp = qzV d 138 2 [a0, a1] (.int 0 :: st) hp := qv_iconst mdc_138 dX3_left_1 il_0 rfl
theorem eX3_left_2 {d : Nat} {a0 a1 : Value} {st : List Value} {hp : qzH} : qzV d 138 2 [a0, a1] (st) hp = qzV d 138 3 [a0, a1] (.int 5 :: st) hp := qv_iconst mdc_138 dX3_left_2 il_5 rfl
theorem eX3_left_3 {d : Nat} {a0 a1 : Value} {w0 w1 w2 : Value} {st : List Value} {hp : qzH} (h8 : st.length ≤ 8) : qzV (d + 1) 138 3 [a0, a1] (w2 :: w1 :: w0 :: st) hp = (qzC d 87 [w0, w1, w2] hp).bind (fun r => qzV (d + 1) 138 6 [a0, a1] (r.1.toList ++ st) r.2) := qv_calls (n := 3) mdc_138 dX3_left_3 mdo_138 (by decide) qfc_3_62 ⟨rfl, by decide, rfl⟩ rfl ⟨rfl, rfl, by simp only [List.length_cons]; omega⟩ h8
theorem eX3_left_6 {d : Nat} {a0 a1 : Value} {x : Int32} {st : List Value} {hp : qzH} : qzV d 138 6 [a0, a1] (.int x :: st) hp = if x = 0 then qzV d 138 17 [a0, a1] (st) hp else qzV d 138 9 [a0, a1] (st) hp := qv_if1 mdc_138 dX3_left_6 rfl rfl rfl
theorem eX3_left_9 {d : Nat} {a1 : Value} {x : Nat} {st : List Value} {hp : qzH} : qzV d 138 9 [.ref x, a1] (st) hp = qzV d 138 10 [.ref x, a1] (.ref x :: st) hp := qv_aload (i := 0) mdc_138 dX3_left_9 rfl rfl rfl
theorem eX3_left_10 {d : Nat} {a0 : Value} {x : Int32} {st : List Value} {hp : qzH} : qzV d 138 10 [a0, .int x] (st) hp = qzV d 138 11 [a0, .int x] (.int x :: st) hp := qv_iload (i := 1) mdc_138 dX3_left_10 rfl rfl rfl
theorem eX3_left_11 {d : Nat} {a0 a1 : Value} {w0 : Value} {b : Nat} {st : List Value} {hp : qzH} (h8 : st.length ≤ 8) (hb : qzArr 3 b hp.1 = true) : qzV (d + 1) 138 11 [a0, a1] (w0 :: .ref b :: st) hp = (qzC d 134 (.ref b :: [w0]) hp).bind (fun r => qzV (d + 1) 138 14 [a0, a1] (r.1.toList ++ st) r.2) := qv_callv (n := 1) mdc_138 dX3_left_11 mdo_138 (by decide) qfc_3_164 ⟨rfl, by decide, rfl⟩ rfl ⟨rfl, rfl, by simp only [List.length_cons]; omega⟩ h8 hb
theorem eX3_left_14 {d : Nat} {a0 a1 : Value} {st : List Value} {hp : qzH} : qzV d 138 14 [a0, a1] (st) hp = qzV d 138 18 [a0, a1] (st) hp := qv_goto mdc_138 dX3_left_14 rfl
theorem eX3_left_17 {d : Nat} {a0 a1 : Value} {st : List Value} {hp : qzH} : qzV d 138 17 [a0, a1] (st) hp = qzV d 138 18 [a0, a1] (.int (-1) :: st) hp := qv_iconst mdc_138 dX3_left_17 il_m1 rfl
theorem eX3_left_18 {d : Nat} {a0 a1 : Value} {v : Int32} {hp : qzH} : qzV d 138 18 [a0, a1] [.int v] hp = some (some (.int v), hp) := qv_iret mdc_138 dX3_left_18 mdr_138 rfl
theorem dX3_worth_0 : decode cX3_worth 0 = .ok (.aload_n 0, 1) := by decide +kernel
theorem dX3_worth_1 : decode cX3_worth 1 = .ok (.iload_n 1, 1) := by decide +kernel
theorem dX3_worth_2 : decode cX3_worth 2 = .ok (.invokevirtual 100, 3) := by decide +kernel
theorem dX3_worth_5 : decode cX3_worth 5 = .ok (.istore_n 3, 1) := by decide +kernel
theorem dX3_worth_6 : decode cX3_worth 6 = .ok (.iload_n 3, 1) := by decide +kernel
theorem dX3_worth_7 : decode cX3_worth 7 = .ok (.ifCond .ge 7, 3) := by decide +kernel
theorem dX3_worth_10 : decode cX3_worth 10 = .ok (.iload_n 3, 1) := by decide +kernel
theorem dX3_worth_11 : decode cX3_worth 11 = .ok (.goto 29, 3) := by decide +kernel
theorem dX3_worth_14 : decode cX3_worth 14 = .ok (.aload_n 0, 1) := by decide +kernel
theorem dX3_worth_15 : decode cX3_worth 15 = .ok (.aload_n 0, 1) := by decide +kernel
theorem dX3_worth_16 : decode cX3_worth 16 = .ok (.getfield 7, 3) := by decide +kernel
theorem dX3_worth_19 : decode cX3_worth 19 = .ok (.iconst 1, 1) := by decide +kernel
theorem dX3_worth_20 : decode cX3_worth 20 = .ok (.iaload, 1) := by decide +kernel
theorem dX3_worth_21 : decode cX3_worth 21 = .ok (.aload_n 0, 1) := by decide +kernel
theorem dX3_worth_22 : decode cX3_worth 22 = .ok (.getfield 7, 3) := by decide +kernel
theorem dX3_worth_25 : decode cX3_worth 25 = .ok (.iconst 2, 1) := by decide +kernel
theorem dX3_worth_26 : decode cX3_worth 26 = .ok (.iaload, 1) := by decide +kernel
theorem dX3_worth_27 : decode cX3_worth 27 = .ok (.iload_n 1, 1) := by decide +kernel
theorem dX3_worth_28 : decode cX3_worth 28 = .ok (.iload_n 2, 1) := by decide +kernel
theorem dX3_worth_29 : decode cX3_worth 29 = .ok (.invokestatic 46, 3) := by decide +kernel
theorem dX3_worth_32 : decode cX3_worth 32 = .ok (.iload_n 1, 1) := by decide +kernel
theorem dX3_worth_33 : decode cX3_worth 33 = .ok (.aload_n 0, 1) := by decide +kernel
theorem dX3_worth_34 : decode cX3_worth 34 = .ok (.invokevirtual 85, 3) := by decide +kernel
theorem dX3_worth_37 : decode cX3_worth 37 = .ok (.invokevirtual 54, 3) := by decide +kernel
theorem dX3_worth_40 : decode cX3_worth 40 = .ok (.ireturn, 1) := by decide +kernel
theorem eX3_worth_0 {d : Nat} {a1 a2 a3 : Value} {x : Nat} {st : List Value} {hp : qzH} : qzV d 139 0 [.ref x, a1, a2, a3] (st) hp = qzV d 139 1 [.ref x, a1, a2, a3] (.ref x :: st) hp := qv_aload (i := 0) mdc_139 dX3_worth_0 rfl rfl rfl
theorem eX3_worth_1 {d : Nat} {a0 a2 a3 : Value} {x : Int32} {st : List Value} {hp : qzH} : qzV d 139 1 [a0, .int x, a2, a3] (st) hp = qzV d 139 2 [a0, .int x, a2, a3] (.int x :: st) hp := qv_iload (i := 1) mdc_139 dX3_worth_1 rfl rfl rfl
theorem eX3_worth_2 {d : Nat} {a0 a1 a2 a3 : Value} {w0 : Value} {b : Nat} {st : List Value} {hp : qzH} (h8 : st.length ≤ 8) (hb : qzArr 3 b hp.1 = true) : qzV (d + 1) 139 2 [a0, a1, a2, a3] (w0 :: .ref b :: st) hp = (qzC d 99 (.ref b :: [w0]) hp).bind (fun r => qzV (d + 1) 139 5 [a0, a1, a2, a3] (r.1.toList ++ st) r.2) := qv_callv (n := 1) mdc_139 dX3_worth_2 mdo_139 (by decide) qfc_3_100 ⟨rfl, by decide, rfl⟩ rfl ⟨rfl, rfl, by simp only [List.length_cons]; omega⟩ h8 hb
theorem eX3_worth_5 {d : Nat} {a0 a1 a2 a3 : Value} {x : Int32} {st : List Value} {hp : qzH} : qzV d 139 5 [a0, a1, a2, a3] (.int x :: st) hp = qzV d 139 6 [a0, a1, a2, .int x] (st) hp := qv_istore (i := 3) mdc_139 dX3_worth_5 rfl (Nat.le_of_ble_eq_true rfl) rfl rfl
theorem eX3_worth_6 {d : Nat} {a0 a1 a2 : Value} {x : Int32} {st : List Value} {hp : qzH} : qzV d 139 6 [a0, a1, a2, .int x] (st) hp = qzV d 139 7 [a0, a1, a2, .int x] (.int x :: st) hp := qv_iload (i := 3) mdc_139 dX3_worth_6 rfl rfl rfl
theorem eX3_worth_7 {d : Nat} {a0 a1 a2 a3 : Value} {x : Int32} {st : List Value} {hp : qzH} : qzV d 139 7 [a0, a1, a2, a3] (.int x :: st) hp = if 0 ≤ x then qzV d 139 14 [a0, a1, a2, a3] (st) hp else qzV d 139 10 [a0, a1, a2, a3] (st) hp := qv_if1 mdc_139 dX3_worth_7 rfl rfl rfl
theorem eX3_worth_10 {d : Nat} {a0 a1 a2 : Value} {x : Int32} {st : List Value} {hp : qzH} : qzV d 139 10 [a0, a1, a2, .int x] (st) hp = qzV d 139 11 [a0, a1, a2, .int x] (.int x :: st) hp := qv_iload (i := 3) mdc_139 dX3_worth_10 rfl rfl rfl
theorem eX3_worth_11 {d : Nat} {a0 a1 a2 a3 : Value} {st : List Value} {hp : qzH} : qzV d 139 11 [a0, a1, a2, a3] (st) hp = qzV d 139 40 [a0, a1, a2, a3] (st) hp := qv_goto mdc_139 dX3_worth_11 rfl
theorem eX3_worth_14 {d : Nat} {a1 a2 a3 : Value} {x : Nat} {st : List Value} {hp : qzH} : qzV d 139 14 [.ref x, a1, a2, a3] (st) hp = qzV d 139 15 [.ref x, a1, a2, a3] (.ref x :: st) hp := qv_aload (i := 0) mdc_139 dX3_worth_14 rfl rfl rfl
theorem eX3_worth_15 {d : Nat} {a1 a2 a3 : Value} {x : Nat} {st : List Value} {hp : qzH} : qzV d 139 15 [.ref x, a1, a2, a3] (st) hp = qzV d 139 16 [.ref x, a1, a2, a3] (.ref x :: st) hp := qv_aload (i := 0) mdc_139 dX3_worth_15 rfl rfl rfl
theorem eX3_worth_16 {d : Nat} {a0 a1 a2 a3 : Value} {a : Nat} {st : List Value} {hp : qzH} (ha : qzArr 3 a hp.1 = true) : qzV d 139 16 [a0, a1, a2, a3] (.ref a :: st) hp = qzV d 139 19 [a0, a1, a2, a3] (va_rf (hp.2.1 a 0) :: st) hp := qv_getR mdc_139 dX3_worth_16 mdo_139 qff_3_7 ⟨by decide, rfl⟩ rfl ha
theorem eX3_worth_19 {d : Nat} {a0 a1 a2 a3 : Value} {st : List Value} {hp : qzH} : qzV d 139 19 [a0, a1, a2, a3] (st) hp = qzV d 139 20 [a0, a1, a2, a3] (.int 1 :: st) hp := qv_iconst mdc_139 dX3_worth_19 il_1 rfl
theorem eX3_worth_20 {d : Nat} {a0 a1 a2 a3 : Value} {i : Int32} {a : Nat} {st : List Value} {hp : qzH} (ha : qzArr 4 a hp.1 = true) (hi : qzIn i (qzk a).2 = true) : qzV d 139 20 [a0, a1, a2, a3] (.int i :: .ref a :: st) hp = qzV d 139 21 [a0, a1, a2, a3] (.int (hp.2.2 a i.toNatClampNeg) :: st) hp := qv_iald mdc_139 dX3_worth_20 rfl ha hi
theorem eX3_worth_21 {d : Nat} {a1 a2 a3 : Value} {x : Nat} {st : List Value} {hp : qzH} : qzV d 139 21 [.ref x, a1, a2, a3] (st) hp = qzV d 139 22 [.ref x, a1, a2, a3] (.ref x :: st) hp := qv_aload (i := 0) mdc_139 dX3_worth_21 rfl rfl rfl
theorem eX3_worth_22 {d : Nat} {a0 a1 a2 a3 : Value} {a : Nat} {st : List Value} {hp : qzH} (ha : qzArr 3 a hp.1 = true) : qzV d 139 22 [a0, a1, a2, a3] (.ref a :: st) hp = qzV d 139 25 [a0, a1, a2, a3] (va_rf (hp.2.1 a 0) :: st) hp := qv_getR mdc_139 dX3_worth_22 mdo_139 qff_3_7 ⟨by decide, rfl⟩ rfl ha
theorem eX3_worth_25 {d : Nat} {a0 a1 a2 a3 : Value} {st : List Value} {hp : qzH} : qzV d 139 25 [a0, a1, a2, a3] (st) hp = qzV d 139 26 [a0, a1, a2, a3] (.int 2 :: st) hp := qv_iconst mdc_139 dX3_worth_25 il_2 rfl
theorem eX3_worth_26 {d : Nat} {a0 a1 a2 a3 : Value} {i : Int32} {a : Nat} {st : List Value} {hp : qzH} (ha : qzArr 4 a hp.1 = true) (hi : qzIn i (qzk a).2 = true) : qzV d 139 26 [a0, a1, a2, a3] (.int i :: .ref a :: st) hp = qzV d 139 27 [a0, a1, a2, a3] (.int (hp.2.2 a i.toNatClampNeg) :: st) hp := qv_iald mdc_139 dX3_worth_26 rfl ha hi
theorem eX3_worth_27 {d : Nat} {a0 a2 a3 : Value} {x : Int32} {st : List Value} {hp : qzH} : qzV d 139 27 [a0, .int x, a2, a3] (st) hp = qzV d 139 28 [a0, .int x, a2, a3] (.int x :: st) hp := qv_iload (i := 1) mdc_139 dX3_worth_27 rfl rfl rfl
theorem eX3_worth_28 {d : Nat} {a0 a1 a3 : Value} {x : Int32} {st : List Value} {hp : qzH} : qzV d 139 28 [a0, a1, .int x, a3] (st) hp = qzV d 139 29 [a0, a1, .int x, a3] (.int x :: st) hp := qv_iload (i := 2) mdc_139 dX3_worth_28 rfl rfl rfl
theorem eX3_worth_29 {d : Nat} {a0 a1 a2 a3 : Value} {w0 w1 w2 w3 : Value} {st : List Value} {hp : qzH} (h8 : st.length ≤ 8) : qzV (d + 1) 139 29 [a0, a1, a2, a3] (w3 :: w2 :: w1 :: w0 :: st) hp = (qzC d 94 [w0, w1, w2, w3] hp).bind (fun r => qzV (d + 1) 139 32 [a0, a1, a2, a3] (r.1.toList ++ st) r.2) := qv_calls (n := 4) mdc_139 dX3_worth_29 mdo_139 (by decide) qfc_3_46 ⟨rfl, by decide, rfl⟩ rfl ⟨rfl, rfl, by simp only [List.length_cons]; omega⟩ h8
theorem eX3_worth_32 {d : Nat} {a0 a2 a3 : Value} {x : Int32} {st : List Value} {hp : qzH} : qzV d 139 32 [a0, .int x, a2, a3] (st) hp = qzV d 139 33 [a0, .int x, a2, a3] (.int x :: st) hp := qv_iload (i := 1) mdc_139 dX3_worth_32 rfl rfl rfl
theorem eX3_worth_33 {d : Nat} {a1 a2 a3 : Value} {x : Nat} {st : List Value} {hp : qzH} : qzV d 139 33 [.ref x, a1, a2, a3] (st) hp = qzV d 139 34 [.ref x, a1, a2, a3] (.ref x :: st) hp := qv_aload (i := 0) mdc_139 dX3_worth_33 rfl rfl rfl
theorem eX3_worth_34 {d : Nat} {a0 a1 a2 a3 : Value} {b : Nat} {st : List Value} {hp : qzH} (h8 : st.length ≤ 8) (hb : qzArr 3 b hp.1 = true) : qzV (d + 1) 139 34 [a0, a1, a2, a3] (.ref b :: st) hp = (qzC d 106 (.ref b :: []) hp).bind (fun r => qzV (d + 1) 139 37 [a0, a1, a2, a3] (r.1.toList ++ st) r.2) := qv_callv (n := 0) mdc_139 dX3_worth_34 mdo_139 (by decide) qfc_3_85 ⟨rfl, by decide, rfl⟩ rfl ⟨rfl, rfl, by simp only [List.length_cons]; omega⟩ h8 hb
theorem eX3_worth_37 {d : Nat} {a0 a1 a2 a3 : Value} {w0 w1 w2 : Value} {b : Nat} {st : List Value} {hp : qzH} (h8 : st.length ≤ 8) (hb : qzArr 3 b hp.1 = true) : qzV (d + 1) 139 37 [a0, a1, a2, a3] (w2 :: w1 :: w0 :: .ref b :: st) hp = (qzC d 97 (.ref b :: [w0, w1, w2]) hp).bind (fun r => qzV (d + 1) 139 40 [a0, a1, a2, a3] (r.1.toList ++ st) r.2) := qv_callv (n := 3) mdc_139 dX3_worth_37 mdo_139 (by decide) qfc_3_54 ⟨rfl, by decide, rfl⟩ rfl ⟨rfl, rfl, by simp only [List.length_cons]; omega⟩ h8 hb
theorem eX3_worth_40 {d : Nat} {a0 a1 a2 a3 : Value} {v : Int32} {hp : qzH} : qzV d 139 40 [a0, a1, a2, a3] [.int v] hp = some (some (.int v), hp) := qv_iret mdc_139 dX3_worth_40 mdr_139 rfl
theorem dX3_lead_0 : decode cX3_lead 0 = .ok (.iload_n 1, 1) := by decide +kernel
theorem dX3_lead_1 : decode cX3_lead 1 = .ok (.iconst 0, 1) := by decide +kernel
theorem dX3_lead_2 : decode cX3_lead 2 = .ok (.iconst 1, 1) := by decide +kernel
theorem dX3_lead_3 : decode cX3_lead 3 = .ok (.invokestatic 62, 3) := by decide +kernel
theorem dX3_lead_6 : decode cX3_lead 6 = .ok (.ifCond .ne 5, 3) := by decide +kernel
theorem dX3_lead_9 : decode cX3_lead 9 = .ok (.iconst (-1), 1) := by decide +kernel
theorem dX3_lead_10 : decode cX3_lead 10 = .ok (.ireturn, 1) := by decide +kernel
theorem dX3_lead_11 : decode cX3_lead 11 = .ok (.aload_n 0, 1) := by decide +kernel
theorem dX3_lead_12 : decode cX3_lead 12 = .ok (.invokevirtual 110, 3) := by decide +kernel
theorem dX3_lead_15 : decode cX3_lead 15 = .ok (.sipush 1000, 3) := by decide +kernel
theorem dX3_lead_18 : decode cX3_lead 18 = .ok (.aload_n 0, 1) := by decide +kernel
theorem dX3_lead_19 : decode cX3_lead 19 = .ok (.aload_n 0, 1) := by decide +kernel
theorem dX3_lead_20 : decode cX3_lead 20 = .ok (.getfield 7, 3) := by decide +kernel
theorem dX3_lead_23 : decode cX3_lead 23 = .ok (.iconst 1, 1) := by decide +kernel
theorem dX3_lead_24 : decode cX3_lead 24 = .ok (.iaload, 1) := by decide +kernel
theorem dX3_lead_25 : decode cX3_lead 25 = .ok (.aload_n 0, 1) := by decide +kernel
theorem dX3_lead_26 : decode cX3_lead 26 = .ok (.getfield 7, 3) := by decide +kernel
theorem dX3_lead_29 : decode cX3_lead 29 = .ok (.iconst 2, 1) := by decide +kernel
theorem dX3_lead_30 : decode cX3_lead 30 = .ok (.iaload, 1) := by decide +kernel
theorem dX3_lead_31 : decode cX3_lead 31 = .ok (.aload_n 0, 1) := by decide +kernel
theorem dX3_lead_32 : decode cX3_lead 32 = .ok (.invokevirtual 85, 3) := by decide +kernel
theorem dX3_lead_35 : decode cX3_lead 35 = .ok (.aload_n 0, 1) := by decide +kernel
theorem dX3_lead_36 : decode cX3_lead 36 = .ok (.invokevirtual 89, 3) := by decide +kernel
theorem dX3_lead_39 : decode cX3_lead 39 = .ok (.invokevirtual 69, 3) := by decide +kernel
theorem dX3_lead_42 : decode cX3_lead 42 = .ok (.iadd, 1) := by decide +kernel
theorem dX3_lead_43 : decode cX3_lead 43 = .ok (.ireturn, 1) := by decide +kernel
theorem eX3_lead_0 {d : Nat} {a0 : Value} {x : Int32} {st : List Value} {hp : qzH} : qzV d 140 0 [a0, .int x] (st) hp = qzV d 140 1 [a0, .int x] (.int x :: st) hp := qv_iload (i := 1) mdc_140 dX3_lead_0 rfl rfl rfl
theorem eX3_lead_1 {d : Nat} {a0 a1 : Value} {st : List Value} {hp : qzH} : qzV d 140 1 [a0, a1] (st) hp = qzV d 140 2 [a0, a1] (.int 0 :: st) hp := qv_iconst mdc_140 dX3_lead_1 il_0 rfl
theorem eX3_lead_2 {d : Nat} {a0 a1 : Value} {st : List Value} {hp : qzH} : qzV d 140 2 [a0, a1] (st) hp = qzV d 140 3 [a0, a1] (.int 1 :: st) hp := qv_iconst mdc_140 dX3_lead_2 il_1 rfl
theorem eX3_lead_3 {d : Nat} {a0 a1 : Value} {w0 w1 w2 : Value} {st : List Value} {hp : qzH} (h8 : st.length ≤ 8) : qzV (d + 1) 140 3 [a0, a1] (w2 :: w1 :: w0 :: st) hp = (qzC d 87 [w0, w1, w2] hp).bind (fun r => qzV (d + 1) 140 6 [a0, a1] (r.1.toList ++ st) r.2) := qv_calls (n := 3) mdc_140 dX3_lead_3 mdo_140 (by decide) qfc_3_62 ⟨rfl, by decide, rfl⟩ rfl ⟨rfl, rfl, by simp only [List.length_cons]; omega⟩ h8
theorem eX3_lead_6 {d : Nat} {a0 a1 : Value} {x : Int32} {st : List Value} {hp : qzH} : qzV d 140 6 [a0, a1] (.int x :: st) hp = if ¬ x = 0 then qzV d 140 11 [a0, a1] (st) hp else qzV d 140 9 [a0, a1] (st) hp := qv_if1 mdc_140 dX3_lead_6 rfl rfl rfl
theorem eX3_lead_9 {d : Nat} {a0 a1 : Value} {st : List Value} {hp : qzH} : qzV d 140 9 [a0, a1] (st) hp = qzV d 140 10 [a0, a1] (.int (-1) :: st) hp := qv_iconst mdc_140 dX3_lead_9 il_m1 rfl
theorem eX3_lead_10 {d : Nat} {a0 a1 : Value} {v : Int32} {hp : qzH} : qzV d 140 10 [a0, a1] [.int v] hp = some (some (.int v), hp) := qv_iret mdc_140 dX3_lead_10 mdr_140 rfl
theorem eX3_lead_11 {d : Nat} {a1 : Value} {x : Nat} {st : List Value} {hp : qzH} : qzV d 140 11 [.ref x, a1] (st) hp = qzV d 140 12 [.ref x, a1] (.ref x :: st) hp := qv_aload (i := 0) mdc_140 dX3_lead_11 rfl rfl rfl
theorem eX3_lead_12 {d : Nat} {a0 a1 : Value} {b : Nat} {st : List Value} {hp : qzH} (h8 : st.length ≤ 8) (hb : qzArr 3 b hp.1 = true) : qzV (d + 1) 140 12 [a0, a1] (.ref b :: st) hp = (qzC d 105 (.ref b :: []) hp).bind (fun r => qzV (d + 1) 140 15 [a0, a1] (r.1.toList ++ st) r.2) := qv_callv (n := 0) mdc_140 dX3_lead_12 mdo_140 (by decide) qfc_3_110 ⟨rfl, by decide, rfl⟩ rfl ⟨rfl, rfl, by simp only [List.length_cons]; omega⟩ h8 hb
theorem eX3_lead_15 {d : Nat} {a0 a1 : Value} {st : List Value} {hp : qzH} : qzV d 140 15 [a0, a1] (st) hp = qzV d 140 18 [a0, a1] (.int 1000 :: st) hp := qv_sipush mdc_140 dX3_lead_15 is_1000 rfl
theorem eX3_lead_18 {d : Nat} {a1 : Value} {x : Nat} {st : List Value} {hp : qzH} : qzV d 140 18 [.ref x, a1] (st) hp = qzV d 140 19 [.ref x, a1] (.ref x :: st) hp := qv_aload (i := 0) mdc_140 dX3_lead_18 rfl rfl rfl
theorem eX3_lead_19 {d : Nat} {a1 : Value} {x : Nat} {st : List Value} {hp : qzH} : qzV d 140 19 [.ref x, a1] (st) hp = qzV d 140 20 [.ref x, a1] (.ref x :: st) hp := qv_aload (i := 0) mdc_140 dX3_lead_19 rfl rfl rfl
theorem eX3_lead_20 {d : Nat} {a0 a1 : Value} {a : Nat} {st : List Value} {hp : qzH} (ha : qzArr 3 a hp.1 = true) : qzV d 140 20 [a0, a1] (.ref a :: st) hp = qzV d 140 23 [a0, a1] (va_rf (hp.2.1 a 0) :: st) hp := qv_getR mdc_140 dX3_lead_20 mdo_140 qff_3_7 ⟨by decide, rfl⟩ rfl ha
theorem eX3_lead_23 {d : Nat} {a0 a1 : Value} {st : List Value} {hp : qzH} : qzV d 140 23 [a0, a1] (st) hp = qzV d 140 24 [a0, a1] (.int 1 :: st) hp := qv_iconst mdc_140 dX3_lead_23 il_1 rfl
theorem eX3_lead_24 {d : Nat} {a0 a1 : Value} {i : Int32} {a : Nat} {st : List Value} {hp : qzH} (ha : qzArr 4 a hp.1 = true) (hi : qzIn i (qzk a).2 = true) : qzV d 140 24 [a0, a1] (.int i :: .ref a :: st) hp = qzV d 140 25 [a0, a1] (.int (hp.2.2 a i.toNatClampNeg) :: st) hp := qv_iald mdc_140 dX3_lead_24 rfl ha hi
theorem eX3_lead_25 {d : Nat} {a1 : Value} {x : Nat} {st : List Value} {hp : qzH} : qzV d 140 25 [.ref x, a1] (st) hp = qzV d 140 26 [.ref x, a1] (.ref x :: st) hp := qv_aload (i := 0) mdc_140 dX3_lead_25 rfl rfl rfl
theorem eX3_lead_26 {d : Nat} {a0 a1 : Value} {a : Nat} {st : List Value} {hp : qzH} (ha : qzArr 3 a hp.1 = true) : qzV d 140 26 [a0, a1] (.ref a :: st) hp = qzV d 140 29 [a0, a1] (va_rf (hp.2.1 a 0) :: st) hp := qv_getR mdc_140 dX3_lead_26 mdo_140 qff_3_7 ⟨by decide, rfl⟩ rfl ha
theorem eX3_lead_29 {d : Nat} {a0 a1 : Value} {st : List Value} {hp : qzH} : qzV d 140 29 [a0, a1] (st) hp = qzV d 140 30 [a0, a1] (.int 2 :: st) hp := qv_iconst mdc_140 dX3_lead_29 il_2 rfl
theorem eX3_lead_30 {d : Nat} {a0 a1 : Value} {i : Int32} {a : Nat} {st : List Value} {hp : qzH} (ha : qzArr 4 a hp.1 = true) (hi : qzIn i (qzk a).2 = true) : qzV d 140 30 [a0, a1] (.int i :: .ref a :: st) hp = qzV d 140 31 [a0, a1] (.int (hp.2.2 a i.toNatClampNeg) :: st) hp := qv_iald mdc_140 dX3_lead_30 rfl ha hi
theorem eX3_lead_31 {d : Nat} {a1 : Value} {x : Nat} {st : List Value} {hp : qzH} : qzV d 140 31 [.ref x, a1] (st) hp = qzV d 140 32 [.ref x, a1] (.ref x :: st) hp := qv_aload (i := 0) mdc_140 dX3_lead_31 rfl rfl rfl
theorem eX3_lead_32 {d : Nat} {a0 a1 : Value} {b : Nat} {st : List Value} {hp : qzH} (h8 : st.length ≤ 8) (hb : qzArr 3 b hp.1 = true) : qzV (d + 1) 140 32 [a0, a1] (.ref b :: st) hp = (qzC d 106 (.ref b :: []) hp).bind (fun r => qzV (d + 1) 140 35 [a0, a1] (r.1.toList ++ st) r.2) := qv_callv (n := 0) mdc_140 dX3_lead_32 mdo_140 (by decide) qfc_3_85 ⟨rfl, by decide, rfl⟩ rfl ⟨rfl, rfl, by simp only [List.length_cons]; omega⟩ h8 hb
theorem eX3_lead_35 {d : Nat} {a1 : Value} {x : Nat} {st : List Value} {hp : qzH} : qzV d 140 35 [.ref x, a1] (st) hp = qzV d 140 36 [.ref x, a1] (.ref x :: st) hp := qv_aload (i := 0) mdc_140 dX3_lead_35 rfl rfl rfl
theorem eX3_lead_36 {d : Nat} {a0 a1 : Value} {b : Nat} {st : List Value} {hp : qzH} (h8 : st.length ≤ 8) (hb : qzArr 3 b hp.1 = true) : qzV (d + 1) 140 36 [a0, a1] (.ref b :: st) hp = (qzC d 107 (.ref b :: []) hp).bind (fun r => qzV (d + 1) 140 39 [a0, a1] (r.1.toList ++ st) r.2) := qv_callv (n := 0) mdc_140 dX3_lead_36 mdo_140 (by decide) qfc_3_89 ⟨rfl, by decide, rfl⟩ rfl ⟨rfl, rfl, by simp only [List.length_cons]; omega⟩ h8 hb
theorem eX3_lead_39 {d : Nat} {a0 a1 : Value} {w0 w1 w2 w3 : Value} {b : Nat} {st : List Value} {hp : qzH} (h8 : st.length ≤ 8) (hb : qzArr 3 b hp.1 = true) : qzV (d + 1) 140 39 [a0, a1] (w3 :: w2 :: w1 :: w0 :: .ref b :: st) hp = (qzC d 101 (.ref b :: [w0, w1, w2, w3]) hp).bind (fun r => qzV (d + 1) 140 42 [a0, a1] (r.1.toList ++ st) r.2) := qv_callv (n := 4) mdc_140 dX3_lead_39 mdo_140 (by decide) qfc_3_69 ⟨rfl, by decide, rfl⟩ rfl ⟨rfl, rfl, by simp only [List.length_cons]; omega⟩ h8 hb
theorem eX3_lead_42 {d : Nat} {a0 a1 : Value} {x y : Int32} {st : List Value} {hp : qzH} : qzV d 140 42 [a0, a1] (.int y :: .int x :: st) hp = qzV d 140 43 [a0, a1] (.int (x + y) :: st) hp := qv_bin (f := fun x y => x + y) mdc_140 dX3_lead_42 rfl rfl
theorem eX3_lead_43 {d : Nat} {a0 a1 : Value} {v : Int32} {hp : qzH} : qzV d 140 43 [a0, a1] [.int v] hp = some (some (.int v), hp) := qv_iret mdc_140 dX3_lead_43 mdr_140 rfl
theorem dX3_leadWith_0 : decode cX3_leadWith 0 = .ok (.aload_n 0, 1) := by decide +kernel
theorem dX3_leadWith_1 : decode cX3_leadWith 1 = .ok (.iload_n 1, 1) := by decide +kernel
theorem dX3_leadWith_2 : decode cX3_leadWith 2 = .ok (.invokevirtual 100, 3) := by decide +kernel
theorem dX3_leadWith_5 : decode cX3_leadWith 5 = .ok (.istore_n 3, 1) := by decide +kernel
theorem dX3_leadWith_6 : decode cX3_leadWith 6 = .ok (.iload_n 3, 1) := by decide +kernel
theorem dX3_leadWith_7 : decode cX3_leadWith 7 = .ok (.ifCond .ge 5, 3) := by decide +kernel
theorem dX3_leadWith_10 : decode cX3_leadWith 10 = .ok (.iload_n 3, 1) := by decide +kernel
theorem dX3_leadWith_11 : decode cX3_leadWith 11 = .ok (.ireturn, 1) := by decide +kernel
theorem dX3_leadWith_12 : decode cX3_leadWith 12 = .ok (.aload_n 0, 1) := by decide +kernel
theorem dX3_leadWith_13 : decode cX3_leadWith 13 = .ok (.invokevirtual 110, 3) := by decide +kernel
theorem dX3_leadWith_16 : decode cX3_leadWith 16 = .ok (.sipush 1000, 3) := by decide +kernel
theorem dX3_leadWith_19 : decode cX3_leadWith 19 = .ok (.aload_n 0, 1) := by decide +kernel
theorem dX3_leadWith_20 : decode cX3_leadWith 20 = .ok (.aload_n 0, 1) := by decide +kernel
theorem dX3_leadWith_21 : decode cX3_leadWith 21 = .ok (.getfield 7, 3) := by decide +kernel
theorem dX3_leadWith_24 : decode cX3_leadWith 24 = .ok (.iconst 1, 1) := by decide +kernel
theorem dX3_leadWith_25 : decode cX3_leadWith 25 = .ok (.iaload, 1) := by decide +kernel
theorem dX3_leadWith_26 : decode cX3_leadWith 26 = .ok (.aload_n 0, 1) := by decide +kernel
theorem dX3_leadWith_27 : decode cX3_leadWith 27 = .ok (.getfield 7, 3) := by decide +kernel
theorem dX3_leadWith_30 : decode cX3_leadWith 30 = .ok (.iconst 2, 1) := by decide +kernel
theorem dX3_leadWith_31 : decode cX3_leadWith 31 = .ok (.iaload, 1) := by decide +kernel
theorem dX3_leadWith_32 : decode cX3_leadWith 32 = .ok (.aload_n 0, 1) := by decide +kernel
theorem dX3_leadWith_33 : decode cX3_leadWith 33 = .ok (.invokevirtual 85, 3) := by decide +kernel
theorem dX3_leadWith_36 : decode cX3_leadWith 36 = .ok (.aload_n 0, 1) := by decide +kernel
theorem dX3_leadWith_37 : decode cX3_leadWith 37 = .ok (.invokevirtual 89, 3) := by decide +kernel
theorem dX3_leadWith_40 : decode cX3_leadWith 40 = .ok (.iload_n 1, 1) := by decide +kernel
theorem dX3_leadWith_41 : decode cX3_leadWith 41 = .ok (.iload_n 2, 1) := by decide +kernel
theorem dX3_leadWith_42 : decode cX3_leadWith 42 = .ok (.invokevirtual 77, 3) := by decide +kernel
theorem dX3_leadWith_45 : decode cX3_leadWith 45 = .ok (.iadd, 1) := by decide +kernel
theorem dX3_leadWith_46 : decode cX3_leadWith 46 = .ok (.ireturn, 1) := by decide +kernel
theorem eX3_leadWith_0 {d : Nat} {a1 a2 a3 : Value} {x : Nat} {st : List Value} {hp : qzH} : qzV d 141 0 [.ref x, a1, a2, a3] (st) hp = qzV d 141 1 [.ref x, a1, a2, a3] (.ref x :: st) hp := qv_aload (i := 0) mdc_141 dX3_leadWith_0 rfl rfl rfl
theorem eX3_leadWith_1 {d : Nat} {a0 a2 a3 : Value} {x : Int32} {st : List Value} {hp : qzH} : qzV d 141 1 [a0, .int x, a2, a3] (st) hp = qzV d 141 2 [a0, .int x, a2, a3] (.int x :: st) hp := qv_iload (i := 1) mdc_141 dX3_leadWith_1 rfl rfl rfl
theorem eX3_leadWith_2 {d : Nat} {a0 a1 a2 a3 : Value} {w0 : Value} {b : Nat} {st : List Value} {hp : qzH} (h8 : st.length ≤ 8) (hb : qzArr 3 b hp.1 = true) : qzV (d + 1) 141 2 [a0, a1, a2, a3] (w0 :: .ref b :: st) hp = (qzC d 99 (.ref b :: [w0]) hp).bind (fun r => qzV (d + 1) 141 5 [a0, a1, a2, a3] (r.1.toList ++ st) r.2) := qv_callv (n := 1) mdc_141 dX3_leadWith_2 mdo_141 (by decide) qfc_3_100 ⟨rfl, by decide, rfl⟩ rfl ⟨rfl, rfl, by simp only [List.length_cons]; omega⟩ h8 hb
theorem eX3_leadWith_5 {d : Nat} {a0 a1 a2 a3 : Value} {x : Int32} {st : List Value} {hp : qzH} : qzV d 141 5 [a0, a1, a2, a3] (.int x :: st) hp = qzV d 141 6 [a0, a1, a2, .int x] (st) hp := qv_istore (i := 3) mdc_141 dX3_leadWith_5 rfl (Nat.le_of_ble_eq_true rfl) rfl rfl
theorem eX3_leadWith_6 {d : Nat} {a0 a1 a2 : Value} {x : Int32} {st : List Value} {hp : qzH} : qzV d 141 6 [a0, a1, a2, .int x] (st) hp = qzV d 141 7 [a0, a1, a2, .int x] (.int x :: st) hp := qv_iload (i := 3) mdc_141 dX3_leadWith_6 rfl rfl rfl
theorem eX3_leadWith_7 {d : Nat} {a0 a1 a2 a3 : Value} {x : Int32} {st : List Value} {hp : qzH} : qzV d 141 7 [a0, a1, a2, a3] (.int x :: st) hp = if 0 ≤ x then qzV d 141 12 [a0, a1, a2, a3] (st) hp else qzV d 141 10 [a0, a1, a2, a3] (st) hp := qv_if1 mdc_141 dX3_leadWith_7 rfl rfl rfl
theorem eX3_leadWith_10 {d : Nat} {a0 a1 a2 : Value} {x : Int32} {st : List Value} {hp : qzH} : qzV d 141 10 [a0, a1, a2, .int x] (st) hp = qzV d 141 11 [a0, a1, a2, .int x] (.int x :: st) hp := qv_iload (i := 3) mdc_141 dX3_leadWith_10 rfl rfl rfl
theorem eX3_leadWith_11 {d : Nat} {a0 a1 a2 a3 : Value} {v : Int32} {hp : qzH} : qzV d 141 11 [a0, a1, a2, a3] [.int v] hp = some (some (.int v), hp) := qv_iret mdc_141 dX3_leadWith_11 mdr_141 rfl
theorem eX3_leadWith_12 {d : Nat} {a1 a2 a3 : Value} {x : Nat} {st : List Value} {hp : qzH} : qzV d 141 12 [.ref x, a1, a2, a3] (st) hp = qzV d 141 13 [.ref x, a1, a2, a3] (.ref x :: st) hp := qv_aload (i := 0) mdc_141 dX3_leadWith_12 rfl rfl rfl
theorem eX3_leadWith_13 {d : Nat} {a0 a1 a2 a3 : Value} {b : Nat} {st : List Value} {hp : qzH} (h8 : st.length ≤ 8) (hb : qzArr 3 b hp.1 = true) : qzV (d + 1) 141 13 [a0, a1, a2, a3] (.ref b :: st) hp = (qzC d 105 (.ref b :: []) hp).bind (fun r => qzV (d + 1) 141 16 [a0, a1, a2, a3] (r.1.toList ++ st) r.2) := qv_callv (n := 0) mdc_141 dX3_leadWith_13 mdo_141 (by decide) qfc_3_110 ⟨rfl, by decide, rfl⟩ rfl ⟨rfl, rfl, by simp only [List.length_cons]; omega⟩ h8 hb
theorem eX3_leadWith_16 {d : Nat} {a0 a1 a2 a3 : Value} {st : List Value} {hp : qzH} : qzV d 141 16 [a0, a1, a2, a3] (st) hp = qzV d 141 19 [a0, a1, a2, a3] (.int 1000 :: st) hp := qv_sipush mdc_141 dX3_leadWith_16 is_1000 rfl
theorem eX3_leadWith_19 {d : Nat} {a1 a2 a3 : Value} {x : Nat} {st : List Value} {hp : qzH} : qzV d 141 19 [.ref x, a1, a2, a3] (st) hp = qzV d 141 20 [.ref x, a1, a2, a3] (.ref x :: st) hp := qv_aload (i := 0) mdc_141 dX3_leadWith_19 rfl rfl rfl
theorem eX3_leadWith_20 {d : Nat} {a1 a2 a3 : Value} {x : Nat} {st : List Value} {hp : qzH} : qzV d 141 20 [.ref x, a1, a2, a3] (st) hp = qzV d 141 21 [.ref x, a1, a2, a3] (.ref x :: st) hp := qv_aload (i := 0) mdc_141 dX3_leadWith_20 rfl rfl rfl
theorem eX3_leadWith_21 {d : Nat} {a0 a1 a2 a3 : Value} {a : Nat} {st : List Value} {hp : qzH} (ha : qzArr 3 a hp.1 = true) : qzV d 141 21 [a0, a1, a2, a3] (.ref a :: st) hp = qzV d 141 24 [a0, a1, a2, a3] (va_rf (hp.2.1 a 0) :: st) hp := qv_getR mdc_141 dX3_leadWith_21 mdo_141 qff_3_7 ⟨by decide, rfl⟩ rfl ha
theorem eX3_leadWith_24 {d : Nat} {a0 a1 a2 a3 : Value} {st : List Value} {hp : qzH} : qzV d 141 24 [a0, a1, a2, a3] (st) hp = qzV d 141 25 [a0, a1, a2, a3] (.int 1 :: st) hp := qv_iconst mdc_141 dX3_leadWith_24 il_1 rfl
theorem eX3_leadWith_25 {d : Nat} {a0 a1 a2 a3 : Value} {i : Int32} {a : Nat} {st : List Value} {hp : qzH} (ha : qzArr 4 a hp.1 = true) (hi : qzIn i (qzk a).2 = true) : qzV d 141 25 [a0, a1, a2, a3] (.int i :: .ref a :: st) hp = qzV d 141 26 [a0, a1, a2, a3] (.int (hp.2.2 a i.toNatClampNeg) :: st) hp := qv_iald mdc_141 dX3_leadWith_25 rfl ha hi
theorem eX3_leadWith_26 {d : Nat} {a1 a2 a3 : Value} {x : Nat} {st : List Value} {hp : qzH} : qzV d 141 26 [.ref x, a1, a2, a3] (st) hp = qzV d 141 27 [.ref x, a1, a2, a3] (.ref x :: st) hp := qv_aload (i := 0) mdc_141 dX3_leadWith_26 rfl rfl rfl
theorem eX3_leadWith_27 {d : Nat} {a0 a1 a2 a3 : Value} {a : Nat} {st : List Value} {hp : qzH} (ha : qzArr 3 a hp.1 = true) : qzV d 141 27 [a0, a1, a2, a3] (.ref a :: st) hp = qzV d 141 30 [a0, a1, a2, a3] (va_rf (hp.2.1 a 0) :: st) hp := qv_getR mdc_141 dX3_leadWith_27 mdo_141 qff_3_7 ⟨by decide, rfl⟩ rfl ha
theorem eX3_leadWith_30 {d : Nat} {a0 a1 a2 a3 : Value} {st : List Value} {hp : qzH} : qzV d 141 30 [a0, a1, a2, a3] (st) hp = qzV d 141 31 [a0, a1, a2, a3] (.int 2 :: st) hp := qv_iconst mdc_141 dX3_leadWith_30 il_2 rfl
theorem eX3_leadWith_31 {d : Nat} {a0 a1 a2 a3 : Value} {i : Int32} {a : Nat} {st : List Value} {hp : qzH} (ha : qzArr 4 a hp.1 = true) (hi : qzIn i (qzk a).2 = true) : qzV d 141 31 [a0, a1, a2, a3] (.int i :: .ref a :: st) hp = qzV d 141 32 [a0, a1, a2, a3] (.int (hp.2.2 a i.toNatClampNeg) :: st) hp := qv_iald mdc_141 dX3_leadWith_31 rfl ha hi
theorem eX3_leadWith_32 {d : Nat} {a1 a2 a3 : Value} {x : Nat} {st : List Value} {hp : qzH} : qzV d 141 32 [.ref x, a1, a2, a3] (st) hp = qzV d 141 33 [.ref x, a1, a2, a3] (.ref x :: st) hp := qv_aload (i := 0) mdc_141 dX3_leadWith_32 rfl rfl rfl
theorem eX3_leadWith_33 {d : Nat} {a0 a1 a2 a3 : Value} {b : Nat} {st : List Value} {hp : qzH} (h8 : st.length ≤ 8) (hb : qzArr 3 b hp.1 = true) : qzV (d + 1) 141 33 [a0, a1, a2, a3] (.ref b :: st) hp = (qzC d 106 (.ref b :: []) hp).bind (fun r => qzV (d + 1) 141 36 [a0, a1, a2, a3] (r.1.toList ++ st) r.2) := qv_callv (n := 0) mdc_141 dX3_leadWith_33 mdo_141 (by decide) qfc_3_85 ⟨rfl, by decide, rfl⟩ rfl ⟨rfl, rfl, by simp only [List.length_cons]; omega⟩ h8 hb
theorem eX3_leadWith_36 {d : Nat} {a1 a2 a3 : Value} {x : Nat} {st : List Value} {hp : qzH} : qzV d 141 36 [.ref x, a1, a2, a3] (st) hp = qzV d 141 37 [.ref x, a1, a2, a3] (.ref x :: st) hp := qv_aload (i := 0) mdc_141 dX3_leadWith_36 rfl rfl rfl
theorem eX3_leadWith_37 {d : Nat} {a0 a1 a2 a3 : Value} {b : Nat} {st : List Value} {hp : qzH} (h8 : st.length ≤ 8) (hb : qzArr 3 b hp.1 = true) : qzV (d + 1) 141 37 [a0, a1, a2, a3] (.ref b :: st) hp = (qzC d 107 (.ref b :: []) hp).bind (fun r => qzV (d + 1) 141 40 [a0, a1, a2, a3] (r.1.toList ++ st) r.2) := qv_callv (n := 0) mdc_141 dX3_leadWith_37 mdo_141 (by decide) qfc_3_89 ⟨rfl, by decide, rfl⟩ rfl ⟨rfl, rfl, by simp only [List.length_cons]; omega⟩ h8 hb
theorem eX3_leadWith_40 {d : Nat} {a0 a2 a3 : Value} {x : Int32} {st : List Value} {hp : qzH} : qzV d 141 40 [a0, .int x, a2, a3] (st) hp = qzV d 141 41 [a0, .int x, a2, a3] (.int x :: st) hp := qv_iload (i := 1) mdc_141 dX3_leadWith_40 rfl rfl rfl
theorem eX3_leadWith_41 {d : Nat} {a0 a1 a3 : Value} {x : Int32} {st : List Value} {hp : qzH} : qzV d 141 41 [a0, a1, .int x, a3] (st) hp = qzV d 141 42 [a0, a1, .int x, a3] (.int x :: st) hp := qv_iload (i := 2) mdc_141 dX3_leadWith_41 rfl rfl rfl
theorem eX3_leadWith_42 {d : Nat} {a0 a1 a2 a3 : Value} {w0 w1 w2 w3 w4 w5 : Value} {b : Nat} {st : List Value} {hp : qzH} (h8 : st.length ≤ 8) (hb : qzArr 3 b hp.1 = true) : qzV (d + 1) 141 42 [a0, a1, a2, a3] (w5 :: w4 :: w3 :: w2 :: w1 :: w0 :: .ref b :: st) hp = (qzC d 103 (.ref b :: [w0, w1, w2, w3, w4, w5]) hp).bind (fun r => qzV (d + 1) 141 45 [a0, a1, a2, a3] (r.1.toList ++ st) r.2) := qv_callv (n := 6) mdc_141 dX3_leadWith_42 mdo_141 (by decide) qfc_3_77 ⟨rfl, by decide, rfl⟩ rfl ⟨rfl, rfl, by simp only [List.length_cons]; omega⟩ h8 hb
theorem eX3_leadWith_45 {d : Nat} {a0 a1 a2 a3 : Value} {x y : Int32} {st : List Value} {hp : qzH} : qzV d 141 45 [a0, a1, a2, a3] (.int y :: .int x :: st) hp = qzV d 141 46 [a0, a1, a2, a3] (.int (x + y) :: st) hp := qv_bin (f := fun x y => x + y) mdc_141 dX3_leadWith_45 rfl rfl
theorem eX3_leadWith_46 {d : Nat} {a0 a1 a2 a3 : Value} {v : Int32} {hp : qzH} : qzV d 141 46 [a0, a1, a2, a3] [.int v] hp = some (some (.int v), hp) := qv_iret mdc_141 dX3_leadWith_46 mdr_141 rfl
theorem dX3_bestCut_0 : decode cX3_bestCut 0 = .ok (.aload_n 0, 1) := by decide +kernel
theorem dX3_bestCut_1 : decode cX3_bestCut 1 = .ok (.invokevirtual 106, 3) := by decide +kernel
theorem dX3_bestCut_4 : decode cX3_bestCut 4 = .ok (.ifCond .eq 6, 3) := by decide +kernel
theorem dX3_bestCut_7 : decode cX3_bestCut 7 = .ok (.bipush (-2), 2) := by decide +kernel
theorem dX3_bestCut_9 : decode cX3_bestCut 9 = .ok (.ireturn, 1) := by decide +kernel
theorem dX3_bestCut_10 : decode cX3_bestCut 10 = .ok (.aload_n 0, 1) := by decide +kernel
theorem dX3_bestCut_11 : decode cX3_bestCut 11 = .ok (.invokevirtual 110, 3) := by decide +kernel
theorem dX3_bestCut_14 : decode cX3_bestCut 14 = .ok (.aload_n 0, 1) := by decide +kernel
theorem dX3_bestCut_15 : decode cX3_bestCut 15 = .ok (.iconst 0, 1) := by decide +kernel
theorem dX3_bestCut_16 : decode cX3_bestCut 16 = .ok (.invokevirtual 92, 3) := by decide +kernel
theorem dX3_bestCut_19 : decode cX3_bestCut 19 = .ok (.ireturn, 1) := by decide +kernel
theorem eX3_bestCut_0 {d : Nat} {x : Nat} {st : List Value} {hp : qzH} : qzV d 142 0 [.ref x] (st) hp = qzV d 142 1 [.ref x] (.ref x :: st) hp := qv_aload (i := 0) mdc_142 dX3_bestCut_0 rfl rfl rfl
theorem eX3_bestCut_1 {d : Nat} {a0 : Value} {b : Nat} {st : List Value} {hp : qzH} (h8 : st.length ≤ 8) (hb : qzArr 3 b hp.1 = true) : qzV (d + 1) 142 1 [a0] (.ref b :: st) hp = (qzC d 93 (.ref b :: []) hp).bind (fun r => qzV (d + 1) 142 4 [a0] (r.1.toList ++ st) r.2) := qv_callv (n := 0) mdc_142 dX3_bestCut_1 mdo_142 (by decide) qfc_3_106 ⟨rfl, by decide, rfl⟩ rfl ⟨rfl, rfl, by simp only [List.length_cons]; omega⟩ h8 hb
theorem eX3_bestCut_4 {d : Nat} {a0 : Value} {x : Int32} {st : List Value} {hp : qzH} : qzV d 142 4 [a0] (.int x :: st) hp = if x = 0 then qzV d 142 10 [a0] (st) hp else qzV d 142 7 [a0] (st) hp := qv_if1 mdc_142 dX3_bestCut_4 rfl rfl rfl
theorem eX3_bestCut_7 {d : Nat} {a0 : Value} {st : List Value} {hp : qzH} : qzV d 142 7 [a0] (st) hp = qzV d 142 9 [a0] (.int (-2) :: st) hp := qv_bipush mdc_142 dX3_bestCut_7 ib_m2 rfl
theorem eX3_bestCut_9 {d : Nat} {a0 : Value} {v : Int32} {hp : qzH} : qzV d 142 9 [a0] [.int v] hp = some (some (.int v), hp) := qv_iret mdc_142 dX3_bestCut_9 mdr_142 rfl
theorem eX3_bestCut_10 {d : Nat} {x : Nat} {st : List Value} {hp : qzH} : qzV d 142 10 [.ref x] (st) hp = qzV d 142 11 [.ref x] (.ref x :: st) hp := qv_aload (i := 0) mdc_142 dX3_bestCut_10 rfl rfl rfl
theorem eX3_bestCut_11 {d : Nat} {a0 : Value} {b : Nat} {st : List Value} {hp : qzH} (h8 : st.length ≤ 8) (hb : qzArr 3 b hp.1 = true) : qzV (d + 1) 142 11 [a0] (.ref b :: st) hp = (qzC d 105 (.ref b :: []) hp).bind (fun r => qzV (d + 1) 142 14 [a0] (r.1.toList ++ st) r.2) := qv_callv (n := 0) mdc_142 dX3_bestCut_11 mdo_142 (by decide) qfc_3_110 ⟨rfl, by decide, rfl⟩ rfl ⟨rfl, rfl, by simp only [List.length_cons]; omega⟩ h8 hb
theorem eX3_bestCut_14 {d : Nat} {x : Nat} {st : List Value} {hp : qzH} : qzV d 142 14 [.ref x] (st) hp = qzV d 142 15 [.ref x] (.ref x :: st) hp := qv_aload (i := 0) mdc_142 dX3_bestCut_14 rfl rfl rfl
theorem eX3_bestCut_15 {d : Nat} {a0 : Value} {st : List Value} {hp : qzH} : qzV d 142 15 [a0] (st) hp = qzV d 142 16 [a0] (.int 0 :: st) hp := qv_iconst mdc_142 dX3_bestCut_15 il_0 rfl
theorem eX3_bestCut_16 {d : Nat} {a0 : Value} {w0 : Value} {b : Nat} {st : List Value} {hp : qzH} (h8 : st.length ≤ 8) (hb : qzArr 3 b hp.1 = true) : qzV (d + 1) 142 16 [a0] (w0 :: .ref b :: st) hp = (qzC d 108 (.ref b :: [w0]) hp).bind (fun r => qzV (d + 1) 142 19 [a0] (r.1.toList ++ st) r.2) := qv_callv (n := 1) mdc_142 dX3_bestCut_16 mdo_142 (by decide) qfc_3_92 ⟨rfl, by decide, rfl⟩ rfl ⟨rfl, rfl, by simp only [List.length_cons]; omega⟩ h8 hb
theorem eX3_bestCut_19 {d : Nat} {a0 : Value} {v : Int32} {hp : qzH} : qzV d 142 19 [a0] [.int v] hp = some (some (.int v), hp) := qv_iret mdc_142 dX3_bestCut_19 mdr_142 rfl
theorem dX3_ended_0 : decode cX3_ended 0 = .ok (.iload_n 1, 1) := by decide +kernel
theorem dX3_ended_1 : decode cX3_ended 1 = .ok (.iconst 0, 1) := by decide +kernel
theorem dX3_ended_2 : decode cX3_ended 2 = .ok (.iconst 1, 1) := by decide +kernel
theorem dX3_ended_3 : decode cX3_ended 3 = .ok (.invokestatic 62, 3) := by decide +kernel
theorem dX3_ended_6 : decode cX3_ended 6 = .ok (.ifCond .eq 21, 3) := by decide +kernel
theorem dX3_ended_9 : decode cX3_ended 9 = .ok (.iload_n 2, 1) := by decide +kernel
theorem dX3_ended_10 : decode cX3_ended 10 = .ok (.iconst 0, 1) := by decide +kernel
theorem dX3_ended_11 : decode cX3_ended 11 = .ok (.iconst 1, 1) := by decide +kernel
theorem dX3_ended_12 : decode cX3_ended 12 = .ok (.invokestatic 62, 3) := by decide +kernel
theorem dX3_ended_15 : decode cX3_ended 15 = .ok (.ifCond .eq 12, 3) := by decide +kernel
theorem dX3_ended_18 : decode cX3_ended 18 = .ok (.iload_n 3, 1) := by decide +kernel
theorem dX3_ended_19 : decode cX3_ended 19 = .ok (.iconst 0, 1) := by decide +kernel
theorem dX3_ended_20 : decode cX3_ended 20 = .ok (.iconst 2, 1) := by decide +kernel
theorem dX3_ended_21 : decode cX3_ended 21 = .ok (.invokestatic 62, 3) := by decide +kernel
theorem dX3_ended_24 : decode cX3_ended 24 = .ok (.ifCond .ne 5, 3) := by decide +kernel
theorem dX3_ended_27 : decode cX3_ended 27 = .ok (.iconst (-1), 1) := by decide +kernel
theorem dX3_ended_28 : decode cX3_ended 28 = .ok (.ireturn, 1) := by decide +kernel
theorem dX3_ended_29 : decode cX3_ended 29 = .ok (.aload_n 0, 1) := by decide +kernel
theorem dX3_ended_30 : decode cX3_ended 30 = .ok (.invokevirtual 110, 3) := by decide +kernel
theorem dX3_ended_33 : decode cX3_ended 33 = .ok (.aload_n 0, 1) := by decide +kernel
theorem dX3_ended_34 : decode cX3_ended 34 = .ok (.getfield 7, 3) := by decide +kernel
theorem dX3_ended_37 : decode cX3_ended 37 = .ok (.iconst 0, 1) := by decide +kernel
theorem dX3_ended_38 : decode cX3_ended 38 = .ok (.aload_n 0, 1) := by decide +kernel
theorem dX3_ended_39 : decode cX3_ended 39 = .ok (.getfield 13, 3) := by decide +kernel
theorem dX3_ended_42 : decode cX3_ended 42 = .ok (.iconst 0, 1) := by decide +kernel
theorem dX3_ended_43 : decode cX3_ended 43 = .ok (.invokestatic 35, 3) := by decide +kernel
theorem dX3_ended_46 : decode cX3_ended 46 = .ok (.aload_n 0, 1) := by decide +kernel
theorem dX3_ended_47 : decode cX3_ended 47 = .ok (.invokevirtual 106, 3) := by decide +kernel
theorem dX3_ended_50 : decode cX3_ended 50 = .ok (.ifCond .ne 35, 3) := by decide +kernel
theorem dX3_ended_53 : decode cX3_ended 53 = .ok (.aload_n 0, 1) := by decide +kernel
theorem dX3_ended_54 : decode cX3_ended 54 = .ok (.aload_n 0, 1) := by decide +kernel
theorem dX3_ended_55 : decode cX3_ended 55 = .ok (.getfield 7, 3) := by decide +kernel
theorem dX3_ended_58 : decode cX3_ended 58 = .ok (.iconst 3, 1) := by decide +kernel
theorem dX3_ended_59 : decode cX3_ended 59 = .ok (.iaload, 1) := by decide +kernel
theorem dX3_ended_60 : decode cX3_ended 60 = .ok (.ifCond .ne 7, 3) := by decide +kernel
theorem dX3_ended_63 : decode cX3_ended 63 = .ok (.iload_n 1, 1) := by decide +kernel
theorem dX3_ended_64 : decode cX3_ended 64 = .ok (.goto 4, 3) := by decide +kernel
theorem dX3_ended_67 : decode cX3_ended 67 = .ok (.iload_n 2, 1) := by decide +kernel
theorem dX3_ended_68 : decode cX3_ended 68 = .ok (.iconst 1, 1) := by decide +kernel
theorem dX3_ended_69 : decode cX3_ended 69 = .ok (.if_icmp .ne 7, 3) := by decide +kernel
theorem dX3_ended_72 : decode cX3_ended 72 = .ok (.iconst 1, 1) := by decide +kernel
theorem dX3_ended_73 : decode cX3_ended 73 = .ok (.goto 4, 3) := by decide +kernel
theorem dX3_ended_76 : decode cX3_ended 76 = .ok (.iconst 0, 1) := by decide +kernel
theorem dX3_ended_77 : decode cX3_ended 77 = .ok (.invokevirtual 113, 3) := by decide +kernel
theorem dX3_ended_80 : decode cX3_ended 80 = .ok (.istore 4, 2) := by decide +kernel
theorem dX3_ended_82 : decode cX3_ended 82 = .ok (.goto (-36), 3) := by decide +kernel
theorem dX3_ended_85 : decode cX3_ended 85 = .ok (.iload_n 3, 1) := by decide +kernel
theorem dX3_ended_86 : decode cX3_ended 86 = .ok (.iconst 2, 1) := by decide +kernel
theorem dX3_ended_87 : decode cX3_ended 87 = .ok (.if_icmp .ne 19, 3) := by decide +kernel
theorem dX3_ended_90 : decode cX3_ended 90 = .ok (.aload_n 0, 1) := by decide +kernel
theorem dX3_ended_91 : decode cX3_ended 91 = .ok (.getfield 7, 3) := by decide +kernel
theorem dX3_ended_94 : decode cX3_ended 94 = .ok (.iconst 4, 1) := by decide +kernel
theorem dX3_ended_95 : decode cX3_ended 95 = .ok (.iaload, 1) := by decide +kernel
theorem dX3_ended_96 : decode cX3_ended 96 = .ok (.aload_n 0, 1) := by decide +kernel
theorem dX3_ended_97 : decode cX3_ended 97 = .ok (.getfield 13, 3) := by decide +kernel
theorem dX3_ended_100 : decode cX3_ended 100 = .ok (.iconst 4, 1) := by decide +kernel
theorem dX3_ended_101 : decode cX3_ended 101 = .ok (.iaload, 1) := by decide +kernel
theorem dX3_ended_102 : decode cX3_ended 102 = .ok (.isub, 1) := by decide +kernel
theorem dX3_ended_103 : decode cX3_ended 103 = .ok (.goto 9, 3) := by decide +kernel
theorem dX3_ended_106 : decode cX3_ended 106 = .ok (.aload_n 0, 1) := by decide +kernel
theorem dX3_ended_107 : decode cX3_ended 107 = .ok (.iload_n 3, 1) := by decide +kernel
theorem dX3_ended_108 : decode cX3_ended 108 = .ok (.iconst 0, 1) := by decide +kernel
theorem dX3_ended_109 : decode cX3_ended 109 = .ok (.invokevirtual 50, 3) := by decide +kernel
theorem dX3_ended_112 : decode cX3_ended 112 = .ok (.istore 4, 2) := by decide +kernel
theorem dX3_ended_114 : decode cX3_ended 114 = .ok (.aload_n 0, 1) := by decide +kernel
theorem dX3_ended_115 : decode cX3_ended 115 = .ok (.getfield 13, 3) := by decide +kernel
theorem dX3_ended_118 : decode cX3_ended 118 = .ok (.iconst 0, 1) := by decide +kernel
theorem dX3_ended_119 : decode cX3_ended 119 = .ok (.aload_n 0, 1) := by decide +kernel
theorem dX3_ended_120 : decode cX3_ended 120 = .ok (.getfield 7, 3) := by decide +kernel
theorem dX3_ended_123 : decode cX3_ended 123 = .ok (.iconst 0, 1) := by decide +kernel
theorem dX3_ended_124 : decode cX3_ended 124 = .ok (.invokestatic 35, 3) := by decide +kernel
theorem dX3_ended_127 : decode cX3_ended 127 = .ok (.iload 4, 2) := by decide +kernel
theorem dX3_ended_129 : decode cX3_ended 129 = .ok (.ireturn, 1) := by decide +kernel
theorem eX3_ended_0 {d : Nat} {a0 a2 a3 a4 : Value} {x : Int32} {st : List Value} {hp : qzH} : qzV d 143 0 [a0, .int x, a2, a3, a4] (st) hp = qzV d 143 1 [a0, .int x, a2, a3, a4] (.int x :: st) hp := qv_iload (i := 1) mdc_143 dX3_ended_0 rfl rfl rfl
theorem eX3_ended_1 {d : Nat} {a0 a1 a2 a3 a4 : Value} {st : List Value} {hp : qzH} : qzV d 143 1 [a0, a1, a2, a3, a4] (st) hp = qzV d 143 2 [a0, a1, a2, a3, a4] (.int 0 :: st) hp := qv_iconst mdc_143 dX3_ended_1 il_0 rfl
theorem eX3_ended_2 {d : Nat} {a0 a1 a2 a3 a4 : Value} {st : List Value} {hp : qzH} : qzV d 143 2 [a0, a1, a2, a3, a4] (st) hp = qzV d 143 3 [a0, a1, a2, a3, a4] (.int 1 :: st) hp := qv_iconst mdc_143 dX3_ended_2 il_1 rfl
theorem eX3_ended_3 {d : Nat} {a0 a1 a2 a3 a4 : Value} {w0 w1 w2 : Value} {st : List Value} {hp : qzH} (h8 : st.length ≤ 8) : qzV (d + 1) 143 3 [a0, a1, a2, a3, a4] (w2 :: w1 :: w0 :: st) hp = (qzC d 87 [w0, w1, w2] hp).bind (fun r => qzV (d + 1) 143 6 [a0, a1, a2, a3, a4] (r.1.toList ++ st) r.2) := qv_calls (n := 3) mdc_143 dX3_ended_3 mdo_143 (by decide) qfc_3_62 ⟨rfl, by decide, rfl⟩ rfl ⟨rfl, rfl, by simp only [List.length_cons]; omega⟩ h8
theorem eX3_ended_6 {d : Nat} {a0 a1 a2 a3 a4 : Value} {x : Int32} {st : List Value} {hp : qzH} : qzV d 143 6 [a0, a1, a2, a3, a4] (.int x :: st) hp = if x = 0 then qzV d 143 27 [a0, a1, a2, a3, a4] (st) hp else qzV d 143 9 [a0, a1, a2, a3, a4] (st) hp := qv_if1 mdc_143 dX3_ended_6 rfl rfl rfl
theorem eX3_ended_9 {d : Nat} {a0 a1 a3 a4 : Value} {x : Int32} {st : List Value} {hp : qzH} : qzV d 143 9 [a0, a1, .int x, a3, a4] (st) hp = qzV d 143 10 [a0, a1, .int x, a3, a4] (.int x :: st) hp := qv_iload (i := 2) mdc_143 dX3_ended_9 rfl rfl rfl
theorem eX3_ended_10 {d : Nat} {a0 a1 a2 a3 a4 : Value} {st : List Value} {hp : qzH} : qzV d 143 10 [a0, a1, a2, a3, a4] (st) hp = qzV d 143 11 [a0, a1, a2, a3, a4] (.int 0 :: st) hp := qv_iconst mdc_143 dX3_ended_10 il_0 rfl
theorem eX3_ended_11 {d : Nat} {a0 a1 a2 a3 a4 : Value} {st : List Value} {hp : qzH} : qzV d 143 11 [a0, a1, a2, a3, a4] (st) hp = qzV d 143 12 [a0, a1, a2, a3, a4] (.int 1 :: st) hp := qv_iconst mdc_143 dX3_ended_11 il_1 rfl
theorem eX3_ended_12 {d : Nat} {a0 a1 a2 a3 a4 : Value} {w0 w1 w2 : Value} {st : List Value} {hp : qzH} (h8 : st.length ≤ 8) : qzV (d + 1) 143 12 [a0, a1, a2, a3, a4] (w2 :: w1 :: w0 :: st) hp = (qzC d 87 [w0, w1, w2] hp).bind (fun r => qzV (d + 1) 143 15 [a0, a1, a2, a3, a4] (r.1.toList ++ st) r.2) := qv_calls (n := 3) mdc_143 dX3_ended_12 mdo_143 (by decide) qfc_3_62 ⟨rfl, by decide, rfl⟩ rfl ⟨rfl, rfl, by simp only [List.length_cons]; omega⟩ h8
theorem eX3_ended_15 {d : Nat} {a0 a1 a2 a3 a4 : Value} {x : Int32} {st : List Value} {hp : qzH} : qzV d 143 15 [a0, a1, a2, a3, a4] (.int x :: st) hp = if x = 0 then qzV d 143 27 [a0, a1, a2, a3, a4] (st) hp else qzV d 143 18 [a0, a1, a2, a3, a4] (st) hp := qv_if1 mdc_143 dX3_ended_15 rfl rfl rfl
theorem eX3_ended_18 {d : Nat} {a0 a1 a2 a4 : Value} {x : Int32} {st : List Value} {hp : qzH} : qzV d 143 18 [a0, a1, a2, .int x, a4] (st) hp = qzV d 143 19 [a0, a1, a2, .int x, a4] (.int x :: st) hp := qv_iload (i := 3) mdc_143 dX3_ended_18 rfl rfl rfl
theorem eX3_ended_19 {d : Nat} {a0 a1 a2 a3 a4 : Value} {st : List Value} {hp : qzH} : qzV d 143 19 [a0, a1, a2, a3, a4] (st) hp = qzV d 143 20 [a0, a1, a2, a3, a4] (.int 0 :: st) hp := qv_iconst mdc_143 dX3_ended_19 il_0 rfl
theorem eX3_ended_20 {d : Nat} {a0 a1 a2 a3 a4 : Value} {st : List Value} {hp : qzH} : qzV d 143 20 [a0, a1, a2, a3, a4] (st) hp = qzV d 143 21 [a0, a1, a2, a3, a4] (.int 2 :: st) hp := qv_iconst mdc_143 dX3_ended_20 il_2 rfl
theorem eX3_ended_21 {d : Nat} {a0 a1 a2 a3 a4 : Value} {w0 w1 w2 : Value} {st : List Value} {hp : qzH} (h8 : st.length ≤ 8) : qzV (d + 1) 143 21 [a0, a1, a2, a3, a4] (w2 :: w1 :: w0 :: st) hp = (qzC d 87 [w0, w1, w2] hp).bind (fun r => qzV (d + 1) 143 24 [a0, a1, a2, a3, a4] (r.1.toList ++ st) r.2) := qv_calls (n := 3) mdc_143 dX3_ended_21 mdo_143 (by decide) qfc_3_62 ⟨rfl, by decide, rfl⟩ rfl ⟨rfl, rfl, by simp only [List.length_cons]; omega⟩ h8
theorem eX3_ended_24 {d : Nat} {a0 a1 a2 a3 a4 : Value} {x : Int32} {st : List Value} {hp : qzH} : qzV d 143 24 [a0, a1, a2, a3, a4] (.int x :: st) hp = if ¬ x = 0 then qzV d 143 29 [a0, a1, a2, a3, a4] (st) hp else qzV d 143 27 [a0, a1, a2, a3, a4] (st) hp := qv_if1 mdc_143 dX3_ended_24 rfl rfl rfl
theorem eX3_ended_27 {d : Nat} {a0 a1 a2 a3 a4 : Value} {st : List Value} {hp : qzH} : qzV d 143 27 [a0, a1, a2, a3, a4] (st) hp = qzV d 143 28 [a0, a1, a2, a3, a4] (.int (-1) :: st) hp := qv_iconst mdc_143 dX3_ended_27 il_m1 rfl
theorem eX3_ended_28 {d : Nat} {a0 a1 a2 a3 a4 : Value} {v : Int32} {hp : qzH} : qzV d 143 28 [a0, a1, a2, a3, a4] [.int v] hp = some (some (.int v), hp) := qv_iret mdc_143 dX3_ended_28 mdr_143 rfl
theorem eX3_ended_29 {d : Nat} {a1 a2 a3 a4 : Value} {x : Nat} {st : List Value} {hp : qzH} : qzV d 143 29 [.ref x, a1, a2, a3, a4] (st) hp = qzV d 143 30 [.ref x, a1, a2, a3, a4] (.ref x :: st) hp := qv_aload (i := 0) mdc_143 dX3_ended_29 rfl rfl rfl
theorem eX3_ended_30 {d : Nat} {a0 a1 a2 a3 a4 : Value} {b : Nat} {st : List Value} {hp : qzH} (h8 : st.length ≤ 8) (hb : qzArr 3 b hp.1 = true) : qzV (d + 1) 143 30 [a0, a1, a2, a3, a4] (.ref b :: st) hp = (qzC d 105 (.ref b :: []) hp).bind (fun r => qzV (d + 1) 143 33 [a0, a1, a2, a3, a4] (r.1.toList ++ st) r.2) := qv_callv (n := 0) mdc_143 dX3_ended_30 mdo_143 (by decide) qfc_3_110 ⟨rfl, by decide, rfl⟩ rfl ⟨rfl, rfl, by simp only [List.length_cons]; omega⟩ h8 hb
theorem eX3_ended_33 {d : Nat} {a1 a2 a3 a4 : Value} {x : Nat} {st : List Value} {hp : qzH} : qzV d 143 33 [.ref x, a1, a2, a3, a4] (st) hp = qzV d 143 34 [.ref x, a1, a2, a3, a4] (.ref x :: st) hp := qv_aload (i := 0) mdc_143 dX3_ended_33 rfl rfl rfl
theorem eX3_ended_34 {d : Nat} {a0 a1 a2 a3 a4 : Value} {a : Nat} {st : List Value} {hp : qzH} (ha : qzArr 3 a hp.1 = true) : qzV d 143 34 [a0, a1, a2, a3, a4] (.ref a :: st) hp = qzV d 143 37 [a0, a1, a2, a3, a4] (va_rf (hp.2.1 a 0) :: st) hp := qv_getR mdc_143 dX3_ended_34 mdo_143 qff_3_7 ⟨by decide, rfl⟩ rfl ha
theorem eX3_ended_37 {d : Nat} {a0 a1 a2 a3 a4 : Value} {st : List Value} {hp : qzH} : qzV d 143 37 [a0, a1, a2, a3, a4] (st) hp = qzV d 143 38 [a0, a1, a2, a3, a4] (.int 0 :: st) hp := qv_iconst mdc_143 dX3_ended_37 il_0 rfl
theorem eX3_ended_38 {d : Nat} {a1 a2 a3 a4 : Value} {x : Nat} {st : List Value} {hp : qzH} : qzV d 143 38 [.ref x, a1, a2, a3, a4] (st) hp = qzV d 143 39 [.ref x, a1, a2, a3, a4] (.ref x :: st) hp := qv_aload (i := 0) mdc_143 dX3_ended_38 rfl rfl rfl
theorem eX3_ended_39 {d : Nat} {a0 a1 a2 a3 a4 : Value} {a : Nat} {st : List Value} {hp : qzH} (ha : qzArr 3 a hp.1 = true) : qzV d 143 39 [a0, a1, a2, a3, a4] (.ref a :: st) hp = qzV d 143 42 [a0, a1, a2, a3, a4] (va_rf (hp.2.1 a 1) :: st) hp := qv_getR mdc_143 dX3_ended_39 mdo_143 qff_3_13 ⟨by decide, rfl⟩ rfl ha
theorem eX3_ended_42 {d : Nat} {a0 a1 a2 a3 a4 : Value} {st : List Value} {hp : qzH} : qzV d 143 42 [a0, a1, a2, a3, a4] (st) hp = qzV d 143 43 [a0, a1, a2, a3, a4] (.int 0 :: st) hp := qv_iconst mdc_143 dX3_ended_42 il_0 rfl
theorem eX3_ended_43 {d : Nat} {a0 a1 a2 a3 a4 : Value} {w0 w1 w2 w3 : Value} {st : List Value} {hp : qzH} (h8 : st.length ≤ 8) : qzV (d + 1) 143 43 [a0, a1, a2, a3, a4] (w3 :: w2 :: w1 :: w0 :: st) hp = (qzC d 88 [w0, w1, w2, w3] hp).bind (fun r => qzV (d + 1) 143 46 [a0, a1, a2, a3, a4] (r.1.toList ++ st) r.2) := qv_calls (n := 4) mdc_143 dX3_ended_43 mdo_143 (by decide) qfc_3_35 ⟨rfl, by decide, rfl⟩ rfl ⟨rfl, rfl, by simp only [List.length_cons]; omega⟩ h8
theorem eX3_ended_46 {d : Nat} {a1 a2 a3 a4 : Value} {x : Nat} {st : List Value} {hp : qzH} : qzV d 143 46 [.ref x, a1, a2, a3, a4] (st) hp = qzV d 143 47 [.ref x, a1, a2, a3, a4] (.ref x :: st) hp := qv_aload (i := 0) mdc_143 dX3_ended_46 rfl rfl rfl
theorem eX3_ended_47 {d : Nat} {a0 a1 a2 a3 a4 : Value} {b : Nat} {st : List Value} {hp : qzH} (h8 : st.length ≤ 8) (hb : qzArr 3 b hp.1 = true) : qzV (d + 1) 143 47 [a0, a1, a2, a3, a4] (.ref b :: st) hp = (qzC d 93 (.ref b :: []) hp).bind (fun r => qzV (d + 1) 143 50 [a0, a1, a2, a3, a4] (r.1.toList ++ st) r.2) := qv_callv (n := 0) mdc_143 dX3_ended_47 mdo_143 (by decide) qfc_3_106 ⟨rfl, by decide, rfl⟩ rfl ⟨rfl, rfl, by simp only [List.length_cons]; omega⟩ h8 hb
theorem eX3_ended_50 {d : Nat} {a0 a1 a2 a3 a4 : Value} {x : Int32} {st : List Value} {hp : qzH} : qzV d 143 50 [a0, a1, a2, a3, a4] (.int x :: st) hp = if ¬ x = 0 then qzV d 143 85 [a0, a1, a2, a3, a4] (st) hp else qzV d 143 53 [a0, a1, a2, a3, a4] (st) hp := qv_if1 mdc_143 dX3_ended_50 rfl rfl rfl
theorem eX3_ended_53 {d : Nat} {a1 a2 a3 a4 : Value} {x : Nat} {st : List Value} {hp : qzH} : qzV d 143 53 [.ref x, a1, a2, a3, a4] (st) hp = qzV d 143 54 [.ref x, a1, a2, a3, a4] (.ref x :: st) hp := qv_aload (i := 0) mdc_143 dX3_ended_53 rfl rfl rfl
theorem eX3_ended_54 {d : Nat} {a1 a2 a3 a4 : Value} {x : Nat} {st : List Value} {hp : qzH} : qzV d 143 54 [.ref x, a1, a2, a3, a4] (st) hp = qzV d 143 55 [.ref x, a1, a2, a3, a4] (.ref x :: st) hp := qv_aload (i := 0) mdc_143 dX3_ended_54 rfl rfl rfl
theorem eX3_ended_55 {d : Nat} {a0 a1 a2 a3 a4 : Value} {a : Nat} {st : List Value} {hp : qzH} (ha : qzArr 3 a hp.1 = true) : qzV d 143 55 [a0, a1, a2, a3, a4] (.ref a :: st) hp = qzV d 143 58 [a0, a1, a2, a3, a4] (va_rf (hp.2.1 a 0) :: st) hp := qv_getR mdc_143 dX3_ended_55 mdo_143 qff_3_7 ⟨by decide, rfl⟩ rfl ha
theorem eX3_ended_58 {d : Nat} {a0 a1 a2 a3 a4 : Value} {st : List Value} {hp : qzH} : qzV d 143 58 [a0, a1, a2, a3, a4] (st) hp = qzV d 143 59 [a0, a1, a2, a3, a4] (.int 3 :: st) hp := qv_iconst mdc_143 dX3_ended_58 il_3 rfl
theorem eX3_ended_59 {d : Nat} {a0 a1 a2 a3 a4 : Value} {i : Int32} {a : Nat} {st : List Value} {hp : qzH} (ha : qzArr 4 a hp.1 = true) (hi : qzIn i (qzk a).2 = true) : qzV d 143 59 [a0, a1, a2, a3, a4] (.int i :: .ref a :: st) hp = qzV d 143 60 [a0, a1, a2, a3, a4] (.int (hp.2.2 a i.toNatClampNeg) :: st) hp := qv_iald mdc_143 dX3_ended_59 rfl ha hi
theorem eX3_ended_60 {d : Nat} {a0 a1 a2 a3 a4 : Value} {x : Int32} {st : List Value} {hp : qzH} : qzV d 143 60 [a0, a1, a2, a3, a4] (.int x :: st) hp = if ¬ x = 0 then qzV d 143 67 [a0, a1, a2, a3, a4] (st) hp else qzV d 143 63 [a0, a1, a2, a3, a4] (st) hp := qv_if1 mdc_143 dX3_ended_60 rfl rfl rfl
theorem eX3_ended_63 {d : Nat} {a0 a2 a3 a4 : Value} {x : Int32} {st : List Value} {hp : qzH} : qzV d 143 63 [a0, .int x, a2, a3, a4] (st) hp = qzV d 143 64 [a0, .int x, a2, a3, a4] (.int x :: st) hp := qv_iload (i := 1) mdc_143 dX3_ended_63 rfl rfl rfl
theorem eX3_ended_64 {d : Nat} {a0 a1 a2 a3 a4 : Value} {st : List Value} {hp : qzH} : qzV d 143 64 [a0, a1, a2, a3, a4] (st) hp = qzV d 143 68 [a0, a1, a2, a3, a4] (st) hp := qv_goto mdc_143 dX3_ended_64 rfl
theorem eX3_ended_67 {d : Nat} {a0 a1 a3 a4 : Value} {x : Int32} {st : List Value} {hp : qzH} : qzV d 143 67 [a0, a1, .int x, a3, a4] (st) hp = qzV d 143 68 [a0, a1, .int x, a3, a4] (.int x :: st) hp := qv_iload (i := 2) mdc_143 dX3_ended_67 rfl rfl rfl
theorem eX3_ended_68 {d : Nat} {a0 a1 a2 a3 a4 : Value} {st : List Value} {hp : qzH} : qzV d 143 68 [a0, a1, a2, a3, a4] (st) hp = qzV d 143 69 [a0, a1, a2, a3, a4] (.int 1 :: st) hp := qv_iconst mdc_143 dX3_ended_68 il_1 rfl
theorem eX3_ended_69 {d : Nat} {a0 a1 a2 a3 a4 : Value} {x y : Int32} {st : List Value} {hp : qzH} : qzV d 143 69 [a0, a1, a2, a3, a4] (.int y :: .int x :: st) hp = if ¬ x = y then qzV d 143 76 [a0, a1, a2, a3, a4] (st) hp else qzV d 143 72 [a0, a1, a2, a3, a4] (st) hp := qv_if2 mdc_143 dX3_ended_69 rfl rfl rfl
theorem eX3_ended_72 {d : Nat} {a0 a1 a2 a3 a4 : Value} {st : List Value} {hp : qzH} : qzV d 143 72 [a0, a1, a2, a3, a4] (st) hp = qzV d 143 73 [a0, a1, a2, a3, a4] (.int 1 :: st) hp := qv_iconst mdc_143 dX3_ended_72 il_1 rfl
theorem eX3_ended_73 {d : Nat} {a0 a1 a2 a3 a4 : Value} {st : List Value} {hp : qzH} : qzV d 143 73 [a0, a1, a2, a3, a4] (st) hp = qzV d 143 77 [a0, a1, a2, a3, a4] (st) hp := qv_goto mdc_143 dX3_ended_73 rfl
theorem eX3_ended_76 {d : Nat} {a0 a1 a2 a3 a4 : Value} {st : List Value} {hp : qzH} : qzV d 143 76 [a0, a1, a2, a3, a4] (st) hp = qzV d 143 77 [a0, a1, a2, a3, a4] (.int 0 :: st) hp := qv_iconst mdc_143 dX3_ended_76 il_0 rfl
theorem eX3_ended_77 {d : Nat} {a0 a1 a2 a3 a4 : Value} {w0 : Value} {b : Nat} {st : List Value} {hp : qzH} (h8 : st.length ≤ 8) (hb : qzArr 3 b hp.1 = true) : qzV (d + 1) 143 77 [a0, a1, a2, a3, a4] (w0 :: .ref b :: st) hp = (qzC d 109 (.ref b :: [w0]) hp).bind (fun r => qzV (d + 1) 143 80 [a0, a1, a2, a3, a4] (r.1.toList ++ st) r.2) := qv_callv (n := 1) mdc_143 dX3_ended_77 mdo_143 (by decide) qfc_3_113 ⟨rfl, by decide, rfl⟩ rfl ⟨rfl, rfl, by simp only [List.length_cons]; omega⟩ h8 hb
theorem eX3_ended_80 {d : Nat} {a0 a1 a2 a3 a4 : Value} {x : Int32} {st : List Value} {hp : qzH} : qzV d 143 80 [a0, a1, a2, a3, a4] (.int x :: st) hp = qzV d 143 82 [a0, a1, a2, a3, .int x] (st) hp := qv_istore (i := 4) mdc_143 dX3_ended_80 rfl (Nat.le_of_ble_eq_true rfl) rfl rfl
theorem eX3_ended_82 {d : Nat} {a0 a1 a2 a3 a4 : Value} {st : List Value} {hp : qzH} : qzV d 143 82 [a0, a1, a2, a3, a4] (st) hp = qzV d 143 46 [a0, a1, a2, a3, a4] (st) hp := qv_goto mdc_143 dX3_ended_82 rfl
theorem eX3_ended_85 {d : Nat} {a0 a1 a2 a4 : Value} {x : Int32} {st : List Value} {hp : qzH} : qzV d 143 85 [a0, a1, a2, .int x, a4] (st) hp = qzV d 143 86 [a0, a1, a2, .int x, a4] (.int x :: st) hp := qv_iload (i := 3) mdc_143 dX3_ended_85 rfl rfl rfl
theorem eX3_ended_86 {d : Nat} {a0 a1 a2 a3 a4 : Value} {st : List Value} {hp : qzH} : qzV d 143 86 [a0, a1, a2, a3, a4] (st) hp = qzV d 143 87 [a0, a1, a2, a3, a4] (.int 2 :: st) hp := qv_iconst mdc_143 dX3_ended_86 il_2 rfl
theorem eX3_ended_87 {d : Nat} {a0 a1 a2 a3 a4 : Value} {x y : Int32} {st : List Value} {hp : qzH} : qzV d 143 87 [a0, a1, a2, a3, a4] (.int y :: .int x :: st) hp = if ¬ x = y then qzV d 143 106 [a0, a1, a2, a3, a4] (st) hp else qzV d 143 90 [a0, a1, a2, a3, a4] (st) hp := qv_if2 mdc_143 dX3_ended_87 rfl rfl rfl
theorem eX3_ended_90 {d : Nat} {a1 a2 a3 a4 : Value} {x : Nat} {st : List Value} {hp : qzH} : qzV d 143 90 [.ref x, a1, a2, a3, a4] (st) hp = qzV d 143 91 [.ref x, a1, a2, a3, a4] (.ref x :: st) hp := qv_aload (i := 0) mdc_143 dX3_ended_90 rfl rfl rfl
theorem eX3_ended_91 {d : Nat} {a0 a1 a2 a3 a4 : Value} {a : Nat} {st : List Value} {hp : qzH} (ha : qzArr 3 a hp.1 = true) : qzV d 143 91 [a0, a1, a2, a3, a4] (.ref a :: st) hp = qzV d 143 94 [a0, a1, a2, a3, a4] (va_rf (hp.2.1 a 0) :: st) hp := qv_getR mdc_143 dX3_ended_91 mdo_143 qff_3_7 ⟨by decide, rfl⟩ rfl ha
theorem eX3_ended_94 {d : Nat} {a0 a1 a2 a3 a4 : Value} {st : List Value} {hp : qzH} : qzV d 143 94 [a0, a1, a2, a3, a4] (st) hp = qzV d 143 95 [a0, a1, a2, a3, a4] (.int 4 :: st) hp := qv_iconst mdc_143 dX3_ended_94 il_4 rfl
theorem eX3_ended_95 {d : Nat} {a0 a1 a2 a3 a4 : Value} {i : Int32} {a : Nat} {st : List Value} {hp : qzH} (ha : qzArr 4 a hp.1 = true) (hi : qzIn i (qzk a).2 = true) : qzV d 143 95 [a0, a1, a2, a3, a4] (.int i :: .ref a :: st) hp = qzV d 143 96 [a0, a1, a2, a3, a4] (.int (hp.2.2 a i.toNatClampNeg) :: st) hp := qv_iald mdc_143 dX3_ended_95 rfl ha hi
theorem eX3_ended_96 {d : Nat} {a1 a2 a3 a4 : Value} {x : Nat} {st : List Value} {hp : qzH} : qzV d 143 96 [.ref x, a1, a2, a3, a4] (st) hp = qzV d 143 97 [.ref x, a1, a2, a3, a4] (.ref x :: st) hp := qv_aload (i := 0) mdc_143 dX3_ended_96 rfl rfl rfl
theorem eX3_ended_97 {d : Nat} {a0 a1 a2 a3 a4 : Value} {a : Nat} {st : List Value} {hp : qzH} (ha : qzArr 3 a hp.1 = true) : qzV d 143 97 [a0, a1, a2, a3, a4] (.ref a :: st) hp = qzV d 143 100 [a0, a1, a2, a3, a4] (va_rf (hp.2.1 a 1) :: st) hp := qv_getR mdc_143 dX3_ended_97 mdo_143 qff_3_13 ⟨by decide, rfl⟩ rfl ha
theorem eX3_ended_100 {d : Nat} {a0 a1 a2 a3 a4 : Value} {st : List Value} {hp : qzH} : qzV d 143 100 [a0, a1, a2, a3, a4] (st) hp = qzV d 143 101 [a0, a1, a2, a3, a4] (.int 4 :: st) hp := qv_iconst mdc_143 dX3_ended_100 il_4 rfl
theorem eX3_ended_101 {d : Nat} {a0 a1 a2 a3 a4 : Value} {i : Int32} {a : Nat} {st : List Value} {hp : qzH} (ha : qzArr 4 a hp.1 = true) (hi : qzIn i (qzk a).2 = true) : qzV d 143 101 [a0, a1, a2, a3, a4] (.int i :: .ref a :: st) hp = qzV d 143 102 [a0, a1, a2, a3, a4] (.int (hp.2.2 a i.toNatClampNeg) :: st) hp := qv_iald mdc_143 dX3_ended_101 rfl ha hi
theorem eX3_ended_102 {d : Nat} {a0 a1 a2 a3 a4 : Value} {x y : Int32} {st : List Value} {hp : qzH} : qzV d 143 102 [a0, a1, a2, a3, a4] (.int y :: .int x :: st) hp = qzV d 143 103 [a0, a1, a2, a3, a4] (.int (x - y) :: st) hp := qv_bin (f := fun x y => x - y) mdc_143 dX3_ended_102 rfl rfl
theorem eX3_ended_103 {d : Nat} {a0 a1 a2 a3 a4 : Value} {st : List Value} {hp : qzH} : qzV d 143 103 [a0, a1, a2, a3, a4] (st) hp = qzV d 143 112 [a0, a1, a2, a3, a4] (st) hp := qv_goto mdc_143 dX3_ended_103 rfl
theorem eX3_ended_106 {d : Nat} {a1 a2 a3 a4 : Value} {x : Nat} {st : List Value} {hp : qzH} : qzV d 143 106 [.ref x, a1, a2, a3, a4] (st) hp = qzV d 143 107 [.ref x, a1, a2, a3, a4] (.ref x :: st) hp := qv_aload (i := 0) mdc_143 dX3_ended_106 rfl rfl rfl
theorem eX3_ended_107 {d : Nat} {a0 a1 a2 a4 : Value} {x : Int32} {st : List Value} {hp : qzH} : qzV d 143 107 [a0, a1, a2, .int x, a4] (st) hp = qzV d 143 108 [a0, a1, a2, .int x, a4] (.int x :: st) hp := qv_iload (i := 3) mdc_143 dX3_ended_107 rfl rfl rfl
theorem eX3_ended_108 {d : Nat} {a0 a1 a2 a3 a4 : Value} {st : List Value} {hp : qzH} : qzV d 143 108 [a0, a1, a2, a3, a4] (st) hp = qzV d 143 109 [a0, a1, a2, a3, a4] (.int 0 :: st) hp := qv_iconst mdc_143 dX3_ended_108 il_0 rfl
theorem eX3_ended_109 {d : Nat} {a0 a1 a2 a3 a4 : Value} {w0 w1 : Value} {b : Nat} {st : List Value} {hp : qzH} (h8 : st.length ≤ 8) (hb : qzArr 3 b hp.1 = true) : qzV (d + 1) 143 109 [a0, a1, a2, a3, a4] (w1 :: w0 :: .ref b :: st) hp = (qzC d 91 (.ref b :: [w0, w1]) hp).bind (fun r => qzV (d + 1) 143 112 [a0, a1, a2, a3, a4] (r.1.toList ++ st) r.2) := qv_callv (n := 2) mdc_143 dX3_ended_109 mdo_143 (by decide) qfc_3_50 ⟨rfl, by decide, rfl⟩ rfl ⟨rfl, rfl, by simp only [List.length_cons]; omega⟩ h8 hb
theorem eX3_ended_112 {d : Nat} {a0 a1 a2 a3 a4 : Value} {x : Int32} {st : List Value} {hp : qzH} : qzV d 143 112 [a0, a1, a2, a3, a4] (.int x :: st) hp = qzV d 143 114 [a0, a1, a2, a3, .int x] (st) hp := qv_istore (i := 4) mdc_143 dX3_ended_112 rfl (Nat.le_of_ble_eq_true rfl) rfl rfl
theorem eX3_ended_114 {d : Nat} {a1 a2 a3 a4 : Value} {x : Nat} {st : List Value} {hp : qzH} : qzV d 143 114 [.ref x, a1, a2, a3, a4] (st) hp = qzV d 143 115 [.ref x, a1, a2, a3, a4] (.ref x :: st) hp := qv_aload (i := 0) mdc_143 dX3_ended_114 rfl rfl rfl
theorem eX3_ended_115 {d : Nat} {a0 a1 a2 a3 a4 : Value} {a : Nat} {st : List Value} {hp : qzH} (ha : qzArr 3 a hp.1 = true) : qzV d 143 115 [a0, a1, a2, a3, a4] (.ref a :: st) hp = qzV d 143 118 [a0, a1, a2, a3, a4] (va_rf (hp.2.1 a 1) :: st) hp := qv_getR mdc_143 dX3_ended_115 mdo_143 qff_3_13 ⟨by decide, rfl⟩ rfl ha
theorem eX3_ended_118 {d : Nat} {a0 a1 a2 a3 a4 : Value} {st : List Value} {hp : qzH} : qzV d 143 118 [a0, a1, a2, a3, a4] (st) hp = qzV d 143 119 [a0, a1, a2, a3, a4] (.int 0 :: st) hp := qv_iconst mdc_143 dX3_ended_118 il_0 rfl
theorem eX3_ended_119 {d : Nat} {a1 a2 a3 a4 : Value} {x : Nat} {st : List Value} {hp : qzH} : qzV d 143 119 [.ref x, a1, a2, a3, a4] (st) hp = qzV d 143 120 [.ref x, a1, a2, a3, a4] (.ref x :: st) hp := qv_aload (i := 0) mdc_143 dX3_ended_119 rfl rfl rfl
theorem eX3_ended_120 {d : Nat} {a0 a1 a2 a3 a4 : Value} {a : Nat} {st : List Value} {hp : qzH} (ha : qzArr 3 a hp.1 = true) : qzV d 143 120 [a0, a1, a2, a3, a4] (.ref a :: st) hp = qzV d 143 123 [a0, a1, a2, a3, a4] (va_rf (hp.2.1 a 0) :: st) hp := qv_getR mdc_143 dX3_ended_120 mdo_143 qff_3_7 ⟨by decide, rfl⟩ rfl ha
theorem eX3_ended_123 {d : Nat} {a0 a1 a2 a3 a4 : Value} {st : List Value} {hp : qzH} : qzV d 143 123 [a0, a1, a2, a3, a4] (st) hp = qzV d 143 124 [a0, a1, a2, a3, a4] (.int 0 :: st) hp := qv_iconst mdc_143 dX3_ended_123 il_0 rfl
theorem eX3_ended_124 {d : Nat} {a0 a1 a2 a3 a4 : Value} {w0 w1 w2 w3 : Value} {st : List Value} {hp : qzH} (h8 : st.length ≤ 8) : qzV (d + 1) 143 124 [a0, a1, a2, a3, a4] (w3 :: w2 :: w1 :: w0 :: st) hp = (qzC d 88 [w0, w1, w2, w3] hp).bind (fun r => qzV (d + 1) 143 127 [a0, a1, a2, a3, a4] (r.1.toList ++ st) r.2) := qv_calls (n := 4) mdc_143 dX3_ended_124 mdo_143 (by decide) qfc_3_35 ⟨rfl, by decide, rfl⟩ rfl ⟨rfl, rfl, by simp only [List.length_cons]; omega⟩ h8
theorem eX3_ended_127 {d : Nat} {a0 a1 a2 a3 : Value} {x : Int32} {st : List Value} {hp : qzH} : qzV d 143 127 [a0, a1, a2, a3, .int x] (st) hp = qzV d 143 129 [a0, a1, a2, a3, .int x] (.int x :: st) hp := qv_iload (i := 4) mdc_143 dX3_ended_127 rfl rfl rfl
theorem eX3_ended_129 {d : Nat} {a0 a1 a2 a3 a4 : Value} {v : Int32} {hp : qzH} : qzV d 143 129 [a0, a1, a2, a3, a4] [.int v] hp = some (some (.int v), hp) := qv_iret mdc_143 dX3_ended_129 mdr_143 rfl
theorem dX3_undo_0 : decode cX3_undo 0 = .ok (.aload_n 0, 1) := by decide +kernel
theorem dX3_undo_1 : decode cX3_undo 1 = .ok (.getfield 31, 3) := by decide +kernel
theorem dX3_undo_4 : decode cX3_undo 4 = .ok (.ifCond .ne 6, 3) := by decide +kernel
theorem dX3_undo_7 : decode cX3_undo 7 = .ok (.bipush (-2), 2) := by decide +kernel
theorem dX3_undo_9 : decode cX3_undo 9 = .ok (.ireturn, 1) := by decide +kernel
theorem dX3_undo_10 : decode cX3_undo 10 = .ok (.aload_n 0, 1) := by decide +kernel
theorem dX3_undo_11 : decode cX3_undo 11 = .ok (.dup, 1) := by decide +kernel
theorem dX3_undo_12 : decode cX3_undo 12 = .ok (.getfield 31, 3) := by decide +kernel
theorem dX3_undo_15 : decode cX3_undo 15 = .ok (.iconst 1, 1) := by decide +kernel
theorem dX3_undo_16 : decode cX3_undo 16 = .ok (.isub, 1) := by decide +kernel
theorem dX3_undo_17 : decode cX3_undo 17 = .ok (.putfield 31, 3) := by decide +kernel
theorem dX3_undo_20 : decode cX3_undo 20 = .ok (.aload_n 0, 1) := by decide +kernel
theorem dX3_undo_21 : decode cX3_undo 21 = .ok (.getfield 16, 3) := by decide +kernel
theorem dX3_undo_24 : decode cX3_undo 24 = .ok (.bipush 120, 2) := by decide +kernel
theorem dX3_undo_26 : decode cX3_undo 26 = .ok (.aload_n 0, 1) := by decide +kernel
theorem dX3_undo_27 : decode cX3_undo 27 = .ok (.getfield 31, 3) := by decide +kernel
theorem dX3_undo_30 : decode cX3_undo 30 = .ok (.imul, 1) := by decide +kernel
theorem dX3_undo_31 : decode cX3_undo 31 = .ok (.aload_n 0, 1) := by decide +kernel
theorem dX3_undo_32 : decode cX3_undo 32 = .ok (.getfield 7, 3) := by decide +kernel
theorem dX3_undo_35 : decode cX3_undo 35 = .ok (.iconst 0, 1) := by decide +kernel
theorem dX3_undo_36 : decode cX3_undo 36 = .ok (.invokestatic 35, 3) := by decide +kernel
theorem dX3_undo_39 : decode cX3_undo 39 = .ok (.aload_n 0, 1) := by decide +kernel
theorem dX3_undo_40 : decode cX3_undo 40 = .ok (.getfield 31, 3) := by decide +kernel
theorem dX3_undo_43 : decode cX3_undo 43 = .ok (.ireturn, 1) := by decide +kernel
theorem eX3_undo_0 {d : Nat} {x : Nat} {st : List Value} {hp : qzH} : qzV d 145 0 [.ref x] (st) hp = qzV d 145 1 [.ref x] (.ref x :: st) hp := qv_aload (i := 0) mdc_145 dX3_undo_0 rfl rfl rfl
theorem eX3_undo_1 {d : Nat} {a0 : Value} {a : Nat} {st : List Value} {hp : qzH} (ha : qzArr 3 a hp.1 = true) : qzV d 145 1 [a0] (.ref a :: st) hp = qzV d 145 4 [a0] (.int (hp.2.2 a 3) :: st) hp := qv_getI mdc_145 dX3_undo_1 mdo_145 qff_3_31 ⟨by decide, rfl⟩ rfl ha
theorem eX3_undo_4 {d : Nat} {a0 : Value} {x : Int32} {st : List Value} {hp : qzH} : qzV d 145 4 [a0] (.int x :: st) hp = if ¬ x = 0 then qzV d 145 10 [a0] (st) hp else qzV d 145 7 [a0] (st) hp := qv_if1 mdc_145 dX3_undo_4 rfl rfl rfl
theorem eX3_undo_7 {d : Nat} {a0 : Value} {st : List Value} {hp : qzH} : qzV d 145 7 [a0] (st) hp = qzV d 145 9 [a0] (.int (-2) :: st) hp := qv_bipush mdc_145 dX3_undo_7 ib_m2 rfl
theorem eX3_undo_9 {d : Nat} {a0 : Value} {v : Int32} {hp : qzH} : qzV d 145 9 [a0] [.int v] hp = some (some (.int v), hp) := qv_iret mdc_145 dX3_undo_9 mdr_145 rfl
theorem eX3_undo_10 {d : Nat} {x : Nat} {st : List Value} {hp : qzH} : qzV d 145 10 [.ref x] (st) hp = qzV d 145 11 [.ref x] (.ref x :: st) hp := qv_aload (i := 0) mdc_145 dX3_undo_10 rfl rfl rfl
theorem eX3_undo_11 {d : Nat} {a0 : Value} {v : Value} {st : List Value} {hp : qzH} : qzV d 145 11 [a0] (v :: st) hp = qzV d 145 12 [a0] (v :: v :: st) hp := qv_dup mdc_145 dX3_undo_11 rfl
theorem eX3_undo_12 {d : Nat} {a0 : Value} {a : Nat} {st : List Value} {hp : qzH} (ha : qzArr 3 a hp.1 = true) : qzV d 145 12 [a0] (.ref a :: st) hp = qzV d 145 15 [a0] (.int (hp.2.2 a 3) :: st) hp := qv_getI mdc_145 dX3_undo_12 mdo_145 qff_3_31 ⟨by decide, rfl⟩ rfl ha
theorem eX3_undo_15 {d : Nat} {a0 : Value} {st : List Value} {hp : qzH} : qzV d 145 15 [a0] (st) hp = qzV d 145 16 [a0] (.int 1 :: st) hp := qv_iconst mdc_145 dX3_undo_15 il_1 rfl
theorem eX3_undo_16 {d : Nat} {a0 : Value} {x y : Int32} {st : List Value} {hp : qzH} : qzV d 145 16 [a0] (.int y :: .int x :: st) hp = qzV d 145 17 [a0] (.int (x - y) :: st) hp := qv_bin (f := fun x y => x - y) mdc_145 dX3_undo_16 rfl rfl
theorem eX3_undo_17 {d : Nat} {a0 : Value} {a : Nat} {x : Int32} {st : List Value} {hp : qzH} (ha : qzArr 3 a hp.1 = true) : qzV d 145 17 [a0] (.int x :: .ref a :: st) hp = qzV d 145 20 [a0] st (hp.1, hp.2.1, qzUp hp.2.2 a 3 x) := qv_putI mdc_145 dX3_undo_17 mdo_145 qff_3_31 ⟨by decide, rfl, rfl⟩ rfl ha ⟨rfl, rfl⟩
theorem eX3_undo_20 {d : Nat} {x : Nat} {st : List Value} {hp : qzH} : qzV d 145 20 [.ref x] (st) hp = qzV d 145 21 [.ref x] (.ref x :: st) hp := qv_aload (i := 0) mdc_145 dX3_undo_20 rfl rfl rfl
theorem eX3_undo_21 {d : Nat} {a0 : Value} {a : Nat} {st : List Value} {hp : qzH} (ha : qzArr 3 a hp.1 = true) : qzV d 145 21 [a0] (.ref a :: st) hp = qzV d 145 24 [a0] (va_rf (hp.2.1 a 2) :: st) hp := qv_getR mdc_145 dX3_undo_21 mdo_145 qff_3_16 ⟨by decide, rfl⟩ rfl ha
theorem eX3_undo_24 {d : Nat} {a0 : Value} {st : List Value} {hp : qzH} : qzV d 145 24 [a0] (st) hp = qzV d 145 26 [a0] (.int 120 :: st) hp := qv_bipush mdc_145 dX3_undo_24 ib_120 rfl
theorem eX3_undo_26 {d : Nat} {x : Nat} {st : List Value} {hp : qzH} : qzV d 145 26 [.ref x] (st) hp = qzV d 145 27 [.ref x] (.ref x :: st) hp := qv_aload (i := 0) mdc_145 dX3_undo_26 rfl rfl rfl
theorem eX3_undo_27 {d : Nat} {a0 : Value} {a : Nat} {st : List Value} {hp : qzH} (ha : qzArr 3 a hp.1 = true) : qzV d 145 27 [a0] (.ref a :: st) hp = qzV d 145 30 [a0] (.int (hp.2.2 a 3) :: st) hp := qv_getI mdc_145 dX3_undo_27 mdo_145 qff_3_31 ⟨by decide, rfl⟩ rfl ha
theorem eX3_undo_30 {d : Nat} {a0 : Value} {x y : Int32} {st : List Value} {hp : qzH} : qzV d 145 30 [a0] (.int y :: .int x :: st) hp = qzV d 145 31 [a0] (.int (x * y) :: st) hp := qv_bin (f := fun x y => x * y) mdc_145 dX3_undo_30 rfl rfl
theorem eX3_undo_31 {d : Nat} {x : Nat} {st : List Value} {hp : qzH} : qzV d 145 31 [.ref x] (st) hp = qzV d 145 32 [.ref x] (.ref x :: st) hp := qv_aload (i := 0) mdc_145 dX3_undo_31 rfl rfl rfl
theorem eX3_undo_32 {d : Nat} {a0 : Value} {a : Nat} {st : List Value} {hp : qzH} (ha : qzArr 3 a hp.1 = true) : qzV d 145 32 [a0] (.ref a :: st) hp = qzV d 145 35 [a0] (va_rf (hp.2.1 a 0) :: st) hp := qv_getR mdc_145 dX3_undo_32 mdo_145 qff_3_7 ⟨by decide, rfl⟩ rfl ha
theorem eX3_undo_35 {d : Nat} {a0 : Value} {st : List Value} {hp : qzH} : qzV d 145 35 [a0] (st) hp = qzV d 145 36 [a0] (.int 0 :: st) hp := qv_iconst mdc_145 dX3_undo_35 il_0 rfl
theorem eX3_undo_36 {d : Nat} {a0 : Value} {w0 w1 w2 w3 : Value} {st : List Value} {hp : qzH} (h8 : st.length ≤ 8) : qzV (d + 1) 145 36 [a0] (w3 :: w2 :: w1 :: w0 :: st) hp = (qzC d 88 [w0, w1, w2, w3] hp).bind (fun r => qzV (d + 1) 145 39 [a0] (r.1.toList ++ st) r.2) := qv_calls (n := 4) mdc_145 dX3_undo_36 mdo_145 (by decide) qfc_3_35 ⟨rfl, by decide, rfl⟩ rfl ⟨rfl, rfl, by simp only [List.length_cons]; omega⟩ h8
theorem eX3_undo_39 {d : Nat} {x : Nat} {st : List Value} {hp : qzH} : qzV d 145 39 [.ref x] (st) hp = qzV d 145 40 [.ref x] (.ref x :: st) hp := qv_aload (i := 0) mdc_145 dX3_undo_39 rfl rfl rfl
theorem eX3_undo_40 {d : Nat} {a0 : Value} {a : Nat} {st : List Value} {hp : qzH} (ha : qzArr 3 a hp.1 = true) : qzV d 145 40 [a0] (.ref a :: st) hp = qzV d 145 43 [a0] (.int (hp.2.2 a 3) :: st) hp := qv_getI mdc_145 dX3_undo_40 mdo_145 qff_3_31 ⟨by decide, rfl⟩ rfl ha
theorem eX3_undo_43 {d : Nat} {a0 : Value} {v : Int32} {hp : qzH} : qzV d 145 43 [a0] [.int v] hp = some (some (.int v), hp) := qv_iret mdc_145 dX3_undo_43 mdr_145 rfl
theorem dX3_save_0 : decode cX3_save 0 = .ok (.aload_n 0, 1) := by decide +kernel
theorem dX3_save_1 : decode cX3_save 1 = .ok (.getfield 7, 3) := by decide +kernel
theorem dX3_save_4 : decode cX3_save 4 = .ok (.iconst 0, 1) := by decide +kernel
theorem dX3_save_5 : decode cX3_save 5 = .ok (.aload_n 0, 1) := by decide +kernel
theorem dX3_save_6 : decode cX3_save 6 = .ok (.getfield 19, 3) := by decide +kernel
theorem dX3_save_9 : decode cX3_save 9 = .ok (.iconst 0, 1) := by decide +kernel
theorem dX3_save_10 : decode cX3_save 10 = .ok (.invokestatic 35, 3) := by decide +kernel
theorem dX3_save_13 : decode cX3_save 13 = .ok (.aload_n 0, 1) := by decide +kernel
theorem dX3_save_14 : decode cX3_save 14 = .ok (.iconst 1, 1) := by decide +kernel
theorem dX3_save_15 : decode cX3_save 15 = .ok (.putfield 176, 3) := by decide +kernel
theorem dX3_save_18 : decode cX3_save 18 = .ok (.aload_n 0, 1) := by decide +kernel
theorem dX3_save_19 : decode cX3_save 19 = .ok (.getfield 7, 3) := by decide +kernel
theorem dX3_save_22 : decode cX3_save 22 = .ok (.iconst 2, 1) := by decide +kernel
theorem dX3_save_23 : decode cX3_save 23 = .ok (.iaload, 1) := by decide +kernel
theorem dX3_save_24 : decode cX3_save 24 = .ok (.ireturn, 1) := by decide +kernel
theorem eX3_save_0 {d : Nat} {x : Nat} {st : List Value} {hp : qzH} : qzV d 146 0 [.ref x] (st) hp = qzV d 146 1 [.ref x] (.ref x :: st) hp := qv_aload (i := 0) mdc_146 dX3_save_0 rfl rfl rfl
theorem eX3_save_1 {d : Nat} {a0 : Value} {a : Nat} {st : List Value} {hp : qzH} (ha : qzArr 3 a hp.1 = true) : qzV d 146 1 [a0] (.ref a :: st) hp = qzV d 146 4 [a0] (va_rf (hp.2.1 a 0) :: st) hp := qv_getR mdc_146 dX3_save_1 mdo_146 qff_3_7 ⟨by decide, rfl⟩ rfl ha
theorem eX3_save_4 {d : Nat} {a0 : Value} {st : List Value} {hp : qzH} : qzV d 146 4 [a0] (st) hp = qzV d 146 5 [a0] (.int 0 :: st) hp := qv_iconst mdc_146 dX3_save_4 il_0 rfl
theorem eX3_save_5 {d : Nat} {x : Nat} {st : List Value} {hp : qzH} : qzV d 146 5 [.ref x] (st) hp = qzV d 146 6 [.ref x] (.ref x :: st) hp := qv_aload (i := 0) mdc_146 dX3_save_5 rfl rfl rfl
theorem eX3_save_6 {d : Nat} {a0 : Value} {a : Nat} {st : List Value} {hp : qzH} (ha : qzArr 3 a hp.1 = true) : qzV d 146 6 [a0] (.ref a :: st) hp = qzV d 146 9 [a0] (va_rf (hp.2.1 a 4) :: st) hp := qv_getR mdc_146 dX3_save_6 mdo_146 qff_3_19 ⟨by decide, rfl⟩ rfl ha
theorem eX3_save_9 {d : Nat} {a0 : Value} {st : List Value} {hp : qzH} : qzV d 146 9 [a0] (st) hp = qzV d 146 10 [a0] (.int 0 :: st) hp := qv_iconst mdc_146 dX3_save_9 il_0 rfl
theorem eX3_save_10 {d : Nat} {a0 : Value} {w0 w1 w2 w3 : Value} {st : List Value} {hp : qzH} (h8 : st.length ≤ 8) : qzV (d + 1) 146 10 [a0] (w3 :: w2 :: w1 :: w0 :: st) hp = (qzC d 88 [w0, w1, w2, w3] hp).bind (fun r => qzV (d + 1) 146 13 [a0] (r.1.toList ++ st) r.2) := qv_calls (n := 4) mdc_146 dX3_save_10 mdo_146 (by decide) qfc_3_35 ⟨rfl, by decide, rfl⟩ rfl ⟨rfl, rfl, by simp only [List.length_cons]; omega⟩ h8
theorem eX3_save_13 {d : Nat} {x : Nat} {st : List Value} {hp : qzH} : qzV d 146 13 [.ref x] (st) hp = qzV d 146 14 [.ref x] (.ref x :: st) hp := qv_aload (i := 0) mdc_146 dX3_save_13 rfl rfl rfl
theorem eX3_save_14 {d : Nat} {a0 : Value} {st : List Value} {hp : qzH} : qzV d 146 14 [a0] (st) hp = qzV d 146 15 [a0] (.int 1 :: st) hp := qv_iconst mdc_146 dX3_save_14 il_1 rfl
theorem eX3_save_15 {d : Nat} {a0 : Value} {a : Nat} {x : Int32} {st : List Value} {hp : qzH} (ha : qzArr 3 a hp.1 = true) (hb : narrow .boolean (.int x) = .int x ∧ fits .boolean (.int x) = true) : qzV d 146 15 [a0] (.int x :: .ref a :: st) hp = qzV d 146 18 [a0] st (hp.1, hp.2.1, qzUp hp.2.2 a 5 x) := qv_putI mdc_146 dX3_save_15 mdo_146 qff_3_176 ⟨by decide, rfl, rfl⟩ rfl ha hb
theorem eX3_save_18 {d : Nat} {x : Nat} {st : List Value} {hp : qzH} : qzV d 146 18 [.ref x] (st) hp = qzV d 146 19 [.ref x] (.ref x :: st) hp := qv_aload (i := 0) mdc_146 dX3_save_18 rfl rfl rfl
theorem eX3_save_19 {d : Nat} {a0 : Value} {a : Nat} {st : List Value} {hp : qzH} (ha : qzArr 3 a hp.1 = true) : qzV d 146 19 [a0] (.ref a :: st) hp = qzV d 146 22 [a0] (va_rf (hp.2.1 a 0) :: st) hp := qv_getR mdc_146 dX3_save_19 mdo_146 qff_3_7 ⟨by decide, rfl⟩ rfl ha
theorem eX3_save_22 {d : Nat} {a0 : Value} {st : List Value} {hp : qzH} : qzV d 146 22 [a0] (st) hp = qzV d 146 23 [a0] (.int 2 :: st) hp := qv_iconst mdc_146 dX3_save_22 il_2 rfl
theorem eX3_save_23 {d : Nat} {a0 : Value} {i : Int32} {a : Nat} {st : List Value} {hp : qzH} (ha : qzArr 4 a hp.1 = true) (hi : qzIn i (qzk a).2 = true) : qzV d 146 23 [a0] (.int i :: .ref a :: st) hp = qzV d 146 24 [a0] (.int (hp.2.2 a i.toNatClampNeg) :: st) hp := qv_iald mdc_146 dX3_save_23 rfl ha hi
theorem eX3_save_24 {d : Nat} {a0 : Value} {v : Int32} {hp : qzH} : qzV d 146 24 [a0] [.int v] hp = some (some (.int v), hp) := qv_iret mdc_146 dX3_save_24 mdr_146 rfl
theorem dX3_restore_0 : decode cX3_restore 0 = .ok (.aload_n 0, 1) := by decide +kernel
theorem dX3_restore_1 : decode cX3_restore 1 = .ok (.getfield 176, 3) := by decide +kernel
theorem dX3_restore_4 : decode cX3_restore 4 = .ok (.ifCond .ne 6, 3) := by decide +kernel
theorem dX3_restore_7 : decode cX3_restore 7 = .ok (.bipush (-2), 2) := by decide +kernel
theorem dX3_restore_9 : decode cX3_restore 9 = .ok (.ireturn, 1) := by decide +kernel
theorem dX3_restore_10 : decode cX3_restore 10 = .ok (.aload_n 0, 1) := by decide +kernel
theorem dX3_restore_11 : decode cX3_restore 11 = .ok (.invokevirtual 103, 3) := by decide +kernel
theorem dX3_restore_14 : decode cX3_restore 14 = .ok (.aload_n 0, 1) := by decide +kernel
theorem dX3_restore_15 : decode cX3_restore 15 = .ok (.getfield 19, 3) := by decide +kernel
theorem dX3_restore_18 : decode cX3_restore 18 = .ok (.iconst 0, 1) := by decide +kernel
theorem dX3_restore_19 : decode cX3_restore 19 = .ok (.aload_n 0, 1) := by decide +kernel
theorem dX3_restore_20 : decode cX3_restore 20 = .ok (.getfield 7, 3) := by decide +kernel
theorem dX3_restore_23 : decode cX3_restore 23 = .ok (.iconst 0, 1) := by decide +kernel
theorem dX3_restore_24 : decode cX3_restore 24 = .ok (.invokestatic 35, 3) := by decide +kernel
theorem dX3_restore_27 : decode cX3_restore 27 = .ok (.aload_n 0, 1) := by decide +kernel
theorem dX3_restore_28 : decode cX3_restore 28 = .ok (.getfield 7, 3) := by decide +kernel
theorem dX3_restore_31 : decode cX3_restore 31 = .ok (.iconst 2, 1) := by decide +kernel
theorem dX3_restore_32 : decode cX3_restore 32 = .ok (.iaload, 1) := by decide +kernel
theorem dX3_restore_33 : decode cX3_restore 33 = .ok (.ireturn, 1) := by decide +kernel
theorem eX3_restore_0 {d : Nat} {x : Nat} {st : List Value} {hp : qzH} : qzV d 147 0 [.ref x] (st) hp = qzV d 147 1 [.ref x] (.ref x :: st) hp := qv_aload (i := 0) mdc_147 dX3_restore_0 rfl rfl rfl
theorem eX3_restore_1 {d : Nat} {a0 : Value} {a : Nat} {st : List Value} {hp : qzH} (ha : qzArr 3 a hp.1 = true) : qzV d 147 1 [a0] (.ref a :: st) hp = qzV d 147 4 [a0] (.int (hp.2.2 a 5) :: st) hp := qv_getI mdc_147 dX3_restore_1 mdo_147 qff_3_176 ⟨by decide, rfl⟩ rfl ha
theorem eX3_restore_4 {d : Nat} {a0 : Value} {x : Int32} {st : List Value} {hp : qzH} : qzV d 147 4 [a0] (.int x :: st) hp = if ¬ x = 0 then qzV d 147 10 [a0] (st) hp else qzV d 147 7 [a0] (st) hp := qv_if1 mdc_147 dX3_restore_4 rfl rfl rfl
theorem eX3_restore_7 {d : Nat} {a0 : Value} {st : List Value} {hp : qzH} : qzV d 147 7 [a0] (st) hp = qzV d 147 9 [a0] (.int (-2) :: st) hp := qv_bipush mdc_147 dX3_restore_7 ib_m2 rfl
theorem eX3_restore_9 {d : Nat} {a0 : Value} {v : Int32} {hp : qzH} : qzV d 147 9 [a0] [.int v] hp = some (some (.int v), hp) := qv_iret mdc_147 dX3_restore_9 mdr_147 rfl
theorem eX3_restore_10 {d : Nat} {x : Nat} {st : List Value} {hp : qzH} : qzV d 147 10 [.ref x] (st) hp = qzV d 147 11 [.ref x] (.ref x :: st) hp := qv_aload (i := 0) mdc_147 dX3_restore_10 rfl rfl rfl
theorem eX3_restore_11 {d : Nat} {a0 : Value} {b : Nat} {st : List Value} {hp : qzH} (h8 : st.length ≤ 8) (hb : qzArr 3 b hp.1 = true) : qzV (d + 1) 147 11 [a0] (.ref b :: st) hp = (qzC d 89 (.ref b :: []) hp).bind (fun r => qzV (d + 1) 147 14 [a0] (r.1.toList ++ st) r.2) := qv_callv (n := 0) mdc_147 dX3_restore_11 mdo_147 (by decide) qfc_3_103 ⟨rfl, by decide, rfl⟩ rfl ⟨rfl, rfl, by simp only [List.length_cons]; omega⟩ h8 hb
theorem eX3_restore_14 {d : Nat} {x : Nat} {st : List Value} {hp : qzH} : qzV d 147 14 [.ref x] (st) hp = qzV d 147 15 [.ref x] (.ref x :: st) hp := qv_aload (i := 0) mdc_147 dX3_restore_14 rfl rfl rfl
theorem eX3_restore_15 {d : Nat} {a0 : Value} {a : Nat} {st : List Value} {hp : qzH} (ha : qzArr 3 a hp.1 = true) : qzV d 147 15 [a0] (.ref a :: st) hp = qzV d 147 18 [a0] (va_rf (hp.2.1 a 4) :: st) hp := qv_getR mdc_147 dX3_restore_15 mdo_147 qff_3_19 ⟨by decide, rfl⟩ rfl ha
theorem eX3_restore_18 {d : Nat} {a0 : Value} {st : List Value} {hp : qzH} : qzV d 147 18 [a0] (st) hp = qzV d 147 19 [a0] (.int 0 :: st) hp := qv_iconst mdc_147 dX3_restore_18 il_0 rfl
theorem eX3_restore_19 {d : Nat} {x : Nat} {st : List Value} {hp : qzH} : qzV d 147 19 [.ref x] (st) hp = qzV d 147 20 [.ref x] (.ref x :: st) hp := qv_aload (i := 0) mdc_147 dX3_restore_19 rfl rfl rfl
theorem eX3_restore_20 {d : Nat} {a0 : Value} {a : Nat} {st : List Value} {hp : qzH} (ha : qzArr 3 a hp.1 = true) : qzV d 147 20 [a0] (.ref a :: st) hp = qzV d 147 23 [a0] (va_rf (hp.2.1 a 0) :: st) hp := qv_getR mdc_147 dX3_restore_20 mdo_147 qff_3_7 ⟨by decide, rfl⟩ rfl ha
theorem eX3_restore_23 {d : Nat} {a0 : Value} {st : List Value} {hp : qzH} : qzV d 147 23 [a0] (st) hp = qzV d 147 24 [a0] (.int 0 :: st) hp := qv_iconst mdc_147 dX3_restore_23 il_0 rfl
theorem eX3_restore_24 {d : Nat} {a0 : Value} {w0 w1 w2 w3 : Value} {st : List Value} {hp : qzH} (h8 : st.length ≤ 8) : qzV (d + 1) 147 24 [a0] (w3 :: w2 :: w1 :: w0 :: st) hp = (qzC d 88 [w0, w1, w2, w3] hp).bind (fun r => qzV (d + 1) 147 27 [a0] (r.1.toList ++ st) r.2) := qv_calls (n := 4) mdc_147 dX3_restore_24 mdo_147 (by decide) qfc_3_35 ⟨rfl, by decide, rfl⟩ rfl ⟨rfl, rfl, by simp only [List.length_cons]; omega⟩ h8
theorem eX3_restore_27 {d : Nat} {x : Nat} {st : List Value} {hp : qzH} : qzV d 147 27 [.ref x] (st) hp = qzV d 147 28 [.ref x] (.ref x :: st) hp := qv_aload (i := 0) mdc_147 dX3_restore_27 rfl rfl rfl
theorem eX3_restore_28 {d : Nat} {a0 : Value} {a : Nat} {st : List Value} {hp : qzH} (ha : qzArr 3 a hp.1 = true) : qzV d 147 28 [a0] (.ref a :: st) hp = qzV d 147 31 [a0] (va_rf (hp.2.1 a 0) :: st) hp := qv_getR mdc_147 dX3_restore_28 mdo_147 qff_3_7 ⟨by decide, rfl⟩ rfl ha
theorem eX3_restore_31 {d : Nat} {a0 : Value} {st : List Value} {hp : qzH} : qzV d 147 31 [a0] (st) hp = qzV d 147 32 [a0] (.int 2 :: st) hp := qv_iconst mdc_147 dX3_restore_31 il_2 rfl
theorem eX3_restore_32 {d : Nat} {a0 : Value} {i : Int32} {a : Nat} {st : List Value} {hp : qzH} (ha : qzArr 4 a hp.1 = true) (hi : qzIn i (qzk a).2 = true) : qzV d 147 32 [a0] (.int i :: .ref a :: st) hp = qzV d 147 33 [a0] (.int (hp.2.2 a i.toNatClampNeg) :: st) hp := qv_iald mdc_147 dX3_restore_32 rfl ha hi
theorem eX3_restore_33 {d : Nat} {a0 : Value} {v : Int32} {hp : qzH} : qzV d 147 33 [a0] [.int v] hp = some (some (.int v), hp) := qv_iret mdc_147 dX3_restore_33 mdr_147 rfl
