theorem dX2_init_0 : decode cX2_init 0 = .ok (.aload_n 0, 1) := by decide +kernel
theorem dX2_init_1 : decode cX2_init 1 = .ok (.invokespecial 1, 3) := by decide +kernel
theorem dX2_init_4 : decode cX2_init 4 = .ok (.aload_n 0, 1) := by decide +kernel
theorem dX2_init_5 : decode cX2_init 5 = .ok (.new 7, 3) := by decide +kernel
theorem dX2_init_8 : decode cX2_init 8 = .ok (.dup, 1) := by decide +kernel
theorem dX2_init_9 : decode cX2_init 9 = .ok (.invokespecial 9, 3) := by decide +kernel
theorem dX2_init_12 : decode cX2_init 12 = .ok (.putfield 10, 3) := by decide +kernel
theorem dX2_init_15 : decode cX2_init 15 = .ok (.aload_n 0, 1) := by decide +kernel
theorem dX2_init_16 : decode cX2_init 16 = .ok (.new 7, 3) := by decide +kernel
theorem dX2_init_19 : decode cX2_init 19 = .ok (.dup, 1) := by decide +kernel
theorem dX2_init_20 : decode cX2_init 20 = .ok (.invokespecial 9, 3) := by decide +kernel
theorem dX2_init_23 : decode cX2_init 23 = .ok (.putfield 16, 3) := by decide +kernel
theorem dX2_init_26 : decode cX2_init 26 = .ok (.aload_n 0, 1) := by decide +kernel
theorem dX2_init_27 : decode cX2_init 27 = .ok (.new 7, 3) := by decide +kernel
theorem dX2_init_30 : decode cX2_init 30 = .ok (.dup, 1) := by decide +kernel
theorem dX2_init_31 : decode cX2_init 31 = .ok (.invokespecial 9, 3) := by decide +kernel
theorem dX2_init_34 : decode cX2_init 34 = .ok (.putfield 19, 3) := by decide +kernel
theorem dX2_init_37 : decode cX2_init 37 = .ok (.aload_n 0, 1) := by decide +kernel
theorem dX2_init_38 : decode cX2_init 38 = .ok (.iconst 4, 1) := by decide +kernel
theorem dX2_init_39 : decode cX2_init 39 = .ok (.anewarray 7, 3) := by decide +kernel
theorem dX2_init_42 : decode cX2_init 42 = .ok (.putfield 22, 3) := by decide +kernel
theorem dX2_init_45 : decode cX2_init 45 = .ok (.aload_n 0, 1) := by decide +kernel
theorem dX2_init_46 : decode cX2_init 46 = .ok (.bipush 60, 2) := by decide +kernel
theorem dX2_init_48 : decode cX2_init 48 = .ok (.newarray .char, 2) := by decide +kernel
theorem dX2_init_50 : decode cX2_init 50 = .ok (.putfield 26, 3) := by decide +kernel
theorem dX2_init_53 : decode cX2_init 53 = .ok (.aload_n 0, 1) := by decide +kernel
theorem dX2_init_54 : decode cX2_init 54 = .ok (.new 30, 3) := by decide +kernel
theorem dX2_init_57 : decode cX2_init 57 = .ok (.dup, 1) := by decide +kernel
theorem dX2_init_58 : decode cX2_init 58 = .ok (.invokespecial 32, 3) := by decide +kernel
theorem dX2_init_61 : decode cX2_init 61 = .ok (.putfield 33, 3) := by decide +kernel
theorem dX2_init_64 : decode cX2_init 64 = .ok (.aload_n 0, 1) := by decide +kernel
theorem dX2_init_65 : decode cX2_init 65 = .ok (.new 30, 3) := by decide +kernel
theorem dX2_init_68 : decode cX2_init 68 = .ok (.dup, 1) := by decide +kernel
theorem dX2_init_69 : decode cX2_init 69 = .ok (.invokespecial 32, 3) := by decide +kernel
theorem dX2_init_72 : decode cX2_init 72 = .ok (.putfield 37, 3) := by decide +kernel
theorem dX2_init_75 : decode cX2_init 75 = .ok (.iconst 0, 1) := by decide +kernel
theorem dX2_init_76 : decode cX2_init 76 = .ok (.istore_n 1, 1) := by decide +kernel
theorem dX2_init_77 : decode cX2_init 77 = .ok (.iload_n 1, 1) := by decide +kernel
theorem dX2_init_78 : decode cX2_init 78 = .ok (.aload_n 0, 1) := by decide +kernel
theorem dX2_init_79 : decode cX2_init 79 = .ok (.getfield 22, 3) := by decide +kernel
theorem dX2_init_82 : decode cX2_init 82 = .ok (.arraylength, 1) := by decide +kernel
theorem dX2_init_83 : decode cX2_init 83 = .ok (.if_icmp .ge 22, 3) := by decide +kernel
theorem dX2_init_86 : decode cX2_init 86 = .ok (.aload_n 0, 1) := by decide +kernel
theorem dX2_init_87 : decode cX2_init 87 = .ok (.getfield 22, 3) := by decide +kernel
theorem dX2_init_90 : decode cX2_init 90 = .ok (.iload_n 1, 1) := by decide +kernel
theorem dX2_init_91 : decode cX2_init 91 = .ok (.new 7, 3) := by decide +kernel
theorem dX2_init_94 : decode cX2_init 94 = .ok (.dup, 1) := by decide +kernel
theorem dX2_init_95 : decode cX2_init 95 = .ok (.invokespecial 9, 3) := by decide +kernel
theorem dX2_init_98 : decode cX2_init 98 = .ok (.aastore, 1) := by decide +kernel
theorem dX2_init_99 : decode cX2_init 99 = .ok (.iinc 1 1, 3) := by decide +kernel
theorem dX2_init_102 : decode cX2_init 102 = .ok (.goto (-25), 3) := by decide +kernel
theorem dX2_init_105 : decode cX2_init 105 = .ok (.return_, 1) := by decide +kernel
theorem eX2_init_0 {d : Nat} {a1 : Value} {x : Nat} {st : List Value} {hp : qzH} : qzV d 24 0 [.ref x, a1] (st) hp = qzV d 24 1 [.ref x, a1] (.ref x :: st) hp := qv_aload (i := 0) mdc_24 dX2_init_0 rfl rfl rfl
theorem eX2_init_4 {d : Nat} {a1 : Value} {x : Nat} {st : List Value} {hp : qzH} : qzV d 24 4 [.ref x, a1] (st) hp = qzV d 24 5 [.ref x, a1] (.ref x :: st) hp := qv_aload (i := 0) mdc_24 dX2_init_4 rfl rfl rfl
theorem eX2_init_8 {d : Nat} {a0 a1 : Value} {v : Value} {st : List Value} {hp : qzH} : qzV d 24 8 [a0, a1] (v :: st) hp = qzV d 24 9 [a0, a1] (v :: v :: st) hp := qv_dup mdc_24 dX2_init_8 rfl
theorem eX2_init_15 {d : Nat} {a1 : Value} {x : Nat} {st : List Value} {hp : qzH} : qzV d 24 15 [.ref x, a1] (st) hp = qzV d 24 16 [.ref x, a1] (.ref x :: st) hp := qv_aload (i := 0) mdc_24 dX2_init_15 rfl rfl rfl
theorem eX2_init_19 {d : Nat} {a0 a1 : Value} {v : Value} {st : List Value} {hp : qzH} : qzV d 24 19 [a0, a1] (v :: st) hp = qzV d 24 20 [a0, a1] (v :: v :: st) hp := qv_dup mdc_24 dX2_init_19 rfl
theorem eX2_init_26 {d : Nat} {a1 : Value} {x : Nat} {st : List Value} {hp : qzH} : qzV d 24 26 [.ref x, a1] (st) hp = qzV d 24 27 [.ref x, a1] (.ref x :: st) hp := qv_aload (i := 0) mdc_24 dX2_init_26 rfl rfl rfl
theorem eX2_init_30 {d : Nat} {a0 a1 : Value} {v : Value} {st : List Value} {hp : qzH} : qzV d 24 30 [a0, a1] (v :: st) hp = qzV d 24 31 [a0, a1] (v :: v :: st) hp := qv_dup mdc_24 dX2_init_30 rfl
theorem eX2_init_37 {d : Nat} {a1 : Value} {x : Nat} {st : List Value} {hp : qzH} : qzV d 24 37 [.ref x, a1] (st) hp = qzV d 24 38 [.ref x, a1] (.ref x :: st) hp := qv_aload (i := 0) mdc_24 dX2_init_37 rfl rfl rfl
theorem eX2_init_38 {d : Nat} {a0 a1 : Value} {st : List Value} {hp : qzH} : qzV d 24 38 [a0, a1] (st) hp = qzV d 24 39 [a0, a1] (.int 4 :: st) hp := qv_iconst mdc_24 dX2_init_38 il_4 rfl
theorem eX2_init_45 {d : Nat} {a1 : Value} {x : Nat} {st : List Value} {hp : qzH} : qzV d 24 45 [.ref x, a1] (st) hp = qzV d 24 46 [.ref x, a1] (.ref x :: st) hp := qv_aload (i := 0) mdc_24 dX2_init_45 rfl rfl rfl
theorem eX2_init_46 {d : Nat} {a0 a1 : Value} {st : List Value} {hp : qzH} : qzV d 24 46 [a0, a1] (st) hp = qzV d 24 48 [a0, a1] (.int 60 :: st) hp := qv_bipush mdc_24 dX2_init_46 ib_60 rfl
theorem eX2_init_53 {d : Nat} {a1 : Value} {x : Nat} {st : List Value} {hp : qzH} : qzV d 24 53 [.ref x, a1] (st) hp = qzV d 24 54 [.ref x, a1] (.ref x :: st) hp := qv_aload (i := 0) mdc_24 dX2_init_53 rfl rfl rfl
theorem eX2_init_57 {d : Nat} {a0 a1 : Value} {v : Value} {st : List Value} {hp : qzH} : qzV d 24 57 [a0, a1] (v :: st) hp = qzV d 24 58 [a0, a1] (v :: v :: st) hp := qv_dup mdc_24 dX2_init_57 rfl
theorem eX2_init_64 {d : Nat} {a1 : Value} {x : Nat} {st : List Value} {hp : qzH} : qzV d 24 64 [.ref x, a1] (st) hp = qzV d 24 65 [.ref x, a1] (.ref x :: st) hp := qv_aload (i := 0) mdc_24 dX2_init_64 rfl rfl rfl
theorem eX2_init_68 {d : Nat} {a0 a1 : Value} {v : Value} {st : List Value} {hp : qzH} : qzV d 24 68 [a0, a1] (v :: st) hp = qzV d 24 69 [a0, a1] (v :: v :: st) hp := qv_dup mdc_24 dX2_init_68 rfl
theorem eX2_init_75 {d : Nat} {a0 a1 : Value} {st : List Value} {hp : qzH} : qzV d 24 75 [a0, a1] (st) hp = qzV d 24 76 [a0, a1] (.int 0 :: st) hp := qv_iconst mdc_24 dX2_init_75 il_0 rfl
theorem eX2_init_76 {d : Nat} {a0 a1 : Value} {x : Int32} {st : List Value} {hp : qzH} : qzV d 24 76 [a0, a1] (.int x :: st) hp = qzV d 24 77 [a0, .int x] (st) hp := qv_istore (i := 1) mdc_24 dX2_init_76 rfl (Nat.le_of_ble_eq_true rfl) rfl rfl
theorem eX2_init_77 {d : Nat} {a0 : Value} {x : Int32} {st : List Value} {hp : qzH} : qzV d 24 77 [a0, .int x] (st) hp = qzV d 24 78 [a0, .int x] (.int x :: st) hp := qv_iload (i := 1) mdc_24 dX2_init_77 rfl rfl rfl
theorem eX2_init_78 {d : Nat} {a1 : Value} {x : Nat} {st : List Value} {hp : qzH} : qzV d 24 78 [.ref x, a1] (st) hp = qzV d 24 79 [.ref x, a1] (.ref x :: st) hp := qv_aload (i := 0) mdc_24 dX2_init_78 rfl rfl rfl
theorem eX2_init_79 {d : Nat} {a0 a1 : Value} {a : Nat} {st : List Value} {hp : qzH} (ha : qzArr 2 a hp.1 = true) : qzV d 24 79 [a0, a1] (.ref a :: st) hp = qzV d 24 82 [a0, a1] (va_rf (hp.2.1 a 4) :: st) hp := qv_getR mdc_24 dX2_init_79 mdo_24 qff_2_22 ⟨by decide, rfl⟩ rfl ha
theorem eX2_init_82 {d : Nat} {a0 a1 : Value} {a : Nat} {st : List Value} {hp : qzH} (ha : qzArr 4 a hp.1 = true ∨ qzArr 5 a hp.1 = true ∨ qzArr 6 a hp.1 = true) : qzV d 24 82 [a0, a1] (.ref a :: st) hp = qzV d 24 83 [a0, a1] (.int (Int32.ofNat (qzk a).2) :: st) hp := qv_alen mdc_24 dX2_init_82 rfl ha
theorem eX2_init_83 {d : Nat} {a0 a1 : Value} {x y : Int32} {st : List Value} {hp : qzH} : qzV d 24 83 [a0, a1] (.int y :: .int x :: st) hp = if y ≤ x then qzV d 24 105 [a0, a1] (st) hp else qzV d 24 86 [a0, a1] (st) hp := qv_if2 mdc_24 dX2_init_83 rfl rfl rfl
theorem eX2_init_86 {d : Nat} {a1 : Value} {x : Nat} {st : List Value} {hp : qzH} : qzV d 24 86 [.ref x, a1] (st) hp = qzV d 24 87 [.ref x, a1] (.ref x :: st) hp := qv_aload (i := 0) mdc_24 dX2_init_86 rfl rfl rfl
theorem eX2_init_87 {d : Nat} {a0 a1 : Value} {a : Nat} {st : List Value} {hp : qzH} (ha : qzArr 2 a hp.1 = true) : qzV d 24 87 [a0, a1] (.ref a :: st) hp = qzV d 24 90 [a0, a1] (va_rf (hp.2.1 a 4) :: st) hp := qv_getR mdc_24 dX2_init_87 mdo_24 qff_2_22 ⟨by decide, rfl⟩ rfl ha
theorem eX2_init_90 {d : Nat} {a0 : Value} {x : Int32} {st : List Value} {hp : qzH} : qzV d 24 90 [a0, .int x] (st) hp = qzV d 24 91 [a0, .int x] (.int x :: st) hp := qv_iload (i := 1) mdc_24 dX2_init_90 rfl rfl rfl
theorem eX2_init_94 {d : Nat} {a0 a1 : Value} {v : Value} {st : List Value} {hp : qzH} : qzV d 24 94 [a0, a1] (v :: st) hp = qzV d 24 95 [a0, a1] (v :: v :: st) hp := qv_dup mdc_24 dX2_init_94 rfl
theorem eX2_init_98 {d : Nat} {a0 a1 : Value} {i : Int32} {a v : Nat} {st : List Value} {hp : qzH} (ha : qzArr 6 a hp.1 = true) (hv : qzArr 0 v hp.1 = true) (hi : qzIn i (qzk a).2 = true) : qzV d 24 98 [a0, a1] (.ref v :: .int i :: .ref a :: st) hp = qzV d 24 99 [a0, a1] st (hp.1, qzUp hp.2.1 a i.toNatClampNeg (some v), hp.2.2) := qv_aast mdc_24 dX2_init_98 rfl ha hv hi
theorem eX2_init_99 {d : Nat} {a0 : Value} {x : Int32} {st : List Value} {hp : qzH} : qzV d 24 99 [a0, .int x] (st) hp = qzV d 24 102 [a0, .int (x + 1)] (st) hp := qv_iinc mdc_24 dX2_init_99 rfl il_1 rfl rfl
theorem eX2_init_102 {d : Nat} {a0 a1 : Value} {st : List Value} {hp : qzH} : qzV d 24 102 [a0, a1] (st) hp = qzV d 24 77 [a0, a1] (st) hp := qv_goto mdc_24 dX2_init_102 rfl
theorem eX2_init_105 {d : Nat} {a0 a1 : Value} {hp : qzH} : qzV d 24 105 [a0, a1] [] hp = some (none, hp) := qv_vret mdc_24 dX2_init_105 mdr_24
theorem dX2_cut_0 : decode cX2_cut 0 = .ok (.aload_n 0, 1) := by decide +kernel
theorem dX2_cut_1 : decode cX2_cut 1 = .ok (.iload_n 1, 1) := by decide +kernel
theorem dX2_cut_2 : decode cX2_cut 2 = .ok (.invokevirtual 40, 3) := by decide +kernel
theorem dX2_cut_5 : decode cX2_cut 5 = .ok (.istore_n 3, 1) := by decide +kernel
theorem dX2_cut_6 : decode cX2_cut 6 = .ok (.iload_n 3, 1) := by decide +kernel
theorem dX2_cut_7 : decode cX2_cut 7 = .ok (.ifCond .eq 5, 3) := by decide +kernel
theorem dX2_cut_10 : decode cX2_cut 10 = .ok (.iload_n 3, 1) := by decide +kernel
theorem dX2_cut_11 : decode cX2_cut 11 = .ok (.ireturn, 1) := by decide +kernel
theorem dX2_cut_12 : decode cX2_cut 12 = .ok (.aload_n 0, 1) := by decide +kernel
theorem dX2_cut_13 : decode cX2_cut 13 = .ok (.invokevirtual 44, 3) := by decide +kernel
theorem dX2_cut_16 : decode cX2_cut 16 = .ok (.aload_n 0, 1) := by decide +kernel
theorem dX2_cut_17 : decode cX2_cut 17 = .ok (.getfield 10, 3) := by decide +kernel
theorem dX2_cut_20 : decode cX2_cut 20 = .ok (.iload_n 1, 1) := by decide +kernel
theorem dX2_cut_21 : decode cX2_cut 21 = .ok (.iload_n 2, 1) := by decide +kernel
theorem dX2_cut_22 : decode cX2_cut 22 = .ok (.invokestatic 47, 3) := by decide +kernel
theorem dX2_cut_25 : decode cX2_cut 25 = .ok (.invokevirtual 51, 3) := by decide +kernel
theorem dX2_cut_28 : decode cX2_cut 28 = .ok (.ireturn, 1) := by decide +kernel
theorem eX2_cut_0 {d : Nat} {a1 a2 a3 : Value} {x : Nat} {st : List Value} {hp : qzH} : qzV d 25 0 [.ref x, a1, a2, a3] (st) hp = qzV d 25 1 [.ref x, a1, a2, a3] (.ref x :: st) hp := qv_aload (i := 0) mdc_25 dX2_cut_0 rfl rfl rfl
theorem eX2_cut_1 {d : Nat} {a0 a2 a3 : Value} {x : Int32} {st : List Value} {hp : qzH} : qzV d 25 1 [a0, .int x, a2, a3] (st) hp = qzV d 25 2 [a0, .int x, a2, a3] (.int x :: st) hp := qv_iload (i := 1) mdc_25 dX2_cut_1 rfl rfl rfl
theorem eX2_cut_2 {d : Nat} {a0 a1 a2 a3 : Value} {w0 : Value} {b : Nat} {st : List Value} {hp : qzH} (h8 : st.length ≤ 8) (hb : qzArr 2 b hp.1 = true) : qzV (d + 1) 25 2 [a0, a1, a2, a3] (w0 :: .ref b :: st) hp = (qzC d 59 (.ref b :: [w0]) hp).bind (fun r => qzV (d + 1) 25 5 [a0, a1, a2, a3] (r.1.toList ++ st) r.2) := qv_callv (n := 1) mdc_25 dX2_cut_2 mdo_25 (by decide) qfc_2_40 ⟨rfl, by decide, rfl⟩ rfl ⟨rfl, rfl, by simp only [List.length_cons]; omega⟩ h8 hb
theorem eX2_cut_5 {d : Nat} {a0 a1 a2 a3 : Value} {x : Int32} {st : List Value} {hp : qzH} : qzV d 25 5 [a0, a1, a2, a3] (.int x :: st) hp = qzV d 25 6 [a0, a1, a2, .int x] (st) hp := qv_istore (i := 3) mdc_25 dX2_cut_5 rfl (Nat.le_of_ble_eq_true rfl) rfl rfl
theorem eX2_cut_6 {d : Nat} {a0 a1 a2 : Value} {x : Int32} {st : List Value} {hp : qzH} : qzV d 25 6 [a0, a1, a2, .int x] (st) hp = qzV d 25 7 [a0, a1, a2, .int x] (.int x :: st) hp := qv_iload (i := 3) mdc_25 dX2_cut_6 rfl rfl rfl
theorem eX2_cut_7 {d : Nat} {a0 a1 a2 a3 : Value} {x : Int32} {st : List Value} {hp : qzH} : qzV d 25 7 [a0, a1, a2, a3] (.int x :: st) hp = if x = 0 then qzV d 25 12 [a0, a1, a2, a3] (st) hp else qzV d 25 10 [a0, a1, a2, a3] (st) hp := qv_if1 mdc_25 dX2_cut_7 rfl rfl rfl
theorem eX2_cut_10 {d : Nat} {a0 a1 a2 : Value} {x : Int32} {st : List Value} {hp : qzH} : qzV d 25 10 [a0, a1, a2, .int x] (st) hp = qzV d 25 11 [a0, a1, a2, .int x] (.int x :: st) hp := qv_iload (i := 3) mdc_25 dX2_cut_10 rfl rfl rfl
theorem eX2_cut_11 {d : Nat} {a0 a1 a2 a3 : Value} {v : Int32} {hp : qzH} : qzV d 25 11 [a0, a1, a2, a3] [.int v] hp = some (some (.int v), hp) := qv_iret mdc_25 dX2_cut_11 mdr_25 rfl
theorem eX2_cut_12 {d : Nat} {a1 a2 a3 : Value} {x : Nat} {st : List Value} {hp : qzH} : qzV d 25 12 [.ref x, a1, a2, a3] (st) hp = qzV d 25 13 [.ref x, a1, a2, a3] (.ref x :: st) hp := qv_aload (i := 0) mdc_25 dX2_cut_12 rfl rfl rfl
theorem eX2_cut_13 {d : Nat} {a0 a1 a2 a3 : Value} {b : Nat} {st : List Value} {hp : qzH} (h8 : st.length ≤ 8) (hb : qzArr 2 b hp.1 = true) : qzV (d + 1) 25 13 [a0, a1, a2, a3] (.ref b :: st) hp = (qzC d 51 (.ref b :: []) hp).bind (fun r => qzV (d + 1) 25 16 [a0, a1, a2, a3] (r.1.toList ++ st) r.2) := qv_callv (n := 0) mdc_25 dX2_cut_13 mdo_25 (by decide) qfc_2_44 ⟨rfl, by decide, rfl⟩ rfl ⟨rfl, rfl, by simp only [List.length_cons]; omega⟩ h8 hb
theorem eX2_cut_16 {d : Nat} {a1 a2 a3 : Value} {x : Nat} {st : List Value} {hp : qzH} : qzV d 25 16 [.ref x, a1, a2, a3] (st) hp = qzV d 25 17 [.ref x, a1, a2, a3] (.ref x :: st) hp := qv_aload (i := 0) mdc_25 dX2_cut_16 rfl rfl rfl
theorem eX2_cut_17 {d : Nat} {a0 a1 a2 a3 : Value} {a : Nat} {st : List Value} {hp : qzH} (ha : qzArr 2 a hp.1 = true) : qzV d 25 17 [a0, a1, a2, a3] (.ref a :: st) hp = qzV d 25 20 [a0, a1, a2, a3] (va_rf (hp.2.1 a 0) :: st) hp := qv_getR mdc_25 dX2_cut_17 mdo_25 qff_2_10 ⟨by decide, rfl⟩ rfl ha
theorem eX2_cut_20 {d : Nat} {a0 a2 a3 : Value} {x : Int32} {st : List Value} {hp : qzH} : qzV d 25 20 [a0, .int x, a2, a3] (st) hp = qzV d 25 21 [a0, .int x, a2, a3] (.int x :: st) hp := qv_iload (i := 1) mdc_25 dX2_cut_20 rfl rfl rfl
theorem eX2_cut_21 {d : Nat} {a0 a1 a3 : Value} {x : Int32} {st : List Value} {hp : qzH} : qzV d 25 21 [a0, a1, .int x, a3] (st) hp = qzV d 25 22 [a0, a1, .int x, a3] (.int x :: st) hp := qv_iload (i := 2) mdc_25 dX2_cut_21 rfl rfl rfl
theorem eX2_cut_22 {d : Nat} {a0 a1 a2 a3 : Value} {w0 w1 : Value} {st : List Value} {hp : qzH} (h8 : st.length ≤ 8) : qzV (d + 1) 25 22 [a0, a1, a2, a3] (w1 :: w0 :: st) hp = (qzC d 53 [w0, w1] hp).bind (fun r => qzV (d + 1) 25 25 [a0, a1, a2, a3] (r.1.toList ++ st) r.2) := qv_calls (n := 2) mdc_25 dX2_cut_22 mdo_25 (by decide) qfc_2_47 ⟨rfl, by decide, rfl⟩ rfl ⟨rfl, rfl, by simp only [List.length_cons]; omega⟩ h8
theorem eX2_cut_25 {d : Nat} {a0 a1 a2 a3 : Value} {w0 : Value} {b : Nat} {st : List Value} {hp : qzH} (h8 : st.length ≤ 8) (hb : qzArr 0 b hp.1 = true) : qzV (d + 1) 25 25 [a0, a1, a2, a3] (w0 :: .ref b :: st) hp = (qzC d 8 (.ref b :: [w0]) hp).bind (fun r => qzV (d + 1) 25 28 [a0, a1, a2, a3] (r.1.toList ++ st) r.2) := qv_callv (n := 1) mdc_25 dX2_cut_25 mdo_25 (by decide) qfc_2_51 ⟨rfl, by decide, rfl⟩ rfl ⟨rfl, rfl, by simp only [List.length_cons]; omega⟩ h8 hb
theorem eX2_cut_28 {d : Nat} {a0 a1 a2 a3 : Value} {v : Int32} {hp : qzH} : qzV d 25 28 [a0, a1, a2, a3] [.int v] hp = some (some (.int v), hp) := qv_iret mdc_25 dX2_cut_28 mdr_25 rfl
theorem dX2_best_0 : decode cX2_best 0 = .ok (.aload_n 0, 1) := by decide +kernel
theorem dX2_best_1 : decode cX2_best 1 = .ok (.iconst 0, 1) := by decide +kernel
theorem dX2_best_2 : decode cX2_best 2 = .ok (.invokevirtual 54, 3) := by decide +kernel
theorem dX2_best_5 : decode cX2_best 5 = .ok (.ireturn, 1) := by decide +kernel
theorem eX2_best_0 {d : Nat} {x : Nat} {st : List Value} {hp : qzH} : qzV d 26 0 [.ref x] (st) hp = qzV d 26 1 [.ref x] (.ref x :: st) hp := qv_aload (i := 0) mdc_26 dX2_best_0 rfl rfl rfl
theorem eX2_best_1 {d : Nat} {a0 : Value} {st : List Value} {hp : qzH} : qzV d 26 1 [a0] (st) hp = qzV d 26 2 [a0] (.int 0 :: st) hp := qv_iconst mdc_26 dX2_best_1 il_0 rfl
theorem eX2_best_2 {d : Nat} {a0 : Value} {w0 : Value} {b : Nat} {st : List Value} {hp : qzH} (h8 : st.length ≤ 8) (hb : qzArr 2 b hp.1 = true) : qzV (d + 1) 26 2 [a0] (w0 :: .ref b :: st) hp = (qzC d 60 (.ref b :: [w0]) hp).bind (fun r => qzV (d + 1) 26 5 [a0] (r.1.toList ++ st) r.2) := qv_callv (n := 1) mdc_26 dX2_best_2 mdo_26 (by decide) qfc_2_54 ⟨rfl, by decide, rfl⟩ rfl ⟨rfl, rfl, by simp only [List.length_cons]; omega⟩ h8 hb
theorem eX2_best_5 {d : Nat} {a0 : Value} {v : Int32} {hp : qzH} : qzV d 26 5 [a0] [.int v] hp = some (some (.int v), hp) := qv_iret mdc_26 dX2_best_5 mdr_26 rfl
theorem dX2_greedy_0 : decode cX2_greedy 0 = .ok (.aload_n 0, 1) := by decide +kernel
theorem dX2_greedy_1 : decode cX2_greedy 1 = .ok (.iconst 1, 1) := by decide +kernel
theorem dX2_greedy_2 : decode cX2_greedy 2 = .ok (.invokevirtual 54, 3) := by decide +kernel
theorem dX2_greedy_5 : decode cX2_greedy 5 = .ok (.ireturn, 1) := by decide +kernel
theorem eX2_greedy_0 {d : Nat} {x : Nat} {st : List Value} {hp : qzH} : qzV d 27 0 [.ref x] (st) hp = qzV d 27 1 [.ref x] (.ref x :: st) hp := qv_aload (i := 0) mdc_27 dX2_greedy_0 rfl rfl rfl
theorem eX2_greedy_1 {d : Nat} {a0 : Value} {st : List Value} {hp : qzH} : qzV d 27 1 [a0] (st) hp = qzV d 27 2 [a0] (.int 1 :: st) hp := qv_iconst mdc_27 dX2_greedy_1 il_1 rfl
theorem eX2_greedy_2 {d : Nat} {a0 : Value} {w0 : Value} {b : Nat} {st : List Value} {hp : qzH} (h8 : st.length ≤ 8) (hb : qzArr 2 b hp.1 = true) : qzV (d + 1) 27 2 [a0] (w0 :: .ref b :: st) hp = (qzC d 60 (.ref b :: [w0]) hp).bind (fun r => qzV (d + 1) 27 5 [a0] (r.1.toList ++ st) r.2) := qv_callv (n := 1) mdc_27 dX2_greedy_2 mdo_27 (by decide) qfc_2_54 ⟨rfl, by decide, rfl⟩ rfl ⟨rfl, rfl, by simp only [List.length_cons]; omega⟩ h8 hb
theorem eX2_greedy_5 {d : Nat} {a0 : Value} {v : Int32} {hp : qzH} : qzV d 27 5 [a0] [.int v] hp = some (some (.int v), hp) := qv_iret mdc_27 dX2_greedy_5 mdr_27 rfl
theorem dX2_again_0 : decode cX2_again 0 = .ok (.aload_n 0, 1) := by decide +kernel
theorem dX2_again_1 : decode cX2_again 1 = .ok (.invokevirtual 44, 3) := by decide +kernel
theorem dX2_again_4 : decode cX2_again 4 = .ok (.aload_n 0, 1) := by decide +kernel
theorem dX2_again_5 : decode cX2_again 5 = .ok (.getfield 10, 3) := by decide +kernel
theorem dX2_again_8 : decode cX2_again 8 = .ok (.invokevirtual 57, 3) := by decide +kernel
theorem dX2_again_11 : decode cX2_again 11 = .ok (.aload_n 0, 1) := by decide +kernel
theorem dX2_again_12 : decode cX2_again 12 = .ok (.getfield 10, 3) := by decide +kernel
theorem dX2_again_15 : decode cX2_again 15 = .ok (.getfield 60, 3) := by decide +kernel
theorem dX2_again_18 : decode cX2_again 18 = .ok (.ireturn, 1) := by decide +kernel
theorem eX2_again_0 {d : Nat} {x : Nat} {st : List Value} {hp : qzH} : qzV d 28 0 [.ref x] (st) hp = qzV d 28 1 [.ref x] (.ref x :: st) hp := qv_aload (i := 0) mdc_28 dX2_again_0 rfl rfl rfl
theorem eX2_again_1 {d : Nat} {a0 : Value} {b : Nat} {st : List Value} {hp : qzH} (h8 : st.length ≤ 8) (hb : qzArr 2 b hp.1 = true) : qzV (d + 1) 28 1 [a0] (.ref b :: st) hp = (qzC d 51 (.ref b :: []) hp).bind (fun r => qzV (d + 1) 28 4 [a0] (r.1.toList ++ st) r.2) := qv_callv (n := 0) mdc_28 dX2_again_1 mdo_28 (by decide) qfc_2_44 ⟨rfl, by decide, rfl⟩ rfl ⟨rfl, rfl, by simp only [List.length_cons]; omega⟩ h8 hb
theorem eX2_again_4 {d : Nat} {x : Nat} {st : List Value} {hp : qzH} : qzV d 28 4 [.ref x] (st) hp = qzV d 28 5 [.ref x] (.ref x :: st) hp := qv_aload (i := 0) mdc_28 dX2_again_4 rfl rfl rfl
theorem eX2_again_5 {d : Nat} {a0 : Value} {a : Nat} {st : List Value} {hp : qzH} (ha : qzArr 2 a hp.1 = true) : qzV d 28 5 [a0] (.ref a :: st) hp = qzV d 28 8 [a0] (va_rf (hp.2.1 a 0) :: st) hp := qv_getR mdc_28 dX2_again_5 mdo_28 qff_2_10 ⟨by decide, rfl⟩ rfl ha
theorem eX2_again_8 {d : Nat} {a0 : Value} {b : Nat} {st : List Value} {hp : qzH} (h8 : st.length ≤ 8) (hb : qzArr 0 b hp.1 = true) : qzV (d + 1) 28 8 [a0] (.ref b :: st) hp = (qzC d 2 (.ref b :: []) hp).bind (fun r => qzV (d + 1) 28 11 [a0] (r.1.toList ++ st) r.2) := qv_callv (n := 0) mdc_28 dX2_again_8 mdo_28 (by decide) qfc_2_57 ⟨rfl, by decide, rfl⟩ rfl ⟨rfl, rfl, by simp only [List.length_cons]; omega⟩ h8 hb
theorem eX2_again_11 {d : Nat} {x : Nat} {st : List Value} {hp : qzH} : qzV d 28 11 [.ref x] (st) hp = qzV d 28 12 [.ref x] (.ref x :: st) hp := qv_aload (i := 0) mdc_28 dX2_again_11 rfl rfl rfl
theorem eX2_again_12 {d : Nat} {a0 : Value} {a : Nat} {st : List Value} {hp : qzH} (ha : qzArr 2 a hp.1 = true) : qzV d 28 12 [a0] (.ref a :: st) hp = qzV d 28 15 [a0] (va_rf (hp.2.1 a 0) :: st) hp := qv_getR mdc_28 dX2_again_12 mdo_28 qff_2_10 ⟨by decide, rfl⟩ rfl ha
theorem eX2_again_15 {d : Nat} {a0 : Value} {a : Nat} {st : List Value} {hp : qzH} (ha : qzArr 0 a hp.1 = true) : qzV d 28 15 [a0] (.ref a :: st) hp = qzV d 28 18 [a0] (.int (hp.2.2 a 6) :: st) hp := qv_getI mdc_28 dX2_again_15 mdo_28 qff_2_60 ⟨by decide, rfl⟩ rfl ha
theorem eX2_again_18 {d : Nat} {a0 : Value} {v : Int32} {hp : qzH} : qzV d 28 18 [a0] [.int v] hp = some (some (.int v), hp) := qv_iret mdc_28 dX2_again_18 mdr_28 rfl
theorem dX2_mirror_0 : decode cX2_mirror 0 = .ok (.aload_n 0, 1) := by decide +kernel
theorem dX2_mirror_1 : decode cX2_mirror 1 = .ok (.invokevirtual 44, 3) := by decide +kernel
theorem dX2_mirror_4 : decode cX2_mirror 4 = .ok (.aload_n 0, 1) := by decide +kernel
theorem dX2_mirror_5 : decode cX2_mirror 5 = .ok (.getfield 10, 3) := by decide +kernel
theorem dX2_mirror_8 : decode cX2_mirror 8 = .ok (.invokevirtual 64, 3) := by decide +kernel
theorem dX2_mirror_11 : decode cX2_mirror 11 = .ok (.ireturn, 1) := by decide +kernel
theorem eX2_mirror_0 {d : Nat} {x : Nat} {st : List Value} {hp : qzH} : qzV d 29 0 [.ref x] (st) hp = qzV d 29 1 [.ref x] (.ref x :: st) hp := qv_aload (i := 0) mdc_29 dX2_mirror_0 rfl rfl rfl
theorem eX2_mirror_1 {d : Nat} {a0 : Value} {b : Nat} {st : List Value} {hp : qzH} (h8 : st.length ≤ 8) (hb : qzArr 2 b hp.1 = true) : qzV (d + 1) 29 1 [a0] (.ref b :: st) hp = (qzC d 51 (.ref b :: []) hp).bind (fun r => qzV (d + 1) 29 4 [a0] (r.1.toList ++ st) r.2) := qv_callv (n := 0) mdc_29 dX2_mirror_1 mdo_29 (by decide) qfc_2_44 ⟨rfl, by decide, rfl⟩ rfl ⟨rfl, rfl, by simp only [List.length_cons]; omega⟩ h8 hb
theorem eX2_mirror_4 {d : Nat} {x : Nat} {st : List Value} {hp : qzH} : qzV d 29 4 [.ref x] (st) hp = qzV d 29 5 [.ref x] (.ref x :: st) hp := qv_aload (i := 0) mdc_29 dX2_mirror_4 rfl rfl rfl
theorem eX2_mirror_5 {d : Nat} {a0 : Value} {a : Nat} {st : List Value} {hp : qzH} (ha : qzArr 2 a hp.1 = true) : qzV d 29 5 [a0] (.ref a :: st) hp = qzV d 29 8 [a0] (va_rf (hp.2.1 a 0) :: st) hp := qv_getR mdc_29 dX2_mirror_5 mdo_29 qff_2_10 ⟨by decide, rfl⟩ rfl ha
theorem eX2_mirror_8 {d : Nat} {a0 : Value} {b : Nat} {st : List Value} {hp : qzH} (h8 : st.length ≤ 8) (hb : qzArr 0 b hp.1 = true) : qzV (d + 1) 29 8 [a0] (.ref b :: st) hp = (qzC d 9 (.ref b :: []) hp).bind (fun r => qzV (d + 1) 29 11 [a0] (r.1.toList ++ st) r.2) := qv_callv (n := 0) mdc_29 dX2_mirror_8 mdo_29 (by decide) qfc_2_64 ⟨rfl, by decide, rfl⟩ rfl ⟨rfl, rfl, by simp only [List.length_cons]; omega⟩ h8 hb
theorem eX2_mirror_11 {d : Nat} {a0 : Value} {v : Int32} {hp : qzH} : qzV d 29 11 [a0] [.int v] hp = some (some (.int v), hp) := qv_iret mdc_29 dX2_mirror_11 mdr_29 rfl
theorem dX2_set_0 : decode cX2_set 0 = .ok (.iload_n 1, 1) := by decide +kernel
theorem dX2_set_1 : decode cX2_set 1 = .ok (.ifCond .lt 8, 3) := by decide +kernel
theorem dX2_set_4 : decode cX2_set 4 = .ok (.iload_n 1, 1) := by decide +kernel
theorem dX2_set_5 : decode cX2_set 5 = .ok (.iconst 3, 1) := by decide +kernel
theorem dX2_set_6 : decode cX2_set 6 = .ok (.if_icmp .lt 5, 3) := by decide +kernel
theorem dX2_set_9 : decode cX2_set 9 = .ok (.iconst (-1), 1) := by decide +kernel
theorem dX2_set_10 : decode cX2_set 10 = .ok (.ireturn, 1) := by decide +kernel
theorem dX2_set_11 : decode cX2_set 11 = .ok (.iload_n 2, 1) := by decide +kernel
theorem dX2_set_12 : decode cX2_set 12 = .ok (.getstatic 68, 3) := by decide +kernel
theorem dX2_set_15 : decode cX2_set 15 = .ok (.iload_n 1, 1) := by decide +kernel
theorem dX2_set_16 : decode cX2_set 16 = .ok (.invokestatic 72, 3) := by decide +kernel
theorem dX2_set_19 : decode cX2_set 19 = .ok (.if_icmp .lt 14, 3) := by decide +kernel
theorem dX2_set_22 : decode cX2_set 22 = .ok (.iload_n 2, 1) := by decide +kernel
theorem dX2_set_23 : decode cX2_set 23 = .ok (.getstatic 76, 3) := by decide +kernel
theorem dX2_set_26 : decode cX2_set 26 = .ok (.iload_n 1, 1) := by decide +kernel
theorem dX2_set_27 : decode cX2_set 27 = .ok (.invokestatic 72, 3) := by decide +kernel
theorem dX2_set_30 : decode cX2_set 30 = .ok (.if_icmp .le 5, 3) := by decide +kernel
theorem dX2_set_33 : decode cX2_set 33 = .ok (.iconst (-1), 1) := by decide +kernel
theorem dX2_set_34 : decode cX2_set 34 = .ok (.ireturn, 1) := by decide +kernel
theorem dX2_set_35 : decode cX2_set 35 = .ok (.aload_n 0, 1) := by decide +kernel
theorem dX2_set_36 : decode cX2_set 36 = .ok (.invokevirtual 44, 3) := by decide +kernel
theorem dX2_set_39 : decode cX2_set 39 = .ok (.aload_n 0, 1) := by decide +kernel
theorem dX2_set_40 : decode cX2_set 40 = .ok (.getfield 10, 3) := by decide +kernel
theorem dX2_set_43 : decode cX2_set 43 = .ok (.getfield 79, 3) := by decide +kernel
theorem dX2_set_46 : decode cX2_set 46 = .ok (.iload_n 1, 1) := by decide +kernel
theorem dX2_set_47 : decode cX2_set 47 = .ok (.invokestatic 72, 3) := by decide +kernel
theorem dX2_set_50 : decode cX2_set 50 = .ok (.istore_n 3, 1) := by decide +kernel
theorem dX2_set_51 : decode cX2_set 51 = .ok (.aload_n 0, 1) := by decide +kernel
theorem dX2_set_52 : decode cX2_set 52 = .ok (.getfield 10, 3) := by decide +kernel
theorem dX2_set_55 : decode cX2_set 55 = .ok (.getfield 79, 3) := by decide +kernel
theorem dX2_set_58 : decode cX2_set 58 = .ok (.iload_n 1, 1) := by decide +kernel
theorem dX2_set_59 : decode cX2_set 59 = .ok (.iload_n 2, 1) := by decide +kernel
theorem dX2_set_60 : decode cX2_set 60 = .ok (.invokestatic 82, 3) := by decide +kernel
theorem dX2_set_63 : decode cX2_set 63 = .ok (.iload_n 3, 1) := by decide +kernel
theorem dX2_set_64 : decode cX2_set 64 = .ok (.ireturn, 1) := by decide +kernel
theorem eX2_set_0 {d : Nat} {a0 a2 a3 : Value} {x : Int32} {st : List Value} {hp : qzH} : qzV d 30 0 [a0, .int x, a2, a3] (st) hp = qzV d 30 1 [a0, .int x, a2, a3] (.int x :: st) hp := qv_iload (i := 1) mdc_30 dX2_set_0 rfl rfl rfl
theorem eX2_set_1 {d : Nat} {a0 a1 a2 a3 : Value} {x : Int32} {st : List Value} {hp : qzH} : qzV d 30 1 [a0, a1, a2, a3] (.int x :: st) hp = if x < 0 then qzV d 30 9 [a0, a1, a2, a3] (st) hp else qzV d 30 4 [a0, a1, a2, a3] (st) hp := qv_if1 mdc_30 dX2_set_1 rfl rfl rfl
theorem eX2_set_4 {d : Nat} {a0 a2 a3 : Value} {x : Int32} {st : List Value} {hp : qzH} : qzV d 30 4 [a0, .int x, a2, a3] (st) hp = qzV d 30 5 [a0, .int x, a2, a3] (.int x :: st) hp := qv_iload (i := 1) mdc_30 dX2_set_4 rfl rfl rfl
theorem eX2_set_5 {d : Nat} {a0 a1 a2 a3 : Value} {st : List Value} {hp : qzH} : qzV d 30 5 [a0, a1, a2, a3] (st) hp = qzV d 30 6 [a0, a1, a2, a3] (.int 3 :: st) hp := qv_iconst mdc_30 dX2_set_5 il_3 rfl
theorem eX2_set_6 {d : Nat} {a0 a1 a2 a3 : Value} {x y : Int32} {st : List Value} {hp : qzH} : qzV d 30 6 [a0, a1, a2, a3] (.int y :: .int x :: st) hp = if x < y then qzV d 30 11 [a0, a1, a2, a3] (st) hp else qzV d 30 9 [a0, a1, a2, a3] (st) hp := qv_if2 mdc_30 dX2_set_6 rfl rfl rfl
theorem eX2_set_9 {d : Nat} {a0 a1 a2 a3 : Value} {st : List Value} {hp : qzH} : qzV d 30 9 [a0, a1, a2, a3] (st) hp = qzV d 30 10 [a0, a1, a2, a3] (.int (-1) :: st) hp := qv_iconst mdc_30 dX2_set_9 il_m1 rfl
theorem eX2_set_10 {d : Nat} {a0 a1 a2 a3 : Value} {v : Int32} {hp : qzH} : qzV d 30 10 [a0, a1, a2, a3] [.int v] hp = some (some (.int v), hp) := qv_iret mdc_30 dX2_set_10 mdr_30 rfl
theorem eX2_set_11 {d : Nat} {a0 a1 a3 : Value} {x : Int32} {st : List Value} {hp : qzH} : qzV d 30 11 [a0, a1, .int x, a3] (st) hp = qzV d 30 12 [a0, a1, .int x, a3] (.int x :: st) hp := qv_iload (i := 2) mdc_30 dX2_set_11 rfl rfl rfl
theorem eX2_set_12 {d : Nat} {a0 a1 a2 a3 : Value} {st : List Value} {hp : qzH} : qzV d 30 12 [a0, a1, a2, a3] (st) hp = qzV d 30 15 [a0, a1, a2, a3] (.ref 1000 :: st) hp := qv_gets mdc_30 dX2_set_12 mdo_30 rfl rfl
theorem eX2_set_15 {d : Nat} {a0 a2 a3 : Value} {x : Int32} {st : List Value} {hp : qzH} : qzV d 30 15 [a0, .int x, a2, a3] (st) hp = qzV d 30 16 [a0, .int x, a2, a3] (.int x :: st) hp := qv_iload (i := 1) mdc_30 dX2_set_15 rfl rfl rfl
theorem eX2_set_16 {d : Nat} {a0 a1 a2 a3 : Value} {w0 w1 : Value} {st : List Value} {hp : qzH} (h8 : st.length ≤ 8) : qzV (d + 1) 30 16 [a0, a1, a2, a3] (w1 :: w0 :: st) hp = (qzC d 84 [w0, w1] hp).bind (fun r => qzV (d + 1) 30 19 [a0, a1, a2, a3] (r.1.toList ++ st) r.2) := qv_calls (n := 2) mdc_30 dX2_set_16 mdo_30 (by decide) qfc_2_72 ⟨rfl, by decide, rfl⟩ rfl ⟨rfl, rfl, by simp only [List.length_cons]; omega⟩ h8
theorem eX2_set_19 {d : Nat} {a0 a1 a2 a3 : Value} {x y : Int32} {st : List Value} {hp : qzH} : qzV d 30 19 [a0, a1, a2, a3] (.int y :: .int x :: st) hp = if x < y then qzV d 30 33 [a0, a1, a2, a3] (st) hp else qzV d 30 22 [a0, a1, a2, a3] (st) hp := qv_if2 mdc_30 dX2_set_19 rfl rfl rfl
theorem eX2_set_22 {d : Nat} {a0 a1 a3 : Value} {x : Int32} {st : List Value} {hp : qzH} : qzV d 30 22 [a0, a1, .int x, a3] (st) hp = qzV d 30 23 [a0, a1, .int x, a3] (.int x :: st) hp := qv_iload (i := 2) mdc_30 dX2_set_22 rfl rfl rfl
theorem eX2_set_23 {d : Nat} {a0 a1 a2 a3 : Value} {st : List Value} {hp : qzH} : qzV d 30 23 [a0, a1, a2, a3] (st) hp = qzV d 30 26 [a0, a1, a2, a3] (.ref 1001 :: st) hp := qv_gets mdc_30 dX2_set_23 mdo_30 rfl rfl
theorem eX2_set_26 {d : Nat} {a0 a2 a3 : Value} {x : Int32} {st : List Value} {hp : qzH} : qzV d 30 26 [a0, .int x, a2, a3] (st) hp = qzV d 30 27 [a0, .int x, a2, a3] (.int x :: st) hp := qv_iload (i := 1) mdc_30 dX2_set_26 rfl rfl rfl
theorem eX2_set_27 {d : Nat} {a0 a1 a2 a3 : Value} {w0 w1 : Value} {st : List Value} {hp : qzH} (h8 : st.length ≤ 8) : qzV (d + 1) 30 27 [a0, a1, a2, a3] (w1 :: w0 :: st) hp = (qzC d 84 [w0, w1] hp).bind (fun r => qzV (d + 1) 30 30 [a0, a1, a2, a3] (r.1.toList ++ st) r.2) := qv_calls (n := 2) mdc_30 dX2_set_27 mdo_30 (by decide) qfc_2_72 ⟨rfl, by decide, rfl⟩ rfl ⟨rfl, rfl, by simp only [List.length_cons]; omega⟩ h8
theorem eX2_set_30 {d : Nat} {a0 a1 a2 a3 : Value} {x y : Int32} {st : List Value} {hp : qzH} : qzV d 30 30 [a0, a1, a2, a3] (.int y :: .int x :: st) hp = if x ≤ y then qzV d 30 35 [a0, a1, a2, a3] (st) hp else qzV d 30 33 [a0, a1, a2, a3] (st) hp := qv_if2 mdc_30 dX2_set_30 rfl rfl rfl
theorem eX2_set_33 {d : Nat} {a0 a1 a2 a3 : Value} {st : List Value} {hp : qzH} : qzV d 30 33 [a0, a1, a2, a3] (st) hp = qzV d 30 34 [a0, a1, a2, a3] (.int (-1) :: st) hp := qv_iconst mdc_30 dX2_set_33 il_m1 rfl
theorem eX2_set_34 {d : Nat} {a0 a1 a2 a3 : Value} {v : Int32} {hp : qzH} : qzV d 30 34 [a0, a1, a2, a3] [.int v] hp = some (some (.int v), hp) := qv_iret mdc_30 dX2_set_34 mdr_30 rfl
theorem eX2_set_35 {d : Nat} {a1 a2 a3 : Value} {x : Nat} {st : List Value} {hp : qzH} : qzV d 30 35 [.ref x, a1, a2, a3] (st) hp = qzV d 30 36 [.ref x, a1, a2, a3] (.ref x :: st) hp := qv_aload (i := 0) mdc_30 dX2_set_35 rfl rfl rfl
theorem eX2_set_36 {d : Nat} {a0 a1 a2 a3 : Value} {b : Nat} {st : List Value} {hp : qzH} (h8 : st.length ≤ 8) (hb : qzArr 2 b hp.1 = true) : qzV (d + 1) 30 36 [a0, a1, a2, a3] (.ref b :: st) hp = (qzC d 51 (.ref b :: []) hp).bind (fun r => qzV (d + 1) 30 39 [a0, a1, a2, a3] (r.1.toList ++ st) r.2) := qv_callv (n := 0) mdc_30 dX2_set_36 mdo_30 (by decide) qfc_2_44 ⟨rfl, by decide, rfl⟩ rfl ⟨rfl, rfl, by simp only [List.length_cons]; omega⟩ h8 hb
theorem eX2_set_39 {d : Nat} {a1 a2 a3 : Value} {x : Nat} {st : List Value} {hp : qzH} : qzV d 30 39 [.ref x, a1, a2, a3] (st) hp = qzV d 30 40 [.ref x, a1, a2, a3] (.ref x :: st) hp := qv_aload (i := 0) mdc_30 dX2_set_39 rfl rfl rfl
theorem eX2_set_40 {d : Nat} {a0 a1 a2 a3 : Value} {a : Nat} {st : List Value} {hp : qzH} (ha : qzArr 2 a hp.1 = true) : qzV d 30 40 [a0, a1, a2, a3] (.ref a :: st) hp = qzV d 30 43 [a0, a1, a2, a3] (va_rf (hp.2.1 a 0) :: st) hp := qv_getR mdc_30 dX2_set_40 mdo_30 qff_2_10 ⟨by decide, rfl⟩ rfl ha
theorem eX2_set_43 {d : Nat} {a0 a1 a2 a3 : Value} {a : Nat} {st : List Value} {hp : qzH} (ha : qzArr 0 a hp.1 = true) : qzV d 30 43 [a0, a1, a2, a3] (.ref a :: st) hp = qzV d 30 46 [a0, a1, a2, a3] (va_rf (hp.2.1 a 1) :: st) hp := qv_getR mdc_30 dX2_set_43 mdo_30 qff_2_79 ⟨by decide, rfl⟩ rfl ha
theorem eX2_set_46 {d : Nat} {a0 a2 a3 : Value} {x : Int32} {st : List Value} {hp : qzH} : qzV d 30 46 [a0, .int x, a2, a3] (st) hp = qzV d 30 47 [a0, .int x, a2, a3] (.int x :: st) hp := qv_iload (i := 1) mdc_30 dX2_set_46 rfl rfl rfl
theorem eX2_set_47 {d : Nat} {a0 a1 a2 a3 : Value} {w0 w1 : Value} {st : List Value} {hp : qzH} (h8 : st.length ≤ 8) : qzV (d + 1) 30 47 [a0, a1, a2, a3] (w1 :: w0 :: st) hp = (qzC d 84 [w0, w1] hp).bind (fun r => qzV (d + 1) 30 50 [a0, a1, a2, a3] (r.1.toList ++ st) r.2) := qv_calls (n := 2) mdc_30 dX2_set_47 mdo_30 (by decide) qfc_2_72 ⟨rfl, by decide, rfl⟩ rfl ⟨rfl, rfl, by simp only [List.length_cons]; omega⟩ h8
theorem eX2_set_50 {d : Nat} {a0 a1 a2 a3 : Value} {x : Int32} {st : List Value} {hp : qzH} : qzV d 30 50 [a0, a1, a2, a3] (.int x :: st) hp = qzV d 30 51 [a0, a1, a2, .int x] (st) hp := qv_istore (i := 3) mdc_30 dX2_set_50 rfl (Nat.le_of_ble_eq_true rfl) rfl rfl
theorem eX2_set_51 {d : Nat} {a1 a2 a3 : Value} {x : Nat} {st : List Value} {hp : qzH} : qzV d 30 51 [.ref x, a1, a2, a3] (st) hp = qzV d 30 52 [.ref x, a1, a2, a3] (.ref x :: st) hp := qv_aload (i := 0) mdc_30 dX2_set_51 rfl rfl rfl
theorem eX2_set_52 {d : Nat} {a0 a1 a2 a3 : Value} {a : Nat} {st : List Value} {hp : qzH} (ha : qzArr 2 a hp.1 = true) : qzV d 30 52 [a0, a1, a2, a3] (.ref a :: st) hp = qzV d 30 55 [a0, a1, a2, a3] (va_rf (hp.2.1 a 0) :: st) hp := qv_getR mdc_30 dX2_set_52 mdo_30 qff_2_10 ⟨by decide, rfl⟩ rfl ha
theorem eX2_set_55 {d : Nat} {a0 a1 a2 a3 : Value} {a : Nat} {st : List Value} {hp : qzH} (ha : qzArr 0 a hp.1 = true) : qzV d 30 55 [a0, a1, a2, a3] (.ref a :: st) hp = qzV d 30 58 [a0, a1, a2, a3] (va_rf (hp.2.1 a 1) :: st) hp := qv_getR mdc_30 dX2_set_55 mdo_30 qff_2_79 ⟨by decide, rfl⟩ rfl ha
theorem eX2_set_58 {d : Nat} {a0 a2 a3 : Value} {x : Int32} {st : List Value} {hp : qzH} : qzV d 30 58 [a0, .int x, a2, a3] (st) hp = qzV d 30 59 [a0, .int x, a2, a3] (.int x :: st) hp := qv_iload (i := 1) mdc_30 dX2_set_58 rfl rfl rfl
theorem eX2_set_59 {d : Nat} {a0 a1 a3 : Value} {x : Int32} {st : List Value} {hp : qzH} : qzV d 30 59 [a0, a1, .int x, a3] (st) hp = qzV d 30 60 [a0, a1, .int x, a3] (.int x :: st) hp := qv_iload (i := 2) mdc_30 dX2_set_59 rfl rfl rfl
theorem eX2_set_60 {d : Nat} {a0 a1 a2 a3 : Value} {w0 w1 w2 : Value} {st : List Value} {hp : qzH} (h8 : st.length ≤ 8) : qzV (d + 1) 30 60 [a0, a1, a2, a3] (w2 :: w1 :: w0 :: st) hp = (qzC d 85 [w0, w1, w2] hp).bind (fun r => qzV (d + 1) 30 63 [a0, a1, a2, a3] (r.1.toList ++ st) r.2) := qv_calls (n := 3) mdc_30 dX2_set_60 mdo_30 (by decide) qfc_2_82 ⟨rfl, by decide, rfl⟩ rfl ⟨rfl, rfl, by simp only [List.length_cons]; omega⟩ h8
theorem eX2_set_63 {d : Nat} {a0 a1 a2 : Value} {x : Int32} {st : List Value} {hp : qzH} : qzV d 30 63 [a0, a1, a2, .int x] (st) hp = qzV d 30 64 [a0, a1, a2, .int x] (.int x :: st) hp := qv_iload (i := 3) mdc_30 dX2_set_63 rfl rfl rfl
theorem eX2_set_64 {d : Nat} {a0 a1 a2 a3 : Value} {v : Int32} {hp : qzH} : qzV d 30 64 [a0, a1, a2, a3] [.int v] hp = some (some (.int v), hp) := qv_iret mdc_30 dX2_set_64 mdr_30 rfl
theorem dX2_append_0 : decode cX2_append 0 = .ok (.iload_n 1, 1) := by decide +kernel
theorem dX2_append_1 : decode cX2_append 1 = .ok (.bipush 33, 2) := by decide +kernel
theorem dX2_append_3 : decode cX2_append 3 = .ok (.if_icmp .lt 9, 3) := by decide +kernel
theorem dX2_append_6 : decode cX2_append 6 = .ok (.iload_n 1, 1) := by decide +kernel
theorem dX2_append_7 : decode cX2_append 7 = .ok (.bipush 126, 2) := by decide +kernel
theorem dX2_append_9 : decode cX2_append 9 = .ok (.if_icmp .le 5, 3) := by decide +kernel
theorem dX2_append_12 : decode cX2_append 12 = .ok (.iconst (-1), 1) := by decide +kernel
theorem dX2_append_13 : decode cX2_append 13 = .ok (.ireturn, 1) := by decide +kernel
theorem dX2_append_14 : decode cX2_append 14 = .ok (.aload_n 0, 1) := by decide +kernel
theorem dX2_append_15 : decode cX2_append 15 = .ok (.getfield 86, 3) := by decide +kernel
theorem dX2_append_18 : decode cX2_append 18 = .ok (.ifCond .lt 15, 3) := by decide +kernel
theorem dX2_append_21 : decode cX2_append 21 = .ok (.aload_n 0, 1) := by decide +kernel
theorem dX2_append_22 : decode cX2_append 22 = .ok (.getfield 86, 3) := by decide +kernel
theorem dX2_append_25 : decode cX2_append 25 = .ok (.aload_n 0, 1) := by decide +kernel
theorem dX2_append_26 : decode cX2_append 26 = .ok (.getfield 26, 3) := by decide +kernel
theorem dX2_append_29 : decode cX2_append 29 = .ok (.arraylength, 1) := by decide +kernel
theorem dX2_append_30 : decode cX2_append 30 = .ok (.if_icmp .lt 6, 3) := by decide +kernel
theorem dX2_append_33 : decode cX2_append 33 = .ok (.bipush (-3), 2) := by decide +kernel
theorem dX2_append_35 : decode cX2_append 35 = .ok (.ireturn, 1) := by decide +kernel
theorem dX2_append_36 : decode cX2_append 36 = .ok (.aload_n 0, 1) := by decide +kernel
theorem dX2_append_37 : decode cX2_append 37 = .ok (.getfield 26, 3) := by decide +kernel
theorem dX2_append_40 : decode cX2_append 40 = .ok (.aload_n 0, 1) := by decide +kernel
theorem dX2_append_41 : decode cX2_append 41 = .ok (.getfield 86, 3) := by decide +kernel
theorem dX2_append_44 : decode cX2_append 44 = .ok (.iload_n 1, 1) := by decide +kernel
theorem dX2_append_45 : decode cX2_append 45 = .ok (.i2c, 1) := by decide +kernel
theorem dX2_append_46 : decode cX2_append 46 = .ok (.castore, 1) := by decide +kernel
theorem dX2_append_47 : decode cX2_append 47 = .ok (.aload_n 0, 1) := by decide +kernel
theorem dX2_append_48 : decode cX2_append 48 = .ok (.dup, 1) := by decide +kernel
theorem dX2_append_49 : decode cX2_append 49 = .ok (.getfield 86, 3) := by decide +kernel
theorem dX2_append_52 : decode cX2_append 52 = .ok (.iconst 1, 1) := by decide +kernel
theorem dX2_append_53 : decode cX2_append 53 = .ok (.iadd, 1) := by decide +kernel
theorem dX2_append_54 : decode cX2_append 54 = .ok (.putfield 86, 3) := by decide +kernel
theorem dX2_append_57 : decode cX2_append 57 = .ok (.aload_n 0, 1) := by decide +kernel
theorem dX2_append_58 : decode cX2_append 58 = .ok (.getfield 86, 3) := by decide +kernel
theorem dX2_append_61 : decode cX2_append 61 = .ok (.ireturn, 1) := by decide +kernel
theorem eX2_append_0 {d : Nat} {a0 : Value} {x : Int32} {st : List Value} {hp : qzH} : qzV d 31 0 [a0, .int x] (st) hp = qzV d 31 1 [a0, .int x] (.int x :: st) hp := qv_iload (i := 1) mdc_31 dX2_append_0 rfl rfl rfl
theorem eX2_append_1 {d : Nat} {a0 a1 : Value} {st : List Value} {hp : qzH} : qzV d 31 1 [a0, a1] (st) hp = qzV d 31 3 [a0, a1] (.int 33 :: st) hp := qv_bipush mdc_31 dX2_append_1 ib_33 rfl
theorem eX2_append_3 {d : Nat} {a0 a1 : Value} {x y : Int32} {st : List Value} {hp : qzH} : qzV d 31 3 [a0, a1] (.int y :: .int x :: st) hp = if x < y then qzV d 31 12 [a0, a1] (st) hp else qzV d 31 6 [a0, a1] (st) hp := qv_if2 mdc_31 dX2_append_3 rfl rfl rfl
theorem eX2_append_6 {d : Nat} {a0 : Value} {x : Int32} {st : List Value} {hp : qzH} : qzV d 31 6 [a0, .int x] (st) hp = qzV d 31 7 [a0, .int x] (.int x :: st) hp := qv_iload (i := 1) mdc_31 dX2_append_6 rfl rfl rfl
theorem eX2_append_7 {d : Nat} {a0 a1 : Value} {st : List Value} {hp : qzH} : qzV d 31 7 [a0, a1] (st) hp = qzV d 31 9 [a0, a1] (.int 126 :: st) hp := qv_bipush mdc_31 dX2_append_7 ib_126 rfl
theorem eX2_append_9 {d : Nat} {a0 a1 : Value} {x y : Int32} {st : List Value} {hp : qzH} : qzV d 31 9 [a0, a1] (.int y :: .int x :: st) hp = if x ≤ y then qzV d 31 14 [a0, a1] (st) hp else qzV d 31 12 [a0, a1] (st) hp := qv_if2 mdc_31 dX2_append_9 rfl rfl rfl
theorem eX2_append_12 {d : Nat} {a0 a1 : Value} {st : List Value} {hp : qzH} : qzV d 31 12 [a0, a1] (st) hp = qzV d 31 13 [a0, a1] (.int (-1) :: st) hp := qv_iconst mdc_31 dX2_append_12 il_m1 rfl
theorem eX2_append_13 {d : Nat} {a0 a1 : Value} {v : Int32} {hp : qzH} : qzV d 31 13 [a0, a1] [.int v] hp = some (some (.int v), hp) := qv_iret mdc_31 dX2_append_13 mdr_31 rfl
theorem eX2_append_14 {d : Nat} {a1 : Value} {x : Nat} {st : List Value} {hp : qzH} : qzV d 31 14 [.ref x, a1] (st) hp = qzV d 31 15 [.ref x, a1] (.ref x :: st) hp := qv_aload (i := 0) mdc_31 dX2_append_14 rfl rfl rfl
theorem eX2_append_15 {d : Nat} {a0 a1 : Value} {a : Nat} {st : List Value} {hp : qzH} (ha : qzArr 2 a hp.1 = true) : qzV d 31 15 [a0, a1] (.ref a :: st) hp = qzV d 31 18 [a0, a1] (.int (hp.2.2 a 7) :: st) hp := qv_getI mdc_31 dX2_append_15 mdo_31 qff_2_86 ⟨by decide, rfl⟩ rfl ha
theorem eX2_append_18 {d : Nat} {a0 a1 : Value} {x : Int32} {st : List Value} {hp : qzH} : qzV d 31 18 [a0, a1] (.int x :: st) hp = if x < 0 then qzV d 31 33 [a0, a1] (st) hp else qzV d 31 21 [a0, a1] (st) hp := qv_if1 mdc_31 dX2_append_18 rfl rfl rfl
theorem eX2_append_21 {d : Nat} {a1 : Value} {x : Nat} {st : List Value} {hp : qzH} : qzV d 31 21 [.ref x, a1] (st) hp = qzV d 31 22 [.ref x, a1] (.ref x :: st) hp := qv_aload (i := 0) mdc_31 dX2_append_21 rfl rfl rfl
theorem eX2_append_22 {d : Nat} {a0 a1 : Value} {a : Nat} {st : List Value} {hp : qzH} (ha : qzArr 2 a hp.1 = true) : qzV d 31 22 [a0, a1] (.ref a :: st) hp = qzV d 31 25 [a0, a1] (.int (hp.2.2 a 7) :: st) hp := qv_getI mdc_31 dX2_append_22 mdo_31 qff_2_86 ⟨by decide, rfl⟩ rfl ha
theorem eX2_append_25 {d : Nat} {a1 : Value} {x : Nat} {st : List Value} {hp : qzH} : qzV d 31 25 [.ref x, a1] (st) hp = qzV d 31 26 [.ref x, a1] (.ref x :: st) hp := qv_aload (i := 0) mdc_31 dX2_append_25 rfl rfl rfl
theorem eX2_append_26 {d : Nat} {a0 a1 : Value} {a : Nat} {st : List Value} {hp : qzH} (ha : qzArr 2 a hp.1 = true) : qzV d 31 26 [a0, a1] (.ref a :: st) hp = qzV d 31 29 [a0, a1] (va_rf (hp.2.1 a 6) :: st) hp := qv_getR mdc_31 dX2_append_26 mdo_31 qff_2_26 ⟨by decide, rfl⟩ rfl ha
theorem eX2_append_29 {d : Nat} {a0 a1 : Value} {a : Nat} {st : List Value} {hp : qzH} (ha : qzArr 4 a hp.1 = true ∨ qzArr 5 a hp.1 = true ∨ qzArr 6 a hp.1 = true) : qzV d 31 29 [a0, a1] (.ref a :: st) hp = qzV d 31 30 [a0, a1] (.int (Int32.ofNat (qzk a).2) :: st) hp := qv_alen mdc_31 dX2_append_29 rfl ha
theorem eX2_append_30 {d : Nat} {a0 a1 : Value} {x y : Int32} {st : List Value} {hp : qzH} : qzV d 31 30 [a0, a1] (.int y :: .int x :: st) hp = if x < y then qzV d 31 36 [a0, a1] (st) hp else qzV d 31 33 [a0, a1] (st) hp := qv_if2 mdc_31 dX2_append_30 rfl rfl rfl
theorem eX2_append_33 {d : Nat} {a0 a1 : Value} {st : List Value} {hp : qzH} : qzV d 31 33 [a0, a1] (st) hp = qzV d 31 35 [a0, a1] (.int (-3) :: st) hp := qv_bipush mdc_31 dX2_append_33 ib_m3 rfl
theorem eX2_append_35 {d : Nat} {a0 a1 : Value} {v : Int32} {hp : qzH} : qzV d 31 35 [a0, a1] [.int v] hp = some (some (.int v), hp) := qv_iret mdc_31 dX2_append_35 mdr_31 rfl
theorem eX2_append_36 {d : Nat} {a1 : Value} {x : Nat} {st : List Value} {hp : qzH} : qzV d 31 36 [.ref x, a1] (st) hp = qzV d 31 37 [.ref x, a1] (.ref x :: st) hp := qv_aload (i := 0) mdc_31 dX2_append_36 rfl rfl rfl
theorem eX2_append_37 {d : Nat} {a0 a1 : Value} {a : Nat} {st : List Value} {hp : qzH} (ha : qzArr 2 a hp.1 = true) : qzV d 31 37 [a0, a1] (.ref a :: st) hp = qzV d 31 40 [a0, a1] (va_rf (hp.2.1 a 6) :: st) hp := qv_getR mdc_31 dX2_append_37 mdo_31 qff_2_26 ⟨by decide, rfl⟩ rfl ha
theorem eX2_append_40 {d : Nat} {a1 : Value} {x : Nat} {st : List Value} {hp : qzH} : qzV d 31 40 [.ref x, a1] (st) hp = qzV d 31 41 [.ref x, a1] (.ref x :: st) hp := qv_aload (i := 0) mdc_31 dX2_append_40 rfl rfl rfl
theorem eX2_append_41 {d : Nat} {a0 a1 : Value} {a : Nat} {st : List Value} {hp : qzH} (ha : qzArr 2 a hp.1 = true) : qzV d 31 41 [a0, a1] (.ref a :: st) hp = qzV d 31 44 [a0, a1] (.int (hp.2.2 a 7) :: st) hp := qv_getI mdc_31 dX2_append_41 mdo_31 qff_2_86 ⟨by decide, rfl⟩ rfl ha
theorem eX2_append_44 {d : Nat} {a0 : Value} {x : Int32} {st : List Value} {hp : qzH} : qzV d 31 44 [a0, .int x] (st) hp = qzV d 31 45 [a0, .int x] (.int x :: st) hp := qv_iload (i := 1) mdc_31 dX2_append_44 rfl rfl rfl
theorem eX2_append_45 {d : Nat} {a0 a1 : Value} {x : Int32} {st : List Value} {hp : qzH} : qzV d 31 45 [a0, a1] (.int x :: st) hp = qzV d 31 46 [a0, a1] (.int (x.toUInt32 % 65536).toInt32 :: st) hp := qv_i2c mdc_31 dX2_append_45 rfl
theorem eX2_append_46 {d : Nat} {a0 a1 : Value} {i x : Int32} {a : Nat} {st : List Value} {hp : qzH} (ha : qzArr 5 a hp.1 = true) (hi : qzIn i (qzk a).2 = true) : qzV d 31 46 [a0, a1] (.int x :: .int i :: .ref a :: st) hp = qzV d 31 47 [a0, a1] st (hp.1, hp.2.1, qzUp hp.2.2 a i.toNatClampNeg (vp_nar .char x)) := qv_cast mdc_31 dX2_append_46 rfl ha hi
theorem eX2_append_47 {d : Nat} {a1 : Value} {x : Nat} {st : List Value} {hp : qzH} : qzV d 31 47 [.ref x, a1] (st) hp = qzV d 31 48 [.ref x, a1] (.ref x :: st) hp := qv_aload (i := 0) mdc_31 dX2_append_47 rfl rfl rfl
theorem eX2_append_48 {d : Nat} {a0 a1 : Value} {v : Value} {st : List Value} {hp : qzH} : qzV d 31 48 [a0, a1] (v :: st) hp = qzV d 31 49 [a0, a1] (v :: v :: st) hp := qv_dup mdc_31 dX2_append_48 rfl
theorem eX2_append_49 {d : Nat} {a0 a1 : Value} {a : Nat} {st : List Value} {hp : qzH} (ha : qzArr 2 a hp.1 = true) : qzV d 31 49 [a0, a1] (.ref a :: st) hp = qzV d 31 52 [a0, a1] (.int (hp.2.2 a 7) :: st) hp := qv_getI mdc_31 dX2_append_49 mdo_31 qff_2_86 ⟨by decide, rfl⟩ rfl ha
theorem eX2_append_52 {d : Nat} {a0 a1 : Value} {st : List Value} {hp : qzH} : qzV d 31 52 [a0, a1] (st) hp = qzV d 31 53 [a0, a1] (.int 1 :: st) hp := qv_iconst mdc_31 dX2_append_52 il_1 rfl
theorem eX2_append_53 {d : Nat} {a0 a1 : Value} {x y : Int32} {st : List Value} {hp : qzH} : qzV d 31 53 [a0, a1] (.int y :: .int x :: st) hp = qzV d 31 54 [a0, a1] (.int (x + y) :: st) hp := qv_bin (f := fun x y => x + y) mdc_31 dX2_append_53 rfl rfl
theorem eX2_append_54 {d : Nat} {a0 a1 : Value} {a : Nat} {x : Int32} {st : List Value} {hp : qzH} (ha : qzArr 2 a hp.1 = true) : qzV d 31 54 [a0, a1] (.int x :: .ref a :: st) hp = qzV d 31 57 [a0, a1] st (hp.1, hp.2.1, qzUp hp.2.2 a 7 x) := qv_putI mdc_31 dX2_append_54 mdo_31 qff_2_86 ⟨by decide, rfl, rfl⟩ rfl ha ⟨rfl, rfl⟩
theorem eX2_append_57 {d : Nat} {a1 : Value} {x : Nat} {st : List Value} {hp : qzH} : qzV d 31 57 [.ref x, a1] (st) hp = qzV d 31 58 [.ref x, a1] (.ref x :: st) hp := qv_aload (i := 0) mdc_31 dX2_append_57 rfl rfl rfl
theorem eX2_append_58 {d : Nat} {a0 a1 : Value} {a : Nat} {st : List Value} {hp : qzH} (ha : qzArr 2 a hp.1 = true) : qzV d 31 58 [a0, a1] (.ref a :: st) hp = qzV d 31 61 [a0, a1] (.int (hp.2.2 a 7) :: st) hp := qv_getI mdc_31 dX2_append_58 mdo_31 qff_2_86 ⟨by decide, rfl⟩ rfl ha
theorem eX2_append_61 {d : Nat} {a0 a1 : Value} {v : Int32} {hp : qzH} : qzV d 31 61 [a0, a1] [.int v] hp = some (some (.int v), hp) := qv_iret mdc_31 dX2_append_61 mdr_31 rfl
theorem dX2_clear_0 : decode cX2_clear 0 = .ok (.aload_n 0, 1) := by decide +kernel
theorem dX2_clear_1 : decode cX2_clear 1 = .ok (.getfield 86, 3) := by decide +kernel
theorem dX2_clear_4 : decode cX2_clear 4 = .ok (.istore_n 1, 1) := by decide +kernel
theorem dX2_clear_5 : decode cX2_clear 5 = .ok (.aload_n 0, 1) := by decide +kernel
theorem dX2_clear_6 : decode cX2_clear 6 = .ok (.iconst 0, 1) := by decide +kernel
theorem dX2_clear_7 : decode cX2_clear 7 = .ok (.putfield 86, 3) := by decide +kernel
theorem dX2_clear_10 : decode cX2_clear 10 = .ok (.iload_n 1, 1) := by decide +kernel
theorem dX2_clear_11 : decode cX2_clear 11 = .ok (.ireturn, 1) := by decide +kernel
theorem eX2_clear_0 {d : Nat} {a1 : Value} {x : Nat} {st : List Value} {hp : qzH} : qzV d 32 0 [.ref x, a1] (st) hp = qzV d 32 1 [.ref x, a1] (.ref x :: st) hp := qv_aload (i := 0) mdc_32 dX2_clear_0 rfl rfl rfl
theorem eX2_clear_1 {d : Nat} {a0 a1 : Value} {a : Nat} {st : List Value} {hp : qzH} (ha : qzArr 2 a hp.1 = true) : qzV d 32 1 [a0, a1] (.ref a :: st) hp = qzV d 32 4 [a0, a1] (.int (hp.2.2 a 7) :: st) hp := qv_getI mdc_32 dX2_clear_1 mdo_32 qff_2_86 ⟨by decide, rfl⟩ rfl ha
theorem eX2_clear_4 {d : Nat} {a0 a1 : Value} {x : Int32} {st : List Value} {hp : qzH} : qzV d 32 4 [a0, a1] (.int x :: st) hp = qzV d 32 5 [a0, .int x] (st) hp := qv_istore (i := 1) mdc_32 dX2_clear_4 rfl (Nat.le_of_ble_eq_true rfl) rfl rfl
theorem eX2_clear_5 {d : Nat} {a1 : Value} {x : Nat} {st : List Value} {hp : qzH} : qzV d 32 5 [.ref x, a1] (st) hp = qzV d 32 6 [.ref x, a1] (.ref x :: st) hp := qv_aload (i := 0) mdc_32 dX2_clear_5 rfl rfl rfl
theorem eX2_clear_6 {d : Nat} {a0 a1 : Value} {st : List Value} {hp : qzH} : qzV d 32 6 [a0, a1] (st) hp = qzV d 32 7 [a0, a1] (.int 0 :: st) hp := qv_iconst mdc_32 dX2_clear_6 il_0 rfl
theorem eX2_clear_7 {d : Nat} {a0 a1 : Value} {a : Nat} {x : Int32} {st : List Value} {hp : qzH} (ha : qzArr 2 a hp.1 = true) : qzV d 32 7 [a0, a1] (.int x :: .ref a :: st) hp = qzV d 32 10 [a0, a1] st (hp.1, hp.2.1, qzUp hp.2.2 a 7 x) := qv_putI mdc_32 dX2_clear_7 mdo_32 qff_2_86 ⟨by decide, rfl, rfl⟩ rfl ha ⟨rfl, rfl⟩
theorem eX2_clear_10 {d : Nat} {a0 : Value} {x : Int32} {st : List Value} {hp : qzH} : qzV d 32 10 [a0, .int x] (st) hp = qzV d 32 11 [a0, .int x] (.int x :: st) hp := qv_iload (i := 1) mdc_32 dX2_clear_10 rfl rfl rfl
theorem eX2_clear_11 {d : Nat} {a0 a1 : Value} {v : Int32} {hp : qzH} : qzV d 32 11 [a0, a1] [.int v] hp = some (some (.int v), hp) := qv_iret mdc_32 dX2_clear_11 mdr_32 rfl
theorem dX2_fault_0 : decode cX2_fault 0 = .ok (.iload_n 1, 1) := by decide +kernel
theorem dX2_fault_1 : decode cX2_fault 1 = .ok (.ifCond .lt 8, 3) := by decide +kernel
theorem dX2_fault_4 : decode cX2_fault 4 = .ok (.iload_n 1, 1) := by decide +kernel
theorem dX2_fault_5 : decode cX2_fault 5 = .ok (.iconst 1, 1) := by decide +kernel
theorem dX2_fault_6 : decode cX2_fault 6 = .ok (.if_icmp .le 5, 3) := by decide +kernel
theorem dX2_fault_9 : decode cX2_fault 9 = .ok (.iconst (-1), 1) := by decide +kernel
theorem dX2_fault_10 : decode cX2_fault 10 = .ok (.ireturn, 1) := by decide +kernel
theorem dX2_fault_11 : decode cX2_fault 11 = .ok (.iload_n 1, 1) := by decide +kernel
theorem dX2_fault_12 : decode cX2_fault 12 = .ok (.ifCond .ne 10, 3) := by decide +kernel
theorem dX2_fault_15 : decode cX2_fault 15 = .ok (.aload_n 0, 1) := by decide +kernel
theorem dX2_fault_16 : decode cX2_fault 16 = .ok (.invokevirtual 89, 3) := by decide +kernel
theorem dX2_fault_19 : decode cX2_fault 19 = .ok (.goto 7, 3) := by decide +kernel
theorem dX2_fault_22 : decode cX2_fault 22 = .ok (.aload_n 0, 1) := by decide +kernel
theorem dX2_fault_23 : decode cX2_fault 23 = .ok (.invokevirtual 92, 3) := by decide +kernel
theorem dX2_fault_26 : decode cX2_fault 26 = .ok (.ireturn, 1) := by decide +kernel
theorem eX2_fault_0 {d : Nat} {a0 : Value} {x : Int32} {st : List Value} {hp : qzH} : qzV d 33 0 [a0, .int x] (st) hp = qzV d 33 1 [a0, .int x] (.int x :: st) hp := qv_iload (i := 1) mdc_33 dX2_fault_0 rfl rfl rfl
theorem eX2_fault_1 {d : Nat} {a0 a1 : Value} {x : Int32} {st : List Value} {hp : qzH} : qzV d 33 1 [a0, a1] (.int x :: st) hp = if x < 0 then qzV d 33 9 [a0, a1] (st) hp else qzV d 33 4 [a0, a1] (st) hp := qv_if1 mdc_33 dX2_fault_1 rfl rfl rfl
theorem eX2_fault_4 {d : Nat} {a0 : Value} {x : Int32} {st : List Value} {hp : qzH} : qzV d 33 4 [a0, .int x] (st) hp = qzV d 33 5 [a0, .int x] (.int x :: st) hp := qv_iload (i := 1) mdc_33 dX2_fault_4 rfl rfl rfl
theorem eX2_fault_5 {d : Nat} {a0 a1 : Value} {st : List Value} {hp : qzH} : qzV d 33 5 [a0, a1] (st) hp = qzV d 33 6 [a0, a1] (.int 1 :: st) hp := qv_iconst mdc_33 dX2_fault_5 il_1 rfl
theorem eX2_fault_6 {d : Nat} {a0 a1 : Value} {x y : Int32} {st : List Value} {hp : qzH} : qzV d 33 6 [a0, a1] (.int y :: .int x :: st) hp = if x ≤ y then qzV d 33 11 [a0, a1] (st) hp else qzV d 33 9 [a0, a1] (st) hp := qv_if2 mdc_33 dX2_fault_6 rfl rfl rfl
theorem eX2_fault_9 {d : Nat} {a0 a1 : Value} {st : List Value} {hp : qzH} : qzV d 33 9 [a0, a1] (st) hp = qzV d 33 10 [a0, a1] (.int (-1) :: st) hp := qv_iconst mdc_33 dX2_fault_9 il_m1 rfl
theorem eX2_fault_10 {d : Nat} {a0 a1 : Value} {v : Int32} {hp : qzH} : qzV d 33 10 [a0, a1] [.int v] hp = some (some (.int v), hp) := qv_iret mdc_33 dX2_fault_10 mdr_33 rfl
theorem eX2_fault_11 {d : Nat} {a0 : Value} {x : Int32} {st : List Value} {hp : qzH} : qzV d 33 11 [a0, .int x] (st) hp = qzV d 33 12 [a0, .int x] (.int x :: st) hp := qv_iload (i := 1) mdc_33 dX2_fault_11 rfl rfl rfl
theorem eX2_fault_12 {d : Nat} {a0 a1 : Value} {x : Int32} {st : List Value} {hp : qzH} : qzV d 33 12 [a0, a1] (.int x :: st) hp = if ¬ x = 0 then qzV d 33 22 [a0, a1] (st) hp else qzV d 33 15 [a0, a1] (st) hp := qv_if1 mdc_33 dX2_fault_12 rfl rfl rfl
theorem eX2_fault_15 {d : Nat} {a1 : Value} {x : Nat} {st : List Value} {hp : qzH} : qzV d 33 15 [.ref x, a1] (st) hp = qzV d 33 16 [.ref x, a1] (.ref x :: st) hp := qv_aload (i := 0) mdc_33 dX2_fault_15 rfl rfl rfl
theorem eX2_fault_16 {d : Nat} {a0 a1 : Value} {b : Nat} {st : List Value} {hp : qzH} (h8 : st.length ≤ 8) (hb : qzArr 2 b hp.1 = true) : qzV (d + 1) 33 16 [a0, a1] (.ref b :: st) hp = (qzC d 76 (.ref b :: []) hp).bind (fun r => qzV (d + 1) 33 19 [a0, a1] (r.1.toList ++ st) r.2) := qv_callv (n := 0) mdc_33 dX2_fault_16 mdo_33 (by decide) qfc_2_89 ⟨rfl, by decide, rfl⟩ rfl ⟨rfl, rfl, by simp only [List.length_cons]; omega⟩ h8 hb
theorem eX2_fault_19 {d : Nat} {a0 a1 : Value} {st : List Value} {hp : qzH} : qzV d 33 19 [a0, a1] (st) hp = qzV d 33 26 [a0, a1] (st) hp := qv_goto mdc_33 dX2_fault_19 rfl
theorem eX2_fault_22 {d : Nat} {a1 : Value} {x : Nat} {st : List Value} {hp : qzH} : qzV d 33 22 [.ref x, a1] (st) hp = qzV d 33 23 [.ref x, a1] (.ref x :: st) hp := qv_aload (i := 0) mdc_33 dX2_fault_22 rfl rfl rfl
theorem eX2_fault_23 {d : Nat} {a0 a1 : Value} {b : Nat} {st : List Value} {hp : qzH} (h8 : st.length ≤ 8) (hb : qzArr 2 b hp.1 = true) : qzV (d + 1) 33 23 [a0, a1] (.ref b :: st) hp = (qzC d 79 (.ref b :: []) hp).bind (fun r => qzV (d + 1) 33 26 [a0, a1] (r.1.toList ++ st) r.2) := qv_callv (n := 0) mdc_33 dX2_fault_23 mdo_33 (by decide) qfc_2_92 ⟨rfl, by decide, rfl⟩ rfl ⟨rfl, rfl, by simp only [List.length_cons]; omega⟩ h8 hb
theorem eX2_fault_26 {d : Nat} {a0 a1 : Value} {v : Int32} {hp : qzH} : qzV d 33 26 [a0, a1] [.int v] hp = some (some (.int v), hp) := qv_iret mdc_33 dX2_fault_26 mdr_33 rfl
theorem dX2_load_0 : decode cX2_load 0 = .ok (.aload_n 0, 1) := by decide +kernel
theorem dX2_load_1 : decode cX2_load 1 = .ok (.invokevirtual 89, 3) := by decide +kernel
theorem dX2_load_4 : decode cX2_load 4 = .ok (.bipush (-4), 2) := by decide +kernel
theorem dX2_load_6 : decode cX2_load 6 = .ok (.if_icmp .eq 6, 3) := by decide +kernel
theorem dX2_load_9 : decode cX2_load 9 = .ok (.bipush (-2), 2) := by decide +kernel
theorem dX2_load_11 : decode cX2_load 11 = .ok (.ireturn, 1) := by decide +kernel
theorem dX2_load_12 : decode cX2_load 12 = .ok (.aload_n 0, 1) := by decide +kernel
theorem dX2_load_13 : decode cX2_load 13 = .ok (.invokevirtual 44, 3) := by decide +kernel
theorem dX2_load_16 : decode cX2_load 16 = .ok (.aload_n 0, 1) := by decide +kernel
theorem dX2_load_17 : decode cX2_load 17 = .ok (.invokevirtual 95, 3) := by decide +kernel
theorem dX2_load_20 : decode cX2_load 20 = .ok (.istore_n 1, 1) := by decide +kernel
theorem dX2_load_21 : decode cX2_load 21 = .ok (.aload_n 0, 1) := by decide +kernel
theorem dX2_load_22 : decode cX2_load 22 = .ok (.iload_n 1, 1) := by decide +kernel
theorem dX2_load_23 : decode cX2_load 23 = .ok (.invokevirtual 98, 3) := by decide +kernel
theorem dX2_load_26 : decode cX2_load 26 = .ok (.bipush 42, 2) := by decide +kernel
theorem dX2_load_28 : decode cX2_load 28 = .ok (.if_icmp .ne 11, 3) := by decide +kernel
theorem dX2_load_31 : decode cX2_load 31 = .ok (.aload_n 0, 1) := by decide +kernel
theorem dX2_load_32 : decode cX2_load 32 = .ok (.iload_n 1, 1) := by decide +kernel
theorem dX2_load_33 : decode cX2_load 33 = .ok (.invokevirtual 102, 3) := by decide +kernel
theorem dX2_load_36 : decode cX2_load 36 = .ok (.goto 10, 3) := by decide +kernel
theorem dX2_load_39 : decode cX2_load 39 = .ok (.aload_n 0, 1) := by decide +kernel
theorem dX2_load_40 : decode cX2_load 40 = .ok (.iload_n 1, 1) := by decide +kernel
theorem dX2_load_41 : decode cX2_load 41 = .ok (.iload_n 1, 1) := by decide +kernel
theorem dX2_load_42 : decode cX2_load 42 = .ok (.iconst 0, 1) := by decide +kernel
theorem dX2_load_43 : decode cX2_load 43 = .ok (.invokevirtual 106, 3) := by decide +kernel
theorem dX2_load_46 : decode cX2_load 46 = .ok (.aload_n 0, 1) := by decide +kernel
theorem dX2_load_47 : decode cX2_load 47 = .ok (.iconst 0, 1) := by decide +kernel
theorem dX2_load_48 : decode cX2_load 48 = .ok (.putfield 86, 3) := by decide +kernel
theorem dX2_load_51 : decode cX2_load 51 = .ok (.aload_n 0, 1) := by decide +kernel
theorem dX2_load_52 : decode cX2_load 52 = .ok (.getfield 10, 3) := by decide +kernel
theorem dX2_load_55 : decode cX2_load 55 = .ok (.invokevirtual 57, 3) := by decide +kernel
theorem dX2_load_58 : decode cX2_load 58 = .ok (.aload_n 0, 1) := by decide +kernel
theorem dX2_load_59 : decode cX2_load 59 = .ok (.getfield 10, 3) := by decide +kernel
theorem dX2_load_62 : decode cX2_load 62 = .ok (.getfield 60, 3) := by decide +kernel
theorem dX2_load_65 : decode cX2_load 65 = .ok (.ireturn, 1) := by decide +kernel
theorem eX2_load_0 {d : Nat} {a1 : Value} {x : Nat} {st : List Value} {hp : qzH} : qzV d 34 0 [.ref x, a1] (st) hp = qzV d 34 1 [.ref x, a1] (.ref x :: st) hp := qv_aload (i := 0) mdc_34 dX2_load_0 rfl rfl rfl
theorem eX2_load_1 {d : Nat} {a0 a1 : Value} {b : Nat} {st : List Value} {hp : qzH} (h8 : st.length ≤ 8) (hb : qzArr 2 b hp.1 = true) : qzV (d + 1) 34 1 [a0, a1] (.ref b :: st) hp = (qzC d 76 (.ref b :: []) hp).bind (fun r => qzV (d + 1) 34 4 [a0, a1] (r.1.toList ++ st) r.2) := qv_callv (n := 0) mdc_34 dX2_load_1 mdo_34 (by decide) qfc_2_89 ⟨rfl, by decide, rfl⟩ rfl ⟨rfl, rfl, by simp only [List.length_cons]; omega⟩ h8 hb
theorem eX2_load_4 {d : Nat} {a0 a1 : Value} {st : List Value} {hp : qzH} : qzV d 34 4 [a0, a1] (st) hp = qzV d 34 6 [a0, a1] (.int (-4) :: st) hp := qv_bipush mdc_34 dX2_load_4 ib_m4 rfl
theorem eX2_load_6 {d : Nat} {a0 a1 : Value} {x y : Int32} {st : List Value} {hp : qzH} : qzV d 34 6 [a0, a1] (.int y :: .int x :: st) hp = if x = y then qzV d 34 12 [a0, a1] (st) hp else qzV d 34 9 [a0, a1] (st) hp := qv_if2 mdc_34 dX2_load_6 rfl rfl rfl
theorem eX2_load_9 {d : Nat} {a0 a1 : Value} {st : List Value} {hp : qzH} : qzV d 34 9 [a0, a1] (st) hp = qzV d 34 11 [a0, a1] (.int (-2) :: st) hp := qv_bipush mdc_34 dX2_load_9 ib_m2 rfl
theorem eX2_load_11 {d : Nat} {a0 a1 : Value} {v : Int32} {hp : qzH} : qzV d 34 11 [a0, a1] [.int v] hp = some (some (.int v), hp) := qv_iret mdc_34 dX2_load_11 mdr_34 rfl
theorem eX2_load_12 {d : Nat} {a1 : Value} {x : Nat} {st : List Value} {hp : qzH} : qzV d 34 12 [.ref x, a1] (st) hp = qzV d 34 13 [.ref x, a1] (.ref x :: st) hp := qv_aload (i := 0) mdc_34 dX2_load_12 rfl rfl rfl
theorem eX2_load_13 {d : Nat} {a0 a1 : Value} {b : Nat} {st : List Value} {hp : qzH} (h8 : st.length ≤ 8) (hb : qzArr 2 b hp.1 = true) : qzV (d + 1) 34 13 [a0, a1] (.ref b :: st) hp = (qzC d 51 (.ref b :: []) hp).bind (fun r => qzV (d + 1) 34 16 [a0, a1] (r.1.toList ++ st) r.2) := qv_callv (n := 0) mdc_34 dX2_load_13 mdo_34 (by decide) qfc_2_44 ⟨rfl, by decide, rfl⟩ rfl ⟨rfl, rfl, by simp only [List.length_cons]; omega⟩ h8 hb
theorem eX2_load_16 {d : Nat} {a1 : Value} {x : Nat} {st : List Value} {hp : qzH} : qzV d 34 16 [.ref x, a1] (st) hp = qzV d 34 17 [.ref x, a1] (.ref x :: st) hp := qv_aload (i := 0) mdc_34 dX2_load_16 rfl rfl rfl
theorem eX2_load_17 {d : Nat} {a0 a1 : Value} {b : Nat} {st : List Value} {hp : qzH} (h8 : st.length ≤ 8) (hb : qzArr 2 b hp.1 = true) : qzV (d + 1) 34 17 [a0, a1] (.ref b :: st) hp = (qzC d 75 (.ref b :: []) hp).bind (fun r => qzV (d + 1) 34 20 [a0, a1] (r.1.toList ++ st) r.2) := qv_callv (n := 0) mdc_34 dX2_load_17 mdo_34 (by decide) qfc_2_95 ⟨rfl, by decide, rfl⟩ rfl ⟨rfl, rfl, by simp only [List.length_cons]; omega⟩ h8 hb
theorem eX2_load_20 {d : Nat} {a0 a1 : Value} {x : Int32} {st : List Value} {hp : qzH} : qzV d 34 20 [a0, a1] (.int x :: st) hp = qzV d 34 21 [a0, .int x] (st) hp := qv_istore (i := 1) mdc_34 dX2_load_20 rfl (Nat.le_of_ble_eq_true rfl) rfl rfl
theorem eX2_load_21 {d : Nat} {a1 : Value} {x : Nat} {st : List Value} {hp : qzH} : qzV d 34 21 [.ref x, a1] (st) hp = qzV d 34 22 [.ref x, a1] (.ref x :: st) hp := qv_aload (i := 0) mdc_34 dX2_load_21 rfl rfl rfl
theorem eX2_load_22 {d : Nat} {a0 : Value} {x : Int32} {st : List Value} {hp : qzH} : qzV d 34 22 [a0, .int x] (st) hp = qzV d 34 23 [a0, .int x] (.int x :: st) hp := qv_iload (i := 1) mdc_34 dX2_load_22 rfl rfl rfl
theorem eX2_load_23 {d : Nat} {a0 a1 : Value} {w0 : Value} {b : Nat} {st : List Value} {hp : qzH} (h8 : st.length ≤ 8) (hb : qzArr 2 b hp.1 = true) : qzV (d + 1) 34 23 [a0, a1] (w0 :: .ref b :: st) hp = (qzC d 72 (.ref b :: [w0]) hp).bind (fun r => qzV (d + 1) 34 26 [a0, a1] (r.1.toList ++ st) r.2) := qv_callv (n := 1) mdc_34 dX2_load_23 mdo_34 (by decide) qfc_2_98 ⟨rfl, by decide, rfl⟩ rfl ⟨rfl, rfl, by simp only [List.length_cons]; omega⟩ h8 hb
theorem eX2_load_26 {d : Nat} {a0 a1 : Value} {st : List Value} {hp : qzH} : qzV d 34 26 [a0, a1] (st) hp = qzV d 34 28 [a0, a1] (.int 42 :: st) hp := qv_bipush mdc_34 dX2_load_26 ib_42 rfl
theorem eX2_load_28 {d : Nat} {a0 a1 : Value} {x y : Int32} {st : List Value} {hp : qzH} : qzV d 34 28 [a0, a1] (.int y :: .int x :: st) hp = if ¬ x = y then qzV d 34 39 [a0, a1] (st) hp else qzV d 34 31 [a0, a1] (st) hp := qv_if2 mdc_34 dX2_load_28 rfl rfl rfl
theorem eX2_load_31 {d : Nat} {a1 : Value} {x : Nat} {st : List Value} {hp : qzH} : qzV d 34 31 [.ref x, a1] (st) hp = qzV d 34 32 [.ref x, a1] (.ref x :: st) hp := qv_aload (i := 0) mdc_34 dX2_load_31 rfl rfl rfl
theorem eX2_load_32 {d : Nat} {a0 : Value} {x : Int32} {st : List Value} {hp : qzH} : qzV d 34 32 [a0, .int x] (st) hp = qzV d 34 33 [a0, .int x] (.int x :: st) hp := qv_iload (i := 1) mdc_34 dX2_load_32 rfl rfl rfl
theorem eX2_load_33 {d : Nat} {a0 a1 : Value} {w0 : Value} {b : Nat} {st : List Value} {hp : qzH} (h8 : st.length ≤ 8) (hb : qzArr 2 b hp.1 = true) : qzV (d + 1) 34 33 [a0, a1] (w0 :: .ref b :: st) hp = (qzC d 80 (.ref b :: [w0]) hp).bind (fun r => qzV (d + 1) 34 36 [a0, a1] (r.1.toList ++ st) r.2) := qv_callv (n := 1) mdc_34 dX2_load_33 mdo_34 (by decide) qfc_2_102 ⟨rfl, by decide, rfl⟩ rfl ⟨rfl, rfl, by simp only [List.length_cons]; omega⟩ h8 hb
theorem eX2_load_36 {d : Nat} {a0 a1 : Value} {st : List Value} {hp : qzH} : qzV d 34 36 [a0, a1] (st) hp = qzV d 34 46 [a0, a1] (st) hp := qv_goto mdc_34 dX2_load_36 rfl
theorem eX2_load_39 {d : Nat} {a1 : Value} {x : Nat} {st : List Value} {hp : qzH} : qzV d 34 39 [.ref x, a1] (st) hp = qzV d 34 40 [.ref x, a1] (.ref x :: st) hp := qv_aload (i := 0) mdc_34 dX2_load_39 rfl rfl rfl
theorem eX2_load_40 {d : Nat} {a0 : Value} {x : Int32} {st : List Value} {hp : qzH} : qzV d 34 40 [a0, .int x] (st) hp = qzV d 34 41 [a0, .int x] (.int x :: st) hp := qv_iload (i := 1) mdc_34 dX2_load_40 rfl rfl rfl
theorem eX2_load_41 {d : Nat} {a0 : Value} {x : Int32} {st : List Value} {hp : qzH} : qzV d 34 41 [a0, .int x] (st) hp = qzV d 34 42 [a0, .int x] (.int x :: st) hp := qv_iload (i := 1) mdc_34 dX2_load_41 rfl rfl rfl
theorem eX2_load_42 {d : Nat} {a0 a1 : Value} {st : List Value} {hp : qzH} : qzV d 34 42 [a0, a1] (st) hp = qzV d 34 43 [a0, a1] (.int 0 :: st) hp := qv_iconst mdc_34 dX2_load_42 il_0 rfl
theorem eX2_load_43 {d : Nat} {a0 a1 : Value} {w0 w1 w2 : Value} {b : Nat} {st : List Value} {hp : qzH} (h8 : st.length ≤ 8) (hb : qzArr 2 b hp.1 = true) : qzV (d + 1) 34 43 [a0, a1] (w2 :: w1 :: w0 :: .ref b :: st) hp = (qzC d 81 (.ref b :: [w0, w1, w2]) hp).bind (fun r => qzV (d + 1) 34 46 [a0, a1] (r.1.toList ++ st) r.2) := qv_callv (n := 3) mdc_34 dX2_load_43 mdo_34 (by decide) qfc_2_106 ⟨rfl, by decide, rfl⟩ rfl ⟨rfl, rfl, by simp only [List.length_cons]; omega⟩ h8 hb
theorem eX2_load_46 {d : Nat} {a1 : Value} {x : Nat} {st : List Value} {hp : qzH} : qzV d 34 46 [.ref x, a1] (st) hp = qzV d 34 47 [.ref x, a1] (.ref x :: st) hp := qv_aload (i := 0) mdc_34 dX2_load_46 rfl rfl rfl
theorem eX2_load_47 {d : Nat} {a0 a1 : Value} {st : List Value} {hp : qzH} : qzV d 34 47 [a0, a1] (st) hp = qzV d 34 48 [a0, a1] (.int 0 :: st) hp := qv_iconst mdc_34 dX2_load_47 il_0 rfl
theorem eX2_load_48 {d : Nat} {a0 a1 : Value} {a : Nat} {x : Int32} {st : List Value} {hp : qzH} (ha : qzArr 2 a hp.1 = true) : qzV d 34 48 [a0, a1] (.int x :: .ref a :: st) hp = qzV d 34 51 [a0, a1] st (hp.1, hp.2.1, qzUp hp.2.2 a 7 x) := qv_putI mdc_34 dX2_load_48 mdo_34 qff_2_86 ⟨by decide, rfl, rfl⟩ rfl ha ⟨rfl, rfl⟩
theorem eX2_load_51 {d : Nat} {a1 : Value} {x : Nat} {st : List Value} {hp : qzH} : qzV d 34 51 [.ref x, a1] (st) hp = qzV d 34 52 [.ref x, a1] (.ref x :: st) hp := qv_aload (i := 0) mdc_34 dX2_load_51 rfl rfl rfl
theorem eX2_load_52 {d : Nat} {a0 a1 : Value} {a : Nat} {st : List Value} {hp : qzH} (ha : qzArr 2 a hp.1 = true) : qzV d 34 52 [a0, a1] (.ref a :: st) hp = qzV d 34 55 [a0, a1] (va_rf (hp.2.1 a 0) :: st) hp := qv_getR mdc_34 dX2_load_52 mdo_34 qff_2_10 ⟨by decide, rfl⟩ rfl ha
theorem eX2_load_55 {d : Nat} {a0 a1 : Value} {b : Nat} {st : List Value} {hp : qzH} (h8 : st.length ≤ 8) (hb : qzArr 0 b hp.1 = true) : qzV (d + 1) 34 55 [a0, a1] (.ref b :: st) hp = (qzC d 2 (.ref b :: []) hp).bind (fun r => qzV (d + 1) 34 58 [a0, a1] (r.1.toList ++ st) r.2) := qv_callv (n := 0) mdc_34 dX2_load_55 mdo_34 (by decide) qfc_2_57 ⟨rfl, by decide, rfl⟩ rfl ⟨rfl, rfl, by simp only [List.length_cons]; omega⟩ h8 hb
theorem eX2_load_58 {d : Nat} {a1 : Value} {x : Nat} {st : List Value} {hp : qzH} : qzV d 34 58 [.ref x, a1] (st) hp = qzV d 34 59 [.ref x, a1] (.ref x :: st) hp := qv_aload (i := 0) mdc_34 dX2_load_58 rfl rfl rfl
theorem eX2_load_59 {d : Nat} {a0 a1 : Value} {a : Nat} {st : List Value} {hp : qzH} (ha : qzArr 2 a hp.1 = true) : qzV d 34 59 [a0, a1] (.ref a :: st) hp = qzV d 34 62 [a0, a1] (va_rf (hp.2.1 a 0) :: st) hp := qv_getR mdc_34 dX2_load_59 mdo_34 qff_2_10 ⟨by decide, rfl⟩ rfl ha
theorem eX2_load_62 {d : Nat} {a0 a1 : Value} {a : Nat} {st : List Value} {hp : qzH} (ha : qzArr 0 a hp.1 = true) : qzV d 34 62 [a0, a1] (.ref a :: st) hp = qzV d 34 65 [a0, a1] (.int (hp.2.2 a 6) :: st) hp := qv_getI mdc_34 dX2_load_62 mdo_34 qff_2_60 ⟨by decide, rfl⟩ rfl ha
theorem eX2_load_65 {d : Nat} {a0 a1 : Value} {v : Int32} {hp : qzH} : qzV d 34 65 [a0, a1] [.int v] hp = some (some (.int v), hp) := qv_iret mdc_34 dX2_load_65 mdr_34 rfl
theorem dX2_play_0 : decode cX2_play 0 = .ok (.aload_n 0, 1) := by decide +kernel
theorem dX2_play_1 : decode cX2_play 1 = .ok (.invokevirtual 92, 3) := by decide +kernel
theorem dX2_play_4 : decode cX2_play 4 = .ok (.bipush (-4), 2) := by decide +kernel
theorem dX2_play_6 : decode cX2_play 6 = .ok (.if_icmp .eq 6, 3) := by decide +kernel
theorem dX2_play_9 : decode cX2_play 9 = .ok (.bipush (-2), 2) := by decide +kernel
theorem dX2_play_11 : decode cX2_play 11 = .ok (.ireturn, 1) := by decide +kernel
theorem dX2_play_12 : decode cX2_play 12 = .ok (.aload_n 0, 1) := by decide +kernel
theorem dX2_play_13 : decode cX2_play 13 = .ok (.invokevirtual 44, 3) := by decide +kernel
theorem dX2_play_16 : decode cX2_play 16 = .ok (.iconst 0, 1) := by decide +kernel
theorem dX2_play_17 : decode cX2_play 17 = .ok (.istore_n 1, 1) := by decide +kernel
theorem dX2_play_18 : decode cX2_play 18 = .ok (.iconst 0, 1) := by decide +kernel
theorem dX2_play_19 : decode cX2_play 19 = .ok (.istore_n 2, 1) := by decide +kernel
theorem dX2_play_20 : decode cX2_play 20 = .ok (.iload_n 2, 1) := by decide +kernel
theorem dX2_play_21 : decode cX2_play 21 = .ok (.aload_n 0, 1) := by decide +kernel
theorem dX2_play_22 : decode cX2_play 22 = .ok (.getfield 86, 3) := by decide +kernel
theorem dX2_play_25 : decode cX2_play 25 = .ok (.if_icmp .ge 52, 3) := by decide +kernel
theorem dX2_play_28 : decode cX2_play 28 = .ok (.aload_n 0, 1) := by decide +kernel
theorem dX2_play_29 : decode cX2_play 29 = .ok (.iload_n 2, 1) := by decide +kernel
theorem dX2_play_30 : decode cX2_play 30 = .ok (.invokevirtual 110, 3) := by decide +kernel
theorem dX2_play_33 : decode cX2_play 33 = .ok (.istore_n 3, 1) := by decide +kernel
theorem dX2_play_34 : decode cX2_play 34 = .ok (.iload_n 3, 1) := by decide +kernel
theorem dX2_play_35 : decode cX2_play 35 = .ok (.bipush (-2), 2) := by decide +kernel
theorem dX2_play_37 : decode cX2_play 37 = .ok (.if_icmp .ne 6, 3) := by decide +kernel
theorem dX2_play_40 : decode cX2_play 40 = .ok (.goto 37, 3) := by decide +kernel
theorem dX2_play_43 : decode cX2_play 43 = .ok (.aload_n 0, 1) := by decide +kernel
theorem dX2_play_44 : decode cX2_play 44 = .ok (.getfield 10, 3) := by decide +kernel
theorem dX2_play_47 : decode cX2_play 47 = .ok (.iload_n 3, 1) := by decide +kernel
theorem dX2_play_48 : decode cX2_play 48 = .ok (.invokevirtual 51, 3) := by decide +kernel
theorem dX2_play_51 : decode cX2_play 51 = .ok (.pop, 1) := by decide +kernel
theorem dX2_play_52 : decode cX2_play 52 = .ok (.iinc 1 1, 3) := by decide +kernel
theorem dX2_play_55 : decode cX2_play 55 = .ok (.iload_n 2, 1) := by decide +kernel
theorem dX2_play_56 : decode cX2_play 56 = .ok (.aload_n 0, 1) := by decide +kernel
theorem dX2_play_57 : decode cX2_play 57 = .ok (.iload_n 2, 1) := by decide +kernel
theorem dX2_play_58 : decode cX2_play 58 = .ok (.invokevirtual 98, 3) := by decide +kernel
theorem dX2_play_61 : decode cX2_play 61 = .ok (.invokestatic 113, 3) := by decide +kernel
theorem dX2_play_64 : decode cX2_play 64 = .ok (.ifCond .eq 7, 3) := by decide +kernel
theorem dX2_play_67 : decode cX2_play 67 = .ok (.iconst 2, 1) := by decide +kernel
theorem dX2_play_68 : decode cX2_play 68 = .ok (.goto 4, 3) := by decide +kernel
theorem dX2_play_71 : decode cX2_play 71 = .ok (.iconst 1, 1) := by decide +kernel
theorem dX2_play_72 : decode cX2_play 72 = .ok (.iadd, 1) := by decide +kernel
theorem dX2_play_73 : decode cX2_play 73 = .ok (.istore_n 2, 1) := by decide +kernel
theorem dX2_play_74 : decode cX2_play 74 = .ok (.goto (-54), 3) := by decide +kernel
theorem dX2_play_77 : decode cX2_play 77 = .ok (.aload_n 0, 1) := by decide +kernel
theorem dX2_play_78 : decode cX2_play 78 = .ok (.iconst 0, 1) := by decide +kernel
theorem dX2_play_79 : decode cX2_play 79 = .ok (.putfield 86, 3) := by decide +kernel
theorem dX2_play_82 : decode cX2_play 82 = .ok (.iload_n 1, 1) := by decide +kernel
theorem dX2_play_83 : decode cX2_play 83 = .ok (.ireturn, 1) := by decide +kernel
theorem eX2_play_0 {d : Nat} {a1 a2 a3 : Value} {x : Nat} {st : List Value} {hp : qzH} : qzV d 35 0 [.ref x, a1, a2, a3] (st) hp = qzV d 35 1 [.ref x, a1, a2, a3] (.ref x :: st) hp := qv_aload (i := 0) mdc_35 dX2_play_0 rfl rfl rfl
theorem eX2_play_1 {d : Nat} {a0 a1 a2 a3 : Value} {b : Nat} {st : List Value} {hp : qzH} (h8 : st.length ≤ 8) (hb : qzArr 2 b hp.1 = true) : qzV (d + 1) 35 1 [a0, a1, a2, a3] (.ref b :: st) hp = (qzC d 79 (.ref b :: []) hp).bind (fun r => qzV (d + 1) 35 4 [a0, a1, a2, a3] (r.1.toList ++ st) r.2) := qv_callv (n := 0) mdc_35 dX2_play_1 mdo_35 (by decide) qfc_2_92 ⟨rfl, by decide, rfl⟩ rfl ⟨rfl, rfl, by simp only [List.length_cons]; omega⟩ h8 hb
theorem eX2_play_4 {d : Nat} {a0 a1 a2 a3 : Value} {st : List Value} {hp : qzH} : qzV d 35 4 [a0, a1, a2, a3] (st) hp = qzV d 35 6 [a0, a1, a2, a3] (.int (-4) :: st) hp := qv_bipush mdc_35 dX2_play_4 ib_m4 rfl
theorem eX2_play_6 {d : Nat} {a0 a1 a2 a3 : Value} {x y : Int32} {st : List Value} {hp : qzH} : qzV d 35 6 [a0, a1, a2, a3] (.int y :: .int x :: st) hp = if x = y then qzV d 35 12 [a0, a1, a2, a3] (st) hp else qzV d 35 9 [a0, a1, a2, a3] (st) hp := qv_if2 mdc_35 dX2_play_6 rfl rfl rfl
theorem eX2_play_9 {d : Nat} {a0 a1 a2 a3 : Value} {st : List Value} {hp : qzH} : qzV d 35 9 [a0, a1, a2, a3] (st) hp = qzV d 35 11 [a0, a1, a2, a3] (.int (-2) :: st) hp := qv_bipush mdc_35 dX2_play_9 ib_m2 rfl
theorem eX2_play_11 {d : Nat} {a0 a1 a2 a3 : Value} {v : Int32} {hp : qzH} : qzV d 35 11 [a0, a1, a2, a3] [.int v] hp = some (some (.int v), hp) := qv_iret mdc_35 dX2_play_11 mdr_35 rfl
theorem eX2_play_12 {d : Nat} {a1 a2 a3 : Value} {x : Nat} {st : List Value} {hp : qzH} : qzV d 35 12 [.ref x, a1, a2, a3] (st) hp = qzV d 35 13 [.ref x, a1, a2, a3] (.ref x :: st) hp := qv_aload (i := 0) mdc_35 dX2_play_12 rfl rfl rfl
theorem eX2_play_13 {d : Nat} {a0 a1 a2 a3 : Value} {b : Nat} {st : List Value} {hp : qzH} (h8 : st.length ≤ 8) (hb : qzArr 2 b hp.1 = true) : qzV (d + 1) 35 13 [a0, a1, a2, a3] (.ref b :: st) hp = (qzC d 51 (.ref b :: []) hp).bind (fun r => qzV (d + 1) 35 16 [a0, a1, a2, a3] (r.1.toList ++ st) r.2) := qv_callv (n := 0) mdc_35 dX2_play_13 mdo_35 (by decide) qfc_2_44 ⟨rfl, by decide, rfl⟩ rfl ⟨rfl, rfl, by simp only [List.length_cons]; omega⟩ h8 hb
theorem eX2_play_16 {d : Nat} {a0 a1 a2 a3 : Value} {st : List Value} {hp : qzH} : qzV d 35 16 [a0, a1, a2, a3] (st) hp = qzV d 35 17 [a0, a1, a2, a3] (.int 0 :: st) hp := qv_iconst mdc_35 dX2_play_16 il_0 rfl
theorem eX2_play_17 {d : Nat} {a0 a1 a2 a3 : Value} {x : Int32} {st : List Value} {hp : qzH} : qzV d 35 17 [a0, a1, a2, a3] (.int x :: st) hp = qzV d 35 18 [a0, .int x, a2, a3] (st) hp := qv_istore (i := 1) mdc_35 dX2_play_17 rfl (Nat.le_of_ble_eq_true rfl) rfl rfl
theorem eX2_play_18 {d : Nat} {a0 a1 a2 a3 : Value} {st : List Value} {hp : qzH} : qzV d 35 18 [a0, a1, a2, a3] (st) hp = qzV d 35 19 [a0, a1, a2, a3] (.int 0 :: st) hp := qv_iconst mdc_35 dX2_play_18 il_0 rfl
theorem eX2_play_19 {d : Nat} {a0 a1 a2 a3 : Value} {x : Int32} {st : List Value} {hp : qzH} : qzV d 35 19 [a0, a1, a2, a3] (.int x :: st) hp = qzV d 35 20 [a0, a1, .int x, a3] (st) hp := qv_istore (i := 2) mdc_35 dX2_play_19 rfl (Nat.le_of_ble_eq_true rfl) rfl rfl
theorem eX2_play_20 {d : Nat} {a0 a1 a3 : Value} {x : Int32} {st : List Value} {hp : qzH} : qzV d 35 20 [a0, a1, .int x, a3] (st) hp = qzV d 35 21 [a0, a1, .int x, a3] (.int x :: st) hp := qv_iload (i := 2) mdc_35 dX2_play_20 rfl rfl rfl
theorem eX2_play_21 {d : Nat} {a1 a2 a3 : Value} {x : Nat} {st : List Value} {hp : qzH} : qzV d 35 21 [.ref x, a1, a2, a3] (st) hp = qzV d 35 22 [.ref x, a1, a2, a3] (.ref x :: st) hp := qv_aload (i := 0) mdc_35 dX2_play_21 rfl rfl rfl
theorem eX2_play_22 {d : Nat} {a0 a1 a2 a3 : Value} {a : Nat} {st : List Value} {hp : qzH} (ha : qzArr 2 a hp.1 = true) : qzV d 35 22 [a0, a1, a2, a3] (.ref a :: st) hp = qzV d 35 25 [a0, a1, a2, a3] (.int (hp.2.2 a 7) :: st) hp := qv_getI mdc_35 dX2_play_22 mdo_35 qff_2_86 ⟨by decide, rfl⟩ rfl ha
theorem eX2_play_25 {d : Nat} {a0 a1 a2 a3 : Value} {x y : Int32} {st : List Value} {hp : qzH} : qzV d 35 25 [a0, a1, a2, a3] (.int y :: .int x :: st) hp = if y ≤ x then qzV d 35 77 [a0, a1, a2, a3] (st) hp else qzV d 35 28 [a0, a1, a2, a3] (st) hp := qv_if2 mdc_35 dX2_play_25 rfl rfl rfl
theorem eX2_play_28 {d : Nat} {a1 a2 a3 : Value} {x : Nat} {st : List Value} {hp : qzH} : qzV d 35 28 [.ref x, a1, a2, a3] (st) hp = qzV d 35 29 [.ref x, a1, a2, a3] (.ref x :: st) hp := qv_aload (i := 0) mdc_35 dX2_play_28 rfl rfl rfl
theorem eX2_play_29 {d : Nat} {a0 a1 a3 : Value} {x : Int32} {st : List Value} {hp : qzH} : qzV d 35 29 [a0, a1, .int x, a3] (st) hp = qzV d 35 30 [a0, a1, .int x, a3] (.int x :: st) hp := qv_iload (i := 2) mdc_35 dX2_play_29 rfl rfl rfl
theorem eX2_play_30 {d : Nat} {a0 a1 a2 a3 : Value} {w0 : Value} {b : Nat} {st : List Value} {hp : qzH} (h8 : st.length ≤ 8) (hb : qzArr 2 b hp.1 = true) : qzV (d + 1) 35 30 [a0, a1, a2, a3] (w0 :: .ref b :: st) hp = (qzC d 82 (.ref b :: [w0]) hp).bind (fun r => qzV (d + 1) 35 33 [a0, a1, a2, a3] (r.1.toList ++ st) r.2) := qv_callv (n := 1) mdc_35 dX2_play_30 mdo_35 (by decide) qfc_2_110 ⟨rfl, by decide, rfl⟩ rfl ⟨rfl, rfl, by simp only [List.length_cons]; omega⟩ h8 hb
theorem eX2_play_33 {d : Nat} {a0 a1 a2 a3 : Value} {x : Int32} {st : List Value} {hp : qzH} : qzV d 35 33 [a0, a1, a2, a3] (.int x :: st) hp = qzV d 35 34 [a0, a1, a2, .int x] (st) hp := qv_istore (i := 3) mdc_35 dX2_play_33 rfl (Nat.le_of_ble_eq_true rfl) rfl rfl
theorem eX2_play_34 {d : Nat} {a0 a1 a2 : Value} {x : Int32} {st : List Value} {hp : qzH} : qzV d 35 34 [a0, a1, a2, .int x] (st) hp = qzV d 35 35 [a0, a1, a2, .int x] (.int x :: st) hp := qv_iload (i := 3) mdc_35 dX2_play_34 rfl rfl rfl
theorem eX2_play_35 {d : Nat} {a0 a1 a2 a3 : Value} {st : List Value} {hp : qzH} : qzV d 35 35 [a0, a1, a2, a3] (st) hp = qzV d 35 37 [a0, a1, a2, a3] (.int (-2) :: st) hp := qv_bipush mdc_35 dX2_play_35 ib_m2 rfl
theorem eX2_play_37 {d : Nat} {a0 a1 a2 a3 : Value} {x y : Int32} {st : List Value} {hp : qzH} : qzV d 35 37 [a0, a1, a2, a3] (.int y :: .int x :: st) hp = if ¬ x = y then qzV d 35 43 [a0, a1, a2, a3] (st) hp else qzV d 35 40 [a0, a1, a2, a3] (st) hp := qv_if2 mdc_35 dX2_play_37 rfl rfl rfl
theorem eX2_play_40 {d : Nat} {a0 a1 a2 a3 : Value} {st : List Value} {hp : qzH} : qzV d 35 40 [a0, a1, a2, a3] (st) hp = qzV d 35 77 [a0, a1, a2, a3] (st) hp := qv_goto mdc_35 dX2_play_40 rfl
theorem eX2_play_43 {d : Nat} {a1 a2 a3 : Value} {x : Nat} {st : List Value} {hp : qzH} : qzV d 35 43 [.ref x, a1, a2, a3] (st) hp = qzV d 35 44 [.ref x, a1, a2, a3] (.ref x :: st) hp := qv_aload (i := 0) mdc_35 dX2_play_43 rfl rfl rfl
theorem eX2_play_44 {d : Nat} {a0 a1 a2 a3 : Value} {a : Nat} {st : List Value} {hp : qzH} (ha : qzArr 2 a hp.1 = true) : qzV d 35 44 [a0, a1, a2, a3] (.ref a :: st) hp = qzV d 35 47 [a0, a1, a2, a3] (va_rf (hp.2.1 a 0) :: st) hp := qv_getR mdc_35 dX2_play_44 mdo_35 qff_2_10 ⟨by decide, rfl⟩ rfl ha
theorem eX2_play_47 {d : Nat} {a0 a1 a2 : Value} {x : Int32} {st : List Value} {hp : qzH} : qzV d 35 47 [a0, a1, a2, .int x] (st) hp = qzV d 35 48 [a0, a1, a2, .int x] (.int x :: st) hp := qv_iload (i := 3) mdc_35 dX2_play_47 rfl rfl rfl
theorem eX2_play_48 {d : Nat} {a0 a1 a2 a3 : Value} {w0 : Value} {b : Nat} {st : List Value} {hp : qzH} (h8 : st.length ≤ 8) (hb : qzArr 0 b hp.1 = true) : qzV (d + 1) 35 48 [a0, a1, a2, a3] (w0 :: .ref b :: st) hp = (qzC d 8 (.ref b :: [w0]) hp).bind (fun r => qzV (d + 1) 35 51 [a0, a1, a2, a3] (r.1.toList ++ st) r.2) := qv_callv (n := 1) mdc_35 dX2_play_48 mdo_35 (by decide) qfc_2_51 ⟨rfl, by decide, rfl⟩ rfl ⟨rfl, rfl, by simp only [List.length_cons]; omega⟩ h8 hb
theorem eX2_play_51 {d : Nat} {a0 a1 a2 a3 : Value} {v : Value} {st : List Value} {hp : qzH} : qzV d 35 51 [a0, a1, a2, a3] (v :: st) hp = qzV d 35 52 [a0, a1, a2, a3] (st) hp := qv_pop mdc_35 dX2_play_51 rfl
theorem eX2_play_52 {d : Nat} {a0 a2 a3 : Value} {x : Int32} {st : List Value} {hp : qzH} : qzV d 35 52 [a0, .int x, a2, a3] (st) hp = qzV d 35 55 [a0, .int (x + 1), a2, a3] (st) hp := qv_iinc mdc_35 dX2_play_52 rfl il_1 rfl rfl
theorem eX2_play_55 {d : Nat} {a0 a1 a3 : Value} {x : Int32} {st : List Value} {hp : qzH} : qzV d 35 55 [a0, a1, .int x, a3] (st) hp = qzV d 35 56 [a0, a1, .int x, a3] (.int x :: st) hp := qv_iload (i := 2) mdc_35 dX2_play_55 rfl rfl rfl
theorem eX2_play_56 {d : Nat} {a1 a2 a3 : Value} {x : Nat} {st : List Value} {hp : qzH} : qzV d 35 56 [.ref x, a1, a2, a3] (st) hp = qzV d 35 57 [.ref x, a1, a2, a3] (.ref x :: st) hp := qv_aload (i := 0) mdc_35 dX2_play_56 rfl rfl rfl
theorem eX2_play_57 {d : Nat} {a0 a1 a3 : Value} {x : Int32} {st : List Value} {hp : qzH} : qzV d 35 57 [a0, a1, .int x, a3] (st) hp = qzV d 35 58 [a0, a1, .int x, a3] (.int x :: st) hp := qv_iload (i := 2) mdc_35 dX2_play_57 rfl rfl rfl
theorem eX2_play_58 {d : Nat} {a0 a1 a2 a3 : Value} {w0 : Value} {b : Nat} {st : List Value} {hp : qzH} (h8 : st.length ≤ 8) (hb : qzArr 2 b hp.1 = true) : qzV (d + 1) 35 58 [a0, a1, a2, a3] (w0 :: .ref b :: st) hp = (qzC d 72 (.ref b :: [w0]) hp).bind (fun r => qzV (d + 1) 35 61 [a0, a1, a2, a3] (r.1.toList ++ st) r.2) := qv_callv (n := 1) mdc_35 dX2_play_58 mdo_35 (by decide) qfc_2_98 ⟨rfl, by decide, rfl⟩ rfl ⟨rfl, rfl, by simp only [List.length_cons]; omega⟩ h8 hb
theorem eX2_play_61 {d : Nat} {a0 a1 a2 a3 : Value} {w0 : Value} {st : List Value} {hp : qzH} (h8 : st.length ≤ 8) : qzV (d + 1) 35 61 [a0, a1, a2, a3] (w0 :: st) hp = (qzC d 74 [w0] hp).bind (fun r => qzV (d + 1) 35 64 [a0, a1, a2, a3] (r.1.toList ++ st) r.2) := qv_calls (n := 1) mdc_35 dX2_play_61 mdo_35 (by decide) qfc_2_113 ⟨rfl, by decide, rfl⟩ rfl ⟨rfl, rfl, by simp only [List.length_cons]; omega⟩ h8
theorem eX2_play_64 {d : Nat} {a0 a1 a2 a3 : Value} {x : Int32} {st : List Value} {hp : qzH} : qzV d 35 64 [a0, a1, a2, a3] (.int x :: st) hp = if x = 0 then qzV d 35 71 [a0, a1, a2, a3] (st) hp else qzV d 35 67 [a0, a1, a2, a3] (st) hp := qv_if1 mdc_35 dX2_play_64 rfl rfl rfl
theorem eX2_play_67 {d : Nat} {a0 a1 a2 a3 : Value} {st : List Value} {hp : qzH} : qzV d 35 67 [a0, a1, a2, a3] (st) hp = qzV d 35 68 [a0, a1, a2, a3] (.int 2 :: st) hp := qv_iconst mdc_35 dX2_play_67 il_2 rfl
theorem eX2_play_68 {d : Nat} {a0 a1 a2 a3 : Value} {st : List Value} {hp : qzH} : qzV d 35 68 [a0, a1, a2, a3] (st) hp = qzV d 35 72 [a0, a1, a2, a3] (st) hp := qv_goto mdc_35 dX2_play_68 rfl
theorem eX2_play_71 {d : Nat} {a0 a1 a2 a3 : Value} {st : List Value} {hp : qzH} : qzV d 35 71 [a0, a1, a2, a3] (st) hp = qzV d 35 72 [a0, a1, a2, a3] (.int 1 :: st) hp := qv_iconst mdc_35 dX2_play_71 il_1 rfl
theorem eX2_play_72 {d : Nat} {a0 a1 a2 a3 : Value} {x y : Int32} {st : List Value} {hp : qzH} : qzV d 35 72 [a0, a1, a2, a3] (.int y :: .int x :: st) hp = qzV d 35 73 [a0, a1, a2, a3] (.int (x + y) :: st) hp := qv_bin (f := fun x y => x + y) mdc_35 dX2_play_72 rfl rfl
theorem eX2_play_73 {d : Nat} {a0 a1 a2 a3 : Value} {x : Int32} {st : List Value} {hp : qzH} : qzV d 35 73 [a0, a1, a2, a3] (.int x :: st) hp = qzV d 35 74 [a0, a1, .int x, a3] (st) hp := qv_istore (i := 2) mdc_35 dX2_play_73 rfl (Nat.le_of_ble_eq_true rfl) rfl rfl
theorem eX2_play_74 {d : Nat} {a0 a1 a2 a3 : Value} {st : List Value} {hp : qzH} : qzV d 35 74 [a0, a1, a2, a3] (st) hp = qzV d 35 20 [a0, a1, a2, a3] (st) hp := qv_goto mdc_35 dX2_play_74 rfl
theorem eX2_play_77 {d : Nat} {a1 a2 a3 : Value} {x : Nat} {st : List Value} {hp : qzH} : qzV d 35 77 [.ref x, a1, a2, a3] (st) hp = qzV d 35 78 [.ref x, a1, a2, a3] (.ref x :: st) hp := qv_aload (i := 0) mdc_35 dX2_play_77 rfl rfl rfl
theorem eX2_play_78 {d : Nat} {a0 a1 a2 a3 : Value} {st : List Value} {hp : qzH} : qzV d 35 78 [a0, a1, a2, a3] (st) hp = qzV d 35 79 [a0, a1, a2, a3] (.int 0 :: st) hp := qv_iconst mdc_35 dX2_play_78 il_0 rfl
theorem eX2_play_79 {d : Nat} {a0 a1 a2 a3 : Value} {a : Nat} {x : Int32} {st : List Value} {hp : qzH} (ha : qzArr 2 a hp.1 = true) : qzV d 35 79 [a0, a1, a2, a3] (.int x :: .ref a :: st) hp = qzV d 35 82 [a0, a1, a2, a3] st (hp.1, hp.2.1, qzUp hp.2.2 a 7 x) := qv_putI mdc_35 dX2_play_79 mdo_35 qff_2_86 ⟨by decide, rfl, rfl⟩ rfl ha ⟨rfl, rfl⟩
theorem eX2_play_82 {d : Nat} {a0 a2 a3 : Value} {x : Int32} {st : List Value} {hp : qzH} : qzV d 35 82 [a0, .int x, a2, a3] (st) hp = qzV d 35 83 [a0, .int x, a2, a3] (.int x :: st) hp := qv_iload (i := 1) mdc_35 dX2_play_82 rfl rfl rfl
theorem eX2_play_83 {d : Nat} {a0 a1 a2 a3 : Value} {v : Int32} {hp : qzH} : qzV d 35 83 [a0, a1, a2, a3] [.int v] hp = some (some (.int v), hp) := qv_iret mdc_35 dX2_play_83 mdr_35 rfl
theorem dX2_stripe_0 : decode cX2_stripe 0 = .ok (.iload_n 1, 1) := by decide +kernel
theorem dX2_stripe_1 : decode cX2_stripe 1 = .ok (.ifCond .lt 14, 3) := by decide +kernel
theorem dX2_stripe_4 : decode cX2_stripe 4 = .ok (.iload_n 1, 1) := by decide +kernel
theorem dX2_stripe_5 : decode cX2_stripe 5 = .ok (.aload_n 0, 1) := by decide +kernel
theorem dX2_stripe_6 : decode cX2_stripe 6 = .ok (.getfield 10, 3) := by decide +kernel
theorem dX2_stripe_9 : decode cX2_stripe 9 = .ok (.getfield 60, 3) := by decide +kernel
theorem dX2_stripe_12 : decode cX2_stripe 12 = .ok (.if_icmp .lt 5, 3) := by decide +kernel
theorem dX2_stripe_15 : decode cX2_stripe 15 = .ok (.iconst (-1), 1) := by decide +kernel
theorem dX2_stripe_16 : decode cX2_stripe 16 = .ok (.ireturn, 1) := by decide +kernel
theorem dX2_stripe_17 : decode cX2_stripe 17 = .ok (.aload_n 0, 1) := by decide +kernel
theorem dX2_stripe_18 : decode cX2_stripe 18 = .ok (.getfield 10, 3) := by decide +kernel
theorem dX2_stripe_21 : decode cX2_stripe 21 = .ok (.getfield 117, 3) := by decide +kernel
theorem dX2_stripe_24 : decode cX2_stripe 24 = .ok (.iload_n 1, 1) := by decide +kernel
theorem dX2_stripe_25 : decode cX2_stripe 25 = .ok (.invokestatic 72, 3) := by decide +kernel
theorem dX2_stripe_28 : decode cX2_stripe 28 = .ok (.ireturn, 1) := by decide +kernel
theorem eX2_stripe_0 {d : Nat} {a0 : Value} {x : Int32} {st : List Value} {hp : qzH} : qzV d 36 0 [a0, .int x] (st) hp = qzV d 36 1 [a0, .int x] (.int x :: st) hp := qv_iload (i := 1) mdc_36 dX2_stripe_0 rfl rfl rfl
theorem eX2_stripe_1 {d : Nat} {a0 a1 : Value} {x : Int32} {st : List Value} {hp : qzH} : qzV d 36 1 [a0, a1] (.int x :: st) hp = if x < 0 then qzV d 36 15 [a0, a1] (st) hp else qzV d 36 4 [a0, a1] (st) hp := qv_if1 mdc_36 dX2_stripe_1 rfl rfl rfl
theorem eX2_stripe_4 {d : Nat} {a0 : Value} {x : Int32} {st : List Value} {hp : qzH} : qzV d 36 4 [a0, .int x] (st) hp = qzV d 36 5 [a0, .int x] (.int x :: st) hp := qv_iload (i := 1) mdc_36 dX2_stripe_4 rfl rfl rfl
theorem eX2_stripe_5 {d : Nat} {a1 : Value} {x : Nat} {st : List Value} {hp : qzH} : qzV d 36 5 [.ref x, a1] (st) hp = qzV d 36 6 [.ref x, a1] (.ref x :: st) hp := qv_aload (i := 0) mdc_36 dX2_stripe_5 rfl rfl rfl
theorem eX2_stripe_6 {d : Nat} {a0 a1 : Value} {a : Nat} {st : List Value} {hp : qzH} (ha : qzArr 2 a hp.1 = true) : qzV d 36 6 [a0, a1] (.ref a :: st) hp = qzV d 36 9 [a0, a1] (va_rf (hp.2.1 a 0) :: st) hp := qv_getR mdc_36 dX2_stripe_6 mdo_36 qff_2_10 ⟨by decide, rfl⟩ rfl ha
theorem eX2_stripe_9 {d : Nat} {a0 a1 : Value} {a : Nat} {st : List Value} {hp : qzH} (ha : qzArr 0 a hp.1 = true) : qzV d 36 9 [a0, a1] (.ref a :: st) hp = qzV d 36 12 [a0, a1] (.int (hp.2.2 a 6) :: st) hp := qv_getI mdc_36 dX2_stripe_9 mdo_36 qff_2_60 ⟨by decide, rfl⟩ rfl ha
theorem eX2_stripe_12 {d : Nat} {a0 a1 : Value} {x y : Int32} {st : List Value} {hp : qzH} : qzV d 36 12 [a0, a1] (.int y :: .int x :: st) hp = if x < y then qzV d 36 17 [a0, a1] (st) hp else qzV d 36 15 [a0, a1] (st) hp := qv_if2 mdc_36 dX2_stripe_12 rfl rfl rfl
theorem eX2_stripe_15 {d : Nat} {a0 a1 : Value} {st : List Value} {hp : qzH} : qzV d 36 15 [a0, a1] (st) hp = qzV d 36 16 [a0, a1] (.int (-1) :: st) hp := qv_iconst mdc_36 dX2_stripe_15 il_m1 rfl
theorem eX2_stripe_16 {d : Nat} {a0 a1 : Value} {v : Int32} {hp : qzH} : qzV d 36 16 [a0, a1] [.int v] hp = some (some (.int v), hp) := qv_iret mdc_36 dX2_stripe_16 mdr_36 rfl
theorem eX2_stripe_17 {d : Nat} {a1 : Value} {x : Nat} {st : List Value} {hp : qzH} : qzV d 36 17 [.ref x, a1] (st) hp = qzV d 36 18 [.ref x, a1] (.ref x :: st) hp := qv_aload (i := 0) mdc_36 dX2_stripe_17 rfl rfl rfl
theorem eX2_stripe_18 {d : Nat} {a0 a1 : Value} {a : Nat} {st : List Value} {hp : qzH} (ha : qzArr 2 a hp.1 = true) : qzV d 36 18 [a0, a1] (.ref a :: st) hp = qzV d 36 21 [a0, a1] (va_rf (hp.2.1 a 0) :: st) hp := qv_getR mdc_36 dX2_stripe_18 mdo_36 qff_2_10 ⟨by decide, rfl⟩ rfl ha
theorem eX2_stripe_21 {d : Nat} {a0 a1 : Value} {a : Nat} {st : List Value} {hp : qzH} (ha : qzArr 0 a hp.1 = true) : qzV d 36 21 [a0, a1] (.ref a :: st) hp = qzV d 36 24 [a0, a1] (va_rf (hp.2.1 a 0) :: st) hp := qv_getR mdc_36 dX2_stripe_21 mdo_36 qff_2_117 ⟨by decide, rfl⟩ rfl ha
theorem eX2_stripe_24 {d : Nat} {a0 : Value} {x : Int32} {st : List Value} {hp : qzH} : qzV d 36 24 [a0, .int x] (st) hp = qzV d 36 25 [a0, .int x] (.int x :: st) hp := qv_iload (i := 1) mdc_36 dX2_stripe_24 rfl rfl rfl
theorem eX2_stripe_25 {d : Nat} {a0 a1 : Value} {w0 w1 : Value} {st : List Value} {hp : qzH} (h8 : st.length ≤ 8) : qzV (d + 1) 36 25 [a0, a1] (w1 :: w0 :: st) hp = (qzC d 84 [w0, w1] hp).bind (fun r => qzV (d + 1) 36 28 [a0, a1] (r.1.toList ++ st) r.2) := qv_calls (n := 2) mdc_36 dX2_stripe_25 mdo_36 (by decide) qfc_2_72 ⟨rfl, by decide, rfl⟩ rfl ⟨rfl, rfl, by simp only [List.length_cons]; omega⟩ h8
theorem eX2_stripe_28 {d : Nat} {a0 a1 : Value} {v : Int32} {hp : qzH} : qzV d 36 28 [a0, a1] [.int v] hp = some (some (.int v), hp) := qv_iret mdc_36 dX2_stripe_28 mdr_36 rfl
theorem dX2_coat_0 : decode cX2_coat 0 = .ok (.iload_n 1, 1) := by decide +kernel
theorem dX2_coat_1 : decode cX2_coat 1 = .ok (.invokestatic 120, 3) := by decide +kernel
theorem dX2_coat_4 : decode cX2_coat 4 = .ok (.ifCond .ne 12, 3) := by decide +kernel
theorem dX2_coat_7 : decode cX2_coat 7 = .ok (.iload_n 2, 1) := by decide +kernel
theorem dX2_coat_8 : decode cX2_coat 8 = .ok (.ifCond .lt 8, 3) := by decide +kernel
theorem dX2_coat_11 : decode cX2_coat 11 = .ok (.iload_n 2, 1) := by decide +kernel
theorem dX2_coat_12 : decode cX2_coat 12 = .ok (.iconst 5, 1) := by decide +kernel
theorem dX2_coat_13 : decode cX2_coat 13 = .ok (.if_icmp .le 5, 3) := by decide +kernel
theorem dX2_coat_16 : decode cX2_coat 16 = .ok (.iconst (-1), 1) := by decide +kernel
theorem dX2_coat_17 : decode cX2_coat 17 = .ok (.ireturn, 1) := by decide +kernel
theorem dX2_coat_18 : decode cX2_coat 18 = .ok (.iload_n 2, 1) := by decide +kernel
theorem dX2_coat_19 : decode cX2_coat 19 = .ok (.tableswitch 106 0 4 #[33, 49, 58, 74, 96], 33) := by decide +kernel
theorem dX2_coat_52 : decode cX2_coat 52 = .ok (.aload_n 0, 1) := by decide +kernel
theorem dX2_coat_53 : decode cX2_coat 53 = .ok (.getfield 10, 3) := by decide +kernel
theorem dX2_coat_56 : decode cX2_coat 56 = .ok (.aload_n 0, 1) := by decide +kernel
theorem dX2_coat_57 : decode cX2_coat 57 = .ok (.getfield 10, 3) := by decide +kernel
theorem dX2_coat_60 : decode cX2_coat 60 = .ok (.getfield 124, 3) := by decide +kernel
theorem dX2_coat_63 : decode cX2_coat 63 = .ok (.iload_n 1, 1) := by decide +kernel
theorem dX2_coat_64 : decode cX2_coat 64 = .ok (.invokevirtual 127, 3) := by decide +kernel
theorem dX2_coat_67 : decode cX2_coat 67 = .ok (.ireturn, 1) := by decide +kernel
theorem dX2_coat_68 : decode cX2_coat 68 = .ok (.aload_n 0, 1) := by decide +kernel
theorem dX2_coat_69 : decode cX2_coat 69 = .ok (.getfield 10, 3) := by decide +kernel
theorem dX2_coat_72 : decode cX2_coat 72 = .ok (.iload_n 1, 1) := by decide +kernel
theorem dX2_coat_73 : decode cX2_coat 73 = .ok (.invokevirtual 130, 3) := by decide +kernel
theorem dX2_coat_76 : decode cX2_coat 76 = .ok (.ireturn, 1) := by decide +kernel
theorem dX2_coat_77 : decode cX2_coat 77 = .ok (.aload_n 0, 1) := by decide +kernel
theorem dX2_coat_78 : decode cX2_coat 78 = .ok (.getfield 10, 3) := by decide +kernel
theorem dX2_coat_81 : decode cX2_coat 81 = .ok (.aload_n 0, 1) := by decide +kernel
theorem dX2_coat_82 : decode cX2_coat 82 = .ok (.getfield 10, 3) := by decide +kernel
theorem dX2_coat_85 : decode cX2_coat 85 = .ok (.getfield 133, 3) := by decide +kernel
theorem dX2_coat_88 : decode cX2_coat 88 = .ok (.iload_n 1, 1) := by decide +kernel
theorem dX2_coat_89 : decode cX2_coat 89 = .ok (.invokevirtual 127, 3) := by decide +kernel
theorem dX2_coat_92 : decode cX2_coat 92 = .ok (.ireturn, 1) := by decide +kernel
theorem dX2_coat_93 : decode cX2_coat 93 = .ok (.aload_n 0, 1) := by decide +kernel
theorem dX2_coat_94 : decode cX2_coat 94 = .ok (.getfield 10, 3) := by decide +kernel
theorem dX2_coat_97 : decode cX2_coat 97 = .ok (.iload_n 1, 1) := by decide +kernel
theorem dX2_coat_98 : decode cX2_coat 98 = .ok (.invokevirtual 136, 3) := by decide +kernel
theorem dX2_coat_101 : decode cX2_coat 101 = .ok (.istore_n 3, 1) := by decide +kernel
theorem dX2_coat_102 : decode cX2_coat 102 = .ok (.iload_n 3, 1) := by decide +kernel
theorem dX2_coat_103 : decode cX2_coat 103 = .ok (.bipush 6, 2) := by decide +kernel
theorem dX2_coat_105 : decode cX2_coat 105 = .ok (.if_icmp .ne 8, 3) := by decide +kernel
theorem dX2_coat_108 : decode cX2_coat 108 = .ok (.bipush (-4), 2) := by decide +kernel
theorem dX2_coat_110 : decode cX2_coat 110 = .ok (.goto 4, 3) := by decide +kernel
theorem dX2_coat_113 : decode cX2_coat 113 = .ok (.iload_n 3, 1) := by decide +kernel
theorem dX2_coat_114 : decode cX2_coat 114 = .ok (.ireturn, 1) := by decide +kernel
theorem dX2_coat_115 : decode cX2_coat 115 = .ok (.aload_n 0, 1) := by decide +kernel
theorem dX2_coat_116 : decode cX2_coat 116 = .ok (.getfield 10, 3) := by decide +kernel
theorem dX2_coat_119 : decode cX2_coat 119 = .ok (.iconst 2, 1) := by decide +kernel
theorem dX2_coat_120 : decode cX2_coat 120 = .ok (.iload_n 1, 1) := by decide +kernel
theorem dX2_coat_121 : decode cX2_coat 121 = .ok (.invokevirtual 139, 3) := by decide +kernel
theorem dX2_coat_124 : decode cX2_coat 124 = .ok (.ireturn, 1) := by decide +kernel
theorem dX2_coat_125 : decode cX2_coat 125 = .ok (.aload_n 0, 1) := by decide +kernel
theorem dX2_coat_126 : decode cX2_coat 126 = .ok (.getfield 10, 3) := by decide +kernel
theorem dX2_coat_129 : decode cX2_coat 129 = .ok (.iconst 4, 1) := by decide +kernel
theorem dX2_coat_130 : decode cX2_coat 130 = .ok (.iload_n 1, 1) := by decide +kernel
theorem dX2_coat_131 : decode cX2_coat 131 = .ok (.invokevirtual 139, 3) := by decide +kernel
theorem dX2_coat_134 : decode cX2_coat 134 = .ok (.ireturn, 1) := by decide +kernel
theorem eX2_coat_0 {d : Nat} {a0 a2 a3 : Value} {x : Int32} {st : List Value} {hp : qzH} : qzV d 37 0 [a0, .int x, a2, a3] (st) hp = qzV d 37 1 [a0, .int x, a2, a3] (.int x :: st) hp := qv_iload (i := 1) mdc_37 dX2_coat_0 rfl rfl rfl
theorem eX2_coat_1 {d : Nat} {a0 a1 a2 a3 : Value} {w0 : Value} {st : List Value} {hp : qzH} (h8 : st.length ≤ 8) : qzV (d + 1) 37 1 [a0, a1, a2, a3] (w0 :: st) hp = (qzC d 83 [w0] hp).bind (fun r => qzV (d + 1) 37 4 [a0, a1, a2, a3] (r.1.toList ++ st) r.2) := qv_calls (n := 1) mdc_37 dX2_coat_1 mdo_37 (by decide) qfc_2_120 ⟨rfl, by decide, rfl⟩ rfl ⟨rfl, rfl, by simp only [List.length_cons]; omega⟩ h8
theorem eX2_coat_4 {d : Nat} {a0 a1 a2 a3 : Value} {x : Int32} {st : List Value} {hp : qzH} : qzV d 37 4 [a0, a1, a2, a3] (.int x :: st) hp = if ¬ x = 0 then qzV d 37 16 [a0, a1, a2, a3] (st) hp else qzV d 37 7 [a0, a1, a2, a3] (st) hp := qv_if1 mdc_37 dX2_coat_4 rfl rfl rfl
theorem eX2_coat_7 {d : Nat} {a0 a1 a3 : Value} {x : Int32} {st : List Value} {hp : qzH} : qzV d 37 7 [a0, a1, .int x, a3] (st) hp = qzV d 37 8 [a0, a1, .int x, a3] (.int x :: st) hp := qv_iload (i := 2) mdc_37 dX2_coat_7 rfl rfl rfl
theorem eX2_coat_8 {d : Nat} {a0 a1 a2 a3 : Value} {x : Int32} {st : List Value} {hp : qzH} : qzV d 37 8 [a0, a1, a2, a3] (.int x :: st) hp = if x < 0 then qzV d 37 16 [a0, a1, a2, a3] (st) hp else qzV d 37 11 [a0, a1, a2, a3] (st) hp := qv_if1 mdc_37 dX2_coat_8 rfl rfl rfl
theorem eX2_coat_11 {d : Nat} {a0 a1 a3 : Value} {x : Int32} {st : List Value} {hp : qzH} : qzV d 37 11 [a0, a1, .int x, a3] (st) hp = qzV d 37 12 [a0, a1, .int x, a3] (.int x :: st) hp := qv_iload (i := 2) mdc_37 dX2_coat_11 rfl rfl rfl
theorem eX2_coat_12 {d : Nat} {a0 a1 a2 a3 : Value} {st : List Value} {hp : qzH} : qzV d 37 12 [a0, a1, a2, a3] (st) hp = qzV d 37 13 [a0, a1, a2, a3] (.int 5 :: st) hp := qv_iconst mdc_37 dX2_coat_12 il_5 rfl
theorem eX2_coat_13 {d : Nat} {a0 a1 a2 a3 : Value} {x y : Int32} {st : List Value} {hp : qzH} : qzV d 37 13 [a0, a1, a2, a3] (.int y :: .int x :: st) hp = if x ≤ y then qzV d 37 18 [a0, a1, a2, a3] (st) hp else qzV d 37 16 [a0, a1, a2, a3] (st) hp := qv_if2 mdc_37 dX2_coat_13 rfl rfl rfl
theorem eX2_coat_16 {d : Nat} {a0 a1 a2 a3 : Value} {st : List Value} {hp : qzH} : qzV d 37 16 [a0, a1, a2, a3] (st) hp = qzV d 37 17 [a0, a1, a2, a3] (.int (-1) :: st) hp := qv_iconst mdc_37 dX2_coat_16 il_m1 rfl
theorem eX2_coat_17 {d : Nat} {a0 a1 a2 a3 : Value} {v : Int32} {hp : qzH} : qzV d 37 17 [a0, a1, a2, a3] [.int v] hp = some (some (.int v), hp) := qv_iret mdc_37 dX2_coat_17 mdr_37 rfl
theorem eX2_coat_18 {d : Nat} {a0 a1 a3 : Value} {x : Int32} {st : List Value} {hp : qzH} : qzV d 37 18 [a0, a1, .int x, a3] (st) hp = qzV d 37 19 [a0, a1, .int x, a3] (.int x :: st) hp := qv_iload (i := 2) mdc_37 dX2_coat_18 rfl rfl rfl
theorem eX2_coat_19_0 {d : Nat} {a0 a1 a2 a3 : Value} {st : List Value} {hp : qzH} : qzV d 37 19 [a0, a1, a2, a3] (.int 0 :: st) hp = qzV d 37 52 [a0, a1, a2, a3] (st) hp := qv_tsw mdc_37 dX2_coat_19 (by decide)
theorem eX2_coat_19_1 {d : Nat} {a0 a1 a2 a3 : Value} {st : List Value} {hp : qzH} : qzV d 37 19 [a0, a1, a2, a3] (.int 1 :: st) hp = qzV d 37 68 [a0, a1, a2, a3] (st) hp := qv_tsw mdc_37 dX2_coat_19 (by decide)
theorem eX2_coat_19_2 {d : Nat} {a0 a1 a2 a3 : Value} {st : List Value} {hp : qzH} : qzV d 37 19 [a0, a1, a2, a3] (.int 2 :: st) hp = qzV d 37 77 [a0, a1, a2, a3] (st) hp := qv_tsw mdc_37 dX2_coat_19 (by decide)
theorem eX2_coat_19_3 {d : Nat} {a0 a1 a2 a3 : Value} {st : List Value} {hp : qzH} : qzV d 37 19 [a0, a1, a2, a3] (.int 3 :: st) hp = qzV d 37 93 [a0, a1, a2, a3] (st) hp := qv_tsw mdc_37 dX2_coat_19 (by decide)
theorem eX2_coat_19_4 {d : Nat} {a0 a1 a2 a3 : Value} {st : List Value} {hp : qzH} : qzV d 37 19 [a0, a1, a2, a3] (.int 4 :: st) hp = qzV d 37 115 [a0, a1, a2, a3] (st) hp := qv_tsw mdc_37 dX2_coat_19 (by decide)
theorem eX2_coat_19_d {d : Nat} {a0 a1 a2 a3 : Value} {x : Int32} {st : List Value} {hp : qzH} (hx : x.toInt < 0 ∨ 4 < x.toInt) : qzV d 37 19 [a0, a1, a2, a3] (.int x :: st) hp = qzV d 37 125 [a0, a1, a2, a3] (st) hp := qv_tsw mdc_37 dX2_coat_19 (by rw [if_pos hx]; rfl)
theorem eX2_coat_52 {d : Nat} {a1 a2 a3 : Value} {x : Nat} {st : List Value} {hp : qzH} : qzV d 37 52 [.ref x, a1, a2, a3] (st) hp = qzV d 37 53 [.ref x, a1, a2, a3] (.ref x :: st) hp := qv_aload (i := 0) mdc_37 dX2_coat_52 rfl rfl rfl
theorem eX2_coat_53 {d : Nat} {a0 a1 a2 a3 : Value} {a : Nat} {st : List Value} {hp : qzH} (ha : qzArr 2 a hp.1 = true) : qzV d 37 53 [a0, a1, a2, a3] (.ref a :: st) hp = qzV d 37 56 [a0, a1, a2, a3] (va_rf (hp.2.1 a 0) :: st) hp := qv_getR mdc_37 dX2_coat_53 mdo_37 qff_2_10 ⟨by decide, rfl⟩ rfl ha
theorem eX2_coat_56 {d : Nat} {a1 a2 a3 : Value} {x : Nat} {st : List Value} {hp : qzH} : qzV d 37 56 [.ref x, a1, a2, a3] (st) hp = qzV d 37 57 [.ref x, a1, a2, a3] (.ref x :: st) hp := qv_aload (i := 0) mdc_37 dX2_coat_56 rfl rfl rfl
theorem eX2_coat_57 {d : Nat} {a0 a1 a2 a3 : Value} {a : Nat} {st : List Value} {hp : qzH} (ha : qzArr 2 a hp.1 = true) : qzV d 37 57 [a0, a1, a2, a3] (.ref a :: st) hp = qzV d 37 60 [a0, a1, a2, a3] (va_rf (hp.2.1 a 0) :: st) hp := qv_getR mdc_37 dX2_coat_57 mdo_37 qff_2_10 ⟨by decide, rfl⟩ rfl ha
theorem eX2_coat_60 {d : Nat} {a0 a1 a2 a3 : Value} {a : Nat} {st : List Value} {hp : qzH} (ha : qzArr 0 a hp.1 = true) : qzV d 37 60 [a0, a1, a2, a3] (.ref a :: st) hp = qzV d 37 63 [a0, a1, a2, a3] (va_rf (hp.2.1 a 4) :: st) hp := qv_getR mdc_37 dX2_coat_60 mdo_37 qff_2_124 ⟨by decide, rfl⟩ rfl ha
theorem eX2_coat_63 {d : Nat} {a0 a2 a3 : Value} {x : Int32} {st : List Value} {hp : qzH} : qzV d 37 63 [a0, .int x, a2, a3] (st) hp = qzV d 37 64 [a0, .int x, a2, a3] (.int x :: st) hp := qv_iload (i := 1) mdc_37 dX2_coat_63 rfl rfl rfl
theorem eX2_coat_64 {d : Nat} {a0 a1 a2 a3 : Value} {w0 w1 : Value} {b : Nat} {st : List Value} {hp : qzH} (h8 : st.length ≤ 8) (hb : qzArr 0 b hp.1 = true) : qzV (d + 1) 37 64 [a0, a1, a2, a3] (w1 :: w0 :: .ref b :: st) hp = (qzC d 12 (.ref b :: [w0, w1]) hp).bind (fun r => qzV (d + 1) 37 67 [a0, a1, a2, a3] (r.1.toList ++ st) r.2) := qv_callv (n := 2) mdc_37 dX2_coat_64 mdo_37 (by decide) qfc_2_127 ⟨rfl, by decide, rfl⟩ rfl ⟨rfl, rfl, by simp only [List.length_cons]; omega⟩ h8 hb
theorem eX2_coat_67 {d : Nat} {a0 a1 a2 a3 : Value} {v : Int32} {hp : qzH} : qzV d 37 67 [a0, a1, a2, a3] [.int v] hp = some (some (.int v), hp) := qv_iret mdc_37 dX2_coat_67 mdr_37 rfl
theorem eX2_coat_68 {d : Nat} {a1 a2 a3 : Value} {x : Nat} {st : List Value} {hp : qzH} : qzV d 37 68 [.ref x, a1, a2, a3] (st) hp = qzV d 37 69 [.ref x, a1, a2, a3] (.ref x :: st) hp := qv_aload (i := 0) mdc_37 dX2_coat_68 rfl rfl rfl
theorem eX2_coat_69 {d : Nat} {a0 a1 a2 a3 : Value} {a : Nat} {st : List Value} {hp : qzH} (ha : qzArr 2 a hp.1 = true) : qzV d 37 69 [a0, a1, a2, a3] (.ref a :: st) hp = qzV d 37 72 [a0, a1, a2, a3] (va_rf (hp.2.1 a 0) :: st) hp := qv_getR mdc_37 dX2_coat_69 mdo_37 qff_2_10 ⟨by decide, rfl⟩ rfl ha
theorem eX2_coat_72 {d : Nat} {a0 a2 a3 : Value} {x : Int32} {st : List Value} {hp : qzH} : qzV d 37 72 [a0, .int x, a2, a3] (st) hp = qzV d 37 73 [a0, .int x, a2, a3] (.int x :: st) hp := qv_iload (i := 1) mdc_37 dX2_coat_72 rfl rfl rfl
theorem eX2_coat_73 {d : Nat} {a0 a1 a2 a3 : Value} {w0 : Value} {b : Nat} {st : List Value} {hp : qzH} (h8 : st.length ≤ 8) (hb : qzArr 0 b hp.1 = true) : qzV (d + 1) 37 73 [a0, a1, a2, a3] (w0 :: .ref b :: st) hp = (qzC d 10 (.ref b :: [w0]) hp).bind (fun r => qzV (d + 1) 37 76 [a0, a1, a2, a3] (r.1.toList ++ st) r.2) := qv_callv (n := 1) mdc_37 dX2_coat_73 mdo_37 (by decide) qfc_2_130 ⟨rfl, by decide, rfl⟩ rfl ⟨rfl, rfl, by simp only [List.length_cons]; omega⟩ h8 hb
theorem eX2_coat_76 {d : Nat} {a0 a1 a2 a3 : Value} {v : Int32} {hp : qzH} : qzV d 37 76 [a0, a1, a2, a3] [.int v] hp = some (some (.int v), hp) := qv_iret mdc_37 dX2_coat_76 mdr_37 rfl
theorem eX2_coat_77 {d : Nat} {a1 a2 a3 : Value} {x : Nat} {st : List Value} {hp : qzH} : qzV d 37 77 [.ref x, a1, a2, a3] (st) hp = qzV d 37 78 [.ref x, a1, a2, a3] (.ref x :: st) hp := qv_aload (i := 0) mdc_37 dX2_coat_77 rfl rfl rfl
theorem eX2_coat_78 {d : Nat} {a0 a1 a2 a3 : Value} {a : Nat} {st : List Value} {hp : qzH} (ha : qzArr 2 a hp.1 = true) : qzV d 37 78 [a0, a1, a2, a3] (.ref a :: st) hp = qzV d 37 81 [a0, a1, a2, a3] (va_rf (hp.2.1 a 0) :: st) hp := qv_getR mdc_37 dX2_coat_78 mdo_37 qff_2_10 ⟨by decide, rfl⟩ rfl ha
theorem eX2_coat_81 {d : Nat} {a1 a2 a3 : Value} {x : Nat} {st : List Value} {hp : qzH} : qzV d 37 81 [.ref x, a1, a2, a3] (st) hp = qzV d 37 82 [.ref x, a1, a2, a3] (.ref x :: st) hp := qv_aload (i := 0) mdc_37 dX2_coat_81 rfl rfl rfl
theorem eX2_coat_82 {d : Nat} {a0 a1 a2 a3 : Value} {a : Nat} {st : List Value} {hp : qzH} (ha : qzArr 2 a hp.1 = true) : qzV d 37 82 [a0, a1, a2, a3] (.ref a :: st) hp = qzV d 37 85 [a0, a1, a2, a3] (va_rf (hp.2.1 a 0) :: st) hp := qv_getR mdc_37 dX2_coat_82 mdo_37 qff_2_10 ⟨by decide, rfl⟩ rfl ha
theorem eX2_coat_85 {d : Nat} {a0 a1 a2 a3 : Value} {a : Nat} {st : List Value} {hp : qzH} (ha : qzArr 0 a hp.1 = true) : qzV d 37 85 [a0, a1, a2, a3] (.ref a :: st) hp = qzV d 37 88 [a0, a1, a2, a3] (va_rf (hp.2.1 a 3) :: st) hp := qv_getR mdc_37 dX2_coat_85 mdo_37 qff_2_133 ⟨by decide, rfl⟩ rfl ha
theorem eX2_coat_88 {d : Nat} {a0 a2 a3 : Value} {x : Int32} {st : List Value} {hp : qzH} : qzV d 37 88 [a0, .int x, a2, a3] (st) hp = qzV d 37 89 [a0, .int x, a2, a3] (.int x :: st) hp := qv_iload (i := 1) mdc_37 dX2_coat_88 rfl rfl rfl
theorem eX2_coat_89 {d : Nat} {a0 a1 a2 a3 : Value} {w0 w1 : Value} {b : Nat} {st : List Value} {hp : qzH} (h8 : st.length ≤ 8) (hb : qzArr 0 b hp.1 = true) : qzV (d + 1) 37 89 [a0, a1, a2, a3] (w1 :: w0 :: .ref b :: st) hp = (qzC d 12 (.ref b :: [w0, w1]) hp).bind (fun r => qzV (d + 1) 37 92 [a0, a1, a2, a3] (r.1.toList ++ st) r.2) := qv_callv (n := 2) mdc_37 dX2_coat_89 mdo_37 (by decide) qfc_2_127 ⟨rfl, by decide, rfl⟩ rfl ⟨rfl, rfl, by simp only [List.length_cons]; omega⟩ h8 hb
theorem eX2_coat_92 {d : Nat} {a0 a1 a2 a3 : Value} {v : Int32} {hp : qzH} : qzV d 37 92 [a0, a1, a2, a3] [.int v] hp = some (some (.int v), hp) := qv_iret mdc_37 dX2_coat_92 mdr_37 rfl
theorem eX2_coat_93 {d : Nat} {a1 a2 a3 : Value} {x : Nat} {st : List Value} {hp : qzH} : qzV d 37 93 [.ref x, a1, a2, a3] (st) hp = qzV d 37 94 [.ref x, a1, a2, a3] (.ref x :: st) hp := qv_aload (i := 0) mdc_37 dX2_coat_93 rfl rfl rfl
theorem eX2_coat_94 {d : Nat} {a0 a1 a2 a3 : Value} {a : Nat} {st : List Value} {hp : qzH} (ha : qzArr 2 a hp.1 = true) : qzV d 37 94 [a0, a1, a2, a3] (.ref a :: st) hp = qzV d 37 97 [a0, a1, a2, a3] (va_rf (hp.2.1 a 0) :: st) hp := qv_getR mdc_37 dX2_coat_94 mdo_37 qff_2_10 ⟨by decide, rfl⟩ rfl ha
theorem eX2_coat_97 {d : Nat} {a0 a2 a3 : Value} {x : Int32} {st : List Value} {hp : qzH} : qzV d 37 97 [a0, .int x, a2, a3] (st) hp = qzV d 37 98 [a0, .int x, a2, a3] (.int x :: st) hp := qv_iload (i := 1) mdc_37 dX2_coat_97 rfl rfl rfl
theorem eX2_coat_98 {d : Nat} {a0 a1 a2 a3 : Value} {w0 : Value} {b : Nat} {st : List Value} {hp : qzH} (h8 : st.length ≤ 8) (hb : qzArr 0 b hp.1 = true) : qzV (d + 1) 37 98 [a0, a1, a2, a3] (w0 :: .ref b :: st) hp = (qzC d 11 (.ref b :: [w0]) hp).bind (fun r => qzV (d + 1) 37 101 [a0, a1, a2, a3] (r.1.toList ++ st) r.2) := qv_callv (n := 1) mdc_37 dX2_coat_98 mdo_37 (by decide) qfc_2_136 ⟨rfl, by decide, rfl⟩ rfl ⟨rfl, rfl, by simp only [List.length_cons]; omega⟩ h8 hb
theorem eX2_coat_101 {d : Nat} {a0 a1 a2 a3 : Value} {x : Int32} {st : List Value} {hp : qzH} : qzV d 37 101 [a0, a1, a2, a3] (.int x :: st) hp = qzV d 37 102 [a0, a1, a2, .int x] (st) hp := qv_istore (i := 3) mdc_37 dX2_coat_101 rfl (Nat.le_of_ble_eq_true rfl) rfl rfl
theorem eX2_coat_102 {d : Nat} {a0 a1 a2 : Value} {x : Int32} {st : List Value} {hp : qzH} : qzV d 37 102 [a0, a1, a2, .int x] (st) hp = qzV d 37 103 [a0, a1, a2, .int x] (.int x :: st) hp := qv_iload (i := 3) mdc_37 dX2_coat_102 rfl rfl rfl
theorem eX2_coat_103 {d : Nat} {a0 a1 a2 a3 : Value} {st : List Value} {hp : qzH} : qzV d 37 103 [a0, a1, a2, a3] (st) hp = qzV d 37 105 [a0, a1, a2, a3] (.int 6 :: st) hp := qv_bipush mdc_37 dX2_coat_103 ib_6 rfl
theorem eX2_coat_105 {d : Nat} {a0 a1 a2 a3 : Value} {x y : Int32} {st : List Value} {hp : qzH} : qzV d 37 105 [a0, a1, a2, a3] (.int y :: .int x :: st) hp = if ¬ x = y then qzV d 37 113 [a0, a1, a2, a3] (st) hp else qzV d 37 108 [a0, a1, a2, a3] (st) hp := qv_if2 mdc_37 dX2_coat_105 rfl rfl rfl
theorem eX2_coat_108 {d : Nat} {a0 a1 a2 a3 : Value} {st : List Value} {hp : qzH} : qzV d 37 108 [a0, a1, a2, a3] (st) hp = qzV d 37 110 [a0, a1, a2, a3] (.int (-4) :: st) hp := qv_bipush mdc_37 dX2_coat_108 ib_m4 rfl
theorem eX2_coat_110 {d : Nat} {a0 a1 a2 a3 : Value} {st : List Value} {hp : qzH} : qzV d 37 110 [a0, a1, a2, a3] (st) hp = qzV d 37 114 [a0, a1, a2, a3] (st) hp := qv_goto mdc_37 dX2_coat_110 rfl
theorem eX2_coat_113 {d : Nat} {a0 a1 a2 : Value} {x : Int32} {st : List Value} {hp : qzH} : qzV d 37 113 [a0, a1, a2, .int x] (st) hp = qzV d 37 114 [a0, a1, a2, .int x] (.int x :: st) hp := qv_iload (i := 3) mdc_37 dX2_coat_113 rfl rfl rfl
theorem eX2_coat_114 {d : Nat} {a0 a1 a2 a3 : Value} {v : Int32} {hp : qzH} : qzV d 37 114 [a0, a1, a2, a3] [.int v] hp = some (some (.int v), hp) := qv_iret mdc_37 dX2_coat_114 mdr_37 rfl
theorem eX2_coat_115 {d : Nat} {a1 a2 a3 : Value} {x : Nat} {st : List Value} {hp : qzH} : qzV d 37 115 [.ref x, a1, a2, a3] (st) hp = qzV d 37 116 [.ref x, a1, a2, a3] (.ref x :: st) hp := qv_aload (i := 0) mdc_37 dX2_coat_115 rfl rfl rfl
theorem eX2_coat_116 {d : Nat} {a0 a1 a2 a3 : Value} {a : Nat} {st : List Value} {hp : qzH} (ha : qzArr 2 a hp.1 = true) : qzV d 37 116 [a0, a1, a2, a3] (.ref a :: st) hp = qzV d 37 119 [a0, a1, a2, a3] (va_rf (hp.2.1 a 0) :: st) hp := qv_getR mdc_37 dX2_coat_116 mdo_37 qff_2_10 ⟨by decide, rfl⟩ rfl ha
theorem eX2_coat_119 {d : Nat} {a0 a1 a2 a3 : Value} {st : List Value} {hp : qzH} : qzV d 37 119 [a0, a1, a2, a3] (st) hp = qzV d 37 120 [a0, a1, a2, a3] (.int 2 :: st) hp := qv_iconst mdc_37 dX2_coat_119 il_2 rfl
theorem eX2_coat_120 {d : Nat} {a0 a2 a3 : Value} {x : Int32} {st : List Value} {hp : qzH} : qzV d 37 120 [a0, .int x, a2, a3] (st) hp = qzV d 37 121 [a0, .int x, a2, a3] (.int x :: st) hp := qv_iload (i := 1) mdc_37 dX2_coat_120 rfl rfl rfl
theorem eX2_coat_121 {d : Nat} {a0 a1 a2 a3 : Value} {w0 w1 : Value} {b : Nat} {st : List Value} {hp : qzH} (h8 : st.length ≤ 8) (hb : qzArr 0 b hp.1 = true) : qzV (d + 1) 37 121 [a0, a1, a2, a3] (w1 :: w0 :: .ref b :: st) hp = (qzC d 13 (.ref b :: [w0, w1]) hp).bind (fun r => qzV (d + 1) 37 124 [a0, a1, a2, a3] (r.1.toList ++ st) r.2) := qv_callv (n := 2) mdc_37 dX2_coat_121 mdo_37 (by decide) qfc_2_139 ⟨rfl, by decide, rfl⟩ rfl ⟨rfl, rfl, by simp only [List.length_cons]; omega⟩ h8 hb
theorem eX2_coat_124 {d : Nat} {a0 a1 a2 a3 : Value} {v : Int32} {hp : qzH} : qzV d 37 124 [a0, a1, a2, a3] [.int v] hp = some (some (.int v), hp) := qv_iret mdc_37 dX2_coat_124 mdr_37 rfl
theorem eX2_coat_125 {d : Nat} {a1 a2 a3 : Value} {x : Nat} {st : List Value} {hp : qzH} : qzV d 37 125 [.ref x, a1, a2, a3] (st) hp = qzV d 37 126 [.ref x, a1, a2, a3] (.ref x :: st) hp := qv_aload (i := 0) mdc_37 dX2_coat_125 rfl rfl rfl
theorem eX2_coat_126 {d : Nat} {a0 a1 a2 a3 : Value} {a : Nat} {st : List Value} {hp : qzH} (ha : qzArr 2 a hp.1 = true) : qzV d 37 126 [a0, a1, a2, a3] (.ref a :: st) hp = qzV d 37 129 [a0, a1, a2, a3] (va_rf (hp.2.1 a 0) :: st) hp := qv_getR mdc_37 dX2_coat_126 mdo_37 qff_2_10 ⟨by decide, rfl⟩ rfl ha
theorem eX2_coat_129 {d : Nat} {a0 a1 a2 a3 : Value} {st : List Value} {hp : qzH} : qzV d 37 129 [a0, a1, a2, a3] (st) hp = qzV d 37 130 [a0, a1, a2, a3] (.int 4 :: st) hp := qv_iconst mdc_37 dX2_coat_129 il_4 rfl
theorem eX2_coat_130 {d : Nat} {a0 a2 a3 : Value} {x : Int32} {st : List Value} {hp : qzH} : qzV d 37 130 [a0, .int x, a2, a3] (st) hp = qzV d 37 131 [a0, .int x, a2, a3] (.int x :: st) hp := qv_iload (i := 1) mdc_37 dX2_coat_130 rfl rfl rfl
theorem eX2_coat_131 {d : Nat} {a0 a1 a2 a3 : Value} {w0 w1 : Value} {b : Nat} {st : List Value} {hp : qzH} (h8 : st.length ≤ 8) (hb : qzArr 0 b hp.1 = true) : qzV (d + 1) 37 131 [a0, a1, a2, a3] (w1 :: w0 :: .ref b :: st) hp = (qzC d 13 (.ref b :: [w0, w1]) hp).bind (fun r => qzV (d + 1) 37 134 [a0, a1, a2, a3] (r.1.toList ++ st) r.2) := qv_callv (n := 2) mdc_37 dX2_coat_131 mdo_37 (by decide) qfc_2_139 ⟨rfl, by decide, rfl⟩ rfl ⟨rfl, rfl, by simp only [List.length_cons]; omega⟩ h8 hb
theorem eX2_coat_134 {d : Nat} {a0 a1 a2 a3 : Value} {v : Int32} {hp : qzH} : qzV d 37 134 [a0, a1, a2, a3] [.int v] hp = some (some (.int v), hp) := qv_iret mdc_37 dX2_coat_134 mdr_37 rfl
theorem dX2_piece_0 : decode cX2_piece 0 = .ok (.iload_n 1, 1) := by decide +kernel
theorem dX2_piece_1 : decode cX2_piece 1 = .ok (.invokestatic 120, 3) := by decide +kernel
theorem dX2_piece_4 : decode cX2_piece 4 = .ok (.ifCond .ne 16, 3) := by decide +kernel
theorem dX2_piece_7 : decode cX2_piece 7 = .ok (.iload_n 2, 1) := by decide +kernel
theorem dX2_piece_8 : decode cX2_piece 8 = .ok (.ifCond .lt 12, 3) := by decide +kernel
theorem dX2_piece_11 : decode cX2_piece 11 = .ok (.iload_n 3, 1) := by decide +kernel
theorem dX2_piece_12 : decode cX2_piece 12 = .ok (.ifCond .lt 8, 3) := by decide +kernel
theorem dX2_piece_15 : decode cX2_piece 15 = .ok (.iload_n 3, 1) := by decide +kernel
theorem dX2_piece_16 : decode cX2_piece 16 = .ok (.iconst 3, 1) := by decide +kernel
theorem dX2_piece_17 : decode cX2_piece 17 = .ok (.if_icmp .le 5, 3) := by decide +kernel
theorem dX2_piece_20 : decode cX2_piece 20 = .ok (.iconst (-1), 1) := by decide +kernel
theorem dX2_piece_21 : decode cX2_piece 21 = .ok (.ireturn, 1) := by decide +kernel
theorem dX2_piece_22 : decode cX2_piece 22 = .ok (.iload_n 2, 1) := by decide +kernel
theorem dX2_piece_23 : decode cX2_piece 23 = .ok (.aload_n 0, 1) := by decide +kernel
theorem dX2_piece_24 : decode cX2_piece 24 = .ok (.getfield 10, 3) := by decide +kernel
theorem dX2_piece_27 : decode cX2_piece 27 = .ok (.iload_n 1, 1) := by decide +kernel
theorem dX2_piece_28 : decode cX2_piece 28 = .ok (.invokevirtual 130, 3) := by decide +kernel
theorem dX2_piece_31 : decode cX2_piece 31 = .ok (.if_icmp .lt 6, 3) := by decide +kernel
theorem dX2_piece_34 : decode cX2_piece 34 = .ok (.bipush (-4), 2) := by decide +kernel
theorem dX2_piece_36 : decode cX2_piece 36 = .ok (.ireturn, 1) := by decide +kernel
theorem dX2_piece_37 : decode cX2_piece 37 = .ok (.iconst 2, 1) := by decide +kernel
theorem dX2_piece_38 : decode cX2_piece 38 = .ok (.iload_n 2, 1) := by decide +kernel
theorem dX2_piece_39 : decode cX2_piece 39 = .ok (.imul, 1) := by decide +kernel
theorem dX2_piece_40 : decode cX2_piece 40 = .ok (.iload_n 1, 1) := by decide +kernel
theorem dX2_piece_41 : decode cX2_piece 41 = .ok (.iadd, 1) := by decide +kernel
theorem dX2_piece_42 : decode cX2_piece 42 = .ok (.istore 4, 2) := by decide +kernel
theorem dX2_piece_44 : decode cX2_piece 44 = .ok (.iload_n 3, 1) := by decide +kernel
theorem dX2_piece_45 : decode cX2_piece 45 = .ok (.tableswitch 66 0 2 #[27, 40, 53], 27) := by decide +kernel
theorem dX2_piece_72 : decode cX2_piece 72 = .ok (.aload_n 0, 1) := by decide +kernel
theorem dX2_piece_73 : decode cX2_piece 73 = .ok (.getfield 10, 3) := by decide +kernel
theorem dX2_piece_76 : decode cX2_piece 76 = .ok (.getfield 143, 3) := by decide +kernel
theorem dX2_piece_79 : decode cX2_piece 79 = .ok (.iload 4, 2) := by decide +kernel
theorem dX2_piece_81 : decode cX2_piece 81 = .ok (.invokestatic 72, 3) := by decide +kernel
theorem dX2_piece_84 : decode cX2_piece 84 = .ok (.ireturn, 1) := by decide +kernel
theorem dX2_piece_85 : decode cX2_piece 85 = .ok (.aload_n 0, 1) := by decide +kernel
theorem dX2_piece_86 : decode cX2_piece 86 = .ok (.getfield 10, 3) := by decide +kernel
theorem dX2_piece_89 : decode cX2_piece 89 = .ok (.getfield 133, 3) := by decide +kernel
theorem dX2_piece_92 : decode cX2_piece 92 = .ok (.iload 4, 2) := by decide +kernel
theorem dX2_piece_94 : decode cX2_piece 94 = .ok (.invokestatic 72, 3) := by decide +kernel
theorem dX2_piece_97 : decode cX2_piece 97 = .ok (.ireturn, 1) := by decide +kernel
theorem dX2_piece_98 : decode cX2_piece 98 = .ok (.aload_n 0, 1) := by decide +kernel
theorem dX2_piece_99 : decode cX2_piece 99 = .ok (.getfield 10, 3) := by decide +kernel
theorem dX2_piece_102 : decode cX2_piece 102 = .ok (.getfield 124, 3) := by decide +kernel
theorem dX2_piece_105 : decode cX2_piece 105 = .ok (.iload 4, 2) := by decide +kernel
theorem dX2_piece_107 : decode cX2_piece 107 = .ok (.invokestatic 72, 3) := by decide +kernel
theorem dX2_piece_110 : decode cX2_piece 110 = .ok (.ireturn, 1) := by decide +kernel
theorem dX2_piece_111 : decode cX2_piece 111 = .ok (.aload_n 0, 1) := by decide +kernel
theorem dX2_piece_112 : decode cX2_piece 112 = .ok (.getfield 10, 3) := by decide +kernel
theorem dX2_piece_115 : decode cX2_piece 115 = .ok (.getfield 146, 3) := by decide +kernel
theorem dX2_piece_118 : decode cX2_piece 118 = .ok (.iload 4, 2) := by decide +kernel
theorem dX2_piece_120 : decode cX2_piece 120 = .ok (.invokestatic 72, 3) := by decide +kernel
theorem dX2_piece_123 : decode cX2_piece 123 = .ok (.iconst 1, 1) := by decide +kernel
theorem dX2_piece_124 : decode cX2_piece 124 = .ok (.iand, 1) := by decide +kernel
theorem dX2_piece_125 : decode cX2_piece 125 = .ok (.ifCond .eq 7, 3) := by decide +kernel
theorem dX2_piece_128 : decode cX2_piece 128 = .ok (.iconst 1, 1) := by decide +kernel
theorem dX2_piece_129 : decode cX2_piece 129 = .ok (.goto 4, 3) := by decide +kernel
theorem dX2_piece_132 : decode cX2_piece 132 = .ok (.iconst 0, 1) := by decide +kernel
theorem dX2_piece_133 : decode cX2_piece 133 = .ok (.ireturn, 1) := by decide +kernel
theorem eX2_piece_0 {d : Nat} {a0 a2 a3 a4 : Value} {x : Int32} {st : List Value} {hp : qzH} : qzV d 38 0 [a0, .int x, a2, a3, a4] (st) hp = qzV d 38 1 [a0, .int x, a2, a3, a4] (.int x :: st) hp := qv_iload (i := 1) mdc_38 dX2_piece_0 rfl rfl rfl
theorem eX2_piece_1 {d : Nat} {a0 a1 a2 a3 a4 : Value} {w0 : Value} {st : List Value} {hp : qzH} (h8 : st.length ≤ 8) : qzV (d + 1) 38 1 [a0, a1, a2, a3, a4] (w0 :: st) hp = (qzC d 83 [w0] hp).bind (fun r => qzV (d + 1) 38 4 [a0, a1, a2, a3, a4] (r.1.toList ++ st) r.2) := qv_calls (n := 1) mdc_38 dX2_piece_1 mdo_38 (by decide) qfc_2_120 ⟨rfl, by decide, rfl⟩ rfl ⟨rfl, rfl, by simp only [List.length_cons]; omega⟩ h8
theorem eX2_piece_4 {d : Nat} {a0 a1 a2 a3 a4 : Value} {x : Int32} {st : List Value} {hp : qzH} : qzV d 38 4 [a0, a1, a2, a3, a4] (.int x :: st) hp = if ¬ x = 0 then qzV d 38 20 [a0, a1, a2, a3, a4] (st) hp else qzV d 38 7 [a0, a1, a2, a3, a4] (st) hp := qv_if1 mdc_38 dX2_piece_4 rfl rfl rfl
theorem eX2_piece_7 {d : Nat} {a0 a1 a3 a4 : Value} {x : Int32} {st : List Value} {hp : qzH} : qzV d 38 7 [a0, a1, .int x, a3, a4] (st) hp = qzV d 38 8 [a0, a1, .int x, a3, a4] (.int x :: st) hp := qv_iload (i := 2) mdc_38 dX2_piece_7 rfl rfl rfl
theorem eX2_piece_8 {d : Nat} {a0 a1 a2 a3 a4 : Value} {x : Int32} {st : List Value} {hp : qzH} : qzV d 38 8 [a0, a1, a2, a3, a4] (.int x :: st) hp = if x < 0 then qzV d 38 20 [a0, a1, a2, a3, a4] (st) hp else qzV d 38 11 [a0, a1, a2, a3, a4] (st) hp := qv_if1 mdc_38 dX2_piece_8 rfl rfl rfl
theorem eX2_piece_11 {d : Nat} {a0 a1 a2 a4 : Value} {x : Int32} {st : List Value} {hp : qzH} : qzV d 38 11 [a0, a1, a2, .int x, a4] (st) hp = qzV d 38 12 [a0, a1, a2, .int x, a4] (.int x :: st) hp := qv_iload (i := 3) mdc_38 dX2_piece_11 rfl rfl rfl
theorem eX2_piece_12 {d : Nat} {a0 a1 a2 a3 a4 : Value} {x : Int32} {st : List Value} {hp : qzH} : qzV d 38 12 [a0, a1, a2, a3, a4] (.int x :: st) hp = if x < 0 then qzV d 38 20 [a0, a1, a2, a3, a4] (st) hp else qzV d 38 15 [a0, a1, a2, a3, a4] (st) hp := qv_if1 mdc_38 dX2_piece_12 rfl rfl rfl
theorem eX2_piece_15 {d : Nat} {a0 a1 a2 a4 : Value} {x : Int32} {st : List Value} {hp : qzH} : qzV d 38 15 [a0, a1, a2, .int x, a4] (st) hp = qzV d 38 16 [a0, a1, a2, .int x, a4] (.int x :: st) hp := qv_iload (i := 3) mdc_38 dX2_piece_15 rfl rfl rfl
theorem eX2_piece_16 {d : Nat} {a0 a1 a2 a3 a4 : Value} {st : List Value} {hp : qzH} : qzV d 38 16 [a0, a1, a2, a3, a4] (st) hp = qzV d 38 17 [a0, a1, a2, a3, a4] (.int 3 :: st) hp := qv_iconst mdc_38 dX2_piece_16 il_3 rfl
theorem eX2_piece_17 {d : Nat} {a0 a1 a2 a3 a4 : Value} {x y : Int32} {st : List Value} {hp : qzH} : qzV d 38 17 [a0, a1, a2, a3, a4] (.int y :: .int x :: st) hp = if x ≤ y then qzV d 38 22 [a0, a1, a2, a3, a4] (st) hp else qzV d 38 20 [a0, a1, a2, a3, a4] (st) hp := qv_if2 mdc_38 dX2_piece_17 rfl rfl rfl
theorem eX2_piece_20 {d : Nat} {a0 a1 a2 a3 a4 : Value} {st : List Value} {hp : qzH} : qzV d 38 20 [a0, a1, a2, a3, a4] (st) hp = qzV d 38 21 [a0, a1, a2, a3, a4] (.int (-1) :: st) hp := qv_iconst mdc_38 dX2_piece_20 il_m1 rfl
theorem eX2_piece_21 {d : Nat} {a0 a1 a2 a3 a4 : Value} {v : Int32} {hp : qzH} : qzV d 38 21 [a0, a1, a2, a3, a4] [.int v] hp = some (some (.int v), hp) := qv_iret mdc_38 dX2_piece_21 mdr_38 rfl
theorem eX2_piece_22 {d : Nat} {a0 a1 a3 a4 : Value} {x : Int32} {st : List Value} {hp : qzH} : qzV d 38 22 [a0, a1, .int x, a3, a4] (st) hp = qzV d 38 23 [a0, a1, .int x, a3, a4] (.int x :: st) hp := qv_iload (i := 2) mdc_38 dX2_piece_22 rfl rfl rfl
theorem eX2_piece_23 {d : Nat} {a1 a2 a3 a4 : Value} {x : Nat} {st : List Value} {hp : qzH} : qzV d 38 23 [.ref x, a1, a2, a3, a4] (st) hp = qzV d 38 24 [.ref x, a1, a2, a3, a4] (.ref x :: st) hp := qv_aload (i := 0) mdc_38 dX2_piece_23 rfl rfl rfl
theorem eX2_piece_24 {d : Nat} {a0 a1 a2 a3 a4 : Value} {a : Nat} {st : List Value} {hp : qzH} (ha : qzArr 2 a hp.1 = true) : qzV d 38 24 [a0, a1, a2, a3, a4] (.ref a :: st) hp = qzV d 38 27 [a0, a1, a2, a3, a4] (va_rf (hp.2.1 a 0) :: st) hp := qv_getR mdc_38 dX2_piece_24 mdo_38 qff_2_10 ⟨by decide, rfl⟩ rfl ha
theorem eX2_piece_27 {d : Nat} {a0 a2 a3 a4 : Value} {x : Int32} {st : List Value} {hp : qzH} : qzV d 38 27 [a0, .int x, a2, a3, a4] (st) hp = qzV d 38 28 [a0, .int x, a2, a3, a4] (.int x :: st) hp := qv_iload (i := 1) mdc_38 dX2_piece_27 rfl rfl rfl
theorem eX2_piece_28 {d : Nat} {a0 a1 a2 a3 a4 : Value} {w0 : Value} {b : Nat} {st : List Value} {hp : qzH} (h8 : st.length ≤ 8) (hb : qzArr 0 b hp.1 = true) : qzV (d + 1) 38 28 [a0, a1, a2, a3, a4] (w0 :: .ref b :: st) hp = (qzC d 10 (.ref b :: [w0]) hp).bind (fun r => qzV (d + 1) 38 31 [a0, a1, a2, a3, a4] (r.1.toList ++ st) r.2) := qv_callv (n := 1) mdc_38 dX2_piece_28 mdo_38 (by decide) qfc_2_130 ⟨rfl, by decide, rfl⟩ rfl ⟨rfl, rfl, by simp only [List.length_cons]; omega⟩ h8 hb
theorem eX2_piece_31 {d : Nat} {a0 a1 a2 a3 a4 : Value} {x y : Int32} {st : List Value} {hp : qzH} : qzV d 38 31 [a0, a1, a2, a3, a4] (.int y :: .int x :: st) hp = if x < y then qzV d 38 37 [a0, a1, a2, a3, a4] (st) hp else qzV d 38 34 [a0, a1, a2, a3, a4] (st) hp := qv_if2 mdc_38 dX2_piece_31 rfl rfl rfl
theorem eX2_piece_34 {d : Nat} {a0 a1 a2 a3 a4 : Value} {st : List Value} {hp : qzH} : qzV d 38 34 [a0, a1, a2, a3, a4] (st) hp = qzV d 38 36 [a0, a1, a2, a3, a4] (.int (-4) :: st) hp := qv_bipush mdc_38 dX2_piece_34 ib_m4 rfl
theorem eX2_piece_36 {d : Nat} {a0 a1 a2 a3 a4 : Value} {v : Int32} {hp : qzH} : qzV d 38 36 [a0, a1, a2, a3, a4] [.int v] hp = some (some (.int v), hp) := qv_iret mdc_38 dX2_piece_36 mdr_38 rfl
theorem eX2_piece_37 {d : Nat} {a0 a1 a2 a3 a4 : Value} {st : List Value} {hp : qzH} : qzV d 38 37 [a0, a1, a2, a3, a4] (st) hp = qzV d 38 38 [a0, a1, a2, a3, a4] (.int 2 :: st) hp := qv_iconst mdc_38 dX2_piece_37 il_2 rfl
theorem eX2_piece_38 {d : Nat} {a0 a1 a3 a4 : Value} {x : Int32} {st : List Value} {hp : qzH} : qzV d 38 38 [a0, a1, .int x, a3, a4] (st) hp = qzV d 38 39 [a0, a1, .int x, a3, a4] (.int x :: st) hp := qv_iload (i := 2) mdc_38 dX2_piece_38 rfl rfl rfl
theorem eX2_piece_39 {d : Nat} {a0 a1 a2 a3 a4 : Value} {x y : Int32} {st : List Value} {hp : qzH} : qzV d 38 39 [a0, a1, a2, a3, a4] (.int y :: .int x :: st) hp = qzV d 38 40 [a0, a1, a2, a3, a4] (.int (x * y) :: st) hp := qv_bin (f := fun x y => x * y) mdc_38 dX2_piece_39 rfl rfl
theorem eX2_piece_40 {d : Nat} {a0 a2 a3 a4 : Value} {x : Int32} {st : List Value} {hp : qzH} : qzV d 38 40 [a0, .int x, a2, a3, a4] (st) hp = qzV d 38 41 [a0, .int x, a2, a3, a4] (.int x :: st) hp := qv_iload (i := 1) mdc_38 dX2_piece_40 rfl rfl rfl
theorem eX2_piece_41 {d : Nat} {a0 a1 a2 a3 a4 : Value} {x y : Int32} {st : List Value} {hp : qzH} : qzV d 38 41 [a0, a1, a2, a3, a4] (.int y :: .int x :: st) hp = qzV d 38 42 [a0, a1, a2, a3, a4] (.int (x + y) :: st) hp := qv_bin (f := fun x y => x + y) mdc_38 dX2_piece_41 rfl rfl
theorem eX2_piece_42 {d : Nat} {a0 a1 a2 a3 a4 : Value} {x : Int32} {st : List Value} {hp : qzH} : qzV d 38 42 [a0, a1, a2, a3, a4] (.int x :: st) hp = qzV d 38 44 [a0, a1, a2, a3, .int x] (st) hp := qv_istore (i := 4) mdc_38 dX2_piece_42 rfl (Nat.le_of_ble_eq_true rfl) rfl rfl
theorem eX2_piece_44 {d : Nat} {a0 a1 a2 a4 : Value} {x : Int32} {st : List Value} {hp : qzH} : qzV d 38 44 [a0, a1, a2, .int x, a4] (st) hp = qzV d 38 45 [a0, a1, a2, .int x, a4] (.int x :: st) hp := qv_iload (i := 3) mdc_38 dX2_piece_44 rfl rfl rfl
theorem eX2_piece_45_0 {d : Nat} {a0 a1 a2 a3 a4 : Value} {st : List Value} {hp : qzH} : qzV d 38 45 [a0, a1, a2, a3, a4] (.int 0 :: st) hp = qzV d 38 72 [a0, a1, a2, a3, a4] (st) hp := qv_tsw mdc_38 dX2_piece_45 (by decide)
theorem eX2_piece_45_1 {d : Nat} {a0 a1 a2 a3 a4 : Value} {st : List Value} {hp : qzH} : qzV d 38 45 [a0, a1, a2, a3, a4] (.int 1 :: st) hp = qzV d 38 85 [a0, a1, a2, a3, a4] (st) hp := qv_tsw mdc_38 dX2_piece_45 (by decide)
theorem eX2_piece_45_2 {d : Nat} {a0 a1 a2 a3 a4 : Value} {st : List Value} {hp : qzH} : qzV d 38 45 [a0, a1, a2, a3, a4] (.int 2 :: st) hp = qzV d 38 98 [a0, a1, a2, a3, a4] (st) hp := qv_tsw mdc_38 dX2_piece_45 (by decide)
theorem eX2_piece_45_d {d : Nat} {a0 a1 a2 a3 a4 : Value} {x : Int32} {st : List Value} {hp : qzH} (hx : x.toInt < 0 ∨ 2 < x.toInt) : qzV d 38 45 [a0, a1, a2, a3, a4] (.int x :: st) hp = qzV d 38 111 [a0, a1, a2, a3, a4] (st) hp := qv_tsw mdc_38 dX2_piece_45 (by rw [if_pos hx]; rfl)
theorem eX2_piece_72 {d : Nat} {a1 a2 a3 a4 : Value} {x : Nat} {st : List Value} {hp : qzH} : qzV d 38 72 [.ref x, a1, a2, a3, a4] (st) hp = qzV d 38 73 [.ref x, a1, a2, a3, a4] (.ref x :: st) hp := qv_aload (i := 0) mdc_38 dX2_piece_72 rfl rfl rfl
theorem eX2_piece_73 {d : Nat} {a0 a1 a2 a3 a4 : Value} {a : Nat} {st : List Value} {hp : qzH} (ha : qzArr 2 a hp.1 = true) : qzV d 38 73 [a0, a1, a2, a3, a4] (.ref a :: st) hp = qzV d 38 76 [a0, a1, a2, a3, a4] (va_rf (hp.2.1 a 0) :: st) hp := qv_getR mdc_38 dX2_piece_73 mdo_38 qff_2_10 ⟨by decide, rfl⟩ rfl ha
theorem eX2_piece_76 {d : Nat} {a0 a1 a2 a3 a4 : Value} {a : Nat} {st : List Value} {hp : qzH} (ha : qzArr 0 a hp.1 = true) : qzV d 38 76 [a0, a1, a2, a3, a4] (.ref a :: st) hp = qzV d 38 79 [a0, a1, a2, a3, a4] (va_rf (hp.2.1 a 2) :: st) hp := qv_getR mdc_38 dX2_piece_76 mdo_38 qff_2_143 ⟨by decide, rfl⟩ rfl ha
theorem eX2_piece_79 {d : Nat} {a0 a1 a2 a3 : Value} {x : Int32} {st : List Value} {hp : qzH} : qzV d 38 79 [a0, a1, a2, a3, .int x] (st) hp = qzV d 38 81 [a0, a1, a2, a3, .int x] (.int x :: st) hp := qv_iload (i := 4) mdc_38 dX2_piece_79 rfl rfl rfl
theorem eX2_piece_81 {d : Nat} {a0 a1 a2 a3 a4 : Value} {w0 w1 : Value} {st : List Value} {hp : qzH} (h8 : st.length ≤ 8) : qzV (d + 1) 38 81 [a0, a1, a2, a3, a4] (w1 :: w0 :: st) hp = (qzC d 84 [w0, w1] hp).bind (fun r => qzV (d + 1) 38 84 [a0, a1, a2, a3, a4] (r.1.toList ++ st) r.2) := qv_calls (n := 2) mdc_38 dX2_piece_81 mdo_38 (by decide) qfc_2_72 ⟨rfl, by decide, rfl⟩ rfl ⟨rfl, rfl, by simp only [List.length_cons]; omega⟩ h8
theorem eX2_piece_84 {d : Nat} {a0 a1 a2 a3 a4 : Value} {v : Int32} {hp : qzH} : qzV d 38 84 [a0, a1, a2, a3, a4] [.int v] hp = some (some (.int v), hp) := qv_iret mdc_38 dX2_piece_84 mdr_38 rfl
theorem eX2_piece_85 {d : Nat} {a1 a2 a3 a4 : Value} {x : Nat} {st : List Value} {hp : qzH} : qzV d 38 85 [.ref x, a1, a2, a3, a4] (st) hp = qzV d 38 86 [.ref x, a1, a2, a3, a4] (.ref x :: st) hp := qv_aload (i := 0) mdc_38 dX2_piece_85 rfl rfl rfl
theorem eX2_piece_86 {d : Nat} {a0 a1 a2 a3 a4 : Value} {a : Nat} {st : List Value} {hp : qzH} (ha : qzArr 2 a hp.1 = true) : qzV d 38 86 [a0, a1, a2, a3, a4] (.ref a :: st) hp = qzV d 38 89 [a0, a1, a2, a3, a4] (va_rf (hp.2.1 a 0) :: st) hp := qv_getR mdc_38 dX2_piece_86 mdo_38 qff_2_10 ⟨by decide, rfl⟩ rfl ha
theorem eX2_piece_89 {d : Nat} {a0 a1 a2 a3 a4 : Value} {a : Nat} {st : List Value} {hp : qzH} (ha : qzArr 0 a hp.1 = true) : qzV d 38 89 [a0, a1, a2, a3, a4] (.ref a :: st) hp = qzV d 38 92 [a0, a1, a2, a3, a4] (va_rf (hp.2.1 a 3) :: st) hp := qv_getR mdc_38 dX2_piece_89 mdo_38 qff_2_133 ⟨by decide, rfl⟩ rfl ha
theorem eX2_piece_92 {d : Nat} {a0 a1 a2 a3 : Value} {x : Int32} {st : List Value} {hp : qzH} : qzV d 38 92 [a0, a1, a2, a3, .int x] (st) hp = qzV d 38 94 [a0, a1, a2, a3, .int x] (.int x :: st) hp := qv_iload (i := 4) mdc_38 dX2_piece_92 rfl rfl rfl
theorem eX2_piece_94 {d : Nat} {a0 a1 a2 a3 a4 : Value} {w0 w1 : Value} {st : List Value} {hp : qzH} (h8 : st.length ≤ 8) : qzV (d + 1) 38 94 [a0, a1, a2, a3, a4] (w1 :: w0 :: st) hp = (qzC d 84 [w0, w1] hp).bind (fun r => qzV (d + 1) 38 97 [a0, a1, a2, a3, a4] (r.1.toList ++ st) r.2) := qv_calls (n := 2) mdc_38 dX2_piece_94 mdo_38 (by decide) qfc_2_72 ⟨rfl, by decide, rfl⟩ rfl ⟨rfl, rfl, by simp only [List.length_cons]; omega⟩ h8
theorem eX2_piece_97 {d : Nat} {a0 a1 a2 a3 a4 : Value} {v : Int32} {hp : qzH} : qzV d 38 97 [a0, a1, a2, a3, a4] [.int v] hp = some (some (.int v), hp) := qv_iret mdc_38 dX2_piece_97 mdr_38 rfl
theorem eX2_piece_98 {d : Nat} {a1 a2 a3 a4 : Value} {x : Nat} {st : List Value} {hp : qzH} : qzV d 38 98 [.ref x, a1, a2, a3, a4] (st) hp = qzV d 38 99 [.ref x, a1, a2, a3, a4] (.ref x :: st) hp := qv_aload (i := 0) mdc_38 dX2_piece_98 rfl rfl rfl
theorem eX2_piece_99 {d : Nat} {a0 a1 a2 a3 a4 : Value} {a : Nat} {st : List Value} {hp : qzH} (ha : qzArr 2 a hp.1 = true) : qzV d 38 99 [a0, a1, a2, a3, a4] (.ref a :: st) hp = qzV d 38 102 [a0, a1, a2, a3, a4] (va_rf (hp.2.1 a 0) :: st) hp := qv_getR mdc_38 dX2_piece_99 mdo_38 qff_2_10 ⟨by decide, rfl⟩ rfl ha
theorem eX2_piece_102 {d : Nat} {a0 a1 a2 a3 a4 : Value} {a : Nat} {st : List Value} {hp : qzH} (ha : qzArr 0 a hp.1 = true) : qzV d 38 102 [a0, a1, a2, a3, a4] (.ref a :: st) hp = qzV d 38 105 [a0, a1, a2, a3, a4] (va_rf (hp.2.1 a 4) :: st) hp := qv_getR mdc_38 dX2_piece_102 mdo_38 qff_2_124 ⟨by decide, rfl⟩ rfl ha
theorem eX2_piece_105 {d : Nat} {a0 a1 a2 a3 : Value} {x : Int32} {st : List Value} {hp : qzH} : qzV d 38 105 [a0, a1, a2, a3, .int x] (st) hp = qzV d 38 107 [a0, a1, a2, a3, .int x] (.int x :: st) hp := qv_iload (i := 4) mdc_38 dX2_piece_105 rfl rfl rfl
theorem eX2_piece_107 {d : Nat} {a0 a1 a2 a3 a4 : Value} {w0 w1 : Value} {st : List Value} {hp : qzH} (h8 : st.length ≤ 8) : qzV (d + 1) 38 107 [a0, a1, a2, a3, a4] (w1 :: w0 :: st) hp = (qzC d 84 [w0, w1] hp).bind (fun r => qzV (d + 1) 38 110 [a0, a1, a2, a3, a4] (r.1.toList ++ st) r.2) := qv_calls (n := 2) mdc_38 dX2_piece_107 mdo_38 (by decide) qfc_2_72 ⟨rfl, by decide, rfl⟩ rfl ⟨rfl, rfl, by simp only [List.length_cons]; omega⟩ h8
theorem eX2_piece_110 {d : Nat} {a0 a1 a2 a3 a4 : Value} {v : Int32} {hp : qzH} : qzV d 38 110 [a0, a1, a2, a3, a4] [.int v] hp = some (some (.int v), hp) := qv_iret mdc_38 dX2_piece_110 mdr_38 rfl
theorem eX2_piece_111 {d : Nat} {a1 a2 a3 a4 : Value} {x : Nat} {st : List Value} {hp : qzH} : qzV d 38 111 [.ref x, a1, a2, a3, a4] (st) hp = qzV d 38 112 [.ref x, a1, a2, a3, a4] (.ref x :: st) hp := qv_aload (i := 0) mdc_38 dX2_piece_111 rfl rfl rfl
theorem eX2_piece_112 {d : Nat} {a0 a1 a2 a3 a4 : Value} {a : Nat} {st : List Value} {hp : qzH} (ha : qzArr 2 a hp.1 = true) : qzV d 38 112 [a0, a1, a2, a3, a4] (.ref a :: st) hp = qzV d 38 115 [a0, a1, a2, a3, a4] (va_rf (hp.2.1 a 0) :: st) hp := qv_getR mdc_38 dX2_piece_112 mdo_38 qff_2_10 ⟨by decide, rfl⟩ rfl ha
theorem eX2_piece_115 {d : Nat} {a0 a1 a2 a3 a4 : Value} {a : Nat} {st : List Value} {hp : qzH} (ha : qzArr 0 a hp.1 = true) : qzV d 38 115 [a0, a1, a2, a3, a4] (.ref a :: st) hp = qzV d 38 118 [a0, a1, a2, a3, a4] (va_rf (hp.2.1 a 5) :: st) hp := qv_getR mdc_38 dX2_piece_115 mdo_38 qff_2_146 ⟨by decide, rfl⟩ rfl ha
theorem eX2_piece_118 {d : Nat} {a0 a1 a2 a3 : Value} {x : Int32} {st : List Value} {hp : qzH} : qzV d 38 118 [a0, a1, a2, a3, .int x] (st) hp = qzV d 38 120 [a0, a1, a2, a3, .int x] (.int x :: st) hp := qv_iload (i := 4) mdc_38 dX2_piece_118 rfl rfl rfl
theorem eX2_piece_120 {d : Nat} {a0 a1 a2 a3 a4 : Value} {w0 w1 : Value} {st : List Value} {hp : qzH} (h8 : st.length ≤ 8) : qzV (d + 1) 38 120 [a0, a1, a2, a3, a4] (w1 :: w0 :: st) hp = (qzC d 84 [w0, w1] hp).bind (fun r => qzV (d + 1) 38 123 [a0, a1, a2, a3, a4] (r.1.toList ++ st) r.2) := qv_calls (n := 2) mdc_38 dX2_piece_120 mdo_38 (by decide) qfc_2_72 ⟨rfl, by decide, rfl⟩ rfl ⟨rfl, rfl, by simp only [List.length_cons]; omega⟩ h8
theorem eX2_piece_123 {d : Nat} {a0 a1 a2 a3 a4 : Value} {st : List Value} {hp : qzH} : qzV d 38 123 [a0, a1, a2, a3, a4] (st) hp = qzV d 38 124 [a0, a1, a2, a3, a4] (.int 1 :: st) hp := qv_iconst mdc_38 dX2_piece_123 il_1 rfl
theorem eX2_piece_124 {d : Nat} {a0 a1 a2 a3 a4 : Value} {x y : Int32} {st : List Value} {hp : qzH} : qzV d 38 124 [a0, a1, a2, a3, a4] (.int y :: .int x :: st) hp = qzV d 38 125 [a0, a1, a2, a3, a4] (.int (x &&& y) :: st) hp := qv_bin (f := fun x y => x &&& y) mdc_38 dX2_piece_124 rfl rfl
theorem eX2_piece_125 {d : Nat} {a0 a1 a2 a3 a4 : Value} {x : Int32} {st : List Value} {hp : qzH} : qzV d 38 125 [a0, a1, a2, a3, a4] (.int x :: st) hp = if x = 0 then qzV d 38 132 [a0, a1, a2, a3, a4] (st) hp else qzV d 38 128 [a0, a1, a2, a3, a4] (st) hp := qv_if1 mdc_38 dX2_piece_125 rfl rfl rfl
theorem eX2_piece_128 {d : Nat} {a0 a1 a2 a3 a4 : Value} {st : List Value} {hp : qzH} : qzV d 38 128 [a0, a1, a2, a3, a4] (st) hp = qzV d 38 129 [a0, a1, a2, a3, a4] (.int 1 :: st) hp := qv_iconst mdc_38 dX2_piece_128 il_1 rfl
theorem eX2_piece_129 {d : Nat} {a0 a1 a2 a3 a4 : Value} {st : List Value} {hp : qzH} : qzV d 38 129 [a0, a1, a2, a3, a4] (st) hp = qzV d 38 133 [a0, a1, a2, a3, a4] (st) hp := qv_goto mdc_38 dX2_piece_129 rfl
theorem eX2_piece_132 {d : Nat} {a0 a1 a2 a3 a4 : Value} {st : List Value} {hp : qzH} : qzV d 38 132 [a0, a1, a2, a3, a4] (st) hp = qzV d 38 133 [a0, a1, a2, a3, a4] (.int 0 :: st) hp := qv_iconst mdc_38 dX2_piece_132 il_0 rfl
theorem eX2_piece_133 {d : Nat} {a0 a1 a2 a3 a4 : Value} {v : Int32} {hp : qzH} : qzV d 38 133 [a0, a1, a2, a3, a4] [.int v] hp = some (some (.int v), hp) := qv_iret mdc_38 dX2_piece_133 mdr_38 rfl
theorem dX2_count_0 : decode cX2_count 0 = .ok (.aload_n 0, 1) := by decide +kernel
theorem dX2_count_1 : decode cX2_count 1 = .ok (.getfield 10, 3) := by decide +kernel
theorem dX2_count_4 : decode cX2_count 4 = .ok (.invokevirtual 149, 3) := by decide +kernel
theorem dX2_count_7 : decode cX2_count 7 = .ok (.istore_n 2, 1) := by decide +kernel
theorem dX2_count_8 : decode cX2_count 8 = .ok (.iload_n 1, 1) := by decide +kernel
theorem dX2_count_9 : decode cX2_count 9 = .ok (.tableswitch 197 0 13 #[71, 79, 87, 104, 123, 140, 148, 156, 164, 172, 172, 172, 187, 192], 71) := by decide +kernel
theorem dX2_count_80 : decode cX2_count 80 = .ok (.aload_n 0, 1) := by decide +kernel
theorem dX2_count_81 : decode cX2_count 81 = .ok (.getfield 10, 3) := by decide +kernel
theorem dX2_count_84 : decode cX2_count 84 = .ok (.getfield 60, 3) := by decide +kernel
theorem dX2_count_87 : decode cX2_count 87 = .ok (.ireturn, 1) := by decide +kernel
theorem dX2_count_88 : decode cX2_count 88 = .ok (.aload_n 0, 1) := by decide +kernel
theorem dX2_count_89 : decode cX2_count 89 = .ok (.getfield 10, 3) := by decide +kernel
theorem dX2_count_92 : decode cX2_count 92 = .ok (.invokevirtual 153, 3) := by decide +kernel
theorem dX2_count_95 : decode cX2_count 95 = .ok (.ireturn, 1) := by decide +kernel
theorem dX2_count_96 : decode cX2_count 96 = .ok (.iload_n 2, 1) := by decide +kernel
theorem dX2_count_97 : decode cX2_count 97 = .ok (.ifCond .eq 8, 3) := by decide +kernel
theorem dX2_count_100 : decode cX2_count 100 = .ok (.bipush (-4), 2) := by decide +kernel
theorem dX2_count_102 : decode cX2_count 102 = .ok (.goto 10, 3) := by decide +kernel
theorem dX2_count_105 : decode cX2_count 105 = .ok (.aload_n 0, 1) := by decide +kernel
theorem dX2_count_106 : decode cX2_count 106 = .ok (.getfield 10, 3) := by decide +kernel
theorem dX2_count_109 : decode cX2_count 109 = .ok (.getfield 156, 3) := by decide +kernel
theorem dX2_count_112 : decode cX2_count 112 = .ok (.ireturn, 1) := by decide +kernel
theorem dX2_count_113 : decode cX2_count 113 = .ok (.iload_n 2, 1) := by decide +kernel
theorem dX2_count_114 : decode cX2_count 114 = .ok (.ifCond .eq 8, 3) := by decide +kernel
theorem dX2_count_117 : decode cX2_count 117 = .ok (.bipush (-4), 2) := by decide +kernel
theorem dX2_count_119 : decode cX2_count 119 = .ok (.goto 12, 3) := by decide +kernel
theorem dX2_count_122 : decode cX2_count 122 = .ok (.aload_n 0, 1) := by decide +kernel
theorem dX2_count_123 : decode cX2_count 123 = .ok (.getfield 10, 3) := by decide +kernel
theorem dX2_count_126 : decode cX2_count 126 = .ok (.getfield 159, 3) := by decide +kernel
theorem dX2_count_129 : decode cX2_count 129 = .ok (.iconst 1, 1) := by decide +kernel
theorem dX2_count_130 : decode cX2_count 130 = .ok (.isub, 1) := by decide +kernel
theorem dX2_count_131 : decode cX2_count 131 = .ok (.ireturn, 1) := by decide +kernel
theorem dX2_count_132 : decode cX2_count 132 = .ok (.iload_n 2, 1) := by decide +kernel
theorem dX2_count_133 : decode cX2_count 133 = .ok (.ifCond .eq 8, 3) := by decide +kernel
theorem dX2_count_136 : decode cX2_count 136 = .ok (.bipush (-4), 2) := by decide +kernel
theorem dX2_count_138 : decode cX2_count 138 = .ok (.goto 10, 3) := by decide +kernel
theorem dX2_count_141 : decode cX2_count 141 = .ok (.aload_n 0, 1) := by decide +kernel
theorem dX2_count_142 : decode cX2_count 142 = .ok (.getfield 10, 3) := by decide +kernel
theorem dX2_count_145 : decode cX2_count 145 = .ok (.invokevirtual 162, 3) := by decide +kernel
theorem dX2_count_148 : decode cX2_count 148 = .ok (.ireturn, 1) := by decide +kernel
theorem dX2_count_149 : decode cX2_count 149 = .ok (.aload_n 0, 1) := by decide +kernel
theorem dX2_count_150 : decode cX2_count 150 = .ok (.getfield 10, 3) := by decide +kernel
theorem dX2_count_153 : decode cX2_count 153 = .ok (.getfield 165, 3) := by decide +kernel
theorem dX2_count_156 : decode cX2_count 156 = .ok (.ireturn, 1) := by decide +kernel
theorem dX2_count_157 : decode cX2_count 157 = .ok (.aload_n 0, 1) := by decide +kernel
theorem dX2_count_158 : decode cX2_count 158 = .ok (.getfield 10, 3) := by decide +kernel
theorem dX2_count_161 : decode cX2_count 161 = .ok (.invokevirtual 168, 3) := by decide +kernel
theorem dX2_count_164 : decode cX2_count 164 = .ok (.ireturn, 1) := by decide +kernel
theorem dX2_count_165 : decode cX2_count 165 = .ok (.aload_n 0, 1) := by decide +kernel
theorem dX2_count_166 : decode cX2_count 166 = .ok (.getfield 10, 3) := by decide +kernel
theorem dX2_count_169 : decode cX2_count 169 = .ok (.invokevirtual 171, 3) := by decide +kernel
theorem dX2_count_172 : decode cX2_count 172 = .ok (.ireturn, 1) := by decide +kernel
theorem dX2_count_173 : decode cX2_count 173 = .ok (.aload_n 0, 1) := by decide +kernel
theorem dX2_count_174 : decode cX2_count 174 = .ok (.getfield 10, 3) := by decide +kernel
theorem dX2_count_177 : decode cX2_count 177 = .ok (.invokevirtual 174, 3) := by decide +kernel
theorem dX2_count_180 : decode cX2_count 180 = .ok (.ireturn, 1) := by decide +kernel
theorem dX2_count_181 : decode cX2_count 181 = .ok (.aload_n 0, 1) := by decide +kernel
theorem dX2_count_182 : decode cX2_count 182 = .ok (.getfield 10, 3) := by decide +kernel
theorem dX2_count_185 : decode cX2_count 185 = .ok (.getfield 79, 3) := by decide +kernel
theorem dX2_count_188 : decode cX2_count 188 = .ok (.iload_n 1, 1) := by decide +kernel
theorem dX2_count_189 : decode cX2_count 189 = .ok (.bipush 9, 2) := by decide +kernel
theorem dX2_count_191 : decode cX2_count 191 = .ok (.isub, 1) := by decide +kernel
theorem dX2_count_192 : decode cX2_count 192 = .ok (.invokestatic 72, 3) := by decide +kernel
theorem dX2_count_195 : decode cX2_count 195 = .ok (.ireturn, 1) := by decide +kernel
theorem dX2_count_196 : decode cX2_count 196 = .ok (.aload_n 0, 1) := by decide +kernel
theorem dX2_count_197 : decode cX2_count 197 = .ok (.getfield 86, 3) := by decide +kernel
theorem dX2_count_200 : decode cX2_count 200 = .ok (.ireturn, 1) := by decide +kernel
theorem dX2_count_201 : decode cX2_count 201 = .ok (.aload_n 0, 1) := by decide +kernel
theorem dX2_count_202 : decode cX2_count 202 = .ok (.getfield 177, 3) := by decide +kernel
theorem dX2_count_205 : decode cX2_count 205 = .ok (.ireturn, 1) := by decide +kernel
theorem dX2_count_206 : decode cX2_count 206 = .ok (.iconst (-1), 1) := by decide +kernel
theorem dX2_count_207 : decode cX2_count 207 = .ok (.ireturn, 1) := by decide +kernel
theorem eX2_count_0 {d : Nat} {a1 a2 : Value} {x : Nat} {st : List Value} {hp : qzH} : qzV d 39 0 [.ref x, a1, a2] (st) hp = qzV d 39 1 [.ref x, a1, a2] (.ref x :: st) hp := qv_aload (i := 0) mdc_39 dX2_count_0 rfl rfl rfl
theorem eX2_count_1 {d : Nat} {a0 a1 a2 : Value} {a : Nat} {st : List Value} {hp : qzH} (ha : qzArr 2 a hp.1 = true) : qzV d 39 1 [a0, a1, a2] (.ref a :: st) hp = qzV d 39 4 [a0, a1, a2] (va_rf (hp.2.1 a 0) :: st) hp := qv_getR mdc_39 dX2_count_1 mdo_39 qff_2_10 ⟨by decide, rfl⟩ rfl ha
theorem eX2_count_4 {d : Nat} {a0 a1 a2 : Value} {b : Nat} {st : List Value} {hp : qzH} (h8 : st.length ≤ 8) (hb : qzArr 0 b hp.1 = true) : qzV (d + 1) 39 4 [a0, a1, a2] (.ref b :: st) hp = (qzC d 4 (.ref b :: []) hp).bind (fun r => qzV (d + 1) 39 7 [a0, a1, a2] (r.1.toList ++ st) r.2) := qv_callv (n := 0) mdc_39 dX2_count_4 mdo_39 (by decide) qfc_2_149 ⟨rfl, by decide, rfl⟩ rfl ⟨rfl, rfl, by simp only [List.length_cons]; omega⟩ h8 hb
theorem eX2_count_7 {d : Nat} {a0 a1 a2 : Value} {x : Int32} {st : List Value} {hp : qzH} : qzV d 39 7 [a0, a1, a2] (.int x :: st) hp = qzV d 39 8 [a0, a1, .int x] (st) hp := qv_istore (i := 2) mdc_39 dX2_count_7 rfl (Nat.le_of_ble_eq_true rfl) rfl rfl
theorem eX2_count_8 {d : Nat} {a0 a2 : Value} {x : Int32} {st : List Value} {hp : qzH} : qzV d 39 8 [a0, .int x, a2] (st) hp = qzV d 39 9 [a0, .int x, a2] (.int x :: st) hp := qv_iload (i := 1) mdc_39 dX2_count_8 rfl rfl rfl
theorem eX2_count_9_0 {d : Nat} {a0 a1 a2 : Value} {st : List Value} {hp : qzH} : qzV d 39 9 [a0, a1, a2] (.int 0 :: st) hp = qzV d 39 80 [a0, a1, a2] (st) hp := qv_tsw mdc_39 dX2_count_9 (by decide)
theorem eX2_count_9_1 {d : Nat} {a0 a1 a2 : Value} {st : List Value} {hp : qzH} : qzV d 39 9 [a0, a1, a2] (.int 1 :: st) hp = qzV d 39 88 [a0, a1, a2] (st) hp := qv_tsw mdc_39 dX2_count_9 (by decide)
theorem eX2_count_9_2 {d : Nat} {a0 a1 a2 : Value} {st : List Value} {hp : qzH} : qzV d 39 9 [a0, a1, a2] (.int 2 :: st) hp = qzV d 39 96 [a0, a1, a2] (st) hp := qv_tsw mdc_39 dX2_count_9 (by decide)
theorem eX2_count_9_3 {d : Nat} {a0 a1 a2 : Value} {st : List Value} {hp : qzH} : qzV d 39 9 [a0, a1, a2] (.int 3 :: st) hp = qzV d 39 113 [a0, a1, a2] (st) hp := qv_tsw mdc_39 dX2_count_9 (by decide)
theorem eX2_count_9_4 {d : Nat} {a0 a1 a2 : Value} {st : List Value} {hp : qzH} : qzV d 39 9 [a0, a1, a2] (.int 4 :: st) hp = qzV d 39 132 [a0, a1, a2] (st) hp := qv_tsw mdc_39 dX2_count_9 (by decide)
theorem eX2_count_9_5 {d : Nat} {a0 a1 a2 : Value} {st : List Value} {hp : qzH} : qzV d 39 9 [a0, a1, a2] (.int 5 :: st) hp = qzV d 39 149 [a0, a1, a2] (st) hp := qv_tsw mdc_39 dX2_count_9 (by decide)
theorem eX2_count_9_6 {d : Nat} {a0 a1 a2 : Value} {st : List Value} {hp : qzH} : qzV d 39 9 [a0, a1, a2] (.int 6 :: st) hp = qzV d 39 157 [a0, a1, a2] (st) hp := qv_tsw mdc_39 dX2_count_9 (by decide)
theorem eX2_count_9_7 {d : Nat} {a0 a1 a2 : Value} {st : List Value} {hp : qzH} : qzV d 39 9 [a0, a1, a2] (.int 7 :: st) hp = qzV d 39 165 [a0, a1, a2] (st) hp := qv_tsw mdc_39 dX2_count_9 (by decide)
theorem eX2_count_9_8 {d : Nat} {a0 a1 a2 : Value} {st : List Value} {hp : qzH} : qzV d 39 9 [a0, a1, a2] (.int 8 :: st) hp = qzV d 39 173 [a0, a1, a2] (st) hp := qv_tsw mdc_39 dX2_count_9 (by decide)
theorem eX2_count_9_9 {d : Nat} {a0 a1 a2 : Value} {st : List Value} {hp : qzH} : qzV d 39 9 [a0, a1, a2] (.int 9 :: st) hp = qzV d 39 181 [a0, a1, a2] (st) hp := qv_tsw mdc_39 dX2_count_9 (by decide)
theorem eX2_count_9_10 {d : Nat} {a0 a1 a2 : Value} {st : List Value} {hp : qzH} : qzV d 39 9 [a0, a1, a2] (.int 10 :: st) hp = qzV d 39 181 [a0, a1, a2] (st) hp := qv_tsw mdc_39 dX2_count_9 (by decide)
theorem eX2_count_9_11 {d : Nat} {a0 a1 a2 : Value} {st : List Value} {hp : qzH} : qzV d 39 9 [a0, a1, a2] (.int 11 :: st) hp = qzV d 39 181 [a0, a1, a2] (st) hp := qv_tsw mdc_39 dX2_count_9 (by decide)
theorem eX2_count_9_12 {d : Nat} {a0 a1 a2 : Value} {st : List Value} {hp : qzH} : qzV d 39 9 [a0, a1, a2] (.int 12 :: st) hp = qzV d 39 196 [a0, a1, a2] (st) hp := qv_tsw mdc_39 dX2_count_9 (by decide)
theorem eX2_count_9_13 {d : Nat} {a0 a1 a2 : Value} {st : List Value} {hp : qzH} : qzV d 39 9 [a0, a1, a2] (.int 13 :: st) hp = qzV d 39 201 [a0, a1, a2] (st) hp := qv_tsw mdc_39 dX2_count_9 (by decide)
theorem eX2_count_9_d {d : Nat} {a0 a1 a2 : Value} {x : Int32} {st : List Value} {hp : qzH} (hx : x.toInt < 0 ∨ 13 < x.toInt) : qzV d 39 9 [a0, a1, a2] (.int x :: st) hp = qzV d 39 206 [a0, a1, a2] (st) hp := qv_tsw mdc_39 dX2_count_9 (by rw [if_pos hx]; rfl)
theorem eX2_count_80 {d : Nat} {a1 a2 : Value} {x : Nat} {st : List Value} {hp : qzH} : qzV d 39 80 [.ref x, a1, a2] (st) hp = qzV d 39 81 [.ref x, a1, a2] (.ref x :: st) hp := qv_aload (i := 0) mdc_39 dX2_count_80 rfl rfl rfl
theorem eX2_count_81 {d : Nat} {a0 a1 a2 : Value} {a : Nat} {st : List Value} {hp : qzH} (ha : qzArr 2 a hp.1 = true) : qzV d 39 81 [a0, a1, a2] (.ref a :: st) hp = qzV d 39 84 [a0, a1, a2] (va_rf (hp.2.1 a 0) :: st) hp := qv_getR mdc_39 dX2_count_81 mdo_39 qff_2_10 ⟨by decide, rfl⟩ rfl ha
theorem eX2_count_84 {d : Nat} {a0 a1 a2 : Value} {a : Nat} {st : List Value} {hp : qzH} (ha : qzArr 0 a hp.1 = true) : qzV d 39 84 [a0, a1, a2] (.ref a :: st) hp = qzV d 39 87 [a0, a1, a2] (.int (hp.2.2 a 6) :: st) hp := qv_getI mdc_39 dX2_count_84 mdo_39 qff_2_60 ⟨by decide, rfl⟩ rfl ha
theorem eX2_count_87 {d : Nat} {a0 a1 a2 : Value} {v : Int32} {hp : qzH} : qzV d 39 87 [a0, a1, a2] [.int v] hp = some (some (.int v), hp) := qv_iret mdc_39 dX2_count_87 mdr_39 rfl
theorem eX2_count_88 {d : Nat} {a1 a2 : Value} {x : Nat} {st : List Value} {hp : qzH} : qzV d 39 88 [.ref x, a1, a2] (st) hp = qzV d 39 89 [.ref x, a1, a2] (.ref x :: st) hp := qv_aload (i := 0) mdc_39 dX2_count_88 rfl rfl rfl
theorem eX2_count_89 {d : Nat} {a0 a1 a2 : Value} {a : Nat} {st : List Value} {hp : qzH} (ha : qzArr 2 a hp.1 = true) : qzV d 39 89 [a0, a1, a2] (.ref a :: st) hp = qzV d 39 92 [a0, a1, a2] (va_rf (hp.2.1 a 0) :: st) hp := qv_getR mdc_39 dX2_count_89 mdo_39 qff_2_10 ⟨by decide, rfl⟩ rfl ha
theorem eX2_count_92 {d : Nat} {a0 a1 a2 : Value} {b : Nat} {st : List Value} {hp : qzH} (h8 : st.length ≤ 8) (hb : qzArr 0 b hp.1 = true) : qzV (d + 1) 39 92 [a0, a1, a2] (.ref b :: st) hp = (qzC d 3 (.ref b :: []) hp).bind (fun r => qzV (d + 1) 39 95 [a0, a1, a2] (r.1.toList ++ st) r.2) := qv_callv (n := 0) mdc_39 dX2_count_92 mdo_39 (by decide) qfc_2_153 ⟨rfl, by decide, rfl⟩ rfl ⟨rfl, rfl, by simp only [List.length_cons]; omega⟩ h8 hb
theorem eX2_count_95 {d : Nat} {a0 a1 a2 : Value} {v : Int32} {hp : qzH} : qzV d 39 95 [a0, a1, a2] [.int v] hp = some (some (.int v), hp) := qv_iret mdc_39 dX2_count_95 mdr_39 rfl
theorem eX2_count_96 {d : Nat} {a0 a1 : Value} {x : Int32} {st : List Value} {hp : qzH} : qzV d 39 96 [a0, a1, .int x] (st) hp = qzV d 39 97 [a0, a1, .int x] (.int x :: st) hp := qv_iload (i := 2) mdc_39 dX2_count_96 rfl rfl rfl
theorem eX2_count_97 {d : Nat} {a0 a1 a2 : Value} {x : Int32} {st : List Value} {hp : qzH} : qzV d 39 97 [a0, a1, a2] (.int x :: st) hp = if x = 0 then qzV d 39 105 [a0, a1, a2] (st) hp else qzV d 39 100 [a0, a1, a2] (st) hp := qv_if1 mdc_39 dX2_count_97 rfl rfl rfl
theorem eX2_count_100 {d : Nat} {a0 a1 a2 : Value} {st : List Value} {hp : qzH} : qzV d 39 100 [a0, a1, a2] (st) hp = qzV d 39 102 [a0, a1, a2] (.int (-4) :: st) hp := qv_bipush mdc_39 dX2_count_100 ib_m4 rfl
theorem eX2_count_102 {d : Nat} {a0 a1 a2 : Value} {st : List Value} {hp : qzH} : qzV d 39 102 [a0, a1, a2] (st) hp = qzV d 39 112 [a0, a1, a2] (st) hp := qv_goto mdc_39 dX2_count_102 rfl
theorem eX2_count_105 {d : Nat} {a1 a2 : Value} {x : Nat} {st : List Value} {hp : qzH} : qzV d 39 105 [.ref x, a1, a2] (st) hp = qzV d 39 106 [.ref x, a1, a2] (.ref x :: st) hp := qv_aload (i := 0) mdc_39 dX2_count_105 rfl rfl rfl
theorem eX2_count_106 {d : Nat} {a0 a1 a2 : Value} {a : Nat} {st : List Value} {hp : qzH} (ha : qzArr 2 a hp.1 = true) : qzV d 39 106 [a0, a1, a2] (.ref a :: st) hp = qzV d 39 109 [a0, a1, a2] (va_rf (hp.2.1 a 0) :: st) hp := qv_getR mdc_39 dX2_count_106 mdo_39 qff_2_10 ⟨by decide, rfl⟩ rfl ha
theorem eX2_count_109 {d : Nat} {a0 a1 a2 : Value} {a : Nat} {st : List Value} {hp : qzH} (ha : qzArr 0 a hp.1 = true) : qzV d 39 109 [a0, a1, a2] (.ref a :: st) hp = qzV d 39 112 [a0, a1, a2] (.int (hp.2.2 a 7) :: st) hp := qv_getI mdc_39 dX2_count_109 mdo_39 qff_2_156 ⟨by decide, rfl⟩ rfl ha
theorem eX2_count_112 {d : Nat} {a0 a1 a2 : Value} {v : Int32} {hp : qzH} : qzV d 39 112 [a0, a1, a2] [.int v] hp = some (some (.int v), hp) := qv_iret mdc_39 dX2_count_112 mdr_39 rfl
theorem eX2_count_113 {d : Nat} {a0 a1 : Value} {x : Int32} {st : List Value} {hp : qzH} : qzV d 39 113 [a0, a1, .int x] (st) hp = qzV d 39 114 [a0, a1, .int x] (.int x :: st) hp := qv_iload (i := 2) mdc_39 dX2_count_113 rfl rfl rfl
theorem eX2_count_114 {d : Nat} {a0 a1 a2 : Value} {x : Int32} {st : List Value} {hp : qzH} : qzV d 39 114 [a0, a1, a2] (.int x :: st) hp = if x = 0 then qzV d 39 122 [a0, a1, a2] (st) hp else qzV d 39 117 [a0, a1, a2] (st) hp := qv_if1 mdc_39 dX2_count_114 rfl rfl rfl
theorem eX2_count_117 {d : Nat} {a0 a1 a2 : Value} {st : List Value} {hp : qzH} : qzV d 39 117 [a0, a1, a2] (st) hp = qzV d 39 119 [a0, a1, a2] (.int (-4) :: st) hp := qv_bipush mdc_39 dX2_count_117 ib_m4 rfl
theorem eX2_count_119 {d : Nat} {a0 a1 a2 : Value} {st : List Value} {hp : qzH} : qzV d 39 119 [a0, a1, a2] (st) hp = qzV d 39 131 [a0, a1, a2] (st) hp := qv_goto mdc_39 dX2_count_119 rfl
theorem eX2_count_122 {d : Nat} {a1 a2 : Value} {x : Nat} {st : List Value} {hp : qzH} : qzV d 39 122 [.ref x, a1, a2] (st) hp = qzV d 39 123 [.ref x, a1, a2] (.ref x :: st) hp := qv_aload (i := 0) mdc_39 dX2_count_122 rfl rfl rfl
theorem eX2_count_123 {d : Nat} {a0 a1 a2 : Value} {a : Nat} {st : List Value} {hp : qzH} (ha : qzArr 2 a hp.1 = true) : qzV d 39 123 [a0, a1, a2] (.ref a :: st) hp = qzV d 39 126 [a0, a1, a2] (va_rf (hp.2.1 a 0) :: st) hp := qv_getR mdc_39 dX2_count_123 mdo_39 qff_2_10 ⟨by decide, rfl⟩ rfl ha
theorem eX2_count_126 {d : Nat} {a0 a1 a2 : Value} {a : Nat} {st : List Value} {hp : qzH} (ha : qzArr 0 a hp.1 = true) : qzV d 39 126 [a0, a1, a2] (.ref a :: st) hp = qzV d 39 129 [a0, a1, a2] (.int (hp.2.2 a 8) :: st) hp := qv_getI mdc_39 dX2_count_126 mdo_39 qff_2_159 ⟨by decide, rfl⟩ rfl ha
theorem eX2_count_129 {d : Nat} {a0 a1 a2 : Value} {st : List Value} {hp : qzH} : qzV d 39 129 [a0, a1, a2] (st) hp = qzV d 39 130 [a0, a1, a2] (.int 1 :: st) hp := qv_iconst mdc_39 dX2_count_129 il_1 rfl
theorem eX2_count_130 {d : Nat} {a0 a1 a2 : Value} {x y : Int32} {st : List Value} {hp : qzH} : qzV d 39 130 [a0, a1, a2] (.int y :: .int x :: st) hp = qzV d 39 131 [a0, a1, a2] (.int (x - y) :: st) hp := qv_bin (f := fun x y => x - y) mdc_39 dX2_count_130 rfl rfl
theorem eX2_count_131 {d : Nat} {a0 a1 a2 : Value} {v : Int32} {hp : qzH} : qzV d 39 131 [a0, a1, a2] [.int v] hp = some (some (.int v), hp) := qv_iret mdc_39 dX2_count_131 mdr_39 rfl
theorem eX2_count_132 {d : Nat} {a0 a1 : Value} {x : Int32} {st : List Value} {hp : qzH} : qzV d 39 132 [a0, a1, .int x] (st) hp = qzV d 39 133 [a0, a1, .int x] (.int x :: st) hp := qv_iload (i := 2) mdc_39 dX2_count_132 rfl rfl rfl
theorem eX2_count_133 {d : Nat} {a0 a1 a2 : Value} {x : Int32} {st : List Value} {hp : qzH} : qzV d 39 133 [a0, a1, a2] (.int x :: st) hp = if x = 0 then qzV d 39 141 [a0, a1, a2] (st) hp else qzV d 39 136 [a0, a1, a2] (st) hp := qv_if1 mdc_39 dX2_count_133 rfl rfl rfl
theorem eX2_count_136 {d : Nat} {a0 a1 a2 : Value} {st : List Value} {hp : qzH} : qzV d 39 136 [a0, a1, a2] (st) hp = qzV d 39 138 [a0, a1, a2] (.int (-4) :: st) hp := qv_bipush mdc_39 dX2_count_136 ib_m4 rfl
theorem eX2_count_138 {d : Nat} {a0 a1 a2 : Value} {st : List Value} {hp : qzH} : qzV d 39 138 [a0, a1, a2] (st) hp = qzV d 39 148 [a0, a1, a2] (st) hp := qv_goto mdc_39 dX2_count_138 rfl
theorem eX2_count_141 {d : Nat} {a1 a2 : Value} {x : Nat} {st : List Value} {hp : qzH} : qzV d 39 141 [.ref x, a1, a2] (st) hp = qzV d 39 142 [.ref x, a1, a2] (.ref x :: st) hp := qv_aload (i := 0) mdc_39 dX2_count_141 rfl rfl rfl
theorem eX2_count_142 {d : Nat} {a0 a1 a2 : Value} {a : Nat} {st : List Value} {hp : qzH} (ha : qzArr 2 a hp.1 = true) : qzV d 39 142 [a0, a1, a2] (.ref a :: st) hp = qzV d 39 145 [a0, a1, a2] (va_rf (hp.2.1 a 0) :: st) hp := qv_getR mdc_39 dX2_count_142 mdo_39 qff_2_10 ⟨by decide, rfl⟩ rfl ha
theorem eX2_count_145 {d : Nat} {a0 a1 a2 : Value} {b : Nat} {st : List Value} {hp : qzH} (h8 : st.length ≤ 8) (hb : qzArr 0 b hp.1 = true) : qzV (d + 1) 39 145 [a0, a1, a2] (.ref b :: st) hp = (qzC d 5 (.ref b :: []) hp).bind (fun r => qzV (d + 1) 39 148 [a0, a1, a2] (r.1.toList ++ st) r.2) := qv_callv (n := 0) mdc_39 dX2_count_145 mdo_39 (by decide) qfc_2_162 ⟨rfl, by decide, rfl⟩ rfl ⟨rfl, rfl, by simp only [List.length_cons]; omega⟩ h8 hb
theorem eX2_count_148 {d : Nat} {a0 a1 a2 : Value} {v : Int32} {hp : qzH} : qzV d 39 148 [a0, a1, a2] [.int v] hp = some (some (.int v), hp) := qv_iret mdc_39 dX2_count_148 mdr_39 rfl
theorem eX2_count_149 {d : Nat} {a1 a2 : Value} {x : Nat} {st : List Value} {hp : qzH} : qzV d 39 149 [.ref x, a1, a2] (st) hp = qzV d 39 150 [.ref x, a1, a2] (.ref x :: st) hp := qv_aload (i := 0) mdc_39 dX2_count_149 rfl rfl rfl
theorem eX2_count_150 {d : Nat} {a0 a1 a2 : Value} {a : Nat} {st : List Value} {hp : qzH} (ha : qzArr 2 a hp.1 = true) : qzV d 39 150 [a0, a1, a2] (.ref a :: st) hp = qzV d 39 153 [a0, a1, a2] (va_rf (hp.2.1 a 0) :: st) hp := qv_getR mdc_39 dX2_count_150 mdo_39 qff_2_10 ⟨by decide, rfl⟩ rfl ha
theorem eX2_count_153 {d : Nat} {a0 a1 a2 : Value} {a : Nat} {st : List Value} {hp : qzH} (ha : qzArr 0 a hp.1 = true) : qzV d 39 153 [a0, a1, a2] (.ref a :: st) hp = qzV d 39 156 [a0, a1, a2] (.int (hp.2.2 a 9) :: st) hp := qv_getI mdc_39 dX2_count_153 mdo_39 qff_2_165 ⟨by decide, rfl⟩ rfl ha
theorem eX2_count_156 {d : Nat} {a0 a1 a2 : Value} {v : Int32} {hp : qzH} : qzV d 39 156 [a0, a1, a2] [.int v] hp = some (some (.int v), hp) := qv_iret mdc_39 dX2_count_156 mdr_39 rfl
theorem eX2_count_157 {d : Nat} {a1 a2 : Value} {x : Nat} {st : List Value} {hp : qzH} : qzV d 39 157 [.ref x, a1, a2] (st) hp = qzV d 39 158 [.ref x, a1, a2] (.ref x :: st) hp := qv_aload (i := 0) mdc_39 dX2_count_157 rfl rfl rfl
theorem eX2_count_158 {d : Nat} {a0 a1 a2 : Value} {a : Nat} {st : List Value} {hp : qzH} (ha : qzArr 2 a hp.1 = true) : qzV d 39 158 [a0, a1, a2] (.ref a :: st) hp = qzV d 39 161 [a0, a1, a2] (va_rf (hp.2.1 a 0) :: st) hp := qv_getR mdc_39 dX2_count_158 mdo_39 qff_2_10 ⟨by decide, rfl⟩ rfl ha
theorem eX2_count_161 {d : Nat} {a0 a1 a2 : Value} {b : Nat} {st : List Value} {hp : qzH} (h8 : st.length ≤ 8) (hb : qzArr 0 b hp.1 = true) : qzV (d + 1) 39 161 [a0, a1, a2] (.ref b :: st) hp = (qzC d 14 (.ref b :: []) hp).bind (fun r => qzV (d + 1) 39 164 [a0, a1, a2] (r.1.toList ++ st) r.2) := qv_callv (n := 0) mdc_39 dX2_count_161 mdo_39 (by decide) qfc_2_168 ⟨rfl, by decide, rfl⟩ rfl ⟨rfl, rfl, by simp only [List.length_cons]; omega⟩ h8 hb
theorem eX2_count_164 {d : Nat} {a0 a1 a2 : Value} {v : Int32} {hp : qzH} : qzV d 39 164 [a0, a1, a2] [.int v] hp = some (some (.int v), hp) := qv_iret mdc_39 dX2_count_164 mdr_39 rfl
theorem eX2_count_165 {d : Nat} {a1 a2 : Value} {x : Nat} {st : List Value} {hp : qzH} : qzV d 39 165 [.ref x, a1, a2] (st) hp = qzV d 39 166 [.ref x, a1, a2] (.ref x :: st) hp := qv_aload (i := 0) mdc_39 dX2_count_165 rfl rfl rfl
theorem eX2_count_166 {d : Nat} {a0 a1 a2 : Value} {a : Nat} {st : List Value} {hp : qzH} (ha : qzArr 2 a hp.1 = true) : qzV d 39 166 [a0, a1, a2] (.ref a :: st) hp = qzV d 39 169 [a0, a1, a2] (va_rf (hp.2.1 a 0) :: st) hp := qv_getR mdc_39 dX2_count_166 mdo_39 qff_2_10 ⟨by decide, rfl⟩ rfl ha
theorem eX2_count_169 {d : Nat} {a0 a1 a2 : Value} {b : Nat} {st : List Value} {hp : qzH} (h8 : st.length ≤ 8) (hb : qzArr 0 b hp.1 = true) : qzV (d + 1) 39 169 [a0, a1, a2] (.ref b :: st) hp = (qzC d 16 (.ref b :: []) hp).bind (fun r => qzV (d + 1) 39 172 [a0, a1, a2] (r.1.toList ++ st) r.2) := qv_callv (n := 0) mdc_39 dX2_count_169 mdo_39 (by decide) qfc_2_171 ⟨rfl, by decide, rfl⟩ rfl ⟨rfl, rfl, by simp only [List.length_cons]; omega⟩ h8 hb
theorem eX2_count_172 {d : Nat} {a0 a1 a2 : Value} {v : Int32} {hp : qzH} : qzV d 39 172 [a0, a1, a2] [.int v] hp = some (some (.int v), hp) := qv_iret mdc_39 dX2_count_172 mdr_39 rfl
theorem eX2_count_173 {d : Nat} {a1 a2 : Value} {x : Nat} {st : List Value} {hp : qzH} : qzV d 39 173 [.ref x, a1, a2] (st) hp = qzV d 39 174 [.ref x, a1, a2] (.ref x :: st) hp := qv_aload (i := 0) mdc_39 dX2_count_173 rfl rfl rfl
theorem eX2_count_174 {d : Nat} {a0 a1 a2 : Value} {a : Nat} {st : List Value} {hp : qzH} (ha : qzArr 2 a hp.1 = true) : qzV d 39 174 [a0, a1, a2] (.ref a :: st) hp = qzV d 39 177 [a0, a1, a2] (va_rf (hp.2.1 a 0) :: st) hp := qv_getR mdc_39 dX2_count_174 mdo_39 qff_2_10 ⟨by decide, rfl⟩ rfl ha
theorem eX2_count_177 {d : Nat} {a0 a1 a2 : Value} {b : Nat} {st : List Value} {hp : qzH} (h8 : st.length ≤ 8) (hb : qzArr 0 b hp.1 = true) : qzV (d + 1) 39 177 [a0, a1, a2] (.ref b :: st) hp = (qzC d 17 (.ref b :: []) hp).bind (fun r => qzV (d + 1) 39 180 [a0, a1, a2] (r.1.toList ++ st) r.2) := qv_callv (n := 0) mdc_39 dX2_count_177 mdo_39 (by decide) qfc_2_174 ⟨rfl, by decide, rfl⟩ rfl ⟨rfl, rfl, by simp only [List.length_cons]; omega⟩ h8 hb
theorem eX2_count_180 {d : Nat} {a0 a1 a2 : Value} {v : Int32} {hp : qzH} : qzV d 39 180 [a0, a1, a2] [.int v] hp = some (some (.int v), hp) := qv_iret mdc_39 dX2_count_180 mdr_39 rfl
theorem eX2_count_181 {d : Nat} {a1 a2 : Value} {x : Nat} {st : List Value} {hp : qzH} : qzV d 39 181 [.ref x, a1, a2] (st) hp = qzV d 39 182 [.ref x, a1, a2] (.ref x :: st) hp := qv_aload (i := 0) mdc_39 dX2_count_181 rfl rfl rfl
theorem eX2_count_182 {d : Nat} {a0 a1 a2 : Value} {a : Nat} {st : List Value} {hp : qzH} (ha : qzArr 2 a hp.1 = true) : qzV d 39 182 [a0, a1, a2] (.ref a :: st) hp = qzV d 39 185 [a0, a1, a2] (va_rf (hp.2.1 a 0) :: st) hp := qv_getR mdc_39 dX2_count_182 mdo_39 qff_2_10 ⟨by decide, rfl⟩ rfl ha
theorem eX2_count_185 {d : Nat} {a0 a1 a2 : Value} {a : Nat} {st : List Value} {hp : qzH} (ha : qzArr 0 a hp.1 = true) : qzV d 39 185 [a0, a1, a2] (.ref a :: st) hp = qzV d 39 188 [a0, a1, a2] (va_rf (hp.2.1 a 1) :: st) hp := qv_getR mdc_39 dX2_count_185 mdo_39 qff_2_79 ⟨by decide, rfl⟩ rfl ha
theorem eX2_count_188 {d : Nat} {a0 a2 : Value} {x : Int32} {st : List Value} {hp : qzH} : qzV d 39 188 [a0, .int x, a2] (st) hp = qzV d 39 189 [a0, .int x, a2] (.int x :: st) hp := qv_iload (i := 1) mdc_39 dX2_count_188 rfl rfl rfl
theorem eX2_count_189 {d : Nat} {a0 a1 a2 : Value} {st : List Value} {hp : qzH} : qzV d 39 189 [a0, a1, a2] (st) hp = qzV d 39 191 [a0, a1, a2] (.int 9 :: st) hp := qv_bipush mdc_39 dX2_count_189 ib_9 rfl
theorem eX2_count_191 {d : Nat} {a0 a1 a2 : Value} {x y : Int32} {st : List Value} {hp : qzH} : qzV d 39 191 [a0, a1, a2] (.int y :: .int x :: st) hp = qzV d 39 192 [a0, a1, a2] (.int (x - y) :: st) hp := qv_bin (f := fun x y => x - y) mdc_39 dX2_count_191 rfl rfl
theorem eX2_count_192 {d : Nat} {a0 a1 a2 : Value} {w0 w1 : Value} {st : List Value} {hp : qzH} (h8 : st.length ≤ 8) : qzV (d + 1) 39 192 [a0, a1, a2] (w1 :: w0 :: st) hp = (qzC d 84 [w0, w1] hp).bind (fun r => qzV (d + 1) 39 195 [a0, a1, a2] (r.1.toList ++ st) r.2) := qv_calls (n := 2) mdc_39 dX2_count_192 mdo_39 (by decide) qfc_2_72 ⟨rfl, by decide, rfl⟩ rfl ⟨rfl, rfl, by simp only [List.length_cons]; omega⟩ h8
theorem eX2_count_195 {d : Nat} {a0 a1 a2 : Value} {v : Int32} {hp : qzH} : qzV d 39 195 [a0, a1, a2] [.int v] hp = some (some (.int v), hp) := qv_iret mdc_39 dX2_count_195 mdr_39 rfl
theorem eX2_count_196 {d : Nat} {a1 a2 : Value} {x : Nat} {st : List Value} {hp : qzH} : qzV d 39 196 [.ref x, a1, a2] (st) hp = qzV d 39 197 [.ref x, a1, a2] (.ref x :: st) hp := qv_aload (i := 0) mdc_39 dX2_count_196 rfl rfl rfl
theorem eX2_count_197 {d : Nat} {a0 a1 a2 : Value} {a : Nat} {st : List Value} {hp : qzH} (ha : qzArr 2 a hp.1 = true) : qzV d 39 197 [a0, a1, a2] (.ref a :: st) hp = qzV d 39 200 [a0, a1, a2] (.int (hp.2.2 a 7) :: st) hp := qv_getI mdc_39 dX2_count_197 mdo_39 qff_2_86 ⟨by decide, rfl⟩ rfl ha
theorem eX2_count_200 {d : Nat} {a0 a1 a2 : Value} {v : Int32} {hp : qzH} : qzV d 39 200 [a0, a1, a2] [.int v] hp = some (some (.int v), hp) := qv_iret mdc_39 dX2_count_200 mdr_39 rfl
theorem eX2_count_201 {d : Nat} {a1 a2 : Value} {x : Nat} {st : List Value} {hp : qzH} : qzV d 39 201 [.ref x, a1, a2] (st) hp = qzV d 39 202 [.ref x, a1, a2] (.ref x :: st) hp := qv_aload (i := 0) mdc_39 dX2_count_201 rfl rfl rfl
theorem eX2_count_202 {d : Nat} {a0 a1 a2 : Value} {a : Nat} {st : List Value} {hp : qzH} (ha : qzArr 2 a hp.1 = true) : qzV d 39 202 [a0, a1, a2] (.ref a :: st) hp = qzV d 39 205 [a0, a1, a2] (.int (hp.2.2 a 5) :: st) hp := qv_getI mdc_39 dX2_count_202 mdo_39 qff_2_177 ⟨by decide, rfl⟩ rfl ha
theorem eX2_count_205 {d : Nat} {a0 a1 a2 : Value} {v : Int32} {hp : qzH} : qzV d 39 205 [a0, a1, a2] [.int v] hp = some (some (.int v), hp) := qv_iret mdc_39 dX2_count_205 mdr_39 rfl
theorem eX2_count_206 {d : Nat} {a0 a1 a2 : Value} {st : List Value} {hp : qzH} : qzV d 39 206 [a0, a1, a2] (st) hp = qzV d 39 207 [a0, a1, a2] (.int (-1) :: st) hp := qv_iconst mdc_39 dX2_count_206 il_m1 rfl
theorem eX2_count_207 {d : Nat} {a0 a1 a2 : Value} {v : Int32} {hp : qzH} : qzV d 39 207 [a0, a1, a2] [.int v] hp = some (some (.int v), hp) := qv_iret mdc_39 dX2_count_207 mdr_39 rfl
theorem dX2_left_0 : decode cX2_left 0 = .ok (.iload_n 1, 1) := by decide +kernel
theorem dX2_left_1 : decode cX2_left 1 = .ok (.ifCond .lt 9, 3) := by decide +kernel
theorem dX2_left_4 : decode cX2_left 4 = .ok (.iload_n 1, 1) := by decide +kernel
theorem dX2_left_5 : decode cX2_left 5 = .ok (.bipush 6, 2) := by decide +kernel
theorem dX2_left_7 : decode cX2_left 7 = .ok (.if_icmp .lt 5, 3) := by decide +kernel
theorem dX2_left_10 : decode cX2_left 10 = .ok (.iconst (-1), 1) := by decide +kernel
theorem dX2_left_11 : decode cX2_left 11 = .ok (.ireturn, 1) := by decide +kernel
theorem dX2_left_12 : decode cX2_left 12 = .ok (.aload_n 0, 1) := by decide +kernel
theorem dX2_left_13 : decode cX2_left 13 = .ok (.getfield 10, 3) := by decide +kernel
theorem dX2_left_16 : decode cX2_left 16 = .ok (.iload_n 1, 1) := by decide +kernel
theorem dX2_left_17 : decode cX2_left 17 = .ok (.invokevirtual 180, 3) := by decide +kernel
theorem dX2_left_20 : decode cX2_left 20 = .ok (.ireturn, 1) := by decide +kernel
theorem eX2_left_0 {d : Nat} {a0 : Value} {x : Int32} {st : List Value} {hp : qzH} : qzV d 40 0 [a0, .int x] (st) hp = qzV d 40 1 [a0, .int x] (.int x :: st) hp := qv_iload (i := 1) mdc_40 dX2_left_0 rfl rfl rfl
theorem eX2_left_1 {d : Nat} {a0 a1 : Value} {x : Int32} {st : List Value} {hp : qzH} : qzV d 40 1 [a0, a1] (.int x :: st) hp = if x < 0 then qzV d 40 10 [a0, a1] (st) hp else qzV d 40 4 [a0, a1] (st) hp := qv_if1 mdc_40 dX2_left_1 rfl rfl rfl
theorem eX2_left_4 {d : Nat} {a0 : Value} {x : Int32} {st : List Value} {hp : qzH} : qzV d 40 4 [a0, .int x] (st) hp = qzV d 40 5 [a0, .int x] (.int x :: st) hp := qv_iload (i := 1) mdc_40 dX2_left_4 rfl rfl rfl
theorem eX2_left_5 {d : Nat} {a0 a1 : Value} {st : List Value} {hp : qzH} : qzV d 40 5 [a0, a1] (st) hp = qzV d 40 7 [a0, a1] (.int 6 :: st) hp := qv_bipush mdc_40 dX2_left_5 ib_6 rfl
theorem eX2_left_7 {d : Nat} {a0 a1 : Value} {x y : Int32} {st : List Value} {hp : qzH} : qzV d 40 7 [a0, a1] (.int y :: .int x :: st) hp = if x < y then qzV d 40 12 [a0, a1] (st) hp else qzV d 40 10 [a0, a1] (st) hp := qv_if2 mdc_40 dX2_left_7 rfl rfl rfl
theorem eX2_left_10 {d : Nat} {a0 a1 : Value} {st : List Value} {hp : qzH} : qzV d 40 10 [a0, a1] (st) hp = qzV d 40 11 [a0, a1] (.int (-1) :: st) hp := qv_iconst mdc_40 dX2_left_10 il_m1 rfl
theorem eX2_left_11 {d : Nat} {a0 a1 : Value} {v : Int32} {hp : qzH} : qzV d 40 11 [a0, a1] [.int v] hp = some (some (.int v), hp) := qv_iret mdc_40 dX2_left_11 mdr_40 rfl
theorem eX2_left_12 {d : Nat} {a1 : Value} {x : Nat} {st : List Value} {hp : qzH} : qzV d 40 12 [.ref x, a1] (st) hp = qzV d 40 13 [.ref x, a1] (.ref x :: st) hp := qv_aload (i := 0) mdc_40 dX2_left_12 rfl rfl rfl
theorem eX2_left_13 {d : Nat} {a0 a1 : Value} {a : Nat} {st : List Value} {hp : qzH} (ha : qzArr 2 a hp.1 = true) : qzV d 40 13 [a0, a1] (.ref a :: st) hp = qzV d 40 16 [a0, a1] (va_rf (hp.2.1 a 0) :: st) hp := qv_getR mdc_40 dX2_left_13 mdo_40 qff_2_10 ⟨by decide, rfl⟩ rfl ha
theorem eX2_left_16 {d : Nat} {a0 : Value} {x : Int32} {st : List Value} {hp : qzH} : qzV d 40 16 [a0, .int x] (st) hp = qzV d 40 17 [a0, .int x] (.int x :: st) hp := qv_iload (i := 1) mdc_40 dX2_left_16 rfl rfl rfl
theorem eX2_left_17 {d : Nat} {a0 a1 : Value} {w0 : Value} {b : Nat} {st : List Value} {hp : qzH} (h8 : st.length ≤ 8) (hb : qzArr 0 b hp.1 = true) : qzV (d + 1) 40 17 [a0, a1] (w0 :: .ref b :: st) hp = (qzC d 15 (.ref b :: [w0]) hp).bind (fun r => qzV (d + 1) 40 20 [a0, a1] (r.1.toList ++ st) r.2) := qv_callv (n := 1) mdc_40 dX2_left_17 mdo_40 (by decide) qfc_2_180 ⟨rfl, by decide, rfl⟩ rfl ⟨rfl, rfl, by simp only [List.length_cons]; omega⟩ h8 hb
theorem eX2_left_20 {d : Nat} {a0 a1 : Value} {v : Int32} {hp : qzH} : qzV d 40 20 [a0, a1] [.int v] hp = some (some (.int v), hp) := qv_iret mdc_40 dX2_left_20 mdr_40 rfl
theorem dX2_worth_0 : decode cX2_worth 0 = .ok (.aload_n 0, 1) := by decide +kernel
theorem dX2_worth_1 : decode cX2_worth 1 = .ok (.iload_n 1, 1) := by decide +kernel
theorem dX2_worth_2 : decode cX2_worth 2 = .ok (.invokevirtual 40, 3) := by decide +kernel
theorem dX2_worth_5 : decode cX2_worth 5 = .ok (.istore_n 3, 1) := by decide +kernel
theorem dX2_worth_6 : decode cX2_worth 6 = .ok (.iload_n 3, 1) := by decide +kernel
theorem dX2_worth_7 : decode cX2_worth 7 = .ok (.ifCond .eq 7, 3) := by decide +kernel
theorem dX2_worth_10 : decode cX2_worth 10 = .ok (.iload_n 3, 1) := by decide +kernel
theorem dX2_worth_11 : decode cX2_worth 11 = .ok (.goto 15, 3) := by decide +kernel
theorem dX2_worth_14 : decode cX2_worth 14 = .ok (.aload_n 0, 1) := by decide +kernel
theorem dX2_worth_15 : decode cX2_worth 15 = .ok (.getfield 10, 3) := by decide +kernel
theorem dX2_worth_18 : decode cX2_worth 18 = .ok (.iload_n 1, 1) := by decide +kernel
theorem dX2_worth_19 : decode cX2_worth 19 = .ok (.iload_n 2, 1) := by decide +kernel
theorem dX2_worth_20 : decode cX2_worth 20 = .ok (.invokestatic 47, 3) := by decide +kernel
theorem dX2_worth_23 : decode cX2_worth 23 = .ok (.invokevirtual 183, 3) := by decide +kernel
theorem dX2_worth_26 : decode cX2_worth 26 = .ok (.ireturn, 1) := by decide +kernel
theorem eX2_worth_0 {d : Nat} {a1 a2 a3 : Value} {x : Nat} {st : List Value} {hp : qzH} : qzV d 41 0 [.ref x, a1, a2, a3] (st) hp = qzV d 41 1 [.ref x, a1, a2, a3] (.ref x :: st) hp := qv_aload (i := 0) mdc_41 dX2_worth_0 rfl rfl rfl
theorem eX2_worth_1 {d : Nat} {a0 a2 a3 : Value} {x : Int32} {st : List Value} {hp : qzH} : qzV d 41 1 [a0, .int x, a2, a3] (st) hp = qzV d 41 2 [a0, .int x, a2, a3] (.int x :: st) hp := qv_iload (i := 1) mdc_41 dX2_worth_1 rfl rfl rfl
theorem eX2_worth_2 {d : Nat} {a0 a1 a2 a3 : Value} {w0 : Value} {b : Nat} {st : List Value} {hp : qzH} (h8 : st.length ≤ 8) (hb : qzArr 2 b hp.1 = true) : qzV (d + 1) 41 2 [a0, a1, a2, a3] (w0 :: .ref b :: st) hp = (qzC d 59 (.ref b :: [w0]) hp).bind (fun r => qzV (d + 1) 41 5 [a0, a1, a2, a3] (r.1.toList ++ st) r.2) := qv_callv (n := 1) mdc_41 dX2_worth_2 mdo_41 (by decide) qfc_2_40 ⟨rfl, by decide, rfl⟩ rfl ⟨rfl, rfl, by simp only [List.length_cons]; omega⟩ h8 hb
theorem eX2_worth_5 {d : Nat} {a0 a1 a2 a3 : Value} {x : Int32} {st : List Value} {hp : qzH} : qzV d 41 5 [a0, a1, a2, a3] (.int x :: st) hp = qzV d 41 6 [a0, a1, a2, .int x] (st) hp := qv_istore (i := 3) mdc_41 dX2_worth_5 rfl (Nat.le_of_ble_eq_true rfl) rfl rfl
theorem eX2_worth_6 {d : Nat} {a0 a1 a2 : Value} {x : Int32} {st : List Value} {hp : qzH} : qzV d 41 6 [a0, a1, a2, .int x] (st) hp = qzV d 41 7 [a0, a1, a2, .int x] (.int x :: st) hp := qv_iload (i := 3) mdc_41 dX2_worth_6 rfl rfl rfl
theorem eX2_worth_7 {d : Nat} {a0 a1 a2 a3 : Value} {x : Int32} {st : List Value} {hp : qzH} : qzV d 41 7 [a0, a1, a2, a3] (.int x :: st) hp = if x = 0 then qzV d 41 14 [a0, a1, a2, a3] (st) hp else qzV d 41 10 [a0, a1, a2, a3] (st) hp := qv_if1 mdc_41 dX2_worth_7 rfl rfl rfl
theorem eX2_worth_10 {d : Nat} {a0 a1 a2 : Value} {x : Int32} {st : List Value} {hp : qzH} : qzV d 41 10 [a0, a1, a2, .int x] (st) hp = qzV d 41 11 [a0, a1, a2, .int x] (.int x :: st) hp := qv_iload (i := 3) mdc_41 dX2_worth_10 rfl rfl rfl
theorem eX2_worth_11 {d : Nat} {a0 a1 a2 a3 : Value} {st : List Value} {hp : qzH} : qzV d 41 11 [a0, a1, a2, a3] (st) hp = qzV d 41 26 [a0, a1, a2, a3] (st) hp := qv_goto mdc_41 dX2_worth_11 rfl
theorem eX2_worth_14 {d : Nat} {a1 a2 a3 : Value} {x : Nat} {st : List Value} {hp : qzH} : qzV d 41 14 [.ref x, a1, a2, a3] (st) hp = qzV d 41 15 [.ref x, a1, a2, a3] (.ref x :: st) hp := qv_aload (i := 0) mdc_41 dX2_worth_14 rfl rfl rfl
theorem eX2_worth_15 {d : Nat} {a0 a1 a2 a3 : Value} {a : Nat} {st : List Value} {hp : qzH} (ha : qzArr 2 a hp.1 = true) : qzV d 41 15 [a0, a1, a2, a3] (.ref a :: st) hp = qzV d 41 18 [a0, a1, a2, a3] (va_rf (hp.2.1 a 0) :: st) hp := qv_getR mdc_41 dX2_worth_15 mdo_41 qff_2_10 ⟨by decide, rfl⟩ rfl ha
theorem eX2_worth_18 {d : Nat} {a0 a2 a3 : Value} {x : Int32} {st : List Value} {hp : qzH} : qzV d 41 18 [a0, .int x, a2, a3] (st) hp = qzV d 41 19 [a0, .int x, a2, a3] (.int x :: st) hp := qv_iload (i := 1) mdc_41 dX2_worth_18 rfl rfl rfl
theorem eX2_worth_19 {d : Nat} {a0 a1 a3 : Value} {x : Int32} {st : List Value} {hp : qzH} : qzV d 41 19 [a0, a1, .int x, a3] (st) hp = qzV d 41 20 [a0, a1, .int x, a3] (.int x :: st) hp := qv_iload (i := 2) mdc_41 dX2_worth_19 rfl rfl rfl
theorem eX2_worth_20 {d : Nat} {a0 a1 a2 a3 : Value} {w0 w1 : Value} {st : List Value} {hp : qzH} (h8 : st.length ≤ 8) : qzV (d + 1) 41 20 [a0, a1, a2, a3] (w1 :: w0 :: st) hp = (qzC d 53 [w0, w1] hp).bind (fun r => qzV (d + 1) 41 23 [a0, a1, a2, a3] (r.1.toList ++ st) r.2) := qv_calls (n := 2) mdc_41 dX2_worth_20 mdo_41 (by decide) qfc_2_47 ⟨rfl, by decide, rfl⟩ rfl ⟨rfl, rfl, by simp only [List.length_cons]; omega⟩ h8
theorem eX2_worth_23 {d : Nat} {a0 a1 a2 a3 : Value} {w0 : Value} {b : Nat} {st : List Value} {hp : qzH} (h8 : st.length ≤ 8) (hb : qzArr 0 b hp.1 = true) : qzV (d + 1) 41 23 [a0, a1, a2, a3] (w0 :: .ref b :: st) hp = (qzC d 7 (.ref b :: [w0]) hp).bind (fun r => qzV (d + 1) 41 26 [a0, a1, a2, a3] (r.1.toList ++ st) r.2) := qv_callv (n := 1) mdc_41 dX2_worth_23 mdo_41 (by decide) qfc_2_183 ⟨rfl, by decide, rfl⟩ rfl ⟨rfl, rfl, by simp only [List.length_cons]; omega⟩ h8 hb
theorem eX2_worth_26 {d : Nat} {a0 a1 a2 a3 : Value} {v : Int32} {hp : qzH} : qzV d 41 26 [a0, a1, a2, a3] [.int v] hp = some (some (.int v), hp) := qv_iret mdc_41 dX2_worth_26 mdr_41 rfl
theorem dX2_lead_0 : decode cX2_lead 0 = .ok (.iload_n 1, 1) := by decide +kernel
theorem dX2_lead_1 : decode cX2_lead 1 = .ok (.ifCond .lt 8, 3) := by decide +kernel
theorem dX2_lead_4 : decode cX2_lead 4 = .ok (.iload_n 1, 1) := by decide +kernel
theorem dX2_lead_5 : decode cX2_lead 5 = .ok (.iconst 1, 1) := by decide +kernel
theorem dX2_lead_6 : decode cX2_lead 6 = .ok (.if_icmp .le 5, 3) := by decide +kernel
theorem dX2_lead_9 : decode cX2_lead 9 = .ok (.iconst (-1), 1) := by decide +kernel
theorem dX2_lead_10 : decode cX2_lead 10 = .ok (.ireturn, 1) := by decide +kernel
theorem dX2_lead_11 : decode cX2_lead 11 = .ok (.sipush 1000, 3) := by decide +kernel
theorem dX2_lead_14 : decode cX2_lead 14 = .ok (.iload_n 1, 1) := by decide +kernel
theorem dX2_lead_15 : decode cX2_lead 15 = .ok (.ifCond .ne 14, 3) := by decide +kernel
theorem dX2_lead_18 : decode cX2_lead 18 = .ok (.aload_n 0, 1) := by decide +kernel
theorem dX2_lead_19 : decode cX2_lead 19 = .ok (.aload_n 0, 1) := by decide +kernel
theorem dX2_lead_20 : decode cX2_lead 20 = .ok (.getfield 10, 3) := by decide +kernel
theorem dX2_lead_23 : decode cX2_lead 23 = .ok (.invokevirtual 186, 3) := by decide +kernel
theorem dX2_lead_26 : decode cX2_lead 26 = .ok (.goto 11, 3) := by decide +kernel
theorem dX2_lead_29 : decode cX2_lead 29 = .ok (.aload_n 0, 1) := by decide +kernel
theorem dX2_lead_30 : decode cX2_lead 30 = .ok (.aload_n 0, 1) := by decide +kernel
theorem dX2_lead_31 : decode cX2_lead 31 = .ok (.getfield 10, 3) := by decide +kernel
theorem dX2_lead_34 : decode cX2_lead 34 = .ok (.invokevirtual 190, 3) := by decide +kernel
theorem dX2_lead_37 : decode cX2_lead 37 = .ok (.iadd, 1) := by decide +kernel
theorem dX2_lead_38 : decode cX2_lead 38 = .ok (.ireturn, 1) := by decide +kernel
theorem eX2_lead_0 {d : Nat} {a0 : Value} {x : Int32} {st : List Value} {hp : qzH} : qzV d 42 0 [a0, .int x] (st) hp = qzV d 42 1 [a0, .int x] (.int x :: st) hp := qv_iload (i := 1) mdc_42 dX2_lead_0 rfl rfl rfl
theorem eX2_lead_1 {d : Nat} {a0 a1 : Value} {x : Int32} {st : List Value} {hp : qzH} : qzV d 42 1 [a0, a1] (.int x :: st) hp = if x < 0 then qzV d 42 9 [a0, a1] (st) hp else qzV d 42 4 [a0, a1] (st) hp := qv_if1 mdc_42 dX2_lead_1 rfl rfl rfl
theorem eX2_lead_4 {d : Nat} {a0 : Value} {x : Int32} {st : List Value} {hp : qzH} : qzV d 42 4 [a0, .int x] (st) hp = qzV d 42 5 [a0, .int x] (.int x :: st) hp := qv_iload (i := 1) mdc_42 dX2_lead_4 rfl rfl rfl
theorem eX2_lead_5 {d : Nat} {a0 a1 : Value} {st : List Value} {hp : qzH} : qzV d 42 5 [a0, a1] (st) hp = qzV d 42 6 [a0, a1] (.int 1 :: st) hp := qv_iconst mdc_42 dX2_lead_5 il_1 rfl
theorem eX2_lead_6 {d : Nat} {a0 a1 : Value} {x y : Int32} {st : List Value} {hp : qzH} : qzV d 42 6 [a0, a1] (.int y :: .int x :: st) hp = if x ≤ y then qzV d 42 11 [a0, a1] (st) hp else qzV d 42 9 [a0, a1] (st) hp := qv_if2 mdc_42 dX2_lead_6 rfl rfl rfl
theorem eX2_lead_9 {d : Nat} {a0 a1 : Value} {st : List Value} {hp : qzH} : qzV d 42 9 [a0, a1] (st) hp = qzV d 42 10 [a0, a1] (.int (-1) :: st) hp := qv_iconst mdc_42 dX2_lead_9 il_m1 rfl
theorem eX2_lead_10 {d : Nat} {a0 a1 : Value} {v : Int32} {hp : qzH} : qzV d 42 10 [a0, a1] [.int v] hp = some (some (.int v), hp) := qv_iret mdc_42 dX2_lead_10 mdr_42 rfl
theorem eX2_lead_11 {d : Nat} {a0 a1 : Value} {st : List Value} {hp : qzH} : qzV d 42 11 [a0, a1] (st) hp = qzV d 42 14 [a0, a1] (.int 1000 :: st) hp := qv_sipush mdc_42 dX2_lead_11 is_1000 rfl
theorem eX2_lead_14 {d : Nat} {a0 : Value} {x : Int32} {st : List Value} {hp : qzH} : qzV d 42 14 [a0, .int x] (st) hp = qzV d 42 15 [a0, .int x] (.int x :: st) hp := qv_iload (i := 1) mdc_42 dX2_lead_14 rfl rfl rfl
theorem eX2_lead_15 {d : Nat} {a0 a1 : Value} {x : Int32} {st : List Value} {hp : qzH} : qzV d 42 15 [a0, a1] (.int x :: st) hp = if ¬ x = 0 then qzV d 42 29 [a0, a1] (st) hp else qzV d 42 18 [a0, a1] (st) hp := qv_if1 mdc_42 dX2_lead_15 rfl rfl rfl
theorem eX2_lead_18 {d : Nat} {a1 : Value} {x : Nat} {st : List Value} {hp : qzH} : qzV d 42 18 [.ref x, a1] (st) hp = qzV d 42 19 [.ref x, a1] (.ref x :: st) hp := qv_aload (i := 0) mdc_42 dX2_lead_18 rfl rfl rfl
theorem eX2_lead_19 {d : Nat} {a1 : Value} {x : Nat} {st : List Value} {hp : qzH} : qzV d 42 19 [.ref x, a1] (st) hp = qzV d 42 20 [.ref x, a1] (.ref x :: st) hp := qv_aload (i := 0) mdc_42 dX2_lead_19 rfl rfl rfl
theorem eX2_lead_20 {d : Nat} {a0 a1 : Value} {a : Nat} {st : List Value} {hp : qzH} (ha : qzArr 2 a hp.1 = true) : qzV d 42 20 [a0, a1] (.ref a :: st) hp = qzV d 42 23 [a0, a1] (va_rf (hp.2.1 a 0) :: st) hp := qv_getR mdc_42 dX2_lead_20 mdo_42 qff_2_10 ⟨by decide, rfl⟩ rfl ha
theorem eX2_lead_23 {d : Nat} {a0 a1 : Value} {w0 : Value} {b : Nat} {st : List Value} {hp : qzH} (h8 : st.length ≤ 8) (hb : qzArr 2 b hp.1 = true) : qzV (d + 1) 42 23 [a0, a1] (w0 :: .ref b :: st) hp = (qzC d 62 (.ref b :: [w0]) hp).bind (fun r => qzV (d + 1) 42 26 [a0, a1] (r.1.toList ++ st) r.2) := qv_callv (n := 1) mdc_42 dX2_lead_23 mdo_42 (by decide) qfc_2_186 ⟨rfl, by decide, rfl⟩ rfl ⟨rfl, rfl, by simp only [List.length_cons]; omega⟩ h8 hb
theorem eX2_lead_26 {d : Nat} {a0 a1 : Value} {st : List Value} {hp : qzH} : qzV d 42 26 [a0, a1] (st) hp = qzV d 42 37 [a0, a1] (st) hp := qv_goto mdc_42 dX2_lead_26 rfl
theorem eX2_lead_29 {d : Nat} {a1 : Value} {x : Nat} {st : List Value} {hp : qzH} : qzV d 42 29 [.ref x, a1] (st) hp = qzV d 42 30 [.ref x, a1] (.ref x :: st) hp := qv_aload (i := 0) mdc_42 dX2_lead_29 rfl rfl rfl
theorem eX2_lead_30 {d : Nat} {a1 : Value} {x : Nat} {st : List Value} {hp : qzH} : qzV d 42 30 [.ref x, a1] (st) hp = qzV d 42 31 [.ref x, a1] (.ref x :: st) hp := qv_aload (i := 0) mdc_42 dX2_lead_30 rfl rfl rfl
theorem eX2_lead_31 {d : Nat} {a0 a1 : Value} {a : Nat} {st : List Value} {hp : qzH} (ha : qzArr 2 a hp.1 = true) : qzV d 42 31 [a0, a1] (.ref a :: st) hp = qzV d 42 34 [a0, a1] (va_rf (hp.2.1 a 0) :: st) hp := qv_getR mdc_42 dX2_lead_31 mdo_42 qff_2_10 ⟨by decide, rfl⟩ rfl ha
theorem eX2_lead_34 {d : Nat} {a0 a1 : Value} {w0 : Value} {b : Nat} {st : List Value} {hp : qzH} (h8 : st.length ≤ 8) (hb : qzArr 2 b hp.1 = true) : qzV (d + 1) 42 34 [a0, a1] (w0 :: .ref b :: st) hp = (qzC d 65 (.ref b :: [w0]) hp).bind (fun r => qzV (d + 1) 42 37 [a0, a1] (r.1.toList ++ st) r.2) := qv_callv (n := 1) mdc_42 dX2_lead_34 mdo_42 (by decide) qfc_2_190 ⟨rfl, by decide, rfl⟩ rfl ⟨rfl, rfl, by simp only [List.length_cons]; omega⟩ h8 hb
theorem eX2_lead_37 {d : Nat} {a0 a1 : Value} {x y : Int32} {st : List Value} {hp : qzH} : qzV d 42 37 [a0, a1] (.int y :: .int x :: st) hp = qzV d 42 38 [a0, a1] (.int (x + y) :: st) hp := qv_bin (f := fun x y => x + y) mdc_42 dX2_lead_37 rfl rfl
theorem eX2_lead_38 {d : Nat} {a0 a1 : Value} {v : Int32} {hp : qzH} : qzV d 42 38 [a0, a1] [.int v] hp = some (some (.int v), hp) := qv_iret mdc_42 dX2_lead_38 mdr_42 rfl
theorem dX2_leadWith_0 : decode cX2_leadWith 0 = .ok (.aload_n 0, 1) := by decide +kernel
theorem dX2_leadWith_1 : decode cX2_leadWith 1 = .ok (.iload_n 1, 1) := by decide +kernel
theorem dX2_leadWith_2 : decode cX2_leadWith 2 = .ok (.invokevirtual 40, 3) := by decide +kernel
theorem dX2_leadWith_5 : decode cX2_leadWith 5 = .ok (.istore_n 3, 1) := by decide +kernel
theorem dX2_leadWith_6 : decode cX2_leadWith 6 = .ok (.iload_n 3, 1) := by decide +kernel
theorem dX2_leadWith_7 : decode cX2_leadWith 7 = .ok (.ifCond .eq 7, 3) := by decide +kernel
theorem dX2_leadWith_10 : decode cX2_leadWith 10 = .ok (.iload_n 3, 1) := by decide +kernel
theorem dX2_leadWith_11 : decode cX2_leadWith 11 = .ok (.goto 20, 3) := by decide +kernel
theorem dX2_leadWith_14 : decode cX2_leadWith 14 = .ok (.sipush 1000, 3) := by decide +kernel
theorem dX2_leadWith_17 : decode cX2_leadWith 17 = .ok (.aload_n 0, 1) := by decide +kernel
theorem dX2_leadWith_18 : decode cX2_leadWith 18 = .ok (.aload_n 0, 1) := by decide +kernel
theorem dX2_leadWith_19 : decode cX2_leadWith 19 = .ok (.getfield 10, 3) := by decide +kernel
theorem dX2_leadWith_22 : decode cX2_leadWith 22 = .ok (.iload_n 1, 1) := by decide +kernel
theorem dX2_leadWith_23 : decode cX2_leadWith 23 = .ok (.iload_n 2, 1) := by decide +kernel
theorem dX2_leadWith_24 : decode cX2_leadWith 24 = .ok (.invokestatic 47, 3) := by decide +kernel
theorem dX2_leadWith_27 : decode cX2_leadWith 27 = .ok (.invokevirtual 193, 3) := by decide +kernel
theorem dX2_leadWith_30 : decode cX2_leadWith 30 = .ok (.iadd, 1) := by decide +kernel
theorem dX2_leadWith_31 : decode cX2_leadWith 31 = .ok (.ireturn, 1) := by decide +kernel
theorem eX2_leadWith_0 {d : Nat} {a1 a2 a3 : Value} {x : Nat} {st : List Value} {hp : qzH} : qzV d 43 0 [.ref x, a1, a2, a3] (st) hp = qzV d 43 1 [.ref x, a1, a2, a3] (.ref x :: st) hp := qv_aload (i := 0) mdc_43 dX2_leadWith_0 rfl rfl rfl
theorem eX2_leadWith_1 {d : Nat} {a0 a2 a3 : Value} {x : Int32} {st : List Value} {hp : qzH} : qzV d 43 1 [a0, .int x, a2, a3] (st) hp = qzV d 43 2 [a0, .int x, a2, a3] (.int x :: st) hp := qv_iload (i := 1) mdc_43 dX2_leadWith_1 rfl rfl rfl
theorem eX2_leadWith_2 {d : Nat} {a0 a1 a2 a3 : Value} {w0 : Value} {b : Nat} {st : List Value} {hp : qzH} (h8 : st.length ≤ 8) (hb : qzArr 2 b hp.1 = true) : qzV (d + 1) 43 2 [a0, a1, a2, a3] (w0 :: .ref b :: st) hp = (qzC d 59 (.ref b :: [w0]) hp).bind (fun r => qzV (d + 1) 43 5 [a0, a1, a2, a3] (r.1.toList ++ st) r.2) := qv_callv (n := 1) mdc_43 dX2_leadWith_2 mdo_43 (by decide) qfc_2_40 ⟨rfl, by decide, rfl⟩ rfl ⟨rfl, rfl, by simp only [List.length_cons]; omega⟩ h8 hb
theorem eX2_leadWith_5 {d : Nat} {a0 a1 a2 a3 : Value} {x : Int32} {st : List Value} {hp : qzH} : qzV d 43 5 [a0, a1, a2, a3] (.int x :: st) hp = qzV d 43 6 [a0, a1, a2, .int x] (st) hp := qv_istore (i := 3) mdc_43 dX2_leadWith_5 rfl (Nat.le_of_ble_eq_true rfl) rfl rfl
theorem eX2_leadWith_6 {d : Nat} {a0 a1 a2 : Value} {x : Int32} {st : List Value} {hp : qzH} : qzV d 43 6 [a0, a1, a2, .int x] (st) hp = qzV d 43 7 [a0, a1, a2, .int x] (.int x :: st) hp := qv_iload (i := 3) mdc_43 dX2_leadWith_6 rfl rfl rfl
theorem eX2_leadWith_7 {d : Nat} {a0 a1 a2 a3 : Value} {x : Int32} {st : List Value} {hp : qzH} : qzV d 43 7 [a0, a1, a2, a3] (.int x :: st) hp = if x = 0 then qzV d 43 14 [a0, a1, a2, a3] (st) hp else qzV d 43 10 [a0, a1, a2, a3] (st) hp := qv_if1 mdc_43 dX2_leadWith_7 rfl rfl rfl
theorem eX2_leadWith_10 {d : Nat} {a0 a1 a2 : Value} {x : Int32} {st : List Value} {hp : qzH} : qzV d 43 10 [a0, a1, a2, .int x] (st) hp = qzV d 43 11 [a0, a1, a2, .int x] (.int x :: st) hp := qv_iload (i := 3) mdc_43 dX2_leadWith_10 rfl rfl rfl
theorem eX2_leadWith_11 {d : Nat} {a0 a1 a2 a3 : Value} {st : List Value} {hp : qzH} : qzV d 43 11 [a0, a1, a2, a3] (st) hp = qzV d 43 31 [a0, a1, a2, a3] (st) hp := qv_goto mdc_43 dX2_leadWith_11 rfl
theorem eX2_leadWith_14 {d : Nat} {a0 a1 a2 a3 : Value} {st : List Value} {hp : qzH} : qzV d 43 14 [a0, a1, a2, a3] (st) hp = qzV d 43 17 [a0, a1, a2, a3] (.int 1000 :: st) hp := qv_sipush mdc_43 dX2_leadWith_14 is_1000 rfl
theorem eX2_leadWith_17 {d : Nat} {a1 a2 a3 : Value} {x : Nat} {st : List Value} {hp : qzH} : qzV d 43 17 [.ref x, a1, a2, a3] (st) hp = qzV d 43 18 [.ref x, a1, a2, a3] (.ref x :: st) hp := qv_aload (i := 0) mdc_43 dX2_leadWith_17 rfl rfl rfl
theorem eX2_leadWith_18 {d : Nat} {a1 a2 a3 : Value} {x : Nat} {st : List Value} {hp : qzH} : qzV d 43 18 [.ref x, a1, a2, a3] (st) hp = qzV d 43 19 [.ref x, a1, a2, a3] (.ref x :: st) hp := qv_aload (i := 0) mdc_43 dX2_leadWith_18 rfl rfl rfl
theorem eX2_leadWith_19 {d : Nat} {a0 a1 a2 a3 : Value} {a : Nat} {st : List Value} {hp : qzH} (ha : qzArr 2 a hp.1 = true) : qzV d 43 19 [a0, a1, a2, a3] (.ref a :: st) hp = qzV d 43 22 [a0, a1, a2, a3] (va_rf (hp.2.1 a 0) :: st) hp := qv_getR mdc_43 dX2_leadWith_19 mdo_43 qff_2_10 ⟨by decide, rfl⟩ rfl ha
theorem eX2_leadWith_22 {d : Nat} {a0 a2 a3 : Value} {x : Int32} {st : List Value} {hp : qzH} : qzV d 43 22 [a0, .int x, a2, a3] (st) hp = qzV d 43 23 [a0, .int x, a2, a3] (.int x :: st) hp := qv_iload (i := 1) mdc_43 dX2_leadWith_22 rfl rfl rfl
theorem eX2_leadWith_23 {d : Nat} {a0 a1 a3 : Value} {x : Int32} {st : List Value} {hp : qzH} : qzV d 43 23 [a0, a1, .int x, a3] (st) hp = qzV d 43 24 [a0, a1, .int x, a3] (.int x :: st) hp := qv_iload (i := 2) mdc_43 dX2_leadWith_23 rfl rfl rfl
theorem eX2_leadWith_24 {d : Nat} {a0 a1 a2 a3 : Value} {w0 w1 : Value} {st : List Value} {hp : qzH} (h8 : st.length ≤ 8) : qzV (d + 1) 43 24 [a0, a1, a2, a3] (w1 :: w0 :: st) hp = (qzC d 53 [w0, w1] hp).bind (fun r => qzV (d + 1) 43 27 [a0, a1, a2, a3] (r.1.toList ++ st) r.2) := qv_calls (n := 2) mdc_43 dX2_leadWith_24 mdo_43 (by decide) qfc_2_47 ⟨rfl, by decide, rfl⟩ rfl ⟨rfl, rfl, by simp only [List.length_cons]; omega⟩ h8
theorem eX2_leadWith_27 {d : Nat} {a0 a1 a2 a3 : Value} {w0 w1 : Value} {b : Nat} {st : List Value} {hp : qzH} (h8 : st.length ≤ 8) (hb : qzArr 2 b hp.1 = true) : qzV (d + 1) 43 27 [a0, a1, a2, a3] (w1 :: w0 :: .ref b :: st) hp = (qzC d 66 (.ref b :: [w0, w1]) hp).bind (fun r => qzV (d + 1) 43 30 [a0, a1, a2, a3] (r.1.toList ++ st) r.2) := qv_callv (n := 2) mdc_43 dX2_leadWith_27 mdo_43 (by decide) qfc_2_193 ⟨rfl, by decide, rfl⟩ rfl ⟨rfl, rfl, by simp only [List.length_cons]; omega⟩ h8 hb
theorem eX2_leadWith_30 {d : Nat} {a0 a1 a2 a3 : Value} {x y : Int32} {st : List Value} {hp : qzH} : qzV d 43 30 [a0, a1, a2, a3] (.int y :: .int x :: st) hp = qzV d 43 31 [a0, a1, a2, a3] (.int (x + y) :: st) hp := qv_bin (f := fun x y => x + y) mdc_43 dX2_leadWith_30 rfl rfl
theorem eX2_leadWith_31 {d : Nat} {a0 a1 a2 a3 : Value} {v : Int32} {hp : qzH} : qzV d 43 31 [a0, a1, a2, a3] [.int v] hp = some (some (.int v), hp) := qv_iret mdc_43 dX2_leadWith_31 mdr_43 rfl
theorem dX2_bestCut_0 : decode cX2_bestCut 0 = .ok (.aload_n 0, 1) := by decide +kernel
theorem dX2_bestCut_1 : decode cX2_bestCut 1 = .ok (.aload_n 0, 1) := by decide +kernel
theorem dX2_bestCut_2 : decode cX2_bestCut 2 = .ok (.getfield 10, 3) := by decide +kernel
theorem dX2_bestCut_5 : decode cX2_bestCut 5 = .ok (.iconst 0, 1) := by decide +kernel
theorem dX2_bestCut_6 : decode cX2_bestCut 6 = .ok (.invokevirtual 197, 3) := by decide +kernel
theorem dX2_bestCut_9 : decode cX2_bestCut 9 = .ok (.ireturn, 1) := by decide +kernel
theorem eX2_bestCut_0 {d : Nat} {x : Nat} {st : List Value} {hp : qzH} : qzV d 44 0 [.ref x] (st) hp = qzV d 44 1 [.ref x] (.ref x :: st) hp := qv_aload (i := 0) mdc_44 dX2_bestCut_0 rfl rfl rfl
theorem eX2_bestCut_1 {d : Nat} {x : Nat} {st : List Value} {hp : qzH} : qzV d 44 1 [.ref x] (st) hp = qzV d 44 2 [.ref x] (.ref x :: st) hp := qv_aload (i := 0) mdc_44 dX2_bestCut_1 rfl rfl rfl
theorem eX2_bestCut_2 {d : Nat} {a0 : Value} {a : Nat} {st : List Value} {hp : qzH} (ha : qzArr 2 a hp.1 = true) : qzV d 44 2 [a0] (.ref a :: st) hp = qzV d 44 5 [a0] (va_rf (hp.2.1 a 0) :: st) hp := qv_getR mdc_44 dX2_bestCut_2 mdo_44 qff_2_10 ⟨by decide, rfl⟩ rfl ha
theorem eX2_bestCut_5 {d : Nat} {a0 : Value} {st : List Value} {hp : qzH} : qzV d 44 5 [a0] (st) hp = qzV d 44 6 [a0] (.int 0 :: st) hp := qv_iconst mdc_44 dX2_bestCut_5 il_0 rfl
theorem eX2_bestCut_6 {d : Nat} {a0 : Value} {w0 w1 : Value} {b : Nat} {st : List Value} {hp : qzH} (h8 : st.length ≤ 8) (hb : qzArr 2 b hp.1 = true) : qzV (d + 1) 44 6 [a0] (w1 :: w0 :: .ref b :: st) hp = (qzC d 61 (.ref b :: [w0, w1]) hp).bind (fun r => qzV (d + 1) 44 9 [a0] (r.1.toList ++ st) r.2) := qv_callv (n := 2) mdc_44 dX2_bestCut_6 mdo_44 (by decide) qfc_2_197 ⟨rfl, by decide, rfl⟩ rfl ⟨rfl, rfl, by simp only [List.length_cons]; omega⟩ h8 hb
theorem eX2_bestCut_9 {d : Nat} {a0 : Value} {v : Int32} {hp : qzH} : qzV d 44 9 [a0] [.int v] hp = some (some (.int v), hp) := qv_iret mdc_44 dX2_bestCut_9 mdr_44 rfl
theorem dX2_ended_0 : decode cX2_ended 0 = .ok (.iload_n 1, 1) := by decide +kernel
theorem dX2_ended_1 : decode cX2_ended 1 = .ok (.ifCond .lt 26, 3) := by decide +kernel
theorem dX2_ended_4 : decode cX2_ended 4 = .ok (.iload_n 1, 1) := by decide +kernel
theorem dX2_ended_5 : decode cX2_ended 5 = .ok (.iconst 1, 1) := by decide +kernel
theorem dX2_ended_6 : decode cX2_ended 6 = .ok (.if_icmp .gt 21, 3) := by decide +kernel
theorem dX2_ended_9 : decode cX2_ended 9 = .ok (.iload_n 2, 1) := by decide +kernel
theorem dX2_ended_10 : decode cX2_ended 10 = .ok (.ifCond .lt 17, 3) := by decide +kernel
theorem dX2_ended_13 : decode cX2_ended 13 = .ok (.iload_n 2, 1) := by decide +kernel
theorem dX2_ended_14 : decode cX2_ended 14 = .ok (.iconst 1, 1) := by decide +kernel
theorem dX2_ended_15 : decode cX2_ended 15 = .ok (.if_icmp .gt 12, 3) := by decide +kernel
theorem dX2_ended_18 : decode cX2_ended 18 = .ok (.iload_n 3, 1) := by decide +kernel
theorem dX2_ended_19 : decode cX2_ended 19 = .ok (.ifCond .lt 8, 3) := by decide +kernel
theorem dX2_ended_22 : decode cX2_ended 22 = .ok (.iload_n 3, 1) := by decide +kernel
theorem dX2_ended_23 : decode cX2_ended 23 = .ok (.iconst 2, 1) := by decide +kernel
theorem dX2_ended_24 : decode cX2_ended 24 = .ok (.if_icmp .le 5, 3) := by decide +kernel
theorem dX2_ended_27 : decode cX2_ended 27 = .ok (.iconst (-1), 1) := by decide +kernel
theorem dX2_ended_28 : decode cX2_ended 28 = .ok (.ireturn, 1) := by decide +kernel
theorem dX2_ended_29 : decode cX2_ended 29 = .ok (.aload_n 0, 1) := by decide +kernel
theorem dX2_ended_30 : decode cX2_ended 30 = .ok (.getfield 16, 3) := by decide +kernel
theorem dX2_ended_33 : decode cX2_ended 33 = .ok (.aload_n 0, 1) := by decide +kernel
theorem dX2_ended_34 : decode cX2_ended 34 = .ok (.getfield 10, 3) := by decide +kernel
theorem dX2_ended_37 : decode cX2_ended 37 = .ok (.invokevirtual 200, 3) := by decide +kernel
theorem dX2_ended_40 : decode cX2_ended 40 = .ok (.iconst 0, 1) := by decide +kernel
theorem dX2_ended_41 : decode cX2_ended 41 = .ok (.istore 4, 2) := by decide +kernel
theorem dX2_ended_43 : decode cX2_ended 43 = .ok (.iload 4, 2) := by decide +kernel
theorem dX2_ended_45 : decode cX2_ended 45 = .ok (.bipush 20, 2) := by decide +kernel
theorem dX2_ended_47 : decode cX2_ended 47 = .ok (.if_icmp .ge 50, 3) := by decide +kernel
theorem dX2_ended_50 : decode cX2_ended 50 = .ok (.aload_n 0, 1) := by decide +kernel
theorem dX2_ended_51 : decode cX2_ended 51 = .ok (.getfield 16, 3) := by decide +kernel
theorem dX2_ended_54 : decode cX2_ended 54 = .ok (.invokevirtual 149, 3) := by decide +kernel
theorem dX2_ended_57 : decode cX2_ended 57 = .ok (.ifCond .ne 40, 3) := by decide +kernel
theorem dX2_ended_60 : decode cX2_ended 60 = .ok (.aload_n 0, 1) := by decide +kernel
theorem dX2_ended_61 : decode cX2_ended 61 = .ok (.getfield 16, 3) := by decide +kernel
theorem dX2_ended_64 : decode cX2_ended 64 = .ok (.aload_n 0, 1) := by decide +kernel
theorem dX2_ended_65 : decode cX2_ended 65 = .ok (.aload_n 0, 1) := by decide +kernel
theorem dX2_ended_66 : decode cX2_ended 66 = .ok (.getfield 16, 3) := by decide +kernel
theorem dX2_ended_69 : decode cX2_ended 69 = .ok (.aload_n 0, 1) := by decide +kernel
theorem dX2_ended_70 : decode cX2_ended 70 = .ok (.getfield 16, 3) := by decide +kernel
theorem dX2_ended_73 : decode cX2_ended 73 = .ok (.invokevirtual 162, 3) := by decide +kernel
theorem dX2_ended_76 : decode cX2_ended 76 = .ok (.ifCond .ne 7, 3) := by decide +kernel
theorem dX2_ended_79 : decode cX2_ended 79 = .ok (.iload_n 1, 1) := by decide +kernel
theorem dX2_ended_80 : decode cX2_ended 80 = .ok (.goto 4, 3) := by decide +kernel
theorem dX2_ended_83 : decode cX2_ended 83 = .ok (.iload_n 2, 1) := by decide +kernel
theorem dX2_ended_84 : decode cX2_ended 84 = .ok (.invokevirtual 197, 3) := by decide +kernel
theorem dX2_ended_87 : decode cX2_ended 87 = .ok (.invokevirtual 51, 3) := by decide +kernel
theorem dX2_ended_90 : decode cX2_ended 90 = .ok (.pop, 1) := by decide +kernel
theorem dX2_ended_91 : decode cX2_ended 91 = .ok (.iinc 4 1, 3) := by decide +kernel
theorem dX2_ended_94 : decode cX2_ended 94 = .ok (.goto (-51), 3) := by decide +kernel
theorem dX2_ended_97 : decode cX2_ended 97 = .ok (.iload_n 3, 1) := by decide +kernel
theorem dX2_ended_98 : decode cX2_ended 98 = .ok (.iconst 2, 1) := by decide +kernel
theorem dX2_ended_99 : decode cX2_ended 99 = .ok (.if_icmp .ne 21, 3) := by decide +kernel
theorem dX2_ended_102 : decode cX2_ended 102 = .ok (.aload_n 0, 1) := by decide +kernel
theorem dX2_ended_103 : decode cX2_ended 103 = .ok (.getfield 16, 3) := by decide +kernel
theorem dX2_ended_106 : decode cX2_ended 106 = .ok (.getfield 165, 3) := by decide +kernel
theorem dX2_ended_109 : decode cX2_ended 109 = .ok (.aload_n 0, 1) := by decide +kernel
theorem dX2_ended_110 : decode cX2_ended 110 = .ok (.getfield 10, 3) := by decide +kernel
theorem dX2_ended_113 : decode cX2_ended 113 = .ok (.getfield 165, 3) := by decide +kernel
theorem dX2_ended_116 : decode cX2_ended 116 = .ok (.isub, 1) := by decide +kernel
theorem dX2_ended_117 : decode cX2_ended 117 = .ok (.goto 18, 3) := by decide +kernel
theorem dX2_ended_120 : decode cX2_ended 120 = .ok (.aload_n 0, 1) := by decide +kernel
theorem dX2_ended_121 : decode cX2_ended 121 = .ok (.getfield 16, 3) := by decide +kernel
theorem dX2_ended_124 : decode cX2_ended 124 = .ok (.aload_n 0, 1) := by decide +kernel
theorem dX2_ended_125 : decode cX2_ended 125 = .ok (.getfield 16, 3) := by decide +kernel
theorem dX2_ended_128 : decode cX2_ended 128 = .ok (.getfield 124, 3) := by decide +kernel
theorem dX2_ended_131 : decode cX2_ended 131 = .ok (.iload_n 3, 1) := by decide +kernel
theorem dX2_ended_132 : decode cX2_ended 132 = .ok (.invokevirtual 127, 3) := by decide +kernel
theorem dX2_ended_135 : decode cX2_ended 135 = .ok (.ireturn, 1) := by decide +kernel
theorem eX2_ended_0 {d : Nat} {a0 a2 a3 a4 : Value} {x : Int32} {st : List Value} {hp : qzH} : qzV d 45 0 [a0, .int x, a2, a3, a4] (st) hp = qzV d 45 1 [a0, .int x, a2, a3, a4] (.int x :: st) hp := qv_iload (i := 1) mdc_45 dX2_ended_0 rfl rfl rfl
theorem eX2_ended_1 {d : Nat} {a0 a1 a2 a3 a4 : Value} {x : Int32} {st : List Value} {hp : qzH} : qzV d 45 1 [a0, a1, a2, a3, a4] (.int x :: st) hp = if x < 0 then qzV d 45 27 [a0, a1, a2, a3, a4] (st) hp else qzV d 45 4 [a0, a1, a2, a3, a4] (st) hp := qv_if1 mdc_45 dX2_ended_1 rfl rfl rfl
theorem eX2_ended_4 {d : Nat} {a0 a2 a3 a4 : Value} {x : Int32} {st : List Value} {hp : qzH} : qzV d 45 4 [a0, .int x, a2, a3, a4] (st) hp = qzV d 45 5 [a0, .int x, a2, a3, a4] (.int x :: st) hp := qv_iload (i := 1) mdc_45 dX2_ended_4 rfl rfl rfl
theorem eX2_ended_5 {d : Nat} {a0 a1 a2 a3 a4 : Value} {st : List Value} {hp : qzH} : qzV d 45 5 [a0, a1, a2, a3, a4] (st) hp = qzV d 45 6 [a0, a1, a2, a3, a4] (.int 1 :: st) hp := qv_iconst mdc_45 dX2_ended_5 il_1 rfl
theorem eX2_ended_6 {d : Nat} {a0 a1 a2 a3 a4 : Value} {x y : Int32} {st : List Value} {hp : qzH} : qzV d 45 6 [a0, a1, a2, a3, a4] (.int y :: .int x :: st) hp = if y < x then qzV d 45 27 [a0, a1, a2, a3, a4] (st) hp else qzV d 45 9 [a0, a1, a2, a3, a4] (st) hp := qv_if2 mdc_45 dX2_ended_6 rfl rfl rfl
theorem eX2_ended_9 {d : Nat} {a0 a1 a3 a4 : Value} {x : Int32} {st : List Value} {hp : qzH} : qzV d 45 9 [a0, a1, .int x, a3, a4] (st) hp = qzV d 45 10 [a0, a1, .int x, a3, a4] (.int x :: st) hp := qv_iload (i := 2) mdc_45 dX2_ended_9 rfl rfl rfl
theorem eX2_ended_10 {d : Nat} {a0 a1 a2 a3 a4 : Value} {x : Int32} {st : List Value} {hp : qzH} : qzV d 45 10 [a0, a1, a2, a3, a4] (.int x :: st) hp = if x < 0 then qzV d 45 27 [a0, a1, a2, a3, a4] (st) hp else qzV d 45 13 [a0, a1, a2, a3, a4] (st) hp := qv_if1 mdc_45 dX2_ended_10 rfl rfl rfl
theorem eX2_ended_13 {d : Nat} {a0 a1 a3 a4 : Value} {x : Int32} {st : List Value} {hp : qzH} : qzV d 45 13 [a0, a1, .int x, a3, a4] (st) hp = qzV d 45 14 [a0, a1, .int x, a3, a4] (.int x :: st) hp := qv_iload (i := 2) mdc_45 dX2_ended_13 rfl rfl rfl
theorem eX2_ended_14 {d : Nat} {a0 a1 a2 a3 a4 : Value} {st : List Value} {hp : qzH} : qzV d 45 14 [a0, a1, a2, a3, a4] (st) hp = qzV d 45 15 [a0, a1, a2, a3, a4] (.int 1 :: st) hp := qv_iconst mdc_45 dX2_ended_14 il_1 rfl
theorem eX2_ended_15 {d : Nat} {a0 a1 a2 a3 a4 : Value} {x y : Int32} {st : List Value} {hp : qzH} : qzV d 45 15 [a0, a1, a2, a3, a4] (.int y :: .int x :: st) hp = if y < x then qzV d 45 27 [a0, a1, a2, a3, a4] (st) hp else qzV d 45 18 [a0, a1, a2, a3, a4] (st) hp := qv_if2 mdc_45 dX2_ended_15 rfl rfl rfl
theorem eX2_ended_18 {d : Nat} {a0 a1 a2 a4 : Value} {x : Int32} {st : List Value} {hp : qzH} : qzV d 45 18 [a0, a1, a2, .int x, a4] (st) hp = qzV d 45 19 [a0, a1, a2, .int x, a4] (.int x :: st) hp := qv_iload (i := 3) mdc_45 dX2_ended_18 rfl rfl rfl
theorem eX2_ended_19 {d : Nat} {a0 a1 a2 a3 a4 : Value} {x : Int32} {st : List Value} {hp : qzH} : qzV d 45 19 [a0, a1, a2, a3, a4] (.int x :: st) hp = if x < 0 then qzV d 45 27 [a0, a1, a2, a3, a4] (st) hp else qzV d 45 22 [a0, a1, a2, a3, a4] (st) hp := qv_if1 mdc_45 dX2_ended_19 rfl rfl rfl
theorem eX2_ended_22 {d : Nat} {a0 a1 a2 a4 : Value} {x : Int32} {st : List Value} {hp : qzH} : qzV d 45 22 [a0, a1, a2, .int x, a4] (st) hp = qzV d 45 23 [a0, a1, a2, .int x, a4] (.int x :: st) hp := qv_iload (i := 3) mdc_45 dX2_ended_22 rfl rfl rfl
theorem eX2_ended_23 {d : Nat} {a0 a1 a2 a3 a4 : Value} {st : List Value} {hp : qzH} : qzV d 45 23 [a0, a1, a2, a3, a4] (st) hp = qzV d 45 24 [a0, a1, a2, a3, a4] (.int 2 :: st) hp := qv_iconst mdc_45 dX2_ended_23 il_2 rfl
theorem eX2_ended_24 {d : Nat} {a0 a1 a2 a3 a4 : Value} {x y : Int32} {st : List Value} {hp : qzH} : qzV d 45 24 [a0, a1, a2, a3, a4] (.int y :: .int x :: st) hp = if x ≤ y then qzV d 45 29 [a0, a1, a2, a3, a4] (st) hp else qzV d 45 27 [a0, a1, a2, a3, a4] (st) hp := qv_if2 mdc_45 dX2_ended_24 rfl rfl rfl
theorem eX2_ended_27 {d : Nat} {a0 a1 a2 a3 a4 : Value} {st : List Value} {hp : qzH} : qzV d 45 27 [a0, a1, a2, a3, a4] (st) hp = qzV d 45 28 [a0, a1, a2, a3, a4] (.int (-1) :: st) hp := qv_iconst mdc_45 dX2_ended_27 il_m1 rfl
theorem eX2_ended_28 {d : Nat} {a0 a1 a2 a3 a4 : Value} {v : Int32} {hp : qzH} : qzV d 45 28 [a0, a1, a2, a3, a4] [.int v] hp = some (some (.int v), hp) := qv_iret mdc_45 dX2_ended_28 mdr_45 rfl
theorem eX2_ended_29 {d : Nat} {a1 a2 a3 a4 : Value} {x : Nat} {st : List Value} {hp : qzH} : qzV d 45 29 [.ref x, a1, a2, a3, a4] (st) hp = qzV d 45 30 [.ref x, a1, a2, a3, a4] (.ref x :: st) hp := qv_aload (i := 0) mdc_45 dX2_ended_29 rfl rfl rfl
theorem eX2_ended_30 {d : Nat} {a0 a1 a2 a3 a4 : Value} {a : Nat} {st : List Value} {hp : qzH} (ha : qzArr 2 a hp.1 = true) : qzV d 45 30 [a0, a1, a2, a3, a4] (.ref a :: st) hp = qzV d 45 33 [a0, a1, a2, a3, a4] (va_rf (hp.2.1 a 1) :: st) hp := qv_getR mdc_45 dX2_ended_30 mdo_45 qff_2_16 ⟨by decide, rfl⟩ rfl ha
theorem eX2_ended_33 {d : Nat} {a1 a2 a3 a4 : Value} {x : Nat} {st : List Value} {hp : qzH} : qzV d 45 33 [.ref x, a1, a2, a3, a4] (st) hp = qzV d 45 34 [.ref x, a1, a2, a3, a4] (.ref x :: st) hp := qv_aload (i := 0) mdc_45 dX2_ended_33 rfl rfl rfl
theorem eX2_ended_34 {d : Nat} {a0 a1 a2 a3 a4 : Value} {a : Nat} {st : List Value} {hp : qzH} (ha : qzArr 2 a hp.1 = true) : qzV d 45 34 [a0, a1, a2, a3, a4] (.ref a :: st) hp = qzV d 45 37 [a0, a1, a2, a3, a4] (va_rf (hp.2.1 a 0) :: st) hp := qv_getR mdc_45 dX2_ended_34 mdo_45 qff_2_10 ⟨by decide, rfl⟩ rfl ha
theorem eX2_ended_37 {d : Nat} {a0 a1 a2 a3 a4 : Value} {w0 : Value} {b : Nat} {st : List Value} {hp : qzH} (h8 : st.length ≤ 8) (hb : qzArr 0 b hp.1 = true) : qzV (d + 1) 45 37 [a0, a1, a2, a3, a4] (w0 :: .ref b :: st) hp = (qzC d 1 (.ref b :: [w0]) hp).bind (fun r => qzV (d + 1) 45 40 [a0, a1, a2, a3, a4] (r.1.toList ++ st) r.2) := qv_callv (n := 1) mdc_45 dX2_ended_37 mdo_45 (by decide) qfc_2_200 ⟨rfl, by decide, rfl⟩ rfl ⟨rfl, rfl, by simp only [List.length_cons]; omega⟩ h8 hb
theorem eX2_ended_40 {d : Nat} {a0 a1 a2 a3 a4 : Value} {st : List Value} {hp : qzH} : qzV d 45 40 [a0, a1, a2, a3, a4] (st) hp = qzV d 45 41 [a0, a1, a2, a3, a4] (.int 0 :: st) hp := qv_iconst mdc_45 dX2_ended_40 il_0 rfl
theorem eX2_ended_41 {d : Nat} {a0 a1 a2 a3 a4 : Value} {x : Int32} {st : List Value} {hp : qzH} : qzV d 45 41 [a0, a1, a2, a3, a4] (.int x :: st) hp = qzV d 45 43 [a0, a1, a2, a3, .int x] (st) hp := qv_istore (i := 4) mdc_45 dX2_ended_41 rfl (Nat.le_of_ble_eq_true rfl) rfl rfl
theorem eX2_ended_43 {d : Nat} {a0 a1 a2 a3 : Value} {x : Int32} {st : List Value} {hp : qzH} : qzV d 45 43 [a0, a1, a2, a3, .int x] (st) hp = qzV d 45 45 [a0, a1, a2, a3, .int x] (.int x :: st) hp := qv_iload (i := 4) mdc_45 dX2_ended_43 rfl rfl rfl
theorem eX2_ended_45 {d : Nat} {a0 a1 a2 a3 a4 : Value} {st : List Value} {hp : qzH} : qzV d 45 45 [a0, a1, a2, a3, a4] (st) hp = qzV d 45 47 [a0, a1, a2, a3, a4] (.int 20 :: st) hp := qv_bipush mdc_45 dX2_ended_45 ib_20 rfl
theorem eX2_ended_47 {d : Nat} {a0 a1 a2 a3 a4 : Value} {x y : Int32} {st : List Value} {hp : qzH} : qzV d 45 47 [a0, a1, a2, a3, a4] (.int y :: .int x :: st) hp = if y ≤ x then qzV d 45 97 [a0, a1, a2, a3, a4] (st) hp else qzV d 45 50 [a0, a1, a2, a3, a4] (st) hp := qv_if2 mdc_45 dX2_ended_47 rfl rfl rfl
theorem eX2_ended_50 {d : Nat} {a1 a2 a3 a4 : Value} {x : Nat} {st : List Value} {hp : qzH} : qzV d 45 50 [.ref x, a1, a2, a3, a4] (st) hp = qzV d 45 51 [.ref x, a1, a2, a3, a4] (.ref x :: st) hp := qv_aload (i := 0) mdc_45 dX2_ended_50 rfl rfl rfl
theorem eX2_ended_51 {d : Nat} {a0 a1 a2 a3 a4 : Value} {a : Nat} {st : List Value} {hp : qzH} (ha : qzArr 2 a hp.1 = true) : qzV d 45 51 [a0, a1, a2, a3, a4] (.ref a :: st) hp = qzV d 45 54 [a0, a1, a2, a3, a4] (va_rf (hp.2.1 a 1) :: st) hp := qv_getR mdc_45 dX2_ended_51 mdo_45 qff_2_16 ⟨by decide, rfl⟩ rfl ha
theorem eX2_ended_54 {d : Nat} {a0 a1 a2 a3 a4 : Value} {b : Nat} {st : List Value} {hp : qzH} (h8 : st.length ≤ 8) (hb : qzArr 0 b hp.1 = true) : qzV (d + 1) 45 54 [a0, a1, a2, a3, a4] (.ref b :: st) hp = (qzC d 4 (.ref b :: []) hp).bind (fun r => qzV (d + 1) 45 57 [a0, a1, a2, a3, a4] (r.1.toList ++ st) r.2) := qv_callv (n := 0) mdc_45 dX2_ended_54 mdo_45 (by decide) qfc_2_149 ⟨rfl, by decide, rfl⟩ rfl ⟨rfl, rfl, by simp only [List.length_cons]; omega⟩ h8 hb
theorem eX2_ended_57 {d : Nat} {a0 a1 a2 a3 a4 : Value} {x : Int32} {st : List Value} {hp : qzH} : qzV d 45 57 [a0, a1, a2, a3, a4] (.int x :: st) hp = if ¬ x = 0 then qzV d 45 97 [a0, a1, a2, a3, a4] (st) hp else qzV d 45 60 [a0, a1, a2, a3, a4] (st) hp := qv_if1 mdc_45 dX2_ended_57 rfl rfl rfl
theorem eX2_ended_60 {d : Nat} {a1 a2 a3 a4 : Value} {x : Nat} {st : List Value} {hp : qzH} : qzV d 45 60 [.ref x, a1, a2, a3, a4] (st) hp = qzV d 45 61 [.ref x, a1, a2, a3, a4] (.ref x :: st) hp := qv_aload (i := 0) mdc_45 dX2_ended_60 rfl rfl rfl
theorem eX2_ended_61 {d : Nat} {a0 a1 a2 a3 a4 : Value} {a : Nat} {st : List Value} {hp : qzH} (ha : qzArr 2 a hp.1 = true) : qzV d 45 61 [a0, a1, a2, a3, a4] (.ref a :: st) hp = qzV d 45 64 [a0, a1, a2, a3, a4] (va_rf (hp.2.1 a 1) :: st) hp := qv_getR mdc_45 dX2_ended_61 mdo_45 qff_2_16 ⟨by decide, rfl⟩ rfl ha
theorem eX2_ended_64 {d : Nat} {a1 a2 a3 a4 : Value} {x : Nat} {st : List Value} {hp : qzH} : qzV d 45 64 [.ref x, a1, a2, a3, a4] (st) hp = qzV d 45 65 [.ref x, a1, a2, a3, a4] (.ref x :: st) hp := qv_aload (i := 0) mdc_45 dX2_ended_64 rfl rfl rfl
theorem eX2_ended_65 {d : Nat} {a1 a2 a3 a4 : Value} {x : Nat} {st : List Value} {hp : qzH} : qzV d 45 65 [.ref x, a1, a2, a3, a4] (st) hp = qzV d 45 66 [.ref x, a1, a2, a3, a4] (.ref x :: st) hp := qv_aload (i := 0) mdc_45 dX2_ended_65 rfl rfl rfl
theorem eX2_ended_66 {d : Nat} {a0 a1 a2 a3 a4 : Value} {a : Nat} {st : List Value} {hp : qzH} (ha : qzArr 2 a hp.1 = true) : qzV d 45 66 [a0, a1, a2, a3, a4] (.ref a :: st) hp = qzV d 45 69 [a0, a1, a2, a3, a4] (va_rf (hp.2.1 a 1) :: st) hp := qv_getR mdc_45 dX2_ended_66 mdo_45 qff_2_16 ⟨by decide, rfl⟩ rfl ha
theorem eX2_ended_69 {d : Nat} {a1 a2 a3 a4 : Value} {x : Nat} {st : List Value} {hp : qzH} : qzV d 45 69 [.ref x, a1, a2, a3, a4] (st) hp = qzV d 45 70 [.ref x, a1, a2, a3, a4] (.ref x :: st) hp := qv_aload (i := 0) mdc_45 dX2_ended_69 rfl rfl rfl
theorem eX2_ended_70 {d : Nat} {a0 a1 a2 a3 a4 : Value} {a : Nat} {st : List Value} {hp : qzH} (ha : qzArr 2 a hp.1 = true) : qzV d 45 70 [a0, a1, a2, a3, a4] (.ref a :: st) hp = qzV d 45 73 [a0, a1, a2, a3, a4] (va_rf (hp.2.1 a 1) :: st) hp := qv_getR mdc_45 dX2_ended_70 mdo_45 qff_2_16 ⟨by decide, rfl⟩ rfl ha
theorem eX2_ended_73 {d : Nat} {a0 a1 a2 a3 a4 : Value} {b : Nat} {st : List Value} {hp : qzH} (h8 : st.length ≤ 8) (hb : qzArr 0 b hp.1 = true) : qzV (d + 1) 45 73 [a0, a1, a2, a3, a4] (.ref b :: st) hp = (qzC d 5 (.ref b :: []) hp).bind (fun r => qzV (d + 1) 45 76 [a0, a1, a2, a3, a4] (r.1.toList ++ st) r.2) := qv_callv (n := 0) mdc_45 dX2_ended_73 mdo_45 (by decide) qfc_2_162 ⟨rfl, by decide, rfl⟩ rfl ⟨rfl, rfl, by simp only [List.length_cons]; omega⟩ h8 hb
theorem eX2_ended_76 {d : Nat} {a0 a1 a2 a3 a4 : Value} {x : Int32} {st : List Value} {hp : qzH} : qzV d 45 76 [a0, a1, a2, a3, a4] (.int x :: st) hp = if ¬ x = 0 then qzV d 45 83 [a0, a1, a2, a3, a4] (st) hp else qzV d 45 79 [a0, a1, a2, a3, a4] (st) hp := qv_if1 mdc_45 dX2_ended_76 rfl rfl rfl
theorem eX2_ended_79 {d : Nat} {a0 a2 a3 a4 : Value} {x : Int32} {st : List Value} {hp : qzH} : qzV d 45 79 [a0, .int x, a2, a3, a4] (st) hp = qzV d 45 80 [a0, .int x, a2, a3, a4] (.int x :: st) hp := qv_iload (i := 1) mdc_45 dX2_ended_79 rfl rfl rfl
theorem eX2_ended_80 {d : Nat} {a0 a1 a2 a3 a4 : Value} {st : List Value} {hp : qzH} : qzV d 45 80 [a0, a1, a2, a3, a4] (st) hp = qzV d 45 84 [a0, a1, a2, a3, a4] (st) hp := qv_goto mdc_45 dX2_ended_80 rfl
theorem eX2_ended_83 {d : Nat} {a0 a1 a3 a4 : Value} {x : Int32} {st : List Value} {hp : qzH} : qzV d 45 83 [a0, a1, .int x, a3, a4] (st) hp = qzV d 45 84 [a0, a1, .int x, a3, a4] (.int x :: st) hp := qv_iload (i := 2) mdc_45 dX2_ended_83 rfl rfl rfl
theorem eX2_ended_84 {d : Nat} {a0 a1 a2 a3 a4 : Value} {w0 w1 : Value} {b : Nat} {st : List Value} {hp : qzH} (h8 : st.length ≤ 8) (hb : qzArr 2 b hp.1 = true) : qzV (d + 1) 45 84 [a0, a1, a2, a3, a4] (w1 :: w0 :: .ref b :: st) hp = (qzC d 61 (.ref b :: [w0, w1]) hp).bind (fun r => qzV (d + 1) 45 87 [a0, a1, a2, a3, a4] (r.1.toList ++ st) r.2) := qv_callv (n := 2) mdc_45 dX2_ended_84 mdo_45 (by decide) qfc_2_197 ⟨rfl, by decide, rfl⟩ rfl ⟨rfl, rfl, by simp only [List.length_cons]; omega⟩ h8 hb
theorem eX2_ended_87 {d : Nat} {a0 a1 a2 a3 a4 : Value} {w0 : Value} {b : Nat} {st : List Value} {hp : qzH} (h8 : st.length ≤ 8) (hb : qzArr 0 b hp.1 = true) : qzV (d + 1) 45 87 [a0, a1, a2, a3, a4] (w0 :: .ref b :: st) hp = (qzC d 8 (.ref b :: [w0]) hp).bind (fun r => qzV (d + 1) 45 90 [a0, a1, a2, a3, a4] (r.1.toList ++ st) r.2) := qv_callv (n := 1) mdc_45 dX2_ended_87 mdo_45 (by decide) qfc_2_51 ⟨rfl, by decide, rfl⟩ rfl ⟨rfl, rfl, by simp only [List.length_cons]; omega⟩ h8 hb
theorem eX2_ended_90 {d : Nat} {a0 a1 a2 a3 a4 : Value} {v : Value} {st : List Value} {hp : qzH} : qzV d 45 90 [a0, a1, a2, a3, a4] (v :: st) hp = qzV d 45 91 [a0, a1, a2, a3, a4] (st) hp := qv_pop mdc_45 dX2_ended_90 rfl
theorem eX2_ended_91 {d : Nat} {a0 a1 a2 a3 : Value} {x : Int32} {st : List Value} {hp : qzH} : qzV d 45 91 [a0, a1, a2, a3, .int x] (st) hp = qzV d 45 94 [a0, a1, a2, a3, .int (x + 1)] (st) hp := qv_iinc mdc_45 dX2_ended_91 rfl il_1 rfl rfl
theorem eX2_ended_94 {d : Nat} {a0 a1 a2 a3 a4 : Value} {st : List Value} {hp : qzH} : qzV d 45 94 [a0, a1, a2, a3, a4] (st) hp = qzV d 45 43 [a0, a1, a2, a3, a4] (st) hp := qv_goto mdc_45 dX2_ended_94 rfl
theorem eX2_ended_97 {d : Nat} {a0 a1 a2 a4 : Value} {x : Int32} {st : List Value} {hp : qzH} : qzV d 45 97 [a0, a1, a2, .int x, a4] (st) hp = qzV d 45 98 [a0, a1, a2, .int x, a4] (.int x :: st) hp := qv_iload (i := 3) mdc_45 dX2_ended_97 rfl rfl rfl
theorem eX2_ended_98 {d : Nat} {a0 a1 a2 a3 a4 : Value} {st : List Value} {hp : qzH} : qzV d 45 98 [a0, a1, a2, a3, a4] (st) hp = qzV d 45 99 [a0, a1, a2, a3, a4] (.int 2 :: st) hp := qv_iconst mdc_45 dX2_ended_98 il_2 rfl
theorem eX2_ended_99 {d : Nat} {a0 a1 a2 a3 a4 : Value} {x y : Int32} {st : List Value} {hp : qzH} : qzV d 45 99 [a0, a1, a2, a3, a4] (.int y :: .int x :: st) hp = if ¬ x = y then qzV d 45 120 [a0, a1, a2, a3, a4] (st) hp else qzV d 45 102 [a0, a1, a2, a3, a4] (st) hp := qv_if2 mdc_45 dX2_ended_99 rfl rfl rfl
theorem eX2_ended_102 {d : Nat} {a1 a2 a3 a4 : Value} {x : Nat} {st : List Value} {hp : qzH} : qzV d 45 102 [.ref x, a1, a2, a3, a4] (st) hp = qzV d 45 103 [.ref x, a1, a2, a3, a4] (.ref x :: st) hp := qv_aload (i := 0) mdc_45 dX2_ended_102 rfl rfl rfl
theorem eX2_ended_103 {d : Nat} {a0 a1 a2 a3 a4 : Value} {a : Nat} {st : List Value} {hp : qzH} (ha : qzArr 2 a hp.1 = true) : qzV d 45 103 [a0, a1, a2, a3, a4] (.ref a :: st) hp = qzV d 45 106 [a0, a1, a2, a3, a4] (va_rf (hp.2.1 a 1) :: st) hp := qv_getR mdc_45 dX2_ended_103 mdo_45 qff_2_16 ⟨by decide, rfl⟩ rfl ha
theorem eX2_ended_106 {d : Nat} {a0 a1 a2 a3 a4 : Value} {a : Nat} {st : List Value} {hp : qzH} (ha : qzArr 0 a hp.1 = true) : qzV d 45 106 [a0, a1, a2, a3, a4] (.ref a :: st) hp = qzV d 45 109 [a0, a1, a2, a3, a4] (.int (hp.2.2 a 9) :: st) hp := qv_getI mdc_45 dX2_ended_106 mdo_45 qff_2_165 ⟨by decide, rfl⟩ rfl ha
theorem eX2_ended_109 {d : Nat} {a1 a2 a3 a4 : Value} {x : Nat} {st : List Value} {hp : qzH} : qzV d 45 109 [.ref x, a1, a2, a3, a4] (st) hp = qzV d 45 110 [.ref x, a1, a2, a3, a4] (.ref x :: st) hp := qv_aload (i := 0) mdc_45 dX2_ended_109 rfl rfl rfl
theorem eX2_ended_110 {d : Nat} {a0 a1 a2 a3 a4 : Value} {a : Nat} {st : List Value} {hp : qzH} (ha : qzArr 2 a hp.1 = true) : qzV d 45 110 [a0, a1, a2, a3, a4] (.ref a :: st) hp = qzV d 45 113 [a0, a1, a2, a3, a4] (va_rf (hp.2.1 a 0) :: st) hp := qv_getR mdc_45 dX2_ended_110 mdo_45 qff_2_10 ⟨by decide, rfl⟩ rfl ha
theorem eX2_ended_113 {d : Nat} {a0 a1 a2 a3 a4 : Value} {a : Nat} {st : List Value} {hp : qzH} (ha : qzArr 0 a hp.1 = true) : qzV d 45 113 [a0, a1, a2, a3, a4] (.ref a :: st) hp = qzV d 45 116 [a0, a1, a2, a3, a4] (.int (hp.2.2 a 9) :: st) hp := qv_getI mdc_45 dX2_ended_113 mdo_45 qff_2_165 ⟨by decide, rfl⟩ rfl ha
theorem eX2_ended_116 {d : Nat} {a0 a1 a2 a3 a4 : Value} {x y : Int32} {st : List Value} {hp : qzH} : qzV d 45 116 [a0, a1, a2, a3, a4] (.int y :: .int x :: st) hp = qzV d 45 117 [a0, a1, a2, a3, a4] (.int (x - y) :: st) hp := qv_bin (f := fun x y => x - y) mdc_45 dX2_ended_116 rfl rfl
theorem eX2_ended_117 {d : Nat} {a0 a1 a2 a3 a4 : Value} {st : List Value} {hp : qzH} : qzV d 45 117 [a0, a1, a2, a3, a4] (st) hp = qzV d 45 135 [a0, a1, a2, a3, a4] (st) hp := qv_goto mdc_45 dX2_ended_117 rfl
theorem eX2_ended_120 {d : Nat} {a1 a2 a3 a4 : Value} {x : Nat} {st : List Value} {hp : qzH} : qzV d 45 120 [.ref x, a1, a2, a3, a4] (st) hp = qzV d 45 121 [.ref x, a1, a2, a3, a4] (.ref x :: st) hp := qv_aload (i := 0) mdc_45 dX2_ended_120 rfl rfl rfl
theorem eX2_ended_121 {d : Nat} {a0 a1 a2 a3 a4 : Value} {a : Nat} {st : List Value} {hp : qzH} (ha : qzArr 2 a hp.1 = true) : qzV d 45 121 [a0, a1, a2, a3, a4] (.ref a :: st) hp = qzV d 45 124 [a0, a1, a2, a3, a4] (va_rf (hp.2.1 a 1) :: st) hp := qv_getR mdc_45 dX2_ended_121 mdo_45 qff_2_16 ⟨by decide, rfl⟩ rfl ha
theorem eX2_ended_124 {d : Nat} {a1 a2 a3 a4 : Value} {x : Nat} {st : List Value} {hp : qzH} : qzV d 45 124 [.ref x, a1, a2, a3, a4] (st) hp = qzV d 45 125 [.ref x, a1, a2, a3, a4] (.ref x :: st) hp := qv_aload (i := 0) mdc_45 dX2_ended_124 rfl rfl rfl
theorem eX2_ended_125 {d : Nat} {a0 a1 a2 a3 a4 : Value} {a : Nat} {st : List Value} {hp : qzH} (ha : qzArr 2 a hp.1 = true) : qzV d 45 125 [a0, a1, a2, a3, a4] (.ref a :: st) hp = qzV d 45 128 [a0, a1, a2, a3, a4] (va_rf (hp.2.1 a 1) :: st) hp := qv_getR mdc_45 dX2_ended_125 mdo_45 qff_2_16 ⟨by decide, rfl⟩ rfl ha
theorem eX2_ended_128 {d : Nat} {a0 a1 a2 a3 a4 : Value} {a : Nat} {st : List Value} {hp : qzH} (ha : qzArr 0 a hp.1 = true) : qzV d 45 128 [a0, a1, a2, a3, a4] (.ref a :: st) hp = qzV d 45 131 [a0, a1, a2, a3, a4] (va_rf (hp.2.1 a 4) :: st) hp := qv_getR mdc_45 dX2_ended_128 mdo_45 qff_2_124 ⟨by decide, rfl⟩ rfl ha
theorem eX2_ended_131 {d : Nat} {a0 a1 a2 a4 : Value} {x : Int32} {st : List Value} {hp : qzH} : qzV d 45 131 [a0, a1, a2, .int x, a4] (st) hp = qzV d 45 132 [a0, a1, a2, .int x, a4] (.int x :: st) hp := qv_iload (i := 3) mdc_45 dX2_ended_131 rfl rfl rfl
theorem eX2_ended_132 {d : Nat} {a0 a1 a2 a3 a4 : Value} {w0 w1 : Value} {b : Nat} {st : List Value} {hp : qzH} (h8 : st.length ≤ 8) (hb : qzArr 0 b hp.1 = true) : qzV (d + 1) 45 132 [a0, a1, a2, a3, a4] (w1 :: w0 :: .ref b :: st) hp = (qzC d 12 (.ref b :: [w0, w1]) hp).bind (fun r => qzV (d + 1) 45 135 [a0, a1, a2, a3, a4] (r.1.toList ++ st) r.2) := qv_callv (n := 2) mdc_45 dX2_ended_132 mdo_45 (by decide) qfc_2_127 ⟨rfl, by decide, rfl⟩ rfl ⟨rfl, rfl, by simp only [List.length_cons]; omega⟩ h8 hb
theorem eX2_ended_135 {d : Nat} {a0 a1 a2 a3 a4 : Value} {v : Int32} {hp : qzH} : qzV d 45 135 [a0, a1, a2, a3, a4] [.int v] hp = some (some (.int v), hp) := qv_iret mdc_45 dX2_ended_135 mdr_45 rfl
theorem dX2_undo_0 : decode cX2_undo 0 = .ok (.aload_n 0, 1) := by decide +kernel
theorem dX2_undo_1 : decode cX2_undo 1 = .ok (.aload_n 0, 1) := by decide +kernel
theorem dX2_undo_2 : decode cX2_undo 2 = .ok (.getfield 177, 3) := by decide +kernel
theorem dX2_undo_5 : decode cX2_undo 5 = .ok (.iconst 1, 1) := by decide +kernel
theorem dX2_undo_6 : decode cX2_undo 6 = .ok (.isub, 1) := by decide +kernel
theorem dX2_undo_7 : decode cX2_undo 7 = .ok (.invokevirtual 204, 3) := by decide +kernel
theorem dX2_undo_10 : decode cX2_undo 10 = .ok (.astore_n 1, 1) := by decide +kernel
theorem dX2_undo_11 : decode cX2_undo 11 = .ok (.aload_n 1, 1) := by decide +kernel
theorem dX2_undo_12 : decode cX2_undo 12 = .ok (.ifnonnull 6, 3) := by decide +kernel
theorem dX2_undo_15 : decode cX2_undo 15 = .ok (.bipush (-2), 2) := by decide +kernel
theorem dX2_undo_17 : decode cX2_undo 17 = .ok (.ireturn, 1) := by decide +kernel
theorem dX2_undo_18 : decode cX2_undo 18 = .ok (.aload_n 0, 1) := by decide +kernel
theorem dX2_undo_19 : decode cX2_undo 19 = .ok (.getfield 10, 3) := by decide +kernel
theorem dX2_undo_22 : decode cX2_undo 22 = .ok (.aload_n 1, 1) := by decide +kernel
theorem dX2_undo_23 : decode cX2_undo 23 = .ok (.invokevirtual 200, 3) := by decide +kernel
theorem dX2_undo_26 : decode cX2_undo 26 = .ok (.aload_n 0, 1) := by decide +kernel
theorem dX2_undo_27 : decode cX2_undo 27 = .ok (.dup, 1) := by decide +kernel
theorem dX2_undo_28 : decode cX2_undo 28 = .ok (.getfield 177, 3) := by decide +kernel
theorem dX2_undo_31 : decode cX2_undo 31 = .ok (.iconst 1, 1) := by decide +kernel
theorem dX2_undo_32 : decode cX2_undo 32 = .ok (.isub, 1) := by decide +kernel
theorem dX2_undo_33 : decode cX2_undo 33 = .ok (.putfield 177, 3) := by decide +kernel
theorem dX2_undo_36 : decode cX2_undo 36 = .ok (.aload_n 0, 1) := by decide +kernel
theorem dX2_undo_37 : decode cX2_undo 37 = .ok (.getfield 177, 3) := by decide +kernel
theorem dX2_undo_40 : decode cX2_undo 40 = .ok (.ireturn, 1) := by decide +kernel
theorem eX2_undo_0 {d : Nat} {a1 : Value} {x : Nat} {st : List Value} {hp : qzH} : qzV d 47 0 [.ref x, a1] (st) hp = qzV d 47 1 [.ref x, a1] (.ref x :: st) hp := qv_aload (i := 0) mdc_47 dX2_undo_0 rfl rfl rfl
theorem eX2_undo_0N {d : Nat} {a1 : Value} {st : List Value} {hp : qzH} : qzV d 47 0 [.null, a1] (st) hp = qzV d 47 1 [.null, a1] (.null :: st) hp := qv_aloadN (i := 0) mdc_47 dX2_undo_0 rfl rfl rfl
theorem eX2_undo_1 {d : Nat} {a1 : Value} {x : Nat} {st : List Value} {hp : qzH} : qzV d 47 1 [.ref x, a1] (st) hp = qzV d 47 2 [.ref x, a1] (.ref x :: st) hp := qv_aload (i := 0) mdc_47 dX2_undo_1 rfl rfl rfl
theorem eX2_undo_1N {d : Nat} {a1 : Value} {st : List Value} {hp : qzH} : qzV d 47 1 [.null, a1] (st) hp = qzV d 47 2 [.null, a1] (.null :: st) hp := qv_aloadN (i := 0) mdc_47 dX2_undo_1 rfl rfl rfl
theorem eX2_undo_2 {d : Nat} {a0 a1 : Value} {a : Nat} {st : List Value} {hp : qzH} (ha : qzArr 2 a hp.1 = true) : qzV d 47 2 [a0, a1] (.ref a :: st) hp = qzV d 47 5 [a0, a1] (.int (hp.2.2 a 5) :: st) hp := qv_getI mdc_47 dX2_undo_2 mdo_47 qff_2_177 ⟨by decide, rfl⟩ rfl ha
theorem eX2_undo_5 {d : Nat} {a0 a1 : Value} {st : List Value} {hp : qzH} : qzV d 47 5 [a0, a1] (st) hp = qzV d 47 6 [a0, a1] (.int 1 :: st) hp := qv_iconst mdc_47 dX2_undo_5 il_1 rfl
theorem eX2_undo_6 {d : Nat} {a0 a1 : Value} {x y : Int32} {st : List Value} {hp : qzH} : qzV d 47 6 [a0, a1] (.int y :: .int x :: st) hp = qzV d 47 7 [a0, a1] (.int (x - y) :: st) hp := qv_bin (f := fun x y => x - y) mdc_47 dX2_undo_6 rfl rfl
theorem eX2_undo_7 {d : Nat} {a0 a1 : Value} {w0 : Value} {b : Nat} {st : List Value} {hp : qzH} (h8 : st.length ≤ 8) (hb : qzArr 2 b hp.1 = true) : qzV (d + 1) 47 7 [a0, a1] (w0 :: .ref b :: st) hp = (qzC d 50 (.ref b :: [w0]) hp).bind (fun r => qzV (d + 1) 47 10 [a0, a1] (r.1.toList ++ st) r.2) := qv_callv (n := 1) mdc_47 dX2_undo_7 mdo_47 (by decide) qfc_2_204 ⟨rfl, by decide, rfl⟩ rfl ⟨rfl, rfl, by simp only [List.length_cons]; omega⟩ h8 hb
theorem eX2_undo_10 {d : Nat} {a0 a1 : Value} {x : Nat} {st : List Value} {hp : qzH} : qzV d 47 10 [a0, a1] (.ref x :: st) hp = qzV d 47 11 [a0, .ref x] (st) hp := qv_astore (i := 1) mdc_47 dX2_undo_10 rfl (Nat.le_of_ble_eq_true rfl) rfl rfl
theorem eX2_undo_10N {d : Nat} {a0 a1 : Value} {st : List Value} {hp : qzH} : qzV d 47 10 [a0, a1] (.null :: st) hp = qzV d 47 11 [a0, .null] (st) hp := qv_astoreN (i := 1) mdc_47 dX2_undo_10 rfl (Nat.le_of_ble_eq_true rfl) rfl rfl
theorem eX2_undo_11 {d : Nat} {a0 : Value} {x : Nat} {st : List Value} {hp : qzH} : qzV d 47 11 [a0, .ref x] (st) hp = qzV d 47 12 [a0, .ref x] (.ref x :: st) hp := qv_aload (i := 1) mdc_47 dX2_undo_11 rfl rfl rfl
theorem eX2_undo_11N {d : Nat} {a0 : Value} {st : List Value} {hp : qzH} : qzV d 47 11 [a0, .null] (st) hp = qzV d 47 12 [a0, .null] (.null :: st) hp := qv_aloadN (i := 1) mdc_47 dX2_undo_11 rfl rfl rfl
theorem eX2_undo_12 {d : Nat} {a0 a1 : Value} {x : Nat} {st : List Value} {hp : qzH} : qzV d 47 12 [a0, a1] (.ref x :: st) hp = qzV d 47 18 [a0, a1] (st) hp := qv_ifnonnullR mdc_47 dX2_undo_12 rfl
theorem eX2_undo_12N {d : Nat} {a0 a1 : Value} {st : List Value} {hp : qzH} : qzV d 47 12 [a0, a1] (.null :: st) hp = qzV d 47 15 [a0, a1] (st) hp := qv_ifnonnullN mdc_47 dX2_undo_12 (by decide) rfl
theorem eX2_undo_15 {d : Nat} {a0 a1 : Value} {st : List Value} {hp : qzH} : qzV d 47 15 [a0, a1] (st) hp = qzV d 47 17 [a0, a1] (.int (-2) :: st) hp := qv_bipush mdc_47 dX2_undo_15 ib_m2 rfl
theorem eX2_undo_17 {d : Nat} {a0 a1 : Value} {v : Int32} {hp : qzH} : qzV d 47 17 [a0, a1] [.int v] hp = some (some (.int v), hp) := qv_iret mdc_47 dX2_undo_17 mdr_47 rfl
theorem eX2_undo_18 {d : Nat} {a1 : Value} {x : Nat} {st : List Value} {hp : qzH} : qzV d 47 18 [.ref x, a1] (st) hp = qzV d 47 19 [.ref x, a1] (.ref x :: st) hp := qv_aload (i := 0) mdc_47 dX2_undo_18 rfl rfl rfl
theorem eX2_undo_18N {d : Nat} {a1 : Value} {st : List Value} {hp : qzH} : qzV d 47 18 [.null, a1] (st) hp = qzV d 47 19 [.null, a1] (.null :: st) hp := qv_aloadN (i := 0) mdc_47 dX2_undo_18 rfl rfl rfl
theorem eX2_undo_19 {d : Nat} {a0 a1 : Value} {a : Nat} {st : List Value} {hp : qzH} (ha : qzArr 2 a hp.1 = true) : qzV d 47 19 [a0, a1] (.ref a :: st) hp = qzV d 47 22 [a0, a1] (va_rf (hp.2.1 a 0) :: st) hp := qv_getR mdc_47 dX2_undo_19 mdo_47 qff_2_10 ⟨by decide, rfl⟩ rfl ha
theorem eX2_undo_22 {d : Nat} {a0 : Value} {x : Nat} {st : List Value} {hp : qzH} : qzV d 47 22 [a0, .ref x] (st) hp = qzV d 47 23 [a0, .ref x] (.ref x :: st) hp := qv_aload (i := 1) mdc_47 dX2_undo_22 rfl rfl rfl
theorem eX2_undo_22N {d : Nat} {a0 : Value} {st : List Value} {hp : qzH} : qzV d 47 22 [a0, .null] (st) hp = qzV d 47 23 [a0, .null] (.null :: st) hp := qv_aloadN (i := 1) mdc_47 dX2_undo_22 rfl rfl rfl
theorem eX2_undo_23 {d : Nat} {a0 a1 : Value} {w0 : Value} {b : Nat} {st : List Value} {hp : qzH} (h8 : st.length ≤ 8) (hb : qzArr 0 b hp.1 = true) : qzV (d + 1) 47 23 [a0, a1] (w0 :: .ref b :: st) hp = (qzC d 1 (.ref b :: [w0]) hp).bind (fun r => qzV (d + 1) 47 26 [a0, a1] (r.1.toList ++ st) r.2) := qv_callv (n := 1) mdc_47 dX2_undo_23 mdo_47 (by decide) qfc_2_200 ⟨rfl, by decide, rfl⟩ rfl ⟨rfl, rfl, by simp only [List.length_cons]; omega⟩ h8 hb
theorem eX2_undo_26 {d : Nat} {a1 : Value} {x : Nat} {st : List Value} {hp : qzH} : qzV d 47 26 [.ref x, a1] (st) hp = qzV d 47 27 [.ref x, a1] (.ref x :: st) hp := qv_aload (i := 0) mdc_47 dX2_undo_26 rfl rfl rfl
theorem eX2_undo_26N {d : Nat} {a1 : Value} {st : List Value} {hp : qzH} : qzV d 47 26 [.null, a1] (st) hp = qzV d 47 27 [.null, a1] (.null :: st) hp := qv_aloadN (i := 0) mdc_47 dX2_undo_26 rfl rfl rfl
theorem eX2_undo_27 {d : Nat} {a0 a1 : Value} {v : Value} {st : List Value} {hp : qzH} : qzV d 47 27 [a0, a1] (v :: st) hp = qzV d 47 28 [a0, a1] (v :: v :: st) hp := qv_dup mdc_47 dX2_undo_27 rfl
theorem eX2_undo_28 {d : Nat} {a0 a1 : Value} {a : Nat} {st : List Value} {hp : qzH} (ha : qzArr 2 a hp.1 = true) : qzV d 47 28 [a0, a1] (.ref a :: st) hp = qzV d 47 31 [a0, a1] (.int (hp.2.2 a 5) :: st) hp := qv_getI mdc_47 dX2_undo_28 mdo_47 qff_2_177 ⟨by decide, rfl⟩ rfl ha
theorem eX2_undo_31 {d : Nat} {a0 a1 : Value} {st : List Value} {hp : qzH} : qzV d 47 31 [a0, a1] (st) hp = qzV d 47 32 [a0, a1] (.int 1 :: st) hp := qv_iconst mdc_47 dX2_undo_31 il_1 rfl
theorem eX2_undo_32 {d : Nat} {a0 a1 : Value} {x y : Int32} {st : List Value} {hp : qzH} : qzV d 47 32 [a0, a1] (.int y :: .int x :: st) hp = qzV d 47 33 [a0, a1] (.int (x - y) :: st) hp := qv_bin (f := fun x y => x - y) mdc_47 dX2_undo_32 rfl rfl
theorem eX2_undo_33 {d : Nat} {a0 a1 : Value} {a : Nat} {x : Int32} {st : List Value} {hp : qzH} (ha : qzArr 2 a hp.1 = true) : qzV d 47 33 [a0, a1] (.int x :: .ref a :: st) hp = qzV d 47 36 [a0, a1] st (hp.1, hp.2.1, qzUp hp.2.2 a 5 x) := qv_putI mdc_47 dX2_undo_33 mdo_47 qff_2_177 ⟨by decide, rfl, rfl⟩ rfl ha ⟨rfl, rfl⟩
theorem eX2_undo_36 {d : Nat} {a1 : Value} {x : Nat} {st : List Value} {hp : qzH} : qzV d 47 36 [.ref x, a1] (st) hp = qzV d 47 37 [.ref x, a1] (.ref x :: st) hp := qv_aload (i := 0) mdc_47 dX2_undo_36 rfl rfl rfl
theorem eX2_undo_36N {d : Nat} {a1 : Value} {st : List Value} {hp : qzH} : qzV d 47 36 [.null, a1] (st) hp = qzV d 47 37 [.null, a1] (.null :: st) hp := qv_aloadN (i := 0) mdc_47 dX2_undo_36 rfl rfl rfl
theorem eX2_undo_37 {d : Nat} {a0 a1 : Value} {a : Nat} {st : List Value} {hp : qzH} (ha : qzArr 2 a hp.1 = true) : qzV d 47 37 [a0, a1] (.ref a :: st) hp = qzV d 47 40 [a0, a1] (.int (hp.2.2 a 5) :: st) hp := qv_getI mdc_47 dX2_undo_37 mdo_47 qff_2_177 ⟨by decide, rfl⟩ rfl ha
theorem eX2_undo_40 {d : Nat} {a0 a1 : Value} {v : Int32} {hp : qzH} : qzV d 47 40 [a0, a1] [.int v] hp = some (some (.int v), hp) := qv_iret mdc_47 dX2_undo_40 mdr_47 rfl
theorem dX2_save_0 : decode cX2_save 0 = .ok (.aload_n 0, 1) := by decide +kernel
theorem dX2_save_1 : decode cX2_save 1 = .ok (.getfield 19, 3) := by decide +kernel
theorem dX2_save_4 : decode cX2_save 4 = .ok (.aload_n 0, 1) := by decide +kernel
theorem dX2_save_5 : decode cX2_save 5 = .ok (.getfield 10, 3) := by decide +kernel
theorem dX2_save_8 : decode cX2_save 8 = .ok (.invokevirtual 200, 3) := by decide +kernel
theorem dX2_save_11 : decode cX2_save 11 = .ok (.aload_n 0, 1) := by decide +kernel
theorem dX2_save_12 : decode cX2_save 12 = .ok (.iconst 1, 1) := by decide +kernel
theorem dX2_save_13 : decode cX2_save 13 = .ok (.putfield 208, 3) := by decide +kernel
theorem dX2_save_16 : decode cX2_save 16 = .ok (.aload_n 0, 1) := by decide +kernel
theorem dX2_save_17 : decode cX2_save 17 = .ok (.getfield 10, 3) := by decide +kernel
theorem dX2_save_20 : decode cX2_save 20 = .ok (.invokevirtual 153, 3) := by decide +kernel
theorem dX2_save_23 : decode cX2_save 23 = .ok (.ireturn, 1) := by decide +kernel
theorem eX2_save_0 {d : Nat} {x : Nat} {st : List Value} {hp : qzH} : qzV d 48 0 [.ref x] (st) hp = qzV d 48 1 [.ref x] (.ref x :: st) hp := qv_aload (i := 0) mdc_48 dX2_save_0 rfl rfl rfl
theorem eX2_save_1 {d : Nat} {a0 : Value} {a : Nat} {st : List Value} {hp : qzH} (ha : qzArr 2 a hp.1 = true) : qzV d 48 1 [a0] (.ref a :: st) hp = qzV d 48 4 [a0] (va_rf (hp.2.1 a 2) :: st) hp := qv_getR mdc_48 dX2_save_1 mdo_48 qff_2_19 ⟨by decide, rfl⟩ rfl ha
theorem eX2_save_4 {d : Nat} {x : Nat} {st : List Value} {hp : qzH} : qzV d 48 4 [.ref x] (st) hp = qzV d 48 5 [.ref x] (.ref x :: st) hp := qv_aload (i := 0) mdc_48 dX2_save_4 rfl rfl rfl
theorem eX2_save_5 {d : Nat} {a0 : Value} {a : Nat} {st : List Value} {hp : qzH} (ha : qzArr 2 a hp.1 = true) : qzV d 48 5 [a0] (.ref a :: st) hp = qzV d 48 8 [a0] (va_rf (hp.2.1 a 0) :: st) hp := qv_getR mdc_48 dX2_save_5 mdo_48 qff_2_10 ⟨by decide, rfl⟩ rfl ha
theorem eX2_save_8 {d : Nat} {a0 : Value} {w0 : Value} {b : Nat} {st : List Value} {hp : qzH} (h8 : st.length ≤ 8) (hb : qzArr 0 b hp.1 = true) : qzV (d + 1) 48 8 [a0] (w0 :: .ref b :: st) hp = (qzC d 1 (.ref b :: [w0]) hp).bind (fun r => qzV (d + 1) 48 11 [a0] (r.1.toList ++ st) r.2) := qv_callv (n := 1) mdc_48 dX2_save_8 mdo_48 (by decide) qfc_2_200 ⟨rfl, by decide, rfl⟩ rfl ⟨rfl, rfl, by simp only [List.length_cons]; omega⟩ h8 hb
theorem eX2_save_11 {d : Nat} {x : Nat} {st : List Value} {hp : qzH} : qzV d 48 11 [.ref x] (st) hp = qzV d 48 12 [.ref x] (.ref x :: st) hp := qv_aload (i := 0) mdc_48 dX2_save_11 rfl rfl rfl
theorem eX2_save_12 {d : Nat} {a0 : Value} {st : List Value} {hp : qzH} : qzV d 48 12 [a0] (st) hp = qzV d 48 13 [a0] (.int 1 :: st) hp := qv_iconst mdc_48 dX2_save_12 il_1 rfl
theorem eX2_save_13 {d : Nat} {a0 : Value} {a : Nat} {x : Int32} {st : List Value} {hp : qzH} (ha : qzArr 2 a hp.1 = true) (hb : narrow .boolean (.int x) = .int x ∧ fits .boolean (.int x) = true) : qzV d 48 13 [a0] (.int x :: .ref a :: st) hp = qzV d 48 16 [a0] st (hp.1, hp.2.1, qzUp hp.2.2 a 3 x) := qv_putI mdc_48 dX2_save_13 mdo_48 qff_2_208 ⟨by decide, rfl, rfl⟩ rfl ha hb
theorem eX2_save_16 {d : Nat} {x : Nat} {st : List Value} {hp : qzH} : qzV d 48 16 [.ref x] (st) hp = qzV d 48 17 [.ref x] (.ref x :: st) hp := qv_aload (i := 0) mdc_48 dX2_save_16 rfl rfl rfl
theorem eX2_save_17 {d : Nat} {a0 : Value} {a : Nat} {st : List Value} {hp : qzH} (ha : qzArr 2 a hp.1 = true) : qzV d 48 17 [a0] (.ref a :: st) hp = qzV d 48 20 [a0] (va_rf (hp.2.1 a 0) :: st) hp := qv_getR mdc_48 dX2_save_17 mdo_48 qff_2_10 ⟨by decide, rfl⟩ rfl ha
theorem eX2_save_20 {d : Nat} {a0 : Value} {b : Nat} {st : List Value} {hp : qzH} (h8 : st.length ≤ 8) (hb : qzArr 0 b hp.1 = true) : qzV (d + 1) 48 20 [a0] (.ref b :: st) hp = (qzC d 3 (.ref b :: []) hp).bind (fun r => qzV (d + 1) 48 23 [a0] (r.1.toList ++ st) r.2) := qv_callv (n := 0) mdc_48 dX2_save_20 mdo_48 (by decide) qfc_2_153 ⟨rfl, by decide, rfl⟩ rfl ⟨rfl, rfl, by simp only [List.length_cons]; omega⟩ h8 hb
theorem eX2_save_23 {d : Nat} {a0 : Value} {v : Int32} {hp : qzH} : qzV d 48 23 [a0] [.int v] hp = some (some (.int v), hp) := qv_iret mdc_48 dX2_save_23 mdr_48 rfl
theorem dX2_restore_0 : decode cX2_restore 0 = .ok (.aload_n 0, 1) := by decide +kernel
theorem dX2_restore_1 : decode cX2_restore 1 = .ok (.getfield 208, 3) := by decide +kernel
theorem dX2_restore_4 : decode cX2_restore 4 = .ok (.ifCond .ne 6, 3) := by decide +kernel
theorem dX2_restore_7 : decode cX2_restore 7 = .ok (.bipush (-2), 2) := by decide +kernel
theorem dX2_restore_9 : decode cX2_restore 9 = .ok (.ireturn, 1) := by decide +kernel
theorem dX2_restore_10 : decode cX2_restore 10 = .ok (.aload_n 0, 1) := by decide +kernel
theorem dX2_restore_11 : decode cX2_restore 11 = .ok (.invokevirtual 44, 3) := by decide +kernel
theorem dX2_restore_14 : decode cX2_restore 14 = .ok (.aload_n 0, 1) := by decide +kernel
theorem dX2_restore_15 : decode cX2_restore 15 = .ok (.getfield 10, 3) := by decide +kernel
theorem dX2_restore_18 : decode cX2_restore 18 = .ok (.aload_n 0, 1) := by decide +kernel
theorem dX2_restore_19 : decode cX2_restore 19 = .ok (.getfield 19, 3) := by decide +kernel
theorem dX2_restore_22 : decode cX2_restore 22 = .ok (.invokevirtual 200, 3) := by decide +kernel
theorem dX2_restore_25 : decode cX2_restore 25 = .ok (.aload_n 0, 1) := by decide +kernel
theorem dX2_restore_26 : decode cX2_restore 26 = .ok (.getfield 10, 3) := by decide +kernel
theorem dX2_restore_29 : decode cX2_restore 29 = .ok (.invokevirtual 153, 3) := by decide +kernel
theorem dX2_restore_32 : decode cX2_restore 32 = .ok (.ireturn, 1) := by decide +kernel
theorem eX2_restore_0 {d : Nat} {x : Nat} {st : List Value} {hp : qzH} : qzV d 49 0 [.ref x] (st) hp = qzV d 49 1 [.ref x] (.ref x :: st) hp := qv_aload (i := 0) mdc_49 dX2_restore_0 rfl rfl rfl
theorem eX2_restore_1 {d : Nat} {a0 : Value} {a : Nat} {st : List Value} {hp : qzH} (ha : qzArr 2 a hp.1 = true) : qzV d 49 1 [a0] (.ref a :: st) hp = qzV d 49 4 [a0] (.int (hp.2.2 a 3) :: st) hp := qv_getI mdc_49 dX2_restore_1 mdo_49 qff_2_208 ⟨by decide, rfl⟩ rfl ha
theorem eX2_restore_4 {d : Nat} {a0 : Value} {x : Int32} {st : List Value} {hp : qzH} : qzV d 49 4 [a0] (.int x :: st) hp = if ¬ x = 0 then qzV d 49 10 [a0] (st) hp else qzV d 49 7 [a0] (st) hp := qv_if1 mdc_49 dX2_restore_4 rfl rfl rfl
theorem eX2_restore_7 {d : Nat} {a0 : Value} {st : List Value} {hp : qzH} : qzV d 49 7 [a0] (st) hp = qzV d 49 9 [a0] (.int (-2) :: st) hp := qv_bipush mdc_49 dX2_restore_7 ib_m2 rfl
theorem eX2_restore_9 {d : Nat} {a0 : Value} {v : Int32} {hp : qzH} : qzV d 49 9 [a0] [.int v] hp = some (some (.int v), hp) := qv_iret mdc_49 dX2_restore_9 mdr_49 rfl
theorem eX2_restore_10 {d : Nat} {x : Nat} {st : List Value} {hp : qzH} : qzV d 49 10 [.ref x] (st) hp = qzV d 49 11 [.ref x] (.ref x :: st) hp := qv_aload (i := 0) mdc_49 dX2_restore_10 rfl rfl rfl
theorem eX2_restore_11 {d : Nat} {a0 : Value} {b : Nat} {st : List Value} {hp : qzH} (h8 : st.length ≤ 8) (hb : qzArr 2 b hp.1 = true) : qzV (d + 1) 49 11 [a0] (.ref b :: st) hp = (qzC d 51 (.ref b :: []) hp).bind (fun r => qzV (d + 1) 49 14 [a0] (r.1.toList ++ st) r.2) := qv_callv (n := 0) mdc_49 dX2_restore_11 mdo_49 (by decide) qfc_2_44 ⟨rfl, by decide, rfl⟩ rfl ⟨rfl, rfl, by simp only [List.length_cons]; omega⟩ h8 hb
theorem eX2_restore_14 {d : Nat} {x : Nat} {st : List Value} {hp : qzH} : qzV d 49 14 [.ref x] (st) hp = qzV d 49 15 [.ref x] (.ref x :: st) hp := qv_aload (i := 0) mdc_49 dX2_restore_14 rfl rfl rfl
theorem eX2_restore_15 {d : Nat} {a0 : Value} {a : Nat} {st : List Value} {hp : qzH} (ha : qzArr 2 a hp.1 = true) : qzV d 49 15 [a0] (.ref a :: st) hp = qzV d 49 18 [a0] (va_rf (hp.2.1 a 0) :: st) hp := qv_getR mdc_49 dX2_restore_15 mdo_49 qff_2_10 ⟨by decide, rfl⟩ rfl ha
theorem eX2_restore_18 {d : Nat} {x : Nat} {st : List Value} {hp : qzH} : qzV d 49 18 [.ref x] (st) hp = qzV d 49 19 [.ref x] (.ref x :: st) hp := qv_aload (i := 0) mdc_49 dX2_restore_18 rfl rfl rfl
theorem eX2_restore_19 {d : Nat} {a0 : Value} {a : Nat} {st : List Value} {hp : qzH} (ha : qzArr 2 a hp.1 = true) : qzV d 49 19 [a0] (.ref a :: st) hp = qzV d 49 22 [a0] (va_rf (hp.2.1 a 2) :: st) hp := qv_getR mdc_49 dX2_restore_19 mdo_49 qff_2_19 ⟨by decide, rfl⟩ rfl ha
theorem eX2_restore_22 {d : Nat} {a0 : Value} {w0 : Value} {b : Nat} {st : List Value} {hp : qzH} (h8 : st.length ≤ 8) (hb : qzArr 0 b hp.1 = true) : qzV (d + 1) 49 22 [a0] (w0 :: .ref b :: st) hp = (qzC d 1 (.ref b :: [w0]) hp).bind (fun r => qzV (d + 1) 49 25 [a0] (r.1.toList ++ st) r.2) := qv_callv (n := 1) mdc_49 dX2_restore_22 mdo_49 (by decide) qfc_2_200 ⟨rfl, by decide, rfl⟩ rfl ⟨rfl, rfl, by simp only [List.length_cons]; omega⟩ h8 hb
theorem eX2_restore_25 {d : Nat} {x : Nat} {st : List Value} {hp : qzH} : qzV d 49 25 [.ref x] (st) hp = qzV d 49 26 [.ref x] (.ref x :: st) hp := qv_aload (i := 0) mdc_49 dX2_restore_25 rfl rfl rfl
theorem eX2_restore_26 {d : Nat} {a0 : Value} {a : Nat} {st : List Value} {hp : qzH} (ha : qzArr 2 a hp.1 = true) : qzV d 49 26 [a0] (.ref a :: st) hp = qzV d 49 29 [a0] (va_rf (hp.2.1 a 0) :: st) hp := qv_getR mdc_49 dX2_restore_26 mdo_49 qff_2_10 ⟨by decide, rfl⟩ rfl ha
theorem eX2_restore_29 {d : Nat} {a0 : Value} {b : Nat} {st : List Value} {hp : qzH} (h8 : st.length ≤ 8) (hb : qzArr 0 b hp.1 = true) : qzV (d + 1) 49 29 [a0] (.ref b :: st) hp = (qzC d 3 (.ref b :: []) hp).bind (fun r => qzV (d + 1) 49 32 [a0] (r.1.toList ++ st) r.2) := qv_callv (n := 0) mdc_49 dX2_restore_29 mdo_49 (by decide) qfc_2_153 ⟨rfl, by decide, rfl⟩ rfl ⟨rfl, rfl, by simp only [List.length_cons]; omega⟩ h8 hb
theorem eX2_restore_32 {d : Nat} {a0 : Value} {v : Int32} {hp : qzH} : qzV d 49 32 [a0] [.int v] hp = some (some (.int v), hp) := qv_iret mdc_49 dX2_restore_32 mdr_49 rfl
theorem dX2_pastAt_0 : decode cX2_pastAt 0 = .ok (.iload_n 1, 1) := by decide +kernel
theorem dX2_pastAt_1 : decode cX2_pastAt 1 = .ok (.ifCond .lt 21, 3) := by decide +kernel
theorem dX2_pastAt_4 : decode cX2_pastAt 4 = .ok (.iload_n 1, 1) := by decide +kernel
theorem dX2_pastAt_5 : decode cX2_pastAt 5 = .ok (.aload_n 0, 1) := by decide +kernel
theorem dX2_pastAt_6 : decode cX2_pastAt 6 = .ok (.getfield 22, 3) := by decide +kernel
theorem dX2_pastAt_9 : decode cX2_pastAt 9 = .ok (.arraylength, 1) := by decide +kernel
theorem dX2_pastAt_10 : decode cX2_pastAt 10 = .ok (.if_icmp .ge 12, 3) := by decide +kernel
theorem dX2_pastAt_13 : decode cX2_pastAt 13 = .ok (.aload_n 0, 1) := by decide +kernel
theorem dX2_pastAt_14 : decode cX2_pastAt 14 = .ok (.getfield 22, 3) := by decide +kernel
theorem dX2_pastAt_17 : decode cX2_pastAt 17 = .ok (.iload_n 1, 1) := by decide +kernel
theorem dX2_pastAt_18 : decode cX2_pastAt 18 = .ok (.aaload, 1) := by decide +kernel
theorem dX2_pastAt_19 : decode cX2_pastAt 19 = .ok (.goto 4, 3) := by decide +kernel
theorem dX2_pastAt_22 : decode cX2_pastAt 22 = .ok (.aconst_null, 1) := by decide +kernel
theorem dX2_pastAt_23 : decode cX2_pastAt 23 = .ok (.areturn, 1) := by decide +kernel
theorem eX2_pastAt_0 {d : Nat} {a0 : Value} {x : Int32} {st : List Value} {hp : qzH} : qzV d 50 0 [a0, .int x] (st) hp = qzV d 50 1 [a0, .int x] (.int x :: st) hp := qv_iload (i := 1) mdc_50 dX2_pastAt_0 rfl rfl rfl
theorem eX2_pastAt_1 {d : Nat} {a0 a1 : Value} {x : Int32} {st : List Value} {hp : qzH} : qzV d 50 1 [a0, a1] (.int x :: st) hp = if x < 0 then qzV d 50 22 [a0, a1] (st) hp else qzV d 50 4 [a0, a1] (st) hp := qv_if1 mdc_50 dX2_pastAt_1 rfl rfl rfl
theorem eX2_pastAt_4 {d : Nat} {a0 : Value} {x : Int32} {st : List Value} {hp : qzH} : qzV d 50 4 [a0, .int x] (st) hp = qzV d 50 5 [a0, .int x] (.int x :: st) hp := qv_iload (i := 1) mdc_50 dX2_pastAt_4 rfl rfl rfl
theorem eX2_pastAt_5 {d : Nat} {a1 : Value} {x : Nat} {st : List Value} {hp : qzH} : qzV d 50 5 [.ref x, a1] (st) hp = qzV d 50 6 [.ref x, a1] (.ref x :: st) hp := qv_aload (i := 0) mdc_50 dX2_pastAt_5 rfl rfl rfl
theorem eX2_pastAt_6 {d : Nat} {a0 a1 : Value} {a : Nat} {st : List Value} {hp : qzH} (ha : qzArr 2 a hp.1 = true) : qzV d 50 6 [a0, a1] (.ref a :: st) hp = qzV d 50 9 [a0, a1] (va_rf (hp.2.1 a 4) :: st) hp := qv_getR mdc_50 dX2_pastAt_6 mdo_50 qff_2_22 ⟨by decide, rfl⟩ rfl ha
theorem eX2_pastAt_9 {d : Nat} {a0 a1 : Value} {a : Nat} {st : List Value} {hp : qzH} (ha : qzArr 4 a hp.1 = true ∨ qzArr 5 a hp.1 = true ∨ qzArr 6 a hp.1 = true) : qzV d 50 9 [a0, a1] (.ref a :: st) hp = qzV d 50 10 [a0, a1] (.int (Int32.ofNat (qzk a).2) :: st) hp := qv_alen mdc_50 dX2_pastAt_9 rfl ha
theorem eX2_pastAt_10 {d : Nat} {a0 a1 : Value} {x y : Int32} {st : List Value} {hp : qzH} : qzV d 50 10 [a0, a1] (.int y :: .int x :: st) hp = if y ≤ x then qzV d 50 22 [a0, a1] (st) hp else qzV d 50 13 [a0, a1] (st) hp := qv_if2 mdc_50 dX2_pastAt_10 rfl rfl rfl
theorem eX2_pastAt_13 {d : Nat} {a1 : Value} {x : Nat} {st : List Value} {hp : qzH} : qzV d 50 13 [.ref x, a1] (st) hp = qzV d 50 14 [.ref x, a1] (.ref x :: st) hp := qv_aload (i := 0) mdc_50 dX2_pastAt_13 rfl rfl rfl
theorem eX2_pastAt_14 {d : Nat} {a0 a1 : Value} {a : Nat} {st : List Value} {hp : qzH} (ha : qzArr 2 a hp.1 = true) : qzV d 50 14 [a0, a1] (.ref a :: st) hp = qzV d 50 17 [a0, a1] (va_rf (hp.2.1 a 4) :: st) hp := qv_getR mdc_50 dX2_pastAt_14 mdo_50 qff_2_22 ⟨by decide, rfl⟩ rfl ha
theorem eX2_pastAt_17 {d : Nat} {a0 : Value} {x : Int32} {st : List Value} {hp : qzH} : qzV d 50 17 [a0, .int x] (st) hp = qzV d 50 18 [a0, .int x] (.int x :: st) hp := qv_iload (i := 1) mdc_50 dX2_pastAt_17 rfl rfl rfl
theorem eX2_pastAt_18 {d : Nat} {a0 a1 : Value} {i : Int32} {a : Nat} {st : List Value} {hp : qzH} (ha : qzArr 6 a hp.1 = true) (hi : qzIn i (qzk a).2 = true) : qzV d 50 18 [a0, a1] (.int i :: .ref a :: st) hp = qzV d 50 19 [a0, a1] (va_rf (hp.2.1 a i.toNatClampNeg) :: st) hp := qv_aald mdc_50 dX2_pastAt_18 rfl ha hi
theorem eX2_pastAt_19 {d : Nat} {a0 a1 : Value} {st : List Value} {hp : qzH} : qzV d 50 19 [a0, a1] (st) hp = qzV d 50 23 [a0, a1] (st) hp := qv_goto mdc_50 dX2_pastAt_19 rfl
theorem eX2_pastAt_22 {d : Nat} {a0 a1 : Value} {st : List Value} {hp : qzH} : qzV d 50 22 [a0, a1] (st) hp = qzV d 50 23 [a0, a1] (.null :: st) hp := qv_push mdc_50 dX2_pastAt_22 rfl rfl
theorem eX2_pastAt_23 {d : Nat} {a0 a1 : Value} {a : Nat} {hp : qzH} : qzV d 50 23 [a0, a1] [.ref a] hp = some (some (.ref a), hp) := qv_aret mdc_50 dX2_pastAt_23 mdr_50
theorem eX2_pastAt_23N {d : Nat} {a0 a1 : Value} {hp : qzH} : qzV d 50 23 [a0, a1] [.null] hp = some (some .null, hp) := qv_aretN mdc_50 dX2_pastAt_23 mdr_50
theorem dX2_record_0 : decode cX2_record 0 = .ok (.aload_n 0, 1) := by decide +kernel
theorem dX2_record_1 : decode cX2_record 1 = .ok (.getfield 177, 3) := by decide +kernel
theorem dX2_record_4 : decode cX2_record 4 = .ok (.aload_n 0, 1) := by decide +kernel
theorem dX2_record_5 : decode cX2_record 5 = .ok (.getfield 22, 3) := by decide +kernel
theorem dX2_record_8 : decode cX2_record 8 = .ok (.arraylength, 1) := by decide +kernel
theorem dX2_record_9 : decode cX2_record 9 = .ok (.if_icmp .lt 7, 3) := by decide +kernel
theorem dX2_record_12 : decode cX2_record 12 = .ok (.aload_n 0, 1) := by decide +kernel
theorem dX2_record_13 : decode cX2_record 13 = .ok (.invokevirtual 212, 3) := by decide +kernel
theorem dX2_record_16 : decode cX2_record 16 = .ok (.aload_n 0, 1) := by decide +kernel
theorem dX2_record_17 : decode cX2_record 17 = .ok (.aload_n 0, 1) := by decide +kernel
theorem dX2_record_18 : decode cX2_record 18 = .ok (.getfield 177, 3) := by decide +kernel
theorem dX2_record_21 : decode cX2_record 21 = .ok (.invokevirtual 204, 3) := by decide +kernel
theorem dX2_record_24 : decode cX2_record 24 = .ok (.astore_n 1, 1) := by decide +kernel
theorem dX2_record_25 : decode cX2_record 25 = .ok (.aload_n 1, 1) := by decide +kernel
theorem dX2_record_26 : decode cX2_record 26 = .ok (.ifnull 21, 3) := by decide +kernel
theorem dX2_record_29 : decode cX2_record 29 = .ok (.aload_n 1, 1) := by decide +kernel
theorem dX2_record_30 : decode cX2_record 30 = .ok (.aload_n 0, 1) := by decide +kernel
theorem dX2_record_31 : decode cX2_record 31 = .ok (.getfield 10, 3) := by decide +kernel
theorem dX2_record_34 : decode cX2_record 34 = .ok (.invokevirtual 200, 3) := by decide +kernel
theorem dX2_record_37 : decode cX2_record 37 = .ok (.aload_n 0, 1) := by decide +kernel
theorem dX2_record_38 : decode cX2_record 38 = .ok (.dup, 1) := by decide +kernel
theorem dX2_record_39 : decode cX2_record 39 = .ok (.getfield 177, 3) := by decide +kernel
theorem dX2_record_42 : decode cX2_record 42 = .ok (.iconst 1, 1) := by decide +kernel
theorem dX2_record_43 : decode cX2_record 43 = .ok (.iadd, 1) := by decide +kernel
theorem dX2_record_44 : decode cX2_record 44 = .ok (.putfield 177, 3) := by decide +kernel
theorem dX2_record_47 : decode cX2_record 47 = .ok (.return_, 1) := by decide +kernel
theorem eX2_record_0 {d : Nat} {a1 : Value} {x : Nat} {st : List Value} {hp : qzH} : qzV d 51 0 [.ref x, a1] (st) hp = qzV d 51 1 [.ref x, a1] (.ref x :: st) hp := qv_aload (i := 0) mdc_51 dX2_record_0 rfl rfl rfl
theorem eX2_record_0N {d : Nat} {a1 : Value} {st : List Value} {hp : qzH} : qzV d 51 0 [.null, a1] (st) hp = qzV d 51 1 [.null, a1] (.null :: st) hp := qv_aloadN (i := 0) mdc_51 dX2_record_0 rfl rfl rfl
theorem eX2_record_1 {d : Nat} {a0 a1 : Value} {a : Nat} {st : List Value} {hp : qzH} (ha : qzArr 2 a hp.1 = true) : qzV d 51 1 [a0, a1] (.ref a :: st) hp = qzV d 51 4 [a0, a1] (.int (hp.2.2 a 5) :: st) hp := qv_getI mdc_51 dX2_record_1 mdo_51 qff_2_177 ⟨by decide, rfl⟩ rfl ha
theorem eX2_record_4 {d : Nat} {a1 : Value} {x : Nat} {st : List Value} {hp : qzH} : qzV d 51 4 [.ref x, a1] (st) hp = qzV d 51 5 [.ref x, a1] (.ref x :: st) hp := qv_aload (i := 0) mdc_51 dX2_record_4 rfl rfl rfl
theorem eX2_record_4N {d : Nat} {a1 : Value} {st : List Value} {hp : qzH} : qzV d 51 4 [.null, a1] (st) hp = qzV d 51 5 [.null, a1] (.null :: st) hp := qv_aloadN (i := 0) mdc_51 dX2_record_4 rfl rfl rfl
theorem eX2_record_5 {d : Nat} {a0 a1 : Value} {a : Nat} {st : List Value} {hp : qzH} (ha : qzArr 2 a hp.1 = true) : qzV d 51 5 [a0, a1] (.ref a :: st) hp = qzV d 51 8 [a0, a1] (va_rf (hp.2.1 a 4) :: st) hp := qv_getR mdc_51 dX2_record_5 mdo_51 qff_2_22 ⟨by decide, rfl⟩ rfl ha
theorem eX2_record_8 {d : Nat} {a0 a1 : Value} {a : Nat} {st : List Value} {hp : qzH} (ha : qzArr 4 a hp.1 = true ∨ qzArr 5 a hp.1 = true ∨ qzArr 6 a hp.1 = true) : qzV d 51 8 [a0, a1] (.ref a :: st) hp = qzV d 51 9 [a0, a1] (.int (Int32.ofNat (qzk a).2) :: st) hp := qv_alen mdc_51 dX2_record_8 rfl ha
theorem eX2_record_9 {d : Nat} {a0 a1 : Value} {x y : Int32} {st : List Value} {hp : qzH} : qzV d 51 9 [a0, a1] (.int y :: .int x :: st) hp = if x < y then qzV d 51 16 [a0, a1] (st) hp else qzV d 51 12 [a0, a1] (st) hp := qv_if2 mdc_51 dX2_record_9 rfl rfl rfl
theorem eX2_record_12 {d : Nat} {a1 : Value} {x : Nat} {st : List Value} {hp : qzH} : qzV d 51 12 [.ref x, a1] (st) hp = qzV d 51 13 [.ref x, a1] (.ref x :: st) hp := qv_aload (i := 0) mdc_51 dX2_record_12 rfl rfl rfl
theorem eX2_record_12N {d : Nat} {a1 : Value} {st : List Value} {hp : qzH} : qzV d 51 12 [.null, a1] (st) hp = qzV d 51 13 [.null, a1] (.null :: st) hp := qv_aloadN (i := 0) mdc_51 dX2_record_12 rfl rfl rfl
theorem eX2_record_13 {d : Nat} {a0 a1 : Value} {b : Nat} {st : List Value} {hp : qzH} (h8 : st.length ≤ 8) (hb : qzArr 2 b hp.1 = true) : qzV (d + 1) 51 13 [a0, a1] (.ref b :: st) hp = (qzC d 52 (.ref b :: []) hp).bind (fun r => qzV (d + 1) 51 16 [a0, a1] (r.1.toList ++ st) r.2) := qv_callv (n := 0) mdc_51 dX2_record_13 mdo_51 (by decide) qfc_2_212 ⟨rfl, by decide, rfl⟩ rfl ⟨rfl, rfl, by simp only [List.length_cons]; omega⟩ h8 hb
theorem eX2_record_16 {d : Nat} {a1 : Value} {x : Nat} {st : List Value} {hp : qzH} : qzV d 51 16 [.ref x, a1] (st) hp = qzV d 51 17 [.ref x, a1] (.ref x :: st) hp := qv_aload (i := 0) mdc_51 dX2_record_16 rfl rfl rfl
theorem eX2_record_16N {d : Nat} {a1 : Value} {st : List Value} {hp : qzH} : qzV d 51 16 [.null, a1] (st) hp = qzV d 51 17 [.null, a1] (.null :: st) hp := qv_aloadN (i := 0) mdc_51 dX2_record_16 rfl rfl rfl
theorem eX2_record_17 {d : Nat} {a1 : Value} {x : Nat} {st : List Value} {hp : qzH} : qzV d 51 17 [.ref x, a1] (st) hp = qzV d 51 18 [.ref x, a1] (.ref x :: st) hp := qv_aload (i := 0) mdc_51 dX2_record_17 rfl rfl rfl
theorem eX2_record_17N {d : Nat} {a1 : Value} {st : List Value} {hp : qzH} : qzV d 51 17 [.null, a1] (st) hp = qzV d 51 18 [.null, a1] (.null :: st) hp := qv_aloadN (i := 0) mdc_51 dX2_record_17 rfl rfl rfl
theorem eX2_record_18 {d : Nat} {a0 a1 : Value} {a : Nat} {st : List Value} {hp : qzH} (ha : qzArr 2 a hp.1 = true) : qzV d 51 18 [a0, a1] (.ref a :: st) hp = qzV d 51 21 [a0, a1] (.int (hp.2.2 a 5) :: st) hp := qv_getI mdc_51 dX2_record_18 mdo_51 qff_2_177 ⟨by decide, rfl⟩ rfl ha
theorem eX2_record_21 {d : Nat} {a0 a1 : Value} {w0 : Value} {b : Nat} {st : List Value} {hp : qzH} (h8 : st.length ≤ 8) (hb : qzArr 2 b hp.1 = true) : qzV (d + 1) 51 21 [a0, a1] (w0 :: .ref b :: st) hp = (qzC d 50 (.ref b :: [w0]) hp).bind (fun r => qzV (d + 1) 51 24 [a0, a1] (r.1.toList ++ st) r.2) := qv_callv (n := 1) mdc_51 dX2_record_21 mdo_51 (by decide) qfc_2_204 ⟨rfl, by decide, rfl⟩ rfl ⟨rfl, rfl, by simp only [List.length_cons]; omega⟩ h8 hb
theorem eX2_record_24 {d : Nat} {a0 a1 : Value} {x : Nat} {st : List Value} {hp : qzH} : qzV d 51 24 [a0, a1] (.ref x :: st) hp = qzV d 51 25 [a0, .ref x] (st) hp := qv_astore (i := 1) mdc_51 dX2_record_24 rfl (Nat.le_of_ble_eq_true rfl) rfl rfl
theorem eX2_record_24N {d : Nat} {a0 a1 : Value} {st : List Value} {hp : qzH} : qzV d 51 24 [a0, a1] (.null :: st) hp = qzV d 51 25 [a0, .null] (st) hp := qv_astoreN (i := 1) mdc_51 dX2_record_24 rfl (Nat.le_of_ble_eq_true rfl) rfl rfl
theorem eX2_record_25 {d : Nat} {a0 : Value} {x : Nat} {st : List Value} {hp : qzH} : qzV d 51 25 [a0, .ref x] (st) hp = qzV d 51 26 [a0, .ref x] (.ref x :: st) hp := qv_aload (i := 1) mdc_51 dX2_record_25 rfl rfl rfl
theorem eX2_record_25N {d : Nat} {a0 : Value} {st : List Value} {hp : qzH} : qzV d 51 25 [a0, .null] (st) hp = qzV d 51 26 [a0, .null] (.null :: st) hp := qv_aloadN (i := 1) mdc_51 dX2_record_25 rfl rfl rfl
theorem eX2_record_26 {d : Nat} {a0 a1 : Value} {x : Nat} {st : List Value} {hp : qzH} : qzV d 51 26 [a0, a1] (.ref x :: st) hp = qzV d 51 29 [a0, a1] (st) hp := qv_ifnullR mdc_51 dX2_record_26 (by decide) rfl
theorem eX2_record_26N {d : Nat} {a0 a1 : Value} {st : List Value} {hp : qzH} : qzV d 51 26 [a0, a1] (.null :: st) hp = qzV d 51 47 [a0, a1] (st) hp := qv_ifnullN mdc_51 dX2_record_26 rfl
theorem eX2_record_29 {d : Nat} {a0 : Value} {x : Nat} {st : List Value} {hp : qzH} : qzV d 51 29 [a0, .ref x] (st) hp = qzV d 51 30 [a0, .ref x] (.ref x :: st) hp := qv_aload (i := 1) mdc_51 dX2_record_29 rfl rfl rfl
theorem eX2_record_29N {d : Nat} {a0 : Value} {st : List Value} {hp : qzH} : qzV d 51 29 [a0, .null] (st) hp = qzV d 51 30 [a0, .null] (.null :: st) hp := qv_aloadN (i := 1) mdc_51 dX2_record_29 rfl rfl rfl
theorem eX2_record_30 {d : Nat} {a1 : Value} {x : Nat} {st : List Value} {hp : qzH} : qzV d 51 30 [.ref x, a1] (st) hp = qzV d 51 31 [.ref x, a1] (.ref x :: st) hp := qv_aload (i := 0) mdc_51 dX2_record_30 rfl rfl rfl
theorem eX2_record_30N {d : Nat} {a1 : Value} {st : List Value} {hp : qzH} : qzV d 51 30 [.null, a1] (st) hp = qzV d 51 31 [.null, a1] (.null :: st) hp := qv_aloadN (i := 0) mdc_51 dX2_record_30 rfl rfl rfl
theorem eX2_record_31 {d : Nat} {a0 a1 : Value} {a : Nat} {st : List Value} {hp : qzH} (ha : qzArr 2 a hp.1 = true) : qzV d 51 31 [a0, a1] (.ref a :: st) hp = qzV d 51 34 [a0, a1] (va_rf (hp.2.1 a 0) :: st) hp := qv_getR mdc_51 dX2_record_31 mdo_51 qff_2_10 ⟨by decide, rfl⟩ rfl ha
theorem eX2_record_34 {d : Nat} {a0 a1 : Value} {w0 : Value} {b : Nat} {st : List Value} {hp : qzH} (h8 : st.length ≤ 8) (hb : qzArr 0 b hp.1 = true) : qzV (d + 1) 51 34 [a0, a1] (w0 :: .ref b :: st) hp = (qzC d 1 (.ref b :: [w0]) hp).bind (fun r => qzV (d + 1) 51 37 [a0, a1] (r.1.toList ++ st) r.2) := qv_callv (n := 1) mdc_51 dX2_record_34 mdo_51 (by decide) qfc_2_200 ⟨rfl, by decide, rfl⟩ rfl ⟨rfl, rfl, by simp only [List.length_cons]; omega⟩ h8 hb
theorem eX2_record_37 {d : Nat} {a1 : Value} {x : Nat} {st : List Value} {hp : qzH} : qzV d 51 37 [.ref x, a1] (st) hp = qzV d 51 38 [.ref x, a1] (.ref x :: st) hp := qv_aload (i := 0) mdc_51 dX2_record_37 rfl rfl rfl
theorem eX2_record_37N {d : Nat} {a1 : Value} {st : List Value} {hp : qzH} : qzV d 51 37 [.null, a1] (st) hp = qzV d 51 38 [.null, a1] (.null :: st) hp := qv_aloadN (i := 0) mdc_51 dX2_record_37 rfl rfl rfl
theorem eX2_record_38 {d : Nat} {a0 a1 : Value} {v : Value} {st : List Value} {hp : qzH} : qzV d 51 38 [a0, a1] (v :: st) hp = qzV d 51 39 [a0, a1] (v :: v :: st) hp := qv_dup mdc_51 dX2_record_38 rfl
theorem eX2_record_39 {d : Nat} {a0 a1 : Value} {a : Nat} {st : List Value} {hp : qzH} (ha : qzArr 2 a hp.1 = true) : qzV d 51 39 [a0, a1] (.ref a :: st) hp = qzV d 51 42 [a0, a1] (.int (hp.2.2 a 5) :: st) hp := qv_getI mdc_51 dX2_record_39 mdo_51 qff_2_177 ⟨by decide, rfl⟩ rfl ha
theorem eX2_record_42 {d : Nat} {a0 a1 : Value} {st : List Value} {hp : qzH} : qzV d 51 42 [a0, a1] (st) hp = qzV d 51 43 [a0, a1] (.int 1 :: st) hp := qv_iconst mdc_51 dX2_record_42 il_1 rfl
theorem eX2_record_43 {d : Nat} {a0 a1 : Value} {x y : Int32} {st : List Value} {hp : qzH} : qzV d 51 43 [a0, a1] (.int y :: .int x :: st) hp = qzV d 51 44 [a0, a1] (.int (x + y) :: st) hp := qv_bin (f := fun x y => x + y) mdc_51 dX2_record_43 rfl rfl
theorem eX2_record_44 {d : Nat} {a0 a1 : Value} {a : Nat} {x : Int32} {st : List Value} {hp : qzH} (ha : qzArr 2 a hp.1 = true) : qzV d 51 44 [a0, a1] (.int x :: .ref a :: st) hp = qzV d 51 47 [a0, a1] st (hp.1, hp.2.1, qzUp hp.2.2 a 5 x) := qv_putI mdc_51 dX2_record_44 mdo_51 qff_2_177 ⟨by decide, rfl, rfl⟩ rfl ha ⟨rfl, rfl⟩
theorem eX2_record_47 {d : Nat} {a0 a1 : Value} {hp : qzH} : qzV d 51 47 [a0, a1] [] hp = some (none, hp) := qv_vret mdc_51 dX2_record_47 mdr_51
theorem dX2_dropOldest_0 : decode cX2_dropOldest 0 = .ok (.aload_n 0, 1) := by decide +kernel
theorem dX2_dropOldest_1 : decode cX2_dropOldest 1 = .ok (.iconst 0, 1) := by decide +kernel
theorem dX2_dropOldest_2 : decode cX2_dropOldest 2 = .ok (.invokevirtual 204, 3) := by decide +kernel
theorem dX2_dropOldest_5 : decode cX2_dropOldest 5 = .ok (.astore_n 1, 1) := by decide +kernel
theorem dX2_dropOldest_6 : decode cX2_dropOldest 6 = .ok (.iconst 1, 1) := by decide +kernel
theorem dX2_dropOldest_7 : decode cX2_dropOldest 7 = .ok (.istore_n 2, 1) := by decide +kernel
theorem dX2_dropOldest_8 : decode cX2_dropOldest 8 = .ok (.iload_n 2, 1) := by decide +kernel
theorem dX2_dropOldest_9 : decode cX2_dropOldest 9 = .ok (.aload_n 0, 1) := by decide +kernel
theorem dX2_dropOldest_10 : decode cX2_dropOldest 10 = .ok (.getfield 22, 3) := by decide +kernel
theorem dX2_dropOldest_13 : decode cX2_dropOldest 13 = .ok (.arraylength, 1) := by decide +kernel
theorem dX2_dropOldest_14 : decode cX2_dropOldest 14 = .ok (.if_icmp .ge 23, 3) := by decide +kernel
theorem dX2_dropOldest_17 : decode cX2_dropOldest 17 = .ok (.aload_n 0, 1) := by decide +kernel
theorem dX2_dropOldest_18 : decode cX2_dropOldest 18 = .ok (.getfield 22, 3) := by decide +kernel
theorem dX2_dropOldest_21 : decode cX2_dropOldest 21 = .ok (.iload_n 2, 1) := by decide +kernel
theorem dX2_dropOldest_22 : decode cX2_dropOldest 22 = .ok (.iconst 1, 1) := by decide +kernel
theorem dX2_dropOldest_23 : decode cX2_dropOldest 23 = .ok (.isub, 1) := by decide +kernel
theorem dX2_dropOldest_24 : decode cX2_dropOldest 24 = .ok (.aload_n 0, 1) := by decide +kernel
theorem dX2_dropOldest_25 : decode cX2_dropOldest 25 = .ok (.getfield 22, 3) := by decide +kernel
theorem dX2_dropOldest_28 : decode cX2_dropOldest 28 = .ok (.iload_n 2, 1) := by decide +kernel
theorem dX2_dropOldest_29 : decode cX2_dropOldest 29 = .ok (.aaload, 1) := by decide +kernel
theorem dX2_dropOldest_30 : decode cX2_dropOldest 30 = .ok (.aastore, 1) := by decide +kernel
theorem dX2_dropOldest_31 : decode cX2_dropOldest 31 = .ok (.iinc 2 1, 3) := by decide +kernel
theorem dX2_dropOldest_34 : decode cX2_dropOldest 34 = .ok (.goto (-26), 3) := by decide +kernel
theorem dX2_dropOldest_37 : decode cX2_dropOldest 37 = .ok (.aload_n 0, 1) := by decide +kernel
theorem dX2_dropOldest_38 : decode cX2_dropOldest 38 = .ok (.getfield 22, 3) := by decide +kernel
theorem dX2_dropOldest_41 : decode cX2_dropOldest 41 = .ok (.arraylength, 1) := by decide +kernel
theorem dX2_dropOldest_42 : decode cX2_dropOldest 42 = .ok (.ifCond .le 16, 3) := by decide +kernel
theorem dX2_dropOldest_45 : decode cX2_dropOldest 45 = .ok (.aload_n 0, 1) := by decide +kernel
theorem dX2_dropOldest_46 : decode cX2_dropOldest 46 = .ok (.getfield 22, 3) := by decide +kernel
theorem dX2_dropOldest_49 : decode cX2_dropOldest 49 = .ok (.aload_n 0, 1) := by decide +kernel
theorem dX2_dropOldest_50 : decode cX2_dropOldest 50 = .ok (.getfield 22, 3) := by decide +kernel
theorem dX2_dropOldest_53 : decode cX2_dropOldest 53 = .ok (.arraylength, 1) := by decide +kernel
theorem dX2_dropOldest_54 : decode cX2_dropOldest 54 = .ok (.iconst 1, 1) := by decide +kernel
theorem dX2_dropOldest_55 : decode cX2_dropOldest 55 = .ok (.isub, 1) := by decide +kernel
theorem dX2_dropOldest_56 : decode cX2_dropOldest 56 = .ok (.aload_n 1, 1) := by decide +kernel
theorem dX2_dropOldest_57 : decode cX2_dropOldest 57 = .ok (.aastore, 1) := by decide +kernel
theorem dX2_dropOldest_58 : decode cX2_dropOldest 58 = .ok (.aload_n 0, 1) := by decide +kernel
theorem dX2_dropOldest_59 : decode cX2_dropOldest 59 = .ok (.aload_n 0, 1) := by decide +kernel
theorem dX2_dropOldest_60 : decode cX2_dropOldest 60 = .ok (.getfield 22, 3) := by decide +kernel
theorem dX2_dropOldest_63 : decode cX2_dropOldest 63 = .ok (.arraylength, 1) := by decide +kernel
theorem dX2_dropOldest_64 : decode cX2_dropOldest 64 = .ok (.iconst 1, 1) := by decide +kernel
theorem dX2_dropOldest_65 : decode cX2_dropOldest 65 = .ok (.isub, 1) := by decide +kernel
theorem dX2_dropOldest_66 : decode cX2_dropOldest 66 = .ok (.putfield 177, 3) := by decide +kernel
theorem dX2_dropOldest_69 : decode cX2_dropOldest 69 = .ok (.return_, 1) := by decide +kernel
theorem eX2_dropOldest_0 {d : Nat} {a1 a2 : Value} {x : Nat} {st : List Value} {hp : qzH} : qzV d 52 0 [.ref x, a1, a2] (st) hp = qzV d 52 1 [.ref x, a1, a2] (.ref x :: st) hp := qv_aload (i := 0) mdc_52 dX2_dropOldest_0 rfl rfl rfl
theorem eX2_dropOldest_0N {d : Nat} {a1 a2 : Value} {st : List Value} {hp : qzH} : qzV d 52 0 [.null, a1, a2] (st) hp = qzV d 52 1 [.null, a1, a2] (.null :: st) hp := qv_aloadN (i := 0) mdc_52 dX2_dropOldest_0 rfl rfl rfl
theorem eX2_dropOldest_1 {d : Nat} {a0 a1 a2 : Value} {st : List Value} {hp : qzH} : qzV d 52 1 [a0, a1, a2] (st) hp = qzV d 52 2 [a0, a1, a2] (.int 0 :: st) hp := qv_iconst mdc_52 dX2_dropOldest_1 il_0 rfl
theorem eX2_dropOldest_2 {d : Nat} {a0 a1 a2 : Value} {w0 : Value} {b : Nat} {st : List Value} {hp : qzH} (h8 : st.length ≤ 8) (hb : qzArr 2 b hp.1 = true) : qzV (d + 1) 52 2 [a0, a1, a2] (w0 :: .ref b :: st) hp = (qzC d 50 (.ref b :: [w0]) hp).bind (fun r => qzV (d + 1) 52 5 [a0, a1, a2] (r.1.toList ++ st) r.2) := qv_callv (n := 1) mdc_52 dX2_dropOldest_2 mdo_52 (by decide) qfc_2_204 ⟨rfl, by decide, rfl⟩ rfl ⟨rfl, rfl, by simp only [List.length_cons]; omega⟩ h8 hb
theorem eX2_dropOldest_5 {d : Nat} {a0 a1 a2 : Value} {x : Nat} {st : List Value} {hp : qzH} : qzV d 52 5 [a0, a1, a2] (.ref x :: st) hp = qzV d 52 6 [a0, .ref x, a2] (st) hp := qv_astore (i := 1) mdc_52 dX2_dropOldest_5 rfl (Nat.le_of_ble_eq_true rfl) rfl rfl
theorem eX2_dropOldest_5N {d : Nat} {a0 a1 a2 : Value} {st : List Value} {hp : qzH} : qzV d 52 5 [a0, a1, a2] (.null :: st) hp = qzV d 52 6 [a0, .null, a2] (st) hp := qv_astoreN (i := 1) mdc_52 dX2_dropOldest_5 rfl (Nat.le_of_ble_eq_true rfl) rfl rfl
theorem eX2_dropOldest_6 {d : Nat} {a0 a1 a2 : Value} {st : List Value} {hp : qzH} : qzV d 52 6 [a0, a1, a2] (st) hp = qzV d 52 7 [a0, a1, a2] (.int 1 :: st) hp := qv_iconst mdc_52 dX2_dropOldest_6 il_1 rfl
theorem eX2_dropOldest_7 {d : Nat} {a0 a1 a2 : Value} {x : Int32} {st : List Value} {hp : qzH} : qzV d 52 7 [a0, a1, a2] (.int x :: st) hp = qzV d 52 8 [a0, a1, .int x] (st) hp := qv_istore (i := 2) mdc_52 dX2_dropOldest_7 rfl (Nat.le_of_ble_eq_true rfl) rfl rfl
theorem eX2_dropOldest_8 {d : Nat} {a0 a1 : Value} {x : Int32} {st : List Value} {hp : qzH} : qzV d 52 8 [a0, a1, .int x] (st) hp = qzV d 52 9 [a0, a1, .int x] (.int x :: st) hp := qv_iload (i := 2) mdc_52 dX2_dropOldest_8 rfl rfl rfl
theorem eX2_dropOldest_9 {d : Nat} {a1 a2 : Value} {x : Nat} {st : List Value} {hp : qzH} : qzV d 52 9 [.ref x, a1, a2] (st) hp = qzV d 52 10 [.ref x, a1, a2] (.ref x :: st) hp := qv_aload (i := 0) mdc_52 dX2_dropOldest_9 rfl rfl rfl
theorem eX2_dropOldest_9N {d : Nat} {a1 a2 : Value} {st : List Value} {hp : qzH} : qzV d 52 9 [.null, a1, a2] (st) hp = qzV d 52 10 [.null, a1, a2] (.null :: st) hp := qv_aloadN (i := 0) mdc_52 dX2_dropOldest_9 rfl rfl rfl
theorem eX2_dropOldest_10 {d : Nat} {a0 a1 a2 : Value} {a : Nat} {st : List Value} {hp : qzH} (ha : qzArr 2 a hp.1 = true) : qzV d 52 10 [a0, a1, a2] (.ref a :: st) hp = qzV d 52 13 [a0, a1, a2] (va_rf (hp.2.1 a 4) :: st) hp := qv_getR mdc_52 dX2_dropOldest_10 mdo_52 qff_2_22 ⟨by decide, rfl⟩ rfl ha
theorem eX2_dropOldest_13 {d : Nat} {a0 a1 a2 : Value} {a : Nat} {st : List Value} {hp : qzH} (ha : qzArr 4 a hp.1 = true ∨ qzArr 5 a hp.1 = true ∨ qzArr 6 a hp.1 = true) : qzV d 52 13 [a0, a1, a2] (.ref a :: st) hp = qzV d 52 14 [a0, a1, a2] (.int (Int32.ofNat (qzk a).2) :: st) hp := qv_alen mdc_52 dX2_dropOldest_13 rfl ha
theorem eX2_dropOldest_14 {d : Nat} {a0 a1 a2 : Value} {x y : Int32} {st : List Value} {hp : qzH} : qzV d 52 14 [a0, a1, a2] (.int y :: .int x :: st) hp = if y ≤ x then qzV d 52 37 [a0, a1, a2] (st) hp else qzV d 52 17 [a0, a1, a2] (st) hp := qv_if2 mdc_52 dX2_dropOldest_14 rfl rfl rfl
theorem eX2_dropOldest_17 {d : Nat} {a1 a2 : Value} {x : Nat} {st : List Value} {hp : qzH} : qzV d 52 17 [.ref x, a1, a2] (st) hp = qzV d 52 18 [.ref x, a1, a2] (.ref x :: st) hp := qv_aload (i := 0) mdc_52 dX2_dropOldest_17 rfl rfl rfl
theorem eX2_dropOldest_17N {d : Nat} {a1 a2 : Value} {st : List Value} {hp : qzH} : qzV d 52 17 [.null, a1, a2] (st) hp = qzV d 52 18 [.null, a1, a2] (.null :: st) hp := qv_aloadN (i := 0) mdc_52 dX2_dropOldest_17 rfl rfl rfl
theorem eX2_dropOldest_18 {d : Nat} {a0 a1 a2 : Value} {a : Nat} {st : List Value} {hp : qzH} (ha : qzArr 2 a hp.1 = true) : qzV d 52 18 [a0, a1, a2] (.ref a :: st) hp = qzV d 52 21 [a0, a1, a2] (va_rf (hp.2.1 a 4) :: st) hp := qv_getR mdc_52 dX2_dropOldest_18 mdo_52 qff_2_22 ⟨by decide, rfl⟩ rfl ha
theorem eX2_dropOldest_21 {d : Nat} {a0 a1 : Value} {x : Int32} {st : List Value} {hp : qzH} : qzV d 52 21 [a0, a1, .int x] (st) hp = qzV d 52 22 [a0, a1, .int x] (.int x :: st) hp := qv_iload (i := 2) mdc_52 dX2_dropOldest_21 rfl rfl rfl
theorem eX2_dropOldest_22 {d : Nat} {a0 a1 a2 : Value} {st : List Value} {hp : qzH} : qzV d 52 22 [a0, a1, a2] (st) hp = qzV d 52 23 [a0, a1, a2] (.int 1 :: st) hp := qv_iconst mdc_52 dX2_dropOldest_22 il_1 rfl
theorem eX2_dropOldest_23 {d : Nat} {a0 a1 a2 : Value} {x y : Int32} {st : List Value} {hp : qzH} : qzV d 52 23 [a0, a1, a2] (.int y :: .int x :: st) hp = qzV d 52 24 [a0, a1, a2] (.int (x - y) :: st) hp := qv_bin (f := fun x y => x - y) mdc_52 dX2_dropOldest_23 rfl rfl
theorem eX2_dropOldest_24 {d : Nat} {a1 a2 : Value} {x : Nat} {st : List Value} {hp : qzH} : qzV d 52 24 [.ref x, a1, a2] (st) hp = qzV d 52 25 [.ref x, a1, a2] (.ref x :: st) hp := qv_aload (i := 0) mdc_52 dX2_dropOldest_24 rfl rfl rfl
theorem eX2_dropOldest_24N {d : Nat} {a1 a2 : Value} {st : List Value} {hp : qzH} : qzV d 52 24 [.null, a1, a2] (st) hp = qzV d 52 25 [.null, a1, a2] (.null :: st) hp := qv_aloadN (i := 0) mdc_52 dX2_dropOldest_24 rfl rfl rfl
theorem eX2_dropOldest_25 {d : Nat} {a0 a1 a2 : Value} {a : Nat} {st : List Value} {hp : qzH} (ha : qzArr 2 a hp.1 = true) : qzV d 52 25 [a0, a1, a2] (.ref a :: st) hp = qzV d 52 28 [a0, a1, a2] (va_rf (hp.2.1 a 4) :: st) hp := qv_getR mdc_52 dX2_dropOldest_25 mdo_52 qff_2_22 ⟨by decide, rfl⟩ rfl ha
theorem eX2_dropOldest_28 {d : Nat} {a0 a1 : Value} {x : Int32} {st : List Value} {hp : qzH} : qzV d 52 28 [a0, a1, .int x] (st) hp = qzV d 52 29 [a0, a1, .int x] (.int x :: st) hp := qv_iload (i := 2) mdc_52 dX2_dropOldest_28 rfl rfl rfl
theorem eX2_dropOldest_29 {d : Nat} {a0 a1 a2 : Value} {i : Int32} {a : Nat} {st : List Value} {hp : qzH} (ha : qzArr 6 a hp.1 = true) (hi : qzIn i (qzk a).2 = true) : qzV d 52 29 [a0, a1, a2] (.int i :: .ref a :: st) hp = qzV d 52 30 [a0, a1, a2] (va_rf (hp.2.1 a i.toNatClampNeg) :: st) hp := qv_aald mdc_52 dX2_dropOldest_29 rfl ha hi
theorem eX2_dropOldest_30 {d : Nat} {a0 a1 a2 : Value} {i : Int32} {a v : Nat} {st : List Value} {hp : qzH} (ha : qzArr 6 a hp.1 = true) (hv : qzArr 0 v hp.1 = true) (hi : qzIn i (qzk a).2 = true) : qzV d 52 30 [a0, a1, a2] (.ref v :: .int i :: .ref a :: st) hp = qzV d 52 31 [a0, a1, a2] st (hp.1, qzUp hp.2.1 a i.toNatClampNeg (some v), hp.2.2) := qv_aast mdc_52 dX2_dropOldest_30 rfl ha hv hi
theorem eX2_dropOldest_31 {d : Nat} {a0 a1 : Value} {x : Int32} {st : List Value} {hp : qzH} : qzV d 52 31 [a0, a1, .int x] (st) hp = qzV d 52 34 [a0, a1, .int (x + 1)] (st) hp := qv_iinc mdc_52 dX2_dropOldest_31 rfl il_1 rfl rfl
theorem eX2_dropOldest_34 {d : Nat} {a0 a1 a2 : Value} {st : List Value} {hp : qzH} : qzV d 52 34 [a0, a1, a2] (st) hp = qzV d 52 8 [a0, a1, a2] (st) hp := qv_goto mdc_52 dX2_dropOldest_34 rfl
theorem eX2_dropOldest_37 {d : Nat} {a1 a2 : Value} {x : Nat} {st : List Value} {hp : qzH} : qzV d 52 37 [.ref x, a1, a2] (st) hp = qzV d 52 38 [.ref x, a1, a2] (.ref x :: st) hp := qv_aload (i := 0) mdc_52 dX2_dropOldest_37 rfl rfl rfl
theorem eX2_dropOldest_37N {d : Nat} {a1 a2 : Value} {st : List Value} {hp : qzH} : qzV d 52 37 [.null, a1, a2] (st) hp = qzV d 52 38 [.null, a1, a2] (.null :: st) hp := qv_aloadN (i := 0) mdc_52 dX2_dropOldest_37 rfl rfl rfl
theorem eX2_dropOldest_38 {d : Nat} {a0 a1 a2 : Value} {a : Nat} {st : List Value} {hp : qzH} (ha : qzArr 2 a hp.1 = true) : qzV d 52 38 [a0, a1, a2] (.ref a :: st) hp = qzV d 52 41 [a0, a1, a2] (va_rf (hp.2.1 a 4) :: st) hp := qv_getR mdc_52 dX2_dropOldest_38 mdo_52 qff_2_22 ⟨by decide, rfl⟩ rfl ha
theorem eX2_dropOldest_41 {d : Nat} {a0 a1 a2 : Value} {a : Nat} {st : List Value} {hp : qzH} (ha : qzArr 4 a hp.1 = true ∨ qzArr 5 a hp.1 = true ∨ qzArr 6 a hp.1 = true) : qzV d 52 41 [a0, a1, a2] (.ref a :: st) hp = qzV d 52 42 [a0, a1, a2] (.int (Int32.ofNat (qzk a).2) :: st) hp := qv_alen mdc_52 dX2_dropOldest_41 rfl ha
theorem eX2_dropOldest_42 {d : Nat} {a0 a1 a2 : Value} {x : Int32} {st : List Value} {hp : qzH} : qzV d 52 42 [a0, a1, a2] (.int x :: st) hp = if x ≤ 0 then qzV d 52 58 [a0, a1, a2] (st) hp else qzV d 52 45 [a0, a1, a2] (st) hp := qv_if1 mdc_52 dX2_dropOldest_42 rfl rfl rfl
theorem eX2_dropOldest_45 {d : Nat} {a1 a2 : Value} {x : Nat} {st : List Value} {hp : qzH} : qzV d 52 45 [.ref x, a1, a2] (st) hp = qzV d 52 46 [.ref x, a1, a2] (.ref x :: st) hp := qv_aload (i := 0) mdc_52 dX2_dropOldest_45 rfl rfl rfl
theorem eX2_dropOldest_45N {d : Nat} {a1 a2 : Value} {st : List Value} {hp : qzH} : qzV d 52 45 [.null, a1, a2] (st) hp = qzV d 52 46 [.null, a1, a2] (.null :: st) hp := qv_aloadN (i := 0) mdc_52 dX2_dropOldest_45 rfl rfl rfl
theorem eX2_dropOldest_46 {d : Nat} {a0 a1 a2 : Value} {a : Nat} {st : List Value} {hp : qzH} (ha : qzArr 2 a hp.1 = true) : qzV d 52 46 [a0, a1, a2] (.ref a :: st) hp = qzV d 52 49 [a0, a1, a2] (va_rf (hp.2.1 a 4) :: st) hp := qv_getR mdc_52 dX2_dropOldest_46 mdo_52 qff_2_22 ⟨by decide, rfl⟩ rfl ha
theorem eX2_dropOldest_49 {d : Nat} {a1 a2 : Value} {x : Nat} {st : List Value} {hp : qzH} : qzV d 52 49 [.ref x, a1, a2] (st) hp = qzV d 52 50 [.ref x, a1, a2] (.ref x :: st) hp := qv_aload (i := 0) mdc_52 dX2_dropOldest_49 rfl rfl rfl
theorem eX2_dropOldest_49N {d : Nat} {a1 a2 : Value} {st : List Value} {hp : qzH} : qzV d 52 49 [.null, a1, a2] (st) hp = qzV d 52 50 [.null, a1, a2] (.null :: st) hp := qv_aloadN (i := 0) mdc_52 dX2_dropOldest_49 rfl rfl rfl
theorem eX2_dropOldest_50 {d : Nat} {a0 a1 a2 : Value} {a : Nat} {st : List Value} {hp : qzH} (ha : qzArr 2 a hp.1 = true) : qzV d 52 50 [a0, a1, a2] (.ref a :: st) hp = qzV d 52 53 [a0, a1, a2] (va_rf (hp.2.1 a 4) :: st) hp := qv_getR mdc_52 dX2_dropOldest_50 mdo_52 qff_2_22 ⟨by decide, rfl⟩ rfl ha
theorem eX2_dropOldest_53 {d : Nat} {a0 a1 a2 : Value} {a : Nat} {st : List Value} {hp : qzH} (ha : qzArr 4 a hp.1 = true ∨ qzArr 5 a hp.1 = true ∨ qzArr 6 a hp.1 = true) : qzV d 52 53 [a0, a1, a2] (.ref a :: st) hp = qzV d 52 54 [a0, a1, a2] (.int (Int32.ofNat (qzk a).2) :: st) hp := qv_alen mdc_52 dX2_dropOldest_53 rfl ha
theorem eX2_dropOldest_54 {d : Nat} {a0 a1 a2 : Value} {st : List Value} {hp : qzH} : qzV d 52 54 [a0, a1, a2] (st) hp = qzV d 52 55 [a0, a1, a2] (.int 1 :: st) hp := qv_iconst mdc_52 dX2_dropOldest_54 il_1 rfl
theorem eX2_dropOldest_55 {d : Nat} {a0 a1 a2 : Value} {x y : Int32} {st : List Value} {hp : qzH} : qzV d 52 55 [a0, a1, a2] (.int y :: .int x :: st) hp = qzV d 52 56 [a0, a1, a2] (.int (x - y) :: st) hp := qv_bin (f := fun x y => x - y) mdc_52 dX2_dropOldest_55 rfl rfl
theorem eX2_dropOldest_56 {d : Nat} {a0 a2 : Value} {x : Nat} {st : List Value} {hp : qzH} : qzV d 52 56 [a0, .ref x, a2] (st) hp = qzV d 52 57 [a0, .ref x, a2] (.ref x :: st) hp := qv_aload (i := 1) mdc_52 dX2_dropOldest_56 rfl rfl rfl
theorem eX2_dropOldest_56N {d : Nat} {a0 a2 : Value} {st : List Value} {hp : qzH} : qzV d 52 56 [a0, .null, a2] (st) hp = qzV d 52 57 [a0, .null, a2] (.null :: st) hp := qv_aloadN (i := 1) mdc_52 dX2_dropOldest_56 rfl rfl rfl
theorem eX2_dropOldest_57 {d : Nat} {a0 a1 a2 : Value} {i : Int32} {a v : Nat} {st : List Value} {hp : qzH} (ha : qzArr 6 a hp.1 = true) (hv : qzArr 0 v hp.1 = true) (hi : qzIn i (qzk a).2 = true) : qzV d 52 57 [a0, a1, a2] (.ref v :: .int i :: .ref a :: st) hp = qzV d 52 58 [a0, a1, a2] st (hp.1, qzUp hp.2.1 a i.toNatClampNeg (some v), hp.2.2) := qv_aast mdc_52 dX2_dropOldest_57 rfl ha hv hi
theorem eX2_dropOldest_58 {d : Nat} {a1 a2 : Value} {x : Nat} {st : List Value} {hp : qzH} : qzV d 52 58 [.ref x, a1, a2] (st) hp = qzV d 52 59 [.ref x, a1, a2] (.ref x :: st) hp := qv_aload (i := 0) mdc_52 dX2_dropOldest_58 rfl rfl rfl
theorem eX2_dropOldest_58N {d : Nat} {a1 a2 : Value} {st : List Value} {hp : qzH} : qzV d 52 58 [.null, a1, a2] (st) hp = qzV d 52 59 [.null, a1, a2] (.null :: st) hp := qv_aloadN (i := 0) mdc_52 dX2_dropOldest_58 rfl rfl rfl
theorem eX2_dropOldest_59 {d : Nat} {a1 a2 : Value} {x : Nat} {st : List Value} {hp : qzH} : qzV d 52 59 [.ref x, a1, a2] (st) hp = qzV d 52 60 [.ref x, a1, a2] (.ref x :: st) hp := qv_aload (i := 0) mdc_52 dX2_dropOldest_59 rfl rfl rfl
theorem eX2_dropOldest_59N {d : Nat} {a1 a2 : Value} {st : List Value} {hp : qzH} : qzV d 52 59 [.null, a1, a2] (st) hp = qzV d 52 60 [.null, a1, a2] (.null :: st) hp := qv_aloadN (i := 0) mdc_52 dX2_dropOldest_59 rfl rfl rfl
theorem eX2_dropOldest_60 {d : Nat} {a0 a1 a2 : Value} {a : Nat} {st : List Value} {hp : qzH} (ha : qzArr 2 a hp.1 = true) : qzV d 52 60 [a0, a1, a2] (.ref a :: st) hp = qzV d 52 63 [a0, a1, a2] (va_rf (hp.2.1 a 4) :: st) hp := qv_getR mdc_52 dX2_dropOldest_60 mdo_52 qff_2_22 ⟨by decide, rfl⟩ rfl ha
theorem eX2_dropOldest_63 {d : Nat} {a0 a1 a2 : Value} {a : Nat} {st : List Value} {hp : qzH} (ha : qzArr 4 a hp.1 = true ∨ qzArr 5 a hp.1 = true ∨ qzArr 6 a hp.1 = true) : qzV d 52 63 [a0, a1, a2] (.ref a :: st) hp = qzV d 52 64 [a0, a1, a2] (.int (Int32.ofNat (qzk a).2) :: st) hp := qv_alen mdc_52 dX2_dropOldest_63 rfl ha
theorem eX2_dropOldest_64 {d : Nat} {a0 a1 a2 : Value} {st : List Value} {hp : qzH} : qzV d 52 64 [a0, a1, a2] (st) hp = qzV d 52 65 [a0, a1, a2] (.int 1 :: st) hp := qv_iconst mdc_52 dX2_dropOldest_64 il_1 rfl
theorem eX2_dropOldest_65 {d : Nat} {a0 a1 a2 : Value} {x y : Int32} {st : List Value} {hp : qzH} : qzV d 52 65 [a0, a1, a2] (.int y :: .int x :: st) hp = qzV d 52 66 [a0, a1, a2] (.int (x - y) :: st) hp := qv_bin (f := fun x y => x - y) mdc_52 dX2_dropOldest_65 rfl rfl
theorem eX2_dropOldest_66 {d : Nat} {a0 a1 a2 : Value} {a : Nat} {x : Int32} {st : List Value} {hp : qzH} (ha : qzArr 2 a hp.1 = true) : qzV d 52 66 [a0, a1, a2] (.int x :: .ref a :: st) hp = qzV d 52 69 [a0, a1, a2] st (hp.1, hp.2.1, qzUp hp.2.2 a 5 x) := qv_putI mdc_52 dX2_dropOldest_66 mdo_52 qff_2_177 ⟨by decide, rfl, rfl⟩ rfl ha ⟨rfl, rfl⟩
theorem eX2_dropOldest_69 {d : Nat} {a0 a1 a2 : Value} {hp : qzH} : qzV d 52 69 [a0, a1, a2] [] hp = some (none, hp) := qv_vret mdc_52 dX2_dropOldest_69 mdr_52
theorem dX2_codeOf_0 : decode cX2_codeOf 0 = .ok (.iload_n 1, 1) := by decide +kernel
theorem dX2_codeOf_1 : decode cX2_codeOf 1 = .ok (.ifCond .eq 7, 3) := by decide +kernel
theorem dX2_codeOf_4 : decode cX2_codeOf 4 = .ok (.iload_n 0, 1) := by decide +kernel
theorem dX2_codeOf_5 : decode cX2_codeOf 5 = .ok (.goto 7, 3) := by decide +kernel
theorem dX2_codeOf_8 : decode cX2_codeOf 8 = .ok (.iload_n 0, 1) := by decide +kernel
theorem dX2_codeOf_9 : decode cX2_codeOf 9 = .ok (.bipush 10, 2) := by decide +kernel
theorem dX2_codeOf_11 : decode cX2_codeOf 11 = .ok (.iadd, 1) := by decide +kernel
theorem dX2_codeOf_12 : decode cX2_codeOf 12 = .ok (.ireturn, 1) := by decide +kernel
theorem eX2_codeOf_0 {d : Nat} {a0 : Value} {x : Int32} {st : List Value} {hp : qzH} : qzV d 53 0 [a0, .int x] (st) hp = qzV d 53 1 [a0, .int x] (.int x :: st) hp := qv_iload (i := 1) mdc_53 dX2_codeOf_0 rfl rfl rfl
theorem eX2_codeOf_1 {d : Nat} {a0 a1 : Value} {x : Int32} {st : List Value} {hp : qzH} : qzV d 53 1 [a0, a1] (.int x :: st) hp = if x = 0 then qzV d 53 8 [a0, a1] (st) hp else qzV d 53 4 [a0, a1] (st) hp := qv_if1 mdc_53 dX2_codeOf_1 rfl rfl rfl
theorem eX2_codeOf_4 {d : Nat} {a1 : Value} {x : Int32} {st : List Value} {hp : qzH} : qzV d 53 4 [.int x, a1] (st) hp = qzV d 53 5 [.int x, a1] (.int x :: st) hp := qv_iload (i := 0) mdc_53 dX2_codeOf_4 rfl rfl rfl
theorem eX2_codeOf_5 {d : Nat} {a0 a1 : Value} {st : List Value} {hp : qzH} : qzV d 53 5 [a0, a1] (st) hp = qzV d 53 12 [a0, a1] (st) hp := qv_goto mdc_53 dX2_codeOf_5 rfl
theorem eX2_codeOf_8 {d : Nat} {a1 : Value} {x : Int32} {st : List Value} {hp : qzH} : qzV d 53 8 [.int x, a1] (st) hp = qzV d 53 9 [.int x, a1] (.int x :: st) hp := qv_iload (i := 0) mdc_53 dX2_codeOf_8 rfl rfl rfl
theorem eX2_codeOf_9 {d : Nat} {a0 a1 : Value} {st : List Value} {hp : qzH} : qzV d 53 9 [a0, a1] (st) hp = qzV d 53 11 [a0, a1] (.int 10 :: st) hp := qv_bipush mdc_53 dX2_codeOf_9 ib_10 rfl
theorem eX2_codeOf_11 {d : Nat} {a0 a1 : Value} {x y : Int32} {st : List Value} {hp : qzH} : qzV d 53 11 [a0, a1] (.int y :: .int x :: st) hp = qzV d 53 12 [a0, a1] (.int (x + y) :: st) hp := qv_bin (f := fun x y => x + y) mdc_53 dX2_codeOf_11 rfl rfl
theorem eX2_codeOf_12 {d : Nat} {a0 a1 : Value} {v : Int32} {hp : qzH} : qzV d 53 12 [a0, a1] [.int v] hp = some (some (.int v), hp) := qv_iret mdc_53 dX2_codeOf_12 mdr_53 rfl
theorem dX2_isFromLeft_0 : decode cX2_isFromLeft 0 = .ok (.iload_n 0, 1) := by decide +kernel
theorem dX2_isFromLeft_1 : decode cX2_isFromLeft 1 = .ok (.bipush 10, 2) := by decide +kernel
theorem dX2_isFromLeft_3 : decode cX2_isFromLeft 3 = .ok (.if_icmp .ge 7, 3) := by decide +kernel
theorem dX2_isFromLeft_6 : decode cX2_isFromLeft 6 = .ok (.iconst 1, 1) := by decide +kernel
theorem dX2_isFromLeft_7 : decode cX2_isFromLeft 7 = .ok (.goto 4, 3) := by decide +kernel
theorem dX2_isFromLeft_10 : decode cX2_isFromLeft 10 = .ok (.iconst 0, 1) := by decide +kernel
theorem dX2_isFromLeft_11 : decode cX2_isFromLeft 11 = .ok (.ireturn, 1) := by decide +kernel
theorem eX2_isFromLeft_0 {d : Nat} {x : Int32} {st : List Value} {hp : qzH} : qzV d 54 0 [.int x] (st) hp = qzV d 54 1 [.int x] (.int x :: st) hp := qv_iload (i := 0) mdc_54 dX2_isFromLeft_0 rfl rfl rfl
theorem eX2_isFromLeft_1 {d : Nat} {a0 : Value} {st : List Value} {hp : qzH} : qzV d 54 1 [a0] (st) hp = qzV d 54 3 [a0] (.int 10 :: st) hp := qv_bipush mdc_54 dX2_isFromLeft_1 ib_10 rfl
theorem eX2_isFromLeft_3 {d : Nat} {a0 : Value} {x y : Int32} {st : List Value} {hp : qzH} : qzV d 54 3 [a0] (.int y :: .int x :: st) hp = if y ≤ x then qzV d 54 10 [a0] (st) hp else qzV d 54 6 [a0] (st) hp := qv_if2 mdc_54 dX2_isFromLeft_3 rfl rfl rfl
theorem eX2_isFromLeft_6 {d : Nat} {a0 : Value} {st : List Value} {hp : qzH} : qzV d 54 6 [a0] (st) hp = qzV d 54 7 [a0] (.int 1 :: st) hp := qv_iconst mdc_54 dX2_isFromLeft_6 il_1 rfl
theorem eX2_isFromLeft_7 {d : Nat} {a0 : Value} {st : List Value} {hp : qzH} : qzV d 54 7 [a0] (st) hp = qzV d 54 11 [a0] (st) hp := qv_goto mdc_54 dX2_isFromLeft_7 rfl
theorem eX2_isFromLeft_10 {d : Nat} {a0 : Value} {st : List Value} {hp : qzH} : qzV d 54 10 [a0] (st) hp = qzV d 54 11 [a0] (.int 0 :: st) hp := qv_iconst mdc_54 dX2_isFromLeft_10 il_0 rfl
theorem eX2_isFromLeft_11 {d : Nat} {a0 : Value} {v : Int32} {hp : qzH} (hn : narrow .boolean (.int v) = .int v) : qzV d 54 11 [a0] [.int v] hp = some (some (.int v), hp) := qv_iret mdc_54 dX2_isFromLeft_11 mdr_54 hn
