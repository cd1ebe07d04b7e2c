theorem dX0_init_0 : decode cX0_init 0 = .ok (.aload_n 0, 1) := by decide +kernel
theorem dX0_init_1 : decode cX0_init 1 = .ok (.invokespecial 3, 3) := by decide +kernel
theorem dX0_init_4 : decode cX0_init 4 = .ok (.aload_n 0, 1) := by decide +kernel
theorem dX0_init_5 : decode cX0_init 5 = .ok (.bipush 20, 2) := by decide +kernel
theorem dX0_init_7 : decode cX0_init 7 = .ok (.newarray .int, 2) := by decide +kernel
theorem dX0_init_9 : decode cX0_init 9 = .ok (.putfield 9, 3) := by decide +kernel
theorem dX0_init_12 : decode cX0_init 12 = .ok (.aload_n 0, 1) := by decide +kernel
theorem dX0_init_13 : decode cX0_init 13 = .ok (.iconst 3, 1) := by decide +kernel
theorem dX0_init_14 : decode cX0_init 14 = .ok (.newarray .int, 2) := by decide +kernel
theorem dX0_init_16 : decode cX0_init 16 = .ok (.putfield 15, 3) := by decide +kernel
theorem dX0_init_19 : decode cX0_init 19 = .ok (.aload_n 0, 1) := by decide +kernel
theorem dX0_init_20 : decode cX0_init 20 = .ok (.bipush 20, 2) := by decide +kernel
theorem dX0_init_22 : decode cX0_init 22 = .ok (.newarray .int, 2) := by decide +kernel
theorem dX0_init_24 : decode cX0_init 24 = .ok (.putfield 18, 3) := by decide +kernel
theorem dX0_init_27 : decode cX0_init 27 = .ok (.aload_n 0, 1) := by decide +kernel
theorem dX0_init_28 : decode cX0_init 28 = .ok (.bipush 20, 2) := by decide +kernel
theorem dX0_init_30 : decode cX0_init 30 = .ok (.newarray .int, 2) := by decide +kernel
theorem dX0_init_32 : decode cX0_init 32 = .ok (.putfield 21, 3) := by decide +kernel
theorem dX0_init_35 : decode cX0_init 35 = .ok (.aload_n 0, 1) := by decide +kernel
theorem dX0_init_36 : decode cX0_init 36 = .ok (.bipush 20, 2) := by decide +kernel
theorem dX0_init_38 : decode cX0_init 38 = .ok (.newarray .int, 2) := by decide +kernel
theorem dX0_init_40 : decode cX0_init 40 = .ok (.putfield 24, 3) := by decide +kernel
theorem dX0_init_43 : decode cX0_init 43 = .ok (.aload_n 0, 1) := by decide +kernel
theorem dX0_init_44 : decode cX0_init 44 = .ok (.bipush 20, 2) := by decide +kernel
theorem dX0_init_46 : decode cX0_init 46 = .ok (.newarray .int, 2) := by decide +kernel
theorem dX0_init_48 : decode cX0_init 48 = .ok (.putfield 27, 3) := by decide +kernel
theorem dX0_init_51 : decode cX0_init 51 = .ok (.aload_n 0, 1) := by decide +kernel
theorem dX0_init_52 : decode cX0_init 52 = .ok (.ldc 30, 2) := by decide +kernel
theorem dX0_init_54 : decode cX0_init 54 = .ok (.invokevirtual 32, 3) := by decide +kernel
theorem dX0_init_57 : decode cX0_init 57 = .ok (.putfield 38, 3) := by decide +kernel
theorem dX0_init_60 : decode cX0_init 60 = .ok (.aload_n 0, 1) := by decide +kernel
theorem dX0_init_61 : decode cX0_init 61 = .ok (.iconst 0, 1) := by decide +kernel
theorem dX0_init_62 : decode cX0_init 62 = .ok (.putfield 42, 3) := by decide +kernel
theorem dX0_init_65 : decode cX0_init 65 = .ok (.aload_n 0, 1) := by decide +kernel
theorem dX0_init_66 : decode cX0_init 66 = .ok (.ldc 30, 2) := by decide +kernel
theorem dX0_init_68 : decode cX0_init 68 = .ok (.invokevirtual 32, 3) := by decide +kernel
theorem dX0_init_71 : decode cX0_init 71 = .ok (.putfield 45, 3) := by decide +kernel
theorem dX0_init_74 : decode cX0_init 74 = .ok (.aload_n 0, 1) := by decide +kernel
theorem dX0_init_75 : decode cX0_init 75 = .ok (.iconst 0, 1) := by decide +kernel
theorem dX0_init_76 : decode cX0_init 76 = .ok (.putfield 48, 3) := by decide +kernel
theorem dX0_init_79 : decode cX0_init 79 = .ok (.iconst 0, 1) := by decide +kernel
theorem dX0_init_80 : decode cX0_init 80 = .ok (.istore_n 1, 1) := by decide +kernel
theorem dX0_init_81 : decode cX0_init 81 = .ok (.iload_n 1, 1) := by decide +kernel
theorem dX0_init_82 : decode cX0_init 82 = .ok (.iconst 3, 1) := by decide +kernel
theorem dX0_init_83 : decode cX0_init 83 = .ok (.if_icmp .ge 24, 3) := by decide +kernel
theorem dX0_init_86 : decode cX0_init 86 = .ok (.aload_n 0, 1) := by decide +kernel
theorem dX0_init_87 : decode cX0_init 87 = .ok (.getfield 15, 3) := by decide +kernel
theorem dX0_init_90 : decode cX0_init 90 = .ok (.iload_n 1, 1) := by decide +kernel
theorem dX0_init_91 : decode cX0_init 91 = .ok (.getstatic 51, 3) := by decide +kernel
theorem dX0_init_94 : decode cX0_init 94 = .ok (.iload_n 1, 1) := by decide +kernel
theorem dX0_init_95 : decode cX0_init 95 = .ok (.invokestatic 54, 3) := by decide +kernel
theorem dX0_init_98 : decode cX0_init 98 = .ok (.invokestatic 58, 3) := by decide +kernel
theorem dX0_init_101 : decode cX0_init 101 = .ok (.iinc 1 1, 3) := by decide +kernel
theorem dX0_init_104 : decode cX0_init 104 = .ok (.goto (-23), 3) := by decide +kernel
theorem dX0_init_107 : decode cX0_init 107 = .ok (.iconst 0, 1) := by decide +kernel
theorem dX0_init_108 : decode cX0_init 108 = .ok (.istore_n 1, 1) := by decide +kernel
theorem dX0_init_109 : decode cX0_init 109 = .ok (.iload_n 1, 1) := by decide +kernel
theorem dX0_init_110 : decode cX0_init 110 = .ok (.ldc 30, 2) := by decide +kernel
theorem dX0_init_112 : decode cX0_init 112 = .ok (.invokevirtual 32, 3) := by decide +kernel
theorem dX0_init_115 : decode cX0_init 115 = .ok (.if_icmp .ge 26, 3) := by decide +kernel
theorem dX0_init_118 : decode cX0_init 118 = .ok (.aload_n 0, 1) := by decide +kernel
theorem dX0_init_119 : decode cX0_init 119 = .ok (.getfield 9, 3) := by decide +kernel
theorem dX0_init_122 : decode cX0_init 122 = .ok (.iload_n 1, 1) := by decide +kernel
theorem dX0_init_123 : decode cX0_init 123 = .ok (.ldc 30, 2) := by decide +kernel
theorem dX0_init_125 : decode cX0_init 125 = .ok (.iload_n 1, 1) := by decide +kernel
theorem dX0_init_126 : decode cX0_init 126 = .ok (.invokevirtual 62, 3) := by decide +kernel
theorem dX0_init_129 : decode cX0_init 129 = .ok (.bipush 97, 2) := by decide +kernel
theorem dX0_init_131 : decode cX0_init 131 = .ok (.isub, 1) := by decide +kernel
theorem dX0_init_132 : decode cX0_init 132 = .ok (.invokestatic 58, 3) := by decide +kernel
theorem dX0_init_135 : decode cX0_init 135 = .ok (.iinc 1 1, 3) := by decide +kernel
theorem dX0_init_138 : decode cX0_init 138 = .ok (.goto (-29), 3) := by decide +kernel
theorem dX0_init_141 : decode cX0_init 141 = .ok (.return_, 1) := by decide +kernel
theorem eX0_init_0 {d : Nat} {a1 : Value} {x : Nat} {st : List Value} {hp : qzH} : qzV d 0 0 [.ref x, a1] (st) hp = qzV d 0 1 [.ref x, a1] (.ref x :: st) hp := qv_aload (i := 0) mdc_0 dX0_init_0 rfl rfl rfl
theorem eX0_init_4 {d : Nat} {a1 : Value} {x : Nat} {st : List Value} {hp : qzH} : qzV d 0 4 [.ref x, a1] (st) hp = qzV d 0 5 [.ref x, a1] (.ref x :: st) hp := qv_aload (i := 0) mdc_0 dX0_init_4 rfl rfl rfl
theorem eX0_init_5 {d : Nat} {a0 a1 : Value} {st : List Value} {hp : qzH} : qzV d 0 5 [a0, a1] (st) hp = qzV d 0 7 [a0, a1] (.int 20 :: st) hp := qv_bipush mdc_0 dX0_init_5 ib_20 rfl
theorem eX0_init_12 {d : Nat} {a1 : Value} {x : Nat} {st : List Value} {hp : qzH} : qzV d 0 12 [.ref x, a1] (st) hp = qzV d 0 13 [.ref x, a1] (.ref x :: st) hp := qv_aload (i := 0) mdc_0 dX0_init_12 rfl rfl rfl
theorem eX0_init_13 {d : Nat} {a0 a1 : Value} {st : List Value} {hp : qzH} : qzV d 0 13 [a0, a1] (st) hp = qzV d 0 14 [a0, a1] (.int 3 :: st) hp := qv_iconst mdc_0 dX0_init_13 il_3 rfl
theorem eX0_init_19 {d : Nat} {a1 : Value} {x : Nat} {st : List Value} {hp : qzH} : qzV d 0 19 [.ref x, a1] (st) hp = qzV d 0 20 [.ref x, a1] (.ref x :: st) hp := qv_aload (i := 0) mdc_0 dX0_init_19 rfl rfl rfl
theorem eX0_init_20 {d : Nat} {a0 a1 : Value} {st : List Value} {hp : qzH} : qzV d 0 20 [a0, a1] (st) hp = qzV d 0 22 [a0, a1] (.int 20 :: st) hp := qv_bipush mdc_0 dX0_init_20 ib_20 rfl
theorem eX0_init_27 {d : Nat} {a1 : Value} {x : Nat} {st : List Value} {hp : qzH} : qzV d 0 27 [.ref x, a1] (st) hp = qzV d 0 28 [.ref x, a1] (.ref x :: st) hp := qv_aload (i := 0) mdc_0 dX0_init_27 rfl rfl rfl
theorem eX0_init_28 {d : Nat} {a0 a1 : Value} {st : List Value} {hp : qzH} : qzV d 0 28 [a0, a1] (st) hp = qzV d 0 30 [a0, a1] (.int 20 :: st) hp := qv_bipush mdc_0 dX0_init_28 ib_20 rfl
theorem eX0_init_35 {d : Nat} {a1 : Value} {x : Nat} {st : List Value} {hp : qzH} : qzV d 0 35 [.ref x, a1] (st) hp = qzV d 0 36 [.ref x, a1] (.ref x :: st) hp := qv_aload (i := 0) mdc_0 dX0_init_35 rfl rfl rfl
theorem eX0_init_36 {d : Nat} {a0 a1 : Value} {st : List Value} {hp : qzH} : qzV d 0 36 [a0, a1] (st) hp = qzV d 0 38 [a0, a1] (.int 20 :: st) hp := qv_bipush mdc_0 dX0_init_36 ib_20 rfl
theorem eX0_init_43 {d : Nat} {a1 : Value} {x : Nat} {st : List Value} {hp : qzH} : qzV d 0 43 [.ref x, a1] (st) hp = qzV d 0 44 [.ref x, a1] (.ref x :: st) hp := qv_aload (i := 0) mdc_0 dX0_init_43 rfl rfl rfl
theorem eX0_init_44 {d : Nat} {a0 a1 : Value} {st : List Value} {hp : qzH} : qzV d 0 44 [a0, a1] (st) hp = qzV d 0 46 [a0, a1] (.int 20 :: st) hp := qv_bipush mdc_0 dX0_init_44 ib_20 rfl
theorem eX0_init_51 {d : Nat} {a1 : Value} {x : Nat} {st : List Value} {hp : qzH} : qzV d 0 51 [.ref x, a1] (st) hp = qzV d 0 52 [.ref x, a1] (.ref x :: st) hp := qv_aload (i := 0) mdc_0 dX0_init_51 rfl rfl rfl
theorem eX0_init_57 {d : Nat} {a0 a1 : Value} {a : Nat} {x : Int32} {st : List Value} {hp : qzH} (ha : qzArr 0 a hp.1 = true) : qzV d 0 57 [a0, a1] (.int x :: .ref a :: st) hp = qzV d 0 60 [a0, a1] st (hp.1, hp.2.1, qzUp hp.2.2 a 6 x) := qv_putI mdc_0 dX0_init_57 mdo_0 qff_0_38 ⟨by decide, rfl, rfl⟩ rfl ha ⟨rfl, rfl⟩
theorem eX0_init_60 {d : Nat} {a1 : Value} {x : Nat} {st : List Value} {hp : qzH} : qzV d 0 60 [.ref x, a1] (st) hp = qzV d 0 61 [.ref x, a1] (.ref x :: st) hp := qv_aload (i := 0) mdc_0 dX0_init_60 rfl rfl rfl
theorem eX0_init_61 {d : Nat} {a0 a1 : Value} {st : List Value} {hp : qzH} : qzV d 0 61 [a0, a1] (st) hp = qzV d 0 62 [a0, a1] (.int 0 :: st) hp := qv_iconst mdc_0 dX0_init_61 il_0 rfl
theorem eX0_init_62 {d : Nat} {a0 a1 : Value} {a : Nat} {x : Int32} {st : List Value} {hp : qzH} (ha : qzArr 0 a hp.1 = true) : qzV d 0 62 [a0, a1] (.int x :: .ref a :: st) hp = qzV d 0 65 [a0, a1] st (hp.1, hp.2.1, qzUp hp.2.2 a 7 x) := qv_putI mdc_0 dX0_init_62 mdo_0 qff_0_42 ⟨by decide, rfl, rfl⟩ rfl ha ⟨rfl, rfl⟩
theorem eX0_init_65 {d : Nat} {a1 : Value} {x : Nat} {st : List Value} {hp : qzH} : qzV d 0 65 [.ref x, a1] (st) hp = qzV d 0 66 [.ref x, a1] (.ref x :: st) hp := qv_aload (i := 0) mdc_0 dX0_init_65 rfl rfl rfl
theorem eX0_init_71 {d : Nat} {a0 a1 : Value} {a : Nat} {x : Int32} {st : List Value} {hp : qzH} (ha : qzArr 0 a hp.1 = true) : qzV d 0 71 [a0, a1] (.int x :: .ref a :: st) hp = qzV d 0 74 [a0, a1] st (hp.1, hp.2.1, qzUp hp.2.2 a 8 x) := qv_putI mdc_0 dX0_init_71 mdo_0 qff_0_45 ⟨by decide, rfl, rfl⟩ rfl ha ⟨rfl, rfl⟩
theorem eX0_init_74 {d : Nat} {a1 : Value} {x : Nat} {st : List Value} {hp : qzH} : qzV d 0 74 [.ref x, a1] (st) hp = qzV d 0 75 [.ref x, a1] (.ref x :: st) hp := qv_aload (i := 0) mdc_0 dX0_init_74 rfl rfl rfl
theorem eX0_init_75 {d : Nat} {a0 a1 : Value} {st : List Value} {hp : qzH} : qzV d 0 75 [a0, a1] (st) hp = qzV d 0 76 [a0, a1] (.int 0 :: st) hp := qv_iconst mdc_0 dX0_init_75 il_0 rfl
theorem eX0_init_76 {d : Nat} {a0 a1 : Value} {a : Nat} {x : Int32} {st : List Value} {hp : qzH} (ha : qzArr 0 a hp.1 = true) : qzV d 0 76 [a0, a1] (.int x :: .ref a :: st) hp = qzV d 0 79 [a0, a1] st (hp.1, hp.2.1, qzUp hp.2.2 a 9 x) := qv_putI mdc_0 dX0_init_76 mdo_0 qff_0_48 ⟨by decide, rfl, rfl⟩ rfl ha ⟨rfl, rfl⟩
theorem eX0_init_79 {d : Nat} {a0 a1 : Value} {st : List Value} {hp : qzH} : qzV d 0 79 [a0, a1] (st) hp = qzV d 0 80 [a0, a1] (.int 0 :: st) hp := qv_iconst mdc_0 dX0_init_79 il_0 rfl
theorem eX0_init_80 {d : Nat} {a0 a1 : Value} {x : Int32} {st : List Value} {hp : qzH} : qzV d 0 80 [a0, a1] (.int x :: st) hp = qzV d 0 81 [a0, .int x] (st) hp := qv_istore (i := 1) mdc_0 dX0_init_80 rfl (Nat.le_of_ble_eq_true rfl) rfl rfl
theorem eX0_init_81 {d : Nat} {a0 : Value} {x : Int32} {st : List Value} {hp : qzH} : qzV d 0 81 [a0, .int x] (st) hp = qzV d 0 82 [a0, .int x] (.int x :: st) hp := qv_iload (i := 1) mdc_0 dX0_init_81 rfl rfl rfl
theorem eX0_init_82 {d : Nat} {a0 a1 : Value} {st : List Value} {hp : qzH} : qzV d 0 82 [a0, a1] (st) hp = qzV d 0 83 [a0, a1] (.int 3 :: st) hp := qv_iconst mdc_0 dX0_init_82 il_3 rfl
theorem eX0_init_83 {d : Nat} {a0 a1 : Value} {x y : Int32} {st : List Value} {hp : qzH} : qzV d 0 83 [a0, a1] (.int y :: .int x :: st) hp = if y ≤ x then qzV d 0 107 [a0, a1] (st) hp else qzV d 0 86 [a0, a1] (st) hp := qv_if2 mdc_0 dX0_init_83 rfl rfl rfl
theorem eX0_init_86 {d : Nat} {a1 : Value} {x : Nat} {st : List Value} {hp : qzH} : qzV d 0 86 [.ref x, a1] (st) hp = qzV d 0 87 [.ref x, a1] (.ref x :: st) hp := qv_aload (i := 0) mdc_0 dX0_init_86 rfl rfl rfl
theorem eX0_init_87 {d : Nat} {a0 a1 : Value} {a : Nat} {st : List Value} {hp : qzH} (ha : qzArr 0 a hp.1 = true) : qzV d 0 87 [a0, a1] (.ref a :: st) hp = qzV d 0 90 [a0, a1] (va_rf (hp.2.1 a 1) :: st) hp := qv_getR mdc_0 dX0_init_87 mdo_0 qff_0_15 ⟨by decide, rfl⟩ rfl ha
theorem eX0_init_90 {d : Nat} {a0 : Value} {x : Int32} {st : List Value} {hp : qzH} : qzV d 0 90 [a0, .int x] (st) hp = qzV d 0 91 [a0, .int x] (.int x :: st) hp := qv_iload (i := 1) mdc_0 dX0_init_90 rfl rfl rfl
theorem eX0_init_91 {d : Nat} {a0 a1 : Value} {st : List Value} {hp : qzH} : qzV d 0 91 [a0, a1] (st) hp = qzV d 0 94 [a0, a1] (.ref 1002 :: st) hp := qv_gets mdc_0 dX0_init_91 mdo_0 rfl rfl
theorem eX0_init_94 {d : Nat} {a0 : Value} {x : Int32} {st : List Value} {hp : qzH} : qzV d 0 94 [a0, .int x] (st) hp = qzV d 0 95 [a0, .int x] (.int x :: st) hp := qv_iload (i := 1) mdc_0 dX0_init_94 rfl rfl rfl
theorem eX0_init_95 {d : Nat} {a0 a1 : Value} {w0 w1 : Value} {st : List Value} {hp : qzH} (h8 : st.length ≤ 8) : qzV (d + 1) 0 95 [a0, a1] (w1 :: w0 :: st) hp = (qzC d 84 [w0, w1] hp).bind (fun r => qzV (d + 1) 0 98 [a0, a1] (r.1.toList ++ st) r.2) := qv_calls (n := 2) mdc_0 dX0_init_95 mdo_0 (by decide) qfc_0_54 ⟨rfl, by decide, rfl⟩ rfl ⟨rfl, rfl, by simp only [List.length_cons]; omega⟩ h8
theorem eX0_init_98 {d : Nat} {a0 a1 : Value} {w0 w1 w2 : Value} {st : List Value} {hp : qzH} (h8 : st.length ≤ 8) : qzV (d + 1) 0 98 [a0, a1] (w2 :: w1 :: w0 :: st) hp = (qzC d 85 [w0, w1, w2] hp).bind (fun r => qzV (d + 1) 0 101 [a0, a1] (r.1.toList ++ st) r.2) := qv_calls (n := 3) mdc_0 dX0_init_98 mdo_0 (by decide) qfc_0_58 ⟨rfl, by decide, rfl⟩ rfl ⟨rfl, rfl, by simp only [List.length_cons]; omega⟩ h8
theorem eX0_init_101 {d : Nat} {a0 : Value} {x : Int32} {st : List Value} {hp : qzH} : qzV d 0 101 [a0, .int x] (st) hp = qzV d 0 104 [a0, .int (x + 1)] (st) hp := qv_iinc mdc_0 dX0_init_101 rfl il_1 rfl rfl
theorem eX0_init_104 {d : Nat} {a0 a1 : Value} {st : List Value} {hp : qzH} : qzV d 0 104 [a0, a1] (st) hp = qzV d 0 81 [a0, a1] (st) hp := qv_goto mdc_0 dX0_init_104 rfl
theorem eX0_init_107 {d : Nat} {a0 a1 : Value} {st : List Value} {hp : qzH} : qzV d 0 107 [a0, a1] (st) hp = qzV d 0 108 [a0, a1] (.int 0 :: st) hp := qv_iconst mdc_0 dX0_init_107 il_0 rfl
theorem eX0_init_108 {d : Nat} {a0 a1 : Value} {x : Int32} {st : List Value} {hp : qzH} : qzV d 0 108 [a0, a1] (.int x :: st) hp = qzV d 0 109 [a0, .int x] (st) hp := qv_istore (i := 1) mdc_0 dX0_init_108 rfl (Nat.le_of_ble_eq_true rfl) rfl rfl
theorem eX0_init_109 {d : Nat} {a0 : Value} {x : Int32} {st : List Value} {hp : qzH} : qzV d 0 109 [a0, .int x] (st) hp = qzV d 0 110 [a0, .int x] (.int x :: st) hp := qv_iload (i := 1) mdc_0 dX0_init_109 rfl rfl rfl
theorem eX0_init_115 {d : Nat} {a0 a1 : Value} {x y : Int32} {st : List Value} {hp : qzH} : qzV d 0 115 [a0, a1] (.int y :: .int x :: st) hp = if y ≤ x then qzV d 0 141 [a0, a1] (st) hp else qzV d 0 118 [a0, a1] (st) hp := qv_if2 mdc_0 dX0_init_115 rfl rfl rfl
theorem eX0_init_118 {d : Nat} {a1 : Value} {x : Nat} {st : List Value} {hp : qzH} : qzV d 0 118 [.ref x, a1] (st) hp = qzV d 0 119 [.ref x, a1] (.ref x :: st) hp := qv_aload (i := 0) mdc_0 dX0_init_118 rfl rfl rfl
theorem eX0_init_119 {d : Nat} {a0 a1 : Value} {a : Nat} {st : List Value} {hp : qzH} (ha : qzArr 0 a hp.1 = true) : qzV d 0 119 [a0, a1] (.ref a :: st) hp = qzV d 0 122 [a0, a1] (va_rf (hp.2.1 a 0) :: st) hp := qv_getR mdc_0 dX0_init_119 mdo_0 qff_0_9 ⟨by decide, rfl⟩ rfl ha
theorem eX0_init_122 {d : Nat} {a0 : Value} {x : Int32} {st : List Value} {hp : qzH} : qzV d 0 122 [a0, .int x] (st) hp = qzV d 0 123 [a0, .int x] (.int x :: st) hp := qv_iload (i := 1) mdc_0 dX0_init_122 rfl rfl rfl
theorem eX0_init_125 {d : Nat} {a0 : Value} {x : Int32} {st : List Value} {hp : qzH} : qzV d 0 125 [a0, .int x] (st) hp = qzV d 0 126 [a0, .int x] (.int x :: st) hp := qv_iload (i := 1) mdc_0 dX0_init_125 rfl rfl rfl
theorem eX0_init_129 {d : Nat} {a0 a1 : Value} {st : List Value} {hp : qzH} : qzV d 0 129 [a0, a1] (st) hp = qzV d 0 131 [a0, a1] (.int 97 :: st) hp := qv_bipush mdc_0 dX0_init_129 ib_97 rfl
theorem eX0_init_131 {d : Nat} {a0 a1 : Value} {x y : Int32} {st : List Value} {hp : qzH} : qzV d 0 131 [a0, a1] (.int y :: .int x :: st) hp = qzV d 0 132 [a0, a1] (.int (x - y) :: st) hp := qv_bin (f := fun x y => x - y) mdc_0 dX0_init_131 rfl rfl
theorem eX0_init_132 {d : Nat} {a0 a1 : Value} {w0 w1 w2 : Value} {st : List Value} {hp : qzH} (h8 : st.length ≤ 8) : qzV (d + 1) 0 132 [a0, a1] (w2 :: w1 :: w0 :: st) hp = (qzC d 85 [w0, w1, w2] hp).bind (fun r => qzV (d + 1) 0 135 [a0, a1] (r.1.toList ++ st) r.2) := qv_calls (n := 3) mdc_0 dX0_init_132 mdo_0 (by decide) qfc_0_58 ⟨rfl, by decide, rfl⟩ rfl ⟨rfl, rfl, by simp only [List.length_cons]; omega⟩ h8
theorem eX0_init_135 {d : Nat} {a0 : Value} {x : Int32} {st : List Value} {hp : qzH} : qzV d 0 135 [a0, .int x] (st) hp = qzV d 0 138 [a0, .int (x + 1)] (st) hp := qv_iinc mdc_0 dX0_init_135 rfl il_1 rfl rfl
theorem eX0_init_138 {d : Nat} {a0 a1 : Value} {st : List Value} {hp : qzH} : qzV d 0 138 [a0, a1] (st) hp = qzV d 0 109 [a0, a1] (st) hp := qv_goto mdc_0 dX0_init_138 rfl
theorem eX0_init_141 {d : Nat} {a0 a1 : Value} {hp : qzH} : qzV d 0 141 [a0, a1] [] hp = some (none, hp) := qv_vret mdc_0 dX0_init_141 mdr_0
theorem dX0_copyFrom_0 : decode cX0_copyFrom 0 = .ok (.aload_n 1, 1) := by decide +kernel
theorem dX0_copyFrom_1 : decode cX0_copyFrom 1 = .ok (.getfield 9, 3) := by decide +kernel
theorem dX0_copyFrom_4 : decode cX0_copyFrom 4 = .ok (.iconst 0, 1) := by decide +kernel
theorem dX0_copyFrom_5 : decode cX0_copyFrom 5 = .ok (.aload_n 0, 1) := by decide +kernel
theorem dX0_copyFrom_6 : decode cX0_copyFrom 6 = .ok (.getfield 9, 3) := by decide +kernel
theorem dX0_copyFrom_9 : decode cX0_copyFrom 9 = .ok (.iconst 0, 1) := by decide +kernel
theorem dX0_copyFrom_10 : decode cX0_copyFrom 10 = .ok (.bipush 20, 2) := by decide +kernel
theorem dX0_copyFrom_12 : decode cX0_copyFrom 12 = .ok (.invokestatic 66, 3) := by decide +kernel
theorem dX0_copyFrom_15 : decode cX0_copyFrom 15 = .ok (.aload_n 1, 1) := by decide +kernel
theorem dX0_copyFrom_16 : decode cX0_copyFrom 16 = .ok (.getfield 15, 3) := by decide +kernel
theorem dX0_copyFrom_19 : decode cX0_copyFrom 19 = .ok (.iconst 0, 1) := by decide +kernel
theorem dX0_copyFrom_20 : decode cX0_copyFrom 20 = .ok (.aload_n 0, 1) := by decide +kernel
theorem dX0_copyFrom_21 : decode cX0_copyFrom 21 = .ok (.getfield 15, 3) := by decide +kernel
theorem dX0_copyFrom_24 : decode cX0_copyFrom 24 = .ok (.iconst 0, 1) := by decide +kernel
theorem dX0_copyFrom_25 : decode cX0_copyFrom 25 = .ok (.iconst 3, 1) := by decide +kernel
theorem dX0_copyFrom_26 : decode cX0_copyFrom 26 = .ok (.invokestatic 66, 3) := by decide +kernel
theorem dX0_copyFrom_29 : decode cX0_copyFrom 29 = .ok (.aload_n 1, 1) := by decide +kernel
theorem dX0_copyFrom_30 : decode cX0_copyFrom 30 = .ok (.getfield 18, 3) := by decide +kernel
theorem dX0_copyFrom_33 : decode cX0_copyFrom 33 = .ok (.iconst 0, 1) := by decide +kernel
theorem dX0_copyFrom_34 : decode cX0_copyFrom 34 = .ok (.aload_n 0, 1) := by decide +kernel
theorem dX0_copyFrom_35 : decode cX0_copyFrom 35 = .ok (.getfield 18, 3) := by decide +kernel
theorem dX0_copyFrom_38 : decode cX0_copyFrom 38 = .ok (.iconst 0, 1) := by decide +kernel
theorem dX0_copyFrom_39 : decode cX0_copyFrom 39 = .ok (.bipush 20, 2) := by decide +kernel
theorem dX0_copyFrom_41 : decode cX0_copyFrom 41 = .ok (.invokestatic 66, 3) := by decide +kernel
theorem dX0_copyFrom_44 : decode cX0_copyFrom 44 = .ok (.aload_n 1, 1) := by decide +kernel
theorem dX0_copyFrom_45 : decode cX0_copyFrom 45 = .ok (.getfield 21, 3) := by decide +kernel
theorem dX0_copyFrom_48 : decode cX0_copyFrom 48 = .ok (.iconst 0, 1) := by decide +kernel
theorem dX0_copyFrom_49 : decode cX0_copyFrom 49 = .ok (.aload_n 0, 1) := by decide +kernel
theorem dX0_copyFrom_50 : decode cX0_copyFrom 50 = .ok (.getfield 21, 3) := by decide +kernel
theorem dX0_copyFrom_53 : decode cX0_copyFrom 53 = .ok (.iconst 0, 1) := by decide +kernel
theorem dX0_copyFrom_54 : decode cX0_copyFrom 54 = .ok (.bipush 20, 2) := by decide +kernel
theorem dX0_copyFrom_56 : decode cX0_copyFrom 56 = .ok (.invokestatic 66, 3) := by decide +kernel
theorem dX0_copyFrom_59 : decode cX0_copyFrom 59 = .ok (.aload_n 1, 1) := by decide +kernel
theorem dX0_copyFrom_60 : decode cX0_copyFrom 60 = .ok (.getfield 24, 3) := by decide +kernel
theorem dX0_copyFrom_63 : decode cX0_copyFrom 63 = .ok (.iconst 0, 1) := by decide +kernel
theorem dX0_copyFrom_64 : decode cX0_copyFrom 64 = .ok (.aload_n 0, 1) := by decide +kernel
theorem dX0_copyFrom_65 : decode cX0_copyFrom 65 = .ok (.getfield 24, 3) := by decide +kernel
theorem dX0_copyFrom_68 : decode cX0_copyFrom 68 = .ok (.iconst 0, 1) := by decide +kernel
theorem dX0_copyFrom_69 : decode cX0_copyFrom 69 = .ok (.bipush 20, 2) := by decide +kernel
theorem dX0_copyFrom_71 : decode cX0_copyFrom 71 = .ok (.invokestatic 66, 3) := by decide +kernel
theorem dX0_copyFrom_74 : decode cX0_copyFrom 74 = .ok (.aload_n 1, 1) := by decide +kernel
theorem dX0_copyFrom_75 : decode cX0_copyFrom 75 = .ok (.getfield 27, 3) := by decide +kernel
theorem dX0_copyFrom_78 : decode cX0_copyFrom 78 = .ok (.iconst 0, 1) := by decide +kernel
theorem dX0_copyFrom_79 : decode cX0_copyFrom 79 = .ok (.aload_n 0, 1) := by decide +kernel
theorem dX0_copyFrom_80 : decode cX0_copyFrom 80 = .ok (.getfield 27, 3) := by decide +kernel
theorem dX0_copyFrom_83 : decode cX0_copyFrom 83 = .ok (.iconst 0, 1) := by decide +kernel
theorem dX0_copyFrom_84 : decode cX0_copyFrom 84 = .ok (.bipush 20, 2) := by decide +kernel
theorem dX0_copyFrom_86 : decode cX0_copyFrom 86 = .ok (.invokestatic 66, 3) := by decide +kernel
theorem dX0_copyFrom_89 : decode cX0_copyFrom 89 = .ok (.aload_n 0, 1) := by decide +kernel
theorem dX0_copyFrom_90 : decode cX0_copyFrom 90 = .ok (.aload_n 1, 1) := by decide +kernel
theorem dX0_copyFrom_91 : decode cX0_copyFrom 91 = .ok (.getfield 38, 3) := by decide +kernel
theorem dX0_copyFrom_94 : decode cX0_copyFrom 94 = .ok (.putfield 38, 3) := by decide +kernel
theorem dX0_copyFrom_97 : decode cX0_copyFrom 97 = .ok (.aload_n 0, 1) := by decide +kernel
theorem dX0_copyFrom_98 : decode cX0_copyFrom 98 = .ok (.aload_n 1, 1) := by decide +kernel
theorem dX0_copyFrom_99 : decode cX0_copyFrom 99 = .ok (.getfield 42, 3) := by decide +kernel
theorem dX0_copyFrom_102 : decode cX0_copyFrom 102 = .ok (.putfield 42, 3) := by decide +kernel
theorem dX0_copyFrom_105 : decode cX0_copyFrom 105 = .ok (.aload_n 0, 1) := by decide +kernel
theorem dX0_copyFrom_106 : decode cX0_copyFrom 106 = .ok (.aload_n 1, 1) := by decide +kernel
theorem dX0_copyFrom_107 : decode cX0_copyFrom 107 = .ok (.getfield 45, 3) := by decide +kernel
theorem dX0_copyFrom_110 : decode cX0_copyFrom 110 = .ok (.putfield 45, 3) := by decide +kernel
theorem dX0_copyFrom_113 : decode cX0_copyFrom 113 = .ok (.aload_n 0, 1) := by decide +kernel
theorem dX0_copyFrom_114 : decode cX0_copyFrom 114 = .ok (.aload_n 1, 1) := by decide +kernel
theorem dX0_copyFrom_115 : decode cX0_copyFrom 115 = .ok (.getfield 48, 3) := by decide +kernel
theorem dX0_copyFrom_118 : decode cX0_copyFrom 118 = .ok (.putfield 48, 3) := by decide +kernel
theorem dX0_copyFrom_121 : decode cX0_copyFrom 121 = .ok (.return_, 1) := by decide +kernel
theorem eX0_copyFrom_0 {d : Nat} {a0 : Value} {x : Nat} {st : List Value} {hp : qzH} : qzV d 1 0 [a0, .ref x] (st) hp = qzV d 1 1 [a0, .ref x] (.ref x :: st) hp := qv_aload (i := 1) mdc_1 dX0_copyFrom_0 rfl rfl rfl
theorem eX0_copyFrom_1 {d : Nat} {a0 a1 : Value} {a : Nat} {st : List Value} {hp : qzH} (ha : qzArr 0 a hp.1 = true) : qzV d 1 1 [a0, a1] (.ref a :: st) hp = qzV d 1 4 [a0, a1] (va_rf (hp.2.1 a 0) :: st) hp := qv_getR mdc_1 dX0_copyFrom_1 mdo_1 qff_0_9 ⟨by decide, rfl⟩ rfl ha
theorem eX0_copyFrom_4 {d : Nat} {a0 a1 : Value} {st : List Value} {hp : qzH} : qzV d 1 4 [a0, a1] (st) hp = qzV d 1 5 [a0, a1] (.int 0 :: st) hp := qv_iconst mdc_1 dX0_copyFrom_4 il_0 rfl
theorem eX0_copyFrom_5 {d : Nat} {a1 : Value} {x : Nat} {st : List Value} {hp : qzH} : qzV d 1 5 [.ref x, a1] (st) hp = qzV d 1 6 [.ref x, a1] (.ref x :: st) hp := qv_aload (i := 0) mdc_1 dX0_copyFrom_5 rfl rfl rfl
theorem eX0_copyFrom_6 {d : Nat} {a0 a1 : Value} {a : Nat} {st : List Value} {hp : qzH} (ha : qzArr 0 a hp.1 = true) : qzV d 1 6 [a0, a1] (.ref a :: st) hp = qzV d 1 9 [a0, a1] (va_rf (hp.2.1 a 0) :: st) hp := qv_getR mdc_1 dX0_copyFrom_6 mdo_1 qff_0_9 ⟨by decide, rfl⟩ rfl ha
theorem eX0_copyFrom_9 {d : Nat} {a0 a1 : Value} {st : List Value} {hp : qzH} : qzV d 1 9 [a0, a1] (st) hp = qzV d 1 10 [a0, a1] (.int 0 :: st) hp := qv_iconst mdc_1 dX0_copyFrom_9 il_0 rfl
theorem eX0_copyFrom_10 {d : Nat} {a0 a1 : Value} {st : List Value} {hp : qzH} : qzV d 1 10 [a0, a1] (st) hp = qzV d 1 12 [a0, a1] (.int 20 :: st) hp := qv_bipush mdc_1 dX0_copyFrom_10 ib_20 rfl
theorem eX0_copyFrom_12 {d : Nat} {a0 a1 : Value} {n dp sp : Int32} {a b : Nat} {st : List Value} {hp : qzH} (h8 : qzArr 4 a hp.1 = true ∧ qzArr 4 b hp.1 = true ∧ ¬ sp < 0 ∧ ¬ dp < 0 ∧ ¬ n < 0 ∧ sp.toNatClampNeg + n.toNatClampNeg ≤ (qzk b).2 ∧ dp.toNatClampNeg + n.toNatClampNeg ≤ (qzk a).2 ∧ st.length ≤ 8) : qzV d 1 12 [a0, a1] (.int n :: .int dp :: .ref a :: .int sp :: .ref b :: st) hp = qzV d 1 15 [a0, a1] st (hp.1, hp.2.1, qzUr hp.2.2 a (va_cpy (hp.2.2 b) (hp.2.2 a) sp.toNatClampNeg dp.toNatClampNeg n.toNatClampNeg)) := qv_copy mdc_1 dX0_copyFrom_12 mdo_1 (by decide) rfl h8
theorem eX0_copyFrom_15 {d : Nat} {a0 : Value} {x : Nat} {st : List Value} {hp : qzH} : qzV d 1 15 [a0, .ref x] (st) hp = qzV d 1 16 [a0, .ref x] (.ref x :: st) hp := qv_aload (i := 1) mdc_1 dX0_copyFrom_15 rfl rfl rfl
theorem eX0_copyFrom_16 {d : Nat} {a0 a1 : Value} {a : Nat} {st : List Value} {hp : qzH} (ha : qzArr 0 a hp.1 = true) : qzV d 1 16 [a0, a1] (.ref a :: st) hp = qzV d 1 19 [a0, a1] (va_rf (hp.2.1 a 1) :: st) hp := qv_getR mdc_1 dX0_copyFrom_16 mdo_1 qff_0_15 ⟨by decide, rfl⟩ rfl ha
theorem eX0_copyFrom_19 {d : Nat} {a0 a1 : Value} {st : List Value} {hp : qzH} : qzV d 1 19 [a0, a1] (st) hp = qzV d 1 20 [a0, a1] (.int 0 :: st) hp := qv_iconst mdc_1 dX0_copyFrom_19 il_0 rfl
theorem eX0_copyFrom_20 {d : Nat} {a1 : Value} {x : Nat} {st : List Value} {hp : qzH} : qzV d 1 20 [.ref x, a1] (st) hp = qzV d 1 21 [.ref x, a1] (.ref x :: st) hp := qv_aload (i := 0) mdc_1 dX0_copyFrom_20 rfl rfl rfl
theorem eX0_copyFrom_21 {d : Nat} {a0 a1 : Value} {a : Nat} {st : List Value} {hp : qzH} (ha : qzArr 0 a hp.1 = true) : qzV d 1 21 [a0, a1] (.ref a :: st) hp = qzV d 1 24 [a0, a1] (va_rf (hp.2.1 a 1) :: st) hp := qv_getR mdc_1 dX0_copyFrom_21 mdo_1 qff_0_15 ⟨by decide, rfl⟩ rfl ha
theorem eX0_copyFrom_24 {d : Nat} {a0 a1 : Value} {st : List Value} {hp : qzH} : qzV d 1 24 [a0, a1] (st) hp = qzV d 1 25 [a0, a1] (.int 0 :: st) hp := qv_iconst mdc_1 dX0_copyFrom_24 il_0 rfl
theorem eX0_copyFrom_25 {d : Nat} {a0 a1 : Value} {st : List Value} {hp : qzH} : qzV d 1 25 [a0, a1] (st) hp = qzV d 1 26 [a0, a1] (.int 3 :: st) hp := qv_iconst mdc_1 dX0_copyFrom_25 il_3 rfl
theorem eX0_copyFrom_26 {d : Nat} {a0 a1 : Value} {n dp sp : Int32} {a b : Nat} {st : List Value} {hp : qzH} (h8 : qzArr 4 a hp.1 = true ∧ qzArr 4 b hp.1 = true ∧ ¬ sp < 0 ∧ ¬ dp < 0 ∧ ¬ n < 0 ∧ sp.toNatClampNeg + n.toNatClampNeg ≤ (qzk b).2 ∧ dp.toNatClampNeg + n.toNatClampNeg ≤ (qzk a).2 ∧ st.length ≤ 8) : qzV d 1 26 [a0, a1] (.int n :: .int dp :: .ref a :: .int sp :: .ref b :: st) hp = qzV d 1 29 [a0, a1] st (hp.1, hp.2.1, qzUr hp.2.2 a (va_cpy (hp.2.2 b) (hp.2.2 a) sp.toNatClampNeg dp.toNatClampNeg n.toNatClampNeg)) := qv_copy mdc_1 dX0_copyFrom_26 mdo_1 (by decide) rfl h8
theorem eX0_copyFrom_29 {d : Nat} {a0 : Value} {x : Nat} {st : List Value} {hp : qzH} : qzV d 1 29 [a0, .ref x] (st) hp = qzV d 1 30 [a0, .ref x] (.ref x :: st) hp := qv_aload (i := 1) mdc_1 dX0_copyFrom_29 rfl rfl rfl
theorem eX0_copyFrom_30 {d : Nat} {a0 a1 : Value} {a : Nat} {st : List Value} {hp : qzH} (ha : qzArr 0 a hp.1 = true) : qzV d 1 30 [a0, a1] (.ref a :: st) hp = qzV d 1 33 [a0, a1] (va_rf (hp.2.1 a 2) :: st) hp := qv_getR mdc_1 dX0_copyFrom_30 mdo_1 qff_0_18 ⟨by decide, rfl⟩ rfl ha
theorem eX0_copyFrom_33 {d : Nat} {a0 a1 : Value} {st : List Value} {hp : qzH} : qzV d 1 33 [a0, a1] (st) hp = qzV d 1 34 [a0, a1] (.int 0 :: st) hp := qv_iconst mdc_1 dX0_copyFrom_33 il_0 rfl
theorem eX0_copyFrom_34 {d : Nat} {a1 : Value} {x : Nat} {st : List Value} {hp : qzH} : qzV d 1 34 [.ref x, a1] (st) hp = qzV d 1 35 [.ref x, a1] (.ref x :: st) hp := qv_aload (i := 0) mdc_1 dX0_copyFrom_34 rfl rfl rfl
theorem eX0_copyFrom_35 {d : Nat} {a0 a1 : Value} {a : Nat} {st : List Value} {hp : qzH} (ha : qzArr 0 a hp.1 = true) : qzV d 1 35 [a0, a1] (.ref a :: st) hp = qzV d 1 38 [a0, a1] (va_rf (hp.2.1 a 2) :: st) hp := qv_getR mdc_1 dX0_copyFrom_35 mdo_1 qff_0_18 ⟨by decide, rfl⟩ rfl ha
theorem eX0_copyFrom_38 {d : Nat} {a0 a1 : Value} {st : List Value} {hp : qzH} : qzV d 1 38 [a0, a1] (st) hp = qzV d 1 39 [a0, a1] (.int 0 :: st) hp := qv_iconst mdc_1 dX0_copyFrom_38 il_0 rfl
theorem eX0_copyFrom_39 {d : Nat} {a0 a1 : Value} {st : List Value} {hp : qzH} : qzV d 1 39 [a0, a1] (st) hp = qzV d 1 41 [a0, a1] (.int 20 :: st) hp := qv_bipush mdc_1 dX0_copyFrom_39 ib_20 rfl
theorem eX0_copyFrom_41 {d : Nat} {a0 a1 : Value} {n dp sp : Int32} {a b : Nat} {st : List Value} {hp : qzH} (h8 : qzArr 4 a hp.1 = true ∧ qzArr 4 b hp.1 = true ∧ ¬ sp < 0 ∧ ¬ dp < 0 ∧ ¬ n < 0 ∧ sp.toNatClampNeg + n.toNatClampNeg ≤ (qzk b).2 ∧ dp.toNatClampNeg + n.toNatClampNeg ≤ (qzk a).2 ∧ st.length ≤ 8) : qzV d 1 41 [a0, a1] (.int n :: .int dp :: .ref a :: .int sp :: .ref b :: st) hp = qzV d 1 44 [a0, a1] st (hp.1, hp.2.1, qzUr hp.2.2 a (va_cpy (hp.2.2 b) (hp.2.2 a) sp.toNatClampNeg dp.toNatClampNeg n.toNatClampNeg)) := qv_copy mdc_1 dX0_copyFrom_41 mdo_1 (by decide) rfl h8
theorem eX0_copyFrom_44 {d : Nat} {a0 : Value} {x : Nat} {st : List Value} {hp : qzH} : qzV d 1 44 [a0, .ref x] (st) hp = qzV d 1 45 [a0, .ref x] (.ref x :: st) hp := qv_aload (i := 1) mdc_1 dX0_copyFrom_44 rfl rfl rfl
theorem eX0_copyFrom_45 {d : Nat} {a0 a1 : Value} {a : Nat} {st : List Value} {hp : qzH} (ha : qzArr 0 a hp.1 = true) : qzV d 1 45 [a0, a1] (.ref a :: st) hp = qzV d 1 48 [a0, a1] (va_rf (hp.2.1 a 3) :: st) hp := qv_getR mdc_1 dX0_copyFrom_45 mdo_1 qff_0_21 ⟨by decide, rfl⟩ rfl ha
theorem eX0_copyFrom_48 {d : Nat} {a0 a1 : Value} {st : List Value} {hp : qzH} : qzV d 1 48 [a0, a1] (st) hp = qzV d 1 49 [a0, a1] (.int 0 :: st) hp := qv_iconst mdc_1 dX0_copyFrom_48 il_0 rfl
theorem eX0_copyFrom_49 {d : Nat} {a1 : Value} {x : Nat} {st : List Value} {hp : qzH} : qzV d 1 49 [.ref x, a1] (st) hp = qzV d 1 50 [.ref x, a1] (.ref x :: st) hp := qv_aload (i := 0) mdc_1 dX0_copyFrom_49 rfl rfl rfl
theorem eX0_copyFrom_50 {d : Nat} {a0 a1 : Value} {a : Nat} {st : List Value} {hp : qzH} (ha : qzArr 0 a hp.1 = true) : qzV d 1 50 [a0, a1] (.ref a :: st) hp = qzV d 1 53 [a0, a1] (va_rf (hp.2.1 a 3) :: st) hp := qv_getR mdc_1 dX0_copyFrom_50 mdo_1 qff_0_21 ⟨by decide, rfl⟩ rfl ha
theorem eX0_copyFrom_53 {d : Nat} {a0 a1 : Value} {st : List Value} {hp : qzH} : qzV d 1 53 [a0, a1] (st) hp = qzV d 1 54 [a0, a1] (.int 0 :: st) hp := qv_iconst mdc_1 dX0_copyFrom_53 il_0 rfl
theorem eX0_copyFrom_54 {d : Nat} {a0 a1 : Value} {st : List Value} {hp : qzH} : qzV d 1 54 [a0, a1] (st) hp = qzV d 1 56 [a0, a1] (.int 20 :: st) hp := qv_bipush mdc_1 dX0_copyFrom_54 ib_20 rfl
theorem eX0_copyFrom_56 {d : Nat} {a0 a1 : Value} {n dp sp : Int32} {a b : Nat} {st : List Value} {hp : qzH} (h8 : qzArr 4 a hp.1 = true ∧ qzArr 4 b hp.1 = true ∧ ¬ sp < 0 ∧ ¬ dp < 0 ∧ ¬ n < 0 ∧ sp.toNatClampNeg + n.toNatClampNeg ≤ (qzk b).2 ∧ dp.toNatClampNeg + n.toNatClampNeg ≤ (qzk a).2 ∧ st.length ≤ 8) : qzV d 1 56 [a0, a1] (.int n :: .int dp :: .ref a :: .int sp :: .ref b :: st) hp = qzV d 1 59 [a0, a1] st (hp.1, hp.2.1, qzUr hp.2.2 a (va_cpy (hp.2.2 b) (hp.2.2 a) sp.toNatClampNeg dp.toNatClampNeg n.toNatClampNeg)) := qv_copy mdc_1 dX0_copyFrom_56 mdo_1 (by decide) rfl h8
theorem eX0_copyFrom_59 {d : Nat} {a0 : Value} {x : Nat} {st : List Value} {hp : qzH} : qzV d 1 59 [a0, .ref x] (st) hp = qzV d 1 60 [a0, .ref x] (.ref x :: st) hp := qv_aload (i := 1) mdc_1 dX0_copyFrom_59 rfl rfl rfl
theorem eX0_copyFrom_60 {d : Nat} {a0 a1 : Value} {a : Nat} {st : List Value} {hp : qzH} (ha : qzArr 0 a hp.1 = true) : qzV d 1 60 [a0, a1] (.ref a :: st) hp = qzV d 1 63 [a0, a1] (va_rf (hp.2.1 a 4) :: st) hp := qv_getR mdc_1 dX0_copyFrom_60 mdo_1 qff_0_24 ⟨by decide, rfl⟩ rfl ha
theorem eX0_copyFrom_63 {d : Nat} {a0 a1 : Value} {st : List Value} {hp : qzH} : qzV d 1 63 [a0, a1] (st) hp = qzV d 1 64 [a0, a1] (.int 0 :: st) hp := qv_iconst mdc_1 dX0_copyFrom_63 il_0 rfl
theorem eX0_copyFrom_64 {d : Nat} {a1 : Value} {x : Nat} {st : List Value} {hp : qzH} : qzV d 1 64 [.ref x, a1] (st) hp = qzV d 1 65 [.ref x, a1] (.ref x :: st) hp := qv_aload (i := 0) mdc_1 dX0_copyFrom_64 rfl rfl rfl
theorem eX0_copyFrom_65 {d : Nat} {a0 a1 : Value} {a : Nat} {st : List Value} {hp : qzH} (ha : qzArr 0 a hp.1 = true) : qzV d 1 65 [a0, a1] (.ref a :: st) hp = qzV d 1 68 [a0, a1] (va_rf (hp.2.1 a 4) :: st) hp := qv_getR mdc_1 dX0_copyFrom_65 mdo_1 qff_0_24 ⟨by decide, rfl⟩ rfl ha
theorem eX0_copyFrom_68 {d : Nat} {a0 a1 : Value} {st : List Value} {hp : qzH} : qzV d 1 68 [a0, a1] (st) hp = qzV d 1 69 [a0, a1] (.int 0 :: st) hp := qv_iconst mdc_1 dX0_copyFrom_68 il_0 rfl
theorem eX0_copyFrom_69 {d : Nat} {a0 a1 : Value} {st : List Value} {hp : qzH} : qzV d 1 69 [a0, a1] (st) hp = qzV d 1 71 [a0, a1] (.int 20 :: st) hp := qv_bipush mdc_1 dX0_copyFrom_69 ib_20 rfl
theorem eX0_copyFrom_71 {d : Nat} {a0 a1 : Value} {n dp sp : Int32} {a b : Nat} {st : List Value} {hp : qzH} (h8 : qzArr 4 a hp.1 = true ∧ qzArr 4 b hp.1 = true ∧ ¬ sp < 0 ∧ ¬ dp < 0 ∧ ¬ n < 0 ∧ sp.toNatClampNeg + n.toNatClampNeg ≤ (qzk b).2 ∧ dp.toNatClampNeg + n.toNatClampNeg ≤ (qzk a).2 ∧ st.length ≤ 8) : qzV d 1 71 [a0, a1] (.int n :: .int dp :: .ref a :: .int sp :: .ref b :: st) hp = qzV d 1 74 [a0, a1] st (hp.1, hp.2.1, qzUr hp.2.2 a (va_cpy (hp.2.2 b) (hp.2.2 a) sp.toNatClampNeg dp.toNatClampNeg n.toNatClampNeg)) := qv_copy mdc_1 dX0_copyFrom_71 mdo_1 (by decide) rfl h8
theorem eX0_copyFrom_74 {d : Nat} {a0 : Value} {x : Nat} {st : List Value} {hp : qzH} : qzV d 1 74 [a0, .ref x] (st) hp = qzV d 1 75 [a0, .ref x] (.ref x :: st) hp := qv_aload (i := 1) mdc_1 dX0_copyFrom_74 rfl rfl rfl
theorem eX0_copyFrom_75 {d : Nat} {a0 a1 : Value} {a : Nat} {st : List Value} {hp : qzH} (ha : qzArr 0 a hp.1 = true) : qzV d 1 75 [a0, a1] (.ref a :: st) hp = qzV d 1 78 [a0, a1] (va_rf (hp.2.1 a 5) :: st) hp := qv_getR mdc_1 dX0_copyFrom_75 mdo_1 qff_0_27 ⟨by decide, rfl⟩ rfl ha
theorem eX0_copyFrom_78 {d : Nat} {a0 a1 : Value} {st : List Value} {hp : qzH} : qzV d 1 78 [a0, a1] (st) hp = qzV d 1 79 [a0, a1] (.int 0 :: st) hp := qv_iconst mdc_1 dX0_copyFrom_78 il_0 rfl
theorem eX0_copyFrom_79 {d : Nat} {a1 : Value} {x : Nat} {st : List Value} {hp : qzH} : qzV d 1 79 [.ref x, a1] (st) hp = qzV d 1 80 [.ref x, a1] (.ref x :: st) hp := qv_aload (i := 0) mdc_1 dX0_copyFrom_79 rfl rfl rfl
theorem eX0_copyFrom_80 {d : Nat} {a0 a1 : Value} {a : Nat} {st : List Value} {hp : qzH} (ha : qzArr 0 a hp.1 = true) : qzV d 1 80 [a0, a1] (.ref a :: st) hp = qzV d 1 83 [a0, a1] (va_rf (hp.2.1 a 5) :: st) hp := qv_getR mdc_1 dX0_copyFrom_80 mdo_1 qff_0_27 ⟨by decide, rfl⟩ rfl ha
theorem eX0_copyFrom_83 {d : Nat} {a0 a1 : Value} {st : List Value} {hp : qzH} : qzV d 1 83 [a0, a1] (st) hp = qzV d 1 84 [a0, a1] (.int 0 :: st) hp := qv_iconst mdc_1 dX0_copyFrom_83 il_0 rfl
theorem eX0_copyFrom_84 {d : Nat} {a0 a1 : Value} {st : List Value} {hp : qzH} : qzV d 1 84 [a0, a1] (st) hp = qzV d 1 86 [a0, a1] (.int 20 :: st) hp := qv_bipush mdc_1 dX0_copyFrom_84 ib_20 rfl
theorem eX0_copyFrom_86 {d : Nat} {a0 a1 : Value} {n dp sp : Int32} {a b : Nat} {st : List Value} {hp : qzH} (h8 : qzArr 4 a hp.1 = true ∧ qzArr 4 b hp.1 = true ∧ ¬ sp < 0 ∧ ¬ dp < 0 ∧ ¬ n < 0 ∧ sp.toNatClampNeg + n.toNatClampNeg ≤ (qzk b).2 ∧ dp.toNatClampNeg + n.toNatClampNeg ≤ (qzk a).2 ∧ st.length ≤ 8) : qzV d 1 86 [a0, a1] (.int n :: .int dp :: .ref a :: .int sp :: .ref b :: st) hp = qzV d 1 89 [a0, a1] st (hp.1, hp.2.1, qzUr hp.2.2 a (va_cpy (hp.2.2 b) (hp.2.2 a) sp.toNatClampNeg dp.toNatClampNeg n.toNatClampNeg)) := qv_copy mdc_1 dX0_copyFrom_86 mdo_1 (by decide) rfl h8
theorem eX0_copyFrom_89 {d : Nat} {a1 : Value} {x : Nat} {st : List Value} {hp : qzH} : qzV d 1 89 [.ref x, a1] (st) hp = qzV d 1 90 [.ref x, a1] (.ref x :: st) hp := qv_aload (i := 0) mdc_1 dX0_copyFrom_89 rfl rfl rfl
theorem eX0_copyFrom_90 {d : Nat} {a0 : Value} {x : Nat} {st : List Value} {hp : qzH} : qzV d 1 90 [a0, .ref x] (st) hp = qzV d 1 91 [a0, .ref x] (.ref x :: st) hp := qv_aload (i := 1) mdc_1 dX0_copyFrom_90 rfl rfl rfl
theorem eX0_copyFrom_91 {d : Nat} {a0 a1 : Value} {a : Nat} {st : List Value} {hp : qzH} (ha : qzArr 0 a hp.1 = true) : qzV d 1 91 [a0, a1] (.ref a :: st) hp = qzV d 1 94 [a0, a1] (.int (hp.2.2 a 6) :: st) hp := qv_getI mdc_1 dX0_copyFrom_91 mdo_1 qff_0_38 ⟨by decide, rfl⟩ rfl ha
theorem eX0_copyFrom_94 {d : Nat} {a0 a1 : Value} {a : Nat} {x : Int32} {st : List Value} {hp : qzH} (ha : qzArr 0 a hp.1 = true) : qzV d 1 94 [a0, a1] (.int x :: .ref a :: st) hp = qzV d 1 97 [a0, a1] st (hp.1, hp.2.1, qzUp hp.2.2 a 6 x) := qv_putI mdc_1 dX0_copyFrom_94 mdo_1 qff_0_38 ⟨by decide, rfl, rfl⟩ rfl ha ⟨rfl, rfl⟩
theorem eX0_copyFrom_97 {d : Nat} {a1 : Value} {x : Nat} {st : List Value} {hp : qzH} : qzV d 1 97 [.ref x, a1] (st) hp = qzV d 1 98 [.ref x, a1] (.ref x :: st) hp := qv_aload (i := 0) mdc_1 dX0_copyFrom_97 rfl rfl rfl
theorem eX0_copyFrom_98 {d : Nat} {a0 : Value} {x : Nat} {st : List Value} {hp : qzH} : qzV d 1 98 [a0, .ref x] (st) hp = qzV d 1 99 [a0, .ref x] (.ref x :: st) hp := qv_aload (i := 1) mdc_1 dX0_copyFrom_98 rfl rfl rfl
theorem eX0_copyFrom_99 {d : Nat} {a0 a1 : Value} {a : Nat} {st : List Value} {hp : qzH} (ha : qzArr 0 a hp.1 = true) : qzV d 1 99 [a0, a1] (.ref a :: st) hp = qzV d 1 102 [a0, a1] (.int (hp.2.2 a 7) :: st) hp := qv_getI mdc_1 dX0_copyFrom_99 mdo_1 qff_0_42 ⟨by decide, rfl⟩ rfl ha
theorem eX0_copyFrom_102 {d : Nat} {a0 a1 : Value} {a : Nat} {x : Int32} {st : List Value} {hp : qzH} (ha : qzArr 0 a hp.1 = true) : qzV d 1 102 [a0, a1] (.int x :: .ref a :: st) hp = qzV d 1 105 [a0, a1] st (hp.1, hp.2.1, qzUp hp.2.2 a 7 x) := qv_putI mdc_1 dX0_copyFrom_102 mdo_1 qff_0_42 ⟨by decide, rfl, rfl⟩ rfl ha ⟨rfl, rfl⟩
theorem eX0_copyFrom_105 {d : Nat} {a1 : Value} {x : Nat} {st : List Value} {hp : qzH} : qzV d 1 105 [.ref x, a1] (st) hp = qzV d 1 106 [.ref x, a1] (.ref x :: st) hp := qv_aload (i := 0) mdc_1 dX0_copyFrom_105 rfl rfl rfl
theorem eX0_copyFrom_106 {d : Nat} {a0 : Value} {x : Nat} {st : List Value} {hp : qzH} : qzV d 1 106 [a0, .ref x] (st) hp = qzV d 1 107 [a0, .ref x] (.ref x :: st) hp := qv_aload (i := 1) mdc_1 dX0_copyFrom_106 rfl rfl rfl
theorem eX0_copyFrom_107 {d : Nat} {a0 a1 : Value} {a : Nat} {st : List Value} {hp : qzH} (ha : qzArr 0 a hp.1 = true) : qzV d 1 107 [a0, a1] (.ref a :: st) hp = qzV d 1 110 [a0, a1] (.int (hp.2.2 a 8) :: st) hp := qv_getI mdc_1 dX0_copyFrom_107 mdo_1 qff_0_45 ⟨by decide, rfl⟩ rfl ha
theorem eX0_copyFrom_110 {d : Nat} {a0 a1 : Value} {a : Nat} {x : Int32} {st : List Value} {hp : qzH} (ha : qzArr 0 a hp.1 = true) : qzV d 1 110 [a0, a1] (.int x :: .ref a :: st) hp = qzV d 1 113 [a0, a1] st (hp.1, hp.2.1, qzUp hp.2.2 a 8 x) := qv_putI mdc_1 dX0_copyFrom_110 mdo_1 qff_0_45 ⟨by decide, rfl, rfl⟩ rfl ha ⟨rfl, rfl⟩
theorem eX0_copyFrom_113 {d : Nat} {a1 : Value} {x : Nat} {st : List Value} {hp : qzH} : qzV d 1 113 [.ref x, a1] (st) hp = qzV d 1 114 [.ref x, a1] (.ref x :: st) hp := qv_aload (i := 0) mdc_1 dX0_copyFrom_113 rfl rfl rfl
theorem eX0_copyFrom_114 {d : Nat} {a0 : Value} {x : Nat} {st : List Value} {hp : qzH} : qzV d 1 114 [a0, .ref x] (st) hp = qzV d 1 115 [a0, .ref x] (.ref x :: st) hp := qv_aload (i := 1) mdc_1 dX0_copyFrom_114 rfl rfl rfl
theorem eX0_copyFrom_115 {d : Nat} {a0 a1 : Value} {a : Nat} {st : List Value} {hp : qzH} (ha : qzArr 0 a hp.1 = true) : qzV d 1 115 [a0, a1] (.ref a :: st) hp = qzV d 1 118 [a0, a1] (.int (hp.2.2 a 9) :: st) hp := qv_getI mdc_1 dX0_copyFrom_115 mdo_1 qff_0_48 ⟨by decide, rfl⟩ rfl ha
theorem eX0_copyFrom_118 {d : Nat} {a0 a1 : Value} {a : Nat} {x : Int32} {st : List Value} {hp : qzH} (ha : qzArr 0 a hp.1 = true) : qzV d 1 118 [a0, a1] (.int x :: .ref a :: st) hp = qzV d 1 121 [a0, a1] st (hp.1, hp.2.1, qzUp hp.2.2 a 9 x) := qv_putI mdc_1 dX0_copyFrom_118 mdo_1 qff_0_48 ⟨by decide, rfl, rfl⟩ rfl ha ⟨rfl, rfl⟩
theorem eX0_copyFrom_121 {d : Nat} {a0 a1 : Value} {hp : qzH} : qzV d 1 121 [a0, a1] [] hp = some (none, hp) := qv_vret mdc_1 dX0_copyFrom_121 mdr_1
theorem dX0_begin_0 : decode cX0_begin 0 = .ok (.aload_n 0, 1) := by decide +kernel
theorem dX0_begin_1 : decode cX0_begin 1 = .ok (.iconst 0, 1) := by decide +kernel
theorem dX0_begin_2 : decode cX0_begin 2 = .ok (.putfield 42, 3) := by decide +kernel
theorem dX0_begin_5 : decode cX0_begin 5 = .ok (.aload_n 0, 1) := by decide +kernel
theorem dX0_begin_6 : decode cX0_begin 6 = .ok (.aload_n 0, 1) := by decide +kernel
theorem dX0_begin_7 : decode cX0_begin 7 = .ok (.getfield 38, 3) := by decide +kernel
theorem dX0_begin_10 : decode cX0_begin 10 = .ok (.putfield 45, 3) := by decide +kernel
theorem dX0_begin_13 : decode cX0_begin 13 = .ok (.aload_n 0, 1) := by decide +kernel
theorem dX0_begin_14 : decode cX0_begin 14 = .ok (.iconst 0, 1) := by decide +kernel
theorem dX0_begin_15 : decode cX0_begin 15 = .ok (.putfield 48, 3) := by decide +kernel
theorem dX0_begin_18 : decode cX0_begin 18 = .ok (.return_, 1) := by decide +kernel
theorem eX0_begin_0 {d : Nat} {x : Nat} {st : List Value} {hp : qzH} : qzV d 2 0 [.ref x] (st) hp = qzV d 2 1 [.ref x] (.ref x :: st) hp := qv_aload (i := 0) mdc_2 dX0_begin_0 rfl rfl rfl
theorem eX0_begin_1 {d : Nat} {a0 : Value} {st : List Value} {hp : qzH} : qzV d 2 1 [a0] (st) hp = qzV d 2 2 [a0] (.int 0 :: st) hp := qv_iconst mdc_2 dX0_begin_1 il_0 rfl
theorem eX0_begin_2 {d : Nat} {a0 : Value} {a : Nat} {x : Int32} {st : List Value} {hp : qzH} (ha : qzArr 0 a hp.1 = true) : qzV d 2 2 [a0] (.int x :: .ref a :: st) hp = qzV d 2 5 [a0] st (hp.1, hp.2.1, qzUp hp.2.2 a 7 x) := qv_putI mdc_2 dX0_begin_2 mdo_2 qff_0_42 ⟨by decide, rfl, rfl⟩ rfl ha ⟨rfl, rfl⟩
theorem eX0_begin_5 {d : Nat} {x : Nat} {st : List Value} {hp : qzH} : qzV d 2 5 [.ref x] (st) hp = qzV d 2 6 [.ref x] (.ref x :: st) hp := qv_aload (i := 0) mdc_2 dX0_begin_5 rfl rfl rfl
theorem eX0_begin_6 {d : Nat} {x : Nat} {st : List Value} {hp : qzH} : qzV d 2 6 [.ref x] (st) hp = qzV d 2 7 [.ref x] (.ref x :: st) hp := qv_aload (i := 0) mdc_2 dX0_begin_6 rfl rfl rfl
theorem eX0_begin_7 {d : Nat} {a0 : Value} {a : Nat} {st : List Value} {hp : qzH} (ha : qzArr 0 a hp.1 = true) : qzV d 2 7 [a0] (.ref a :: st) hp = qzV d 2 10 [a0] (.int (hp.2.2 a 6) :: st) hp := qv_getI mdc_2 dX0_begin_7 mdo_2 qff_0_38 ⟨by decide, rfl⟩ rfl ha
theorem eX0_begin_10 {d : Nat} {a0 : Value} {a : Nat} {x : Int32} {st : List Value} {hp : qzH} (ha : qzArr 0 a hp.1 = true) : qzV d 2 10 [a0] (.int x :: .ref a :: st) hp = qzV d 2 13 [a0] st (hp.1, hp.2.1, qzUp hp.2.2 a 8 x) := qv_putI mdc_2 dX0_begin_10 mdo_2 qff_0_45 ⟨by decide, rfl, rfl⟩ rfl ha ⟨rfl, rfl⟩
theorem eX0_begin_13 {d : Nat} {x : Nat} {st : List Value} {hp : qzH} : qzV d 2 13 [.ref x] (st) hp = qzV d 2 14 [.ref x] (.ref x :: st) hp := qv_aload (i := 0) mdc_2 dX0_begin_13 rfl rfl rfl
theorem eX0_begin_14 {d : Nat} {a0 : Value} {st : List Value} {hp : qzH} : qzV d 2 14 [a0] (st) hp = qzV d 2 15 [a0] (.int 0 :: st) hp := qv_iconst mdc_2 dX0_begin_14 il_0 rfl
theorem eX0_begin_15 {d : Nat} {a0 : Value} {a : Nat} {x : Int32} {st : List Value} {hp : qzH} (ha : qzArr 0 a hp.1 = true) : qzV d 2 15 [a0] (.int x :: .ref a :: st) hp = qzV d 2 18 [a0] st (hp.1, hp.2.1, qzUp hp.2.2 a 9 x) := qv_putI mdc_2 dX0_begin_15 mdo_2 qff_0_48 ⟨by decide, rfl, rfl⟩ rfl ha ⟨rfl, rfl⟩
theorem eX0_begin_18 {d : Nat} {a0 : Value} {hp : qzH} : qzV d 2 18 [a0] [] hp = some (none, hp) := qv_vret mdc_2 dX0_begin_18 mdr_2
theorem dX0_remaining_0 : decode cX0_remaining 0 = .ok (.aload_n 0, 1) := by decide +kernel
theorem dX0_remaining_1 : decode cX0_remaining 1 = .ok (.getfield 45, 3) := by decide +kernel
theorem dX0_remaining_4 : decode cX0_remaining 4 = .ok (.aload_n 0, 1) := by decide +kernel
theorem dX0_remaining_5 : decode cX0_remaining 5 = .ok (.getfield 42, 3) := by decide +kernel
theorem dX0_remaining_8 : decode cX0_remaining 8 = .ok (.isub, 1) := by decide +kernel
theorem dX0_remaining_9 : decode cX0_remaining 9 = .ok (.ireturn, 1) := by decide +kernel
theorem eX0_remaining_0 {d : Nat} {x : Nat} {st : List Value} {hp : qzH} : qzV d 3 0 [.ref x] (st) hp = qzV d 3 1 [.ref x] (.ref x :: st) hp := qv_aload (i := 0) mdc_3 dX0_remaining_0 rfl rfl rfl
theorem eX0_remaining_1 {d : Nat} {a0 : Value} {a : Nat} {st : List Value} {hp : qzH} (ha : qzArr 0 a hp.1 = true) : qzV d 3 1 [a0] (.ref a :: st) hp = qzV d 3 4 [a0] (.int (hp.2.2 a 8) :: st) hp := qv_getI mdc_3 dX0_remaining_1 mdo_3 qff_0_45 ⟨by decide, rfl⟩ rfl ha
theorem eX0_remaining_4 {d : Nat} {x : Nat} {st : List Value} {hp : qzH} : qzV d 3 4 [.ref x] (st) hp = qzV d 3 5 [.ref x] (.ref x :: st) hp := qv_aload (i := 0) mdc_3 dX0_remaining_4 rfl rfl rfl
theorem eX0_remaining_5 {d : Nat} {a0 : Value} {a : Nat} {st : List Value} {hp : qzH} (ha : qzArr 0 a hp.1 = true) : qzV d 3 5 [a0] (.ref a :: st) hp = qzV d 3 8 [a0] (.int (hp.2.2 a 7) :: st) hp := qv_getI mdc_3 dX0_remaining_5 mdo_3 qff_0_42 ⟨by decide, rfl⟩ rfl ha
theorem eX0_remaining_8 {d : Nat} {a0 : Value} {x y : Int32} {st : List Value} {hp : qzH} : qzV d 3 8 [a0] (.int y :: .int x :: st) hp = qzV d 3 9 [a0] (.int (x - y) :: st) hp := qv_bin (f := fun x y => x - y) mdc_3 dX0_remaining_8 rfl rfl
theorem eX0_remaining_9 {d : Nat} {a0 : Value} {v : Int32} {hp : qzH} : qzV d 3 9 [a0] [.int v] hp = some (some (.int v), hp) := qv_iret mdc_3 dX0_remaining_9 mdr_3 rfl
theorem dX0_isOver_0 : decode cX0_isOver 0 = .ok (.aload_n 0, 1) := by decide +kernel
theorem dX0_isOver_1 : decode cX0_isOver 1 = .ok (.getfield 42, 3) := by decide +kernel
theorem dX0_isOver_4 : decode cX0_isOver 4 = .ok (.aload_n 0, 1) := by decide +kernel
theorem dX0_isOver_5 : decode cX0_isOver 5 = .ok (.getfield 45, 3) := by decide +kernel
theorem dX0_isOver_8 : decode cX0_isOver 8 = .ok (.if_icmp .lt 7, 3) := by decide +kernel
theorem dX0_isOver_11 : decode cX0_isOver 11 = .ok (.iconst 1, 1) := by decide +kernel
theorem dX0_isOver_12 : decode cX0_isOver 12 = .ok (.goto 4, 3) := by decide +kernel
theorem dX0_isOver_15 : decode cX0_isOver 15 = .ok (.iconst 0, 1) := by decide +kernel
theorem dX0_isOver_16 : decode cX0_isOver 16 = .ok (.ireturn, 1) := by decide +kernel
theorem eX0_isOver_0 {d : Nat} {x : Nat} {st : List Value} {hp : qzH} : qzV d 4 0 [.ref x] (st) hp = qzV d 4 1 [.ref x] (.ref x :: st) hp := qv_aload (i := 0) mdc_4 dX0_isOver_0 rfl rfl rfl
theorem eX0_isOver_1 {d : Nat} {a0 : Value} {a : Nat} {st : List Value} {hp : qzH} (ha : qzArr 0 a hp.1 = true) : qzV d 4 1 [a0] (.ref a :: st) hp = qzV d 4 4 [a0] (.int (hp.2.2 a 7) :: st) hp := qv_getI mdc_4 dX0_isOver_1 mdo_4 qff_0_42 ⟨by decide, rfl⟩ rfl ha
theorem eX0_isOver_4 {d : Nat} {x : Nat} {st : List Value} {hp : qzH} : qzV d 4 4 [.ref x] (st) hp = qzV d 4 5 [.ref x] (.ref x :: st) hp := qv_aload (i := 0) mdc_4 dX0_isOver_4 rfl rfl rfl
theorem eX0_isOver_5 {d : Nat} {a0 : Value} {a : Nat} {st : List Value} {hp : qzH} (ha : qzArr 0 a hp.1 = true) : qzV d 4 5 [a0] (.ref a :: st) hp = qzV d 4 8 [a0] (.int (hp.2.2 a 8) :: st) hp := qv_getI mdc_4 dX0_isOver_5 mdo_4 qff_0_45 ⟨by decide, rfl⟩ rfl ha
theorem eX0_isOver_8 {d : Nat} {a0 : Value} {x y : Int32} {st : List Value} {hp : qzH} : qzV d 4 8 [a0] (.int y :: .int x :: st) hp = if x < y then qzV d 4 15 [a0] (st) hp else qzV d 4 11 [a0] (st) hp := qv_if2 mdc_4 dX0_isOver_8 rfl rfl rfl
theorem eX0_isOver_11 {d : Nat} {a0 : Value} {st : List Value} {hp : qzH} : qzV d 4 11 [a0] (st) hp = qzV d 4 12 [a0] (.int 1 :: st) hp := qv_iconst mdc_4 dX0_isOver_11 il_1 rfl
theorem eX0_isOver_12 {d : Nat} {a0 : Value} {st : List Value} {hp : qzH} : qzV d 4 12 [a0] (st) hp = qzV d 4 16 [a0] (st) hp := qv_goto mdc_4 dX0_isOver_12 rfl
theorem eX0_isOver_15 {d : Nat} {a0 : Value} {st : List Value} {hp : qzH} : qzV d 4 15 [a0] (st) hp = qzV d 4 16 [a0] (.int 0 :: st) hp := qv_iconst mdc_4 dX0_isOver_15 il_0 rfl
theorem eX0_isOver_16 {d : Nat} {a0 : Value} {v : Int32} {hp : qzH} (hn : narrow .boolean (.int v) = .int v) : qzV d 4 16 [a0] [.int v] hp = some (some (.int v), hp) := qv_iret mdc_4 dX0_isOver_16 mdr_4 hn
theorem dX0_onTurn_0 : decode cX0_onTurn 0 = .ok (.aload_n 0, 1) := by decide +kernel
theorem dX0_onTurn_1 : decode cX0_onTurn 1 = .ok (.getfield 48, 3) := by decide +kernel
theorem dX0_onTurn_4 : decode cX0_onTurn 4 = .ok (.iconst 1, 1) := by decide +kernel
theorem dX0_onTurn_5 : decode cX0_onTurn 5 = .ok (.iand, 1) := by decide +kernel
theorem dX0_onTurn_6 : decode cX0_onTurn 6 = .ok (.ireturn, 1) := by decide +kernel
theorem eX0_onTurn_0 {d : Nat} {x : Nat} {st : List Value} {hp : qzH} : qzV d 5 0 [.ref x] (st) hp = qzV d 5 1 [.ref x] (.ref x :: st) hp := qv_aload (i := 0) mdc_5 dX0_onTurn_0 rfl rfl rfl
theorem eX0_onTurn_1 {d : Nat} {a0 : Value} {a : Nat} {st : List Value} {hp : qzH} (ha : qzArr 0 a hp.1 = true) : qzV d 5 1 [a0] (.ref a :: st) hp = qzV d 5 4 [a0] (.int (hp.2.2 a 9) :: st) hp := qv_getI mdc_5 dX0_onTurn_1 mdo_5 qff_0_48 ⟨by decide, rfl⟩ rfl ha
theorem eX0_onTurn_4 {d : Nat} {a0 : Value} {st : List Value} {hp : qzH} : qzV d 5 4 [a0] (st) hp = qzV d 5 5 [a0] (.int 1 :: st) hp := qv_iconst mdc_5 dX0_onTurn_4 il_1 rfl
theorem eX0_onTurn_5 {d : Nat} {a0 : Value} {x y : Int32} {st : List Value} {hp : qzH} : qzV d 5 5 [a0] (.int y :: .int x :: st) hp = qzV d 5 6 [a0] (.int (x &&& y) :: st) hp := qv_bin (f := fun x y => x &&& y) mdc_5 dX0_onTurn_5 rfl rfl
theorem eX0_onTurn_6 {d : Nat} {a0 : Value} {v : Int32} {hp : qzH} : qzV d 5 6 [a0] [.int v] hp = some (some (.int v), hp) := qv_iret mdc_5 dX0_onTurn_6 mdr_5 rfl
theorem dX0_longestCut_0 : decode cX0_longestCut 0 = .ok (.aload_n 0, 1) := by decide +kernel
theorem dX0_longestCut_1 : decode cX0_longestCut 1 = .ok (.getfield 15, 3) := by decide +kernel
theorem dX0_longestCut_4 : decode cX0_longestCut 4 = .ok (.iconst 0, 1) := by decide +kernel
theorem dX0_longestCut_5 : decode cX0_longestCut 5 = .ok (.invokestatic 54, 3) := by decide +kernel
theorem dX0_longestCut_8 : decode cX0_longestCut 8 = .ok (.aload_n 0, 1) := by decide +kernel
theorem dX0_longestCut_9 : decode cX0_longestCut 9 = .ok (.invokevirtual 72, 3) := by decide +kernel
theorem dX0_longestCut_12 : decode cX0_longestCut 12 = .ok (.invokestatic 75, 3) := by decide +kernel
theorem dX0_longestCut_15 : decode cX0_longestCut 15 = .ok (.ireturn, 1) := by decide +kernel
theorem eX0_longestCut_0 {d : Nat} {x : Nat} {st : List Value} {hp : qzH} : qzV d 6 0 [.ref x] (st) hp = qzV d 6 1 [.ref x] (.ref x :: st) hp := qv_aload (i := 0) mdc_6 dX0_longestCut_0 rfl rfl rfl
theorem eX0_longestCut_1 {d : Nat} {a0 : Value} {a : Nat} {st : List Value} {hp : qzH} (ha : qzArr 0 a hp.1 = true) : qzV d 6 1 [a0] (.ref a :: st) hp = qzV d 6 4 [a0] (va_rf (hp.2.1 a 1) :: st) hp := qv_getR mdc_6 dX0_longestCut_1 mdo_6 qff_0_15 ⟨by decide, rfl⟩ rfl ha
theorem eX0_longestCut_4 {d : Nat} {a0 : Value} {st : List Value} {hp : qzH} : qzV d 6 4 [a0] (st) hp = qzV d 6 5 [a0] (.int 0 :: st) hp := qv_iconst mdc_6 dX0_longestCut_4 il_0 rfl
theorem eX0_longestCut_5 {d : Nat} {a0 : Value} {w0 w1 : Value} {st : List Value} {hp : qzH} (h8 : st.length ≤ 8) : qzV (d + 1) 6 5 [a0] (w1 :: w0 :: st) hp = (qzC d 84 [w0, w1] hp).bind (fun r => qzV (d + 1) 6 8 [a0] (r.1.toList ++ st) r.2) := qv_calls (n := 2) mdc_6 dX0_longestCut_5 mdo_6 (by decide) qfc_0_54 ⟨rfl, by decide, rfl⟩ rfl ⟨rfl, rfl, by simp only [List.length_cons]; omega⟩ h8
theorem eX0_longestCut_8 {d : Nat} {x : Nat} {st : List Value} {hp : qzH} : qzV d 6 8 [.ref x] (st) hp = qzV d 6 9 [.ref x] (.ref x :: st) hp := qv_aload (i := 0) mdc_6 dX0_longestCut_8 rfl rfl rfl
theorem eX0_longestCut_9 {d : Nat} {a0 : Value} {b : Nat} {st : List Value} {hp : qzH} (h8 : st.length ≤ 8) (hb : qzArr 0 b hp.1 = true) : qzV (d + 1) 6 9 [a0] (.ref b :: st) hp = (qzC d 3 (.ref b :: []) hp).bind (fun r => qzV (d + 1) 6 12 [a0] (r.1.toList ++ st) r.2) := qv_callv (n := 0) mdc_6 dX0_longestCut_9 mdo_6 (by decide) qfc_0_72 ⟨rfl, by decide, rfl⟩ rfl ⟨rfl, rfl, by simp only [List.length_cons]; omega⟩ h8 hb
theorem eX0_longestCut_12 {d : Nat} {a0 : Value} {x y : Int32} {st : List Value} {hp : qzH} (h8 : st.length ≤ 8) : qzV d 6 12 [a0] (.int y :: .int x :: st) hp = qzV d 6 15 [a0] (.int (if y < x then y else x) :: st) hp := qv_min mdc_6 dX0_longestCut_12 mdo_6 (by decide) rfl h8
theorem eX0_longestCut_15 {d : Nat} {a0 : Value} {v : Int32} {hp : qzH} : qzV d 6 15 [a0] [.int v] hp = some (some (.int v), hp) := qv_iret mdc_6 dX0_longestCut_15 mdr_6 rfl
theorem dX0_worthOfCut_0 : decode cX0_worthOfCut 0 = .ok (.iload_n 1, 1) := by decide +kernel
theorem dX0_worthOfCut_1 : decode cX0_worthOfCut 1 = .ok (.invokestatic 81, 3) := by decide +kernel
theorem dX0_worthOfCut_4 : decode cX0_worthOfCut 4 = .ok (.istore_n 2, 1) := by decide +kernel
theorem dX0_worthOfCut_5 : decode cX0_worthOfCut 5 = .ok (.aload_n 0, 1) := by decide +kernel
theorem dX0_worthOfCut_6 : decode cX0_worthOfCut 6 = .ok (.getfield 42, 3) := by decide +kernel
theorem dX0_worthOfCut_9 : decode cX0_worthOfCut 9 = .ok (.aload_n 0, 1) := by decide +kernel
theorem dX0_worthOfCut_10 : decode cX0_worthOfCut 10 = .ok (.getfield 45, 3) := by decide +kernel
theorem dX0_worthOfCut_13 : decode cX0_worthOfCut 13 = .ok (.iload_n 1, 1) := by decide +kernel
theorem dX0_worthOfCut_14 : decode cX0_worthOfCut 14 = .ok (.invokestatic 85, 3) := by decide +kernel
theorem dX0_worthOfCut_17 : decode cX0_worthOfCut 17 = .ok (.istore_n 3, 1) := by decide +kernel
theorem dX0_worthOfCut_18 : decode cX0_worthOfCut 18 = .ok (.iload_n 2, 1) := by decide +kernel
theorem dX0_worthOfCut_19 : decode cX0_worthOfCut 19 = .ok (.aload_n 0, 1) := by decide +kernel
theorem dX0_worthOfCut_20 : decode cX0_worthOfCut 20 = .ok (.getfield 9, 3) := by decide +kernel
theorem dX0_worthOfCut_23 : decode cX0_worthOfCut 23 = .ok (.iload_n 3, 1) := by decide +kernel
theorem dX0_worthOfCut_24 : decode cX0_worthOfCut 24 = .ok (.iload_n 2, 1) := by decide +kernel
theorem dX0_worthOfCut_25 : decode cX0_worthOfCut 25 = .ok (.aload_n 0, 1) := by decide +kernel
theorem dX0_worthOfCut_26 : decode cX0_worthOfCut 26 = .ok (.aload_n 0, 1) := by decide +kernel
theorem dX0_worthOfCut_27 : decode cX0_worthOfCut 27 = .ok (.invokevirtual 89, 3) := by decide +kernel
theorem dX0_worthOfCut_30 : decode cX0_worthOfCut 30 = .ok (.invokevirtual 92, 3) := by decide +kernel
theorem dX0_worthOfCut_33 : decode cX0_worthOfCut 33 = .ok (.invokestatic 95, 3) := by decide +kernel
theorem dX0_worthOfCut_36 : decode cX0_worthOfCut 36 = .ok (.aload_n 0, 1) := by decide +kernel
theorem dX0_worthOfCut_37 : decode cX0_worthOfCut 37 = .ok (.getfield 15, 3) := by decide +kernel
theorem dX0_worthOfCut_40 : decode cX0_worthOfCut 40 = .ok (.invokestatic 99, 3) := by decide +kernel
theorem dX0_worthOfCut_43 : decode cX0_worthOfCut 43 = .ok (.ireturn, 1) := by decide +kernel
theorem eX0_worthOfCut_0 {d : Nat} {a0 a2 a3 : Value} {x : Int32} {st : List Value} {hp : qzH} : qzV d 7 0 [a0, .int x, a2, a3] (st) hp = qzV d 7 1 [a0, .int x, a2, a3] (.int x :: st) hp := qv_iload (i := 1) mdc_7 dX0_worthOfCut_0 rfl rfl rfl
theorem eX0_worthOfCut_1 {d : Nat} {a0 a1 a2 a3 : Value} {w0 : Value} {st : List Value} {hp : qzH} (h8 : st.length ≤ 8) : qzV (d + 1) 7 1 [a0, a1, a2, a3] (w0 :: st) hp = (qzC d 55 [w0] hp).bind (fun r => qzV (d + 1) 7 4 [a0, a1, a2, a3] (r.1.toList ++ st) r.2) := qv_calls (n := 1) mdc_7 dX0_worthOfCut_1 mdo_7 (by decide) qfc_0_81 ⟨rfl, by decide, rfl⟩ rfl ⟨rfl, rfl, by simp only [List.length_cons]; omega⟩ h8
theorem eX0_worthOfCut_4 {d : Nat} {a0 a1 a2 a3 : Value} {x : Int32} {st : List Value} {hp : qzH} : qzV d 7 4 [a0, a1, a2, a3] (.int x :: st) hp = qzV d 7 5 [a0, a1, .int x, a3] (st) hp := qv_istore (i := 2) mdc_7 dX0_worthOfCut_4 rfl (Nat.le_of_ble_eq_true rfl) rfl rfl
theorem eX0_worthOfCut_5 {d : Nat} {a1 a2 a3 : Value} {x : Nat} {st : List Value} {hp : qzH} : qzV d 7 5 [.ref x, a1, a2, a3] (st) hp = qzV d 7 6 [.ref x, a1, a2, a3] (.ref x :: st) hp := qv_aload (i := 0) mdc_7 dX0_worthOfCut_5 rfl rfl rfl
theorem eX0_worthOfCut_6 {d : Nat} {a0 a1 a2 a3 : Value} {a : Nat} {st : List Value} {hp : qzH} (ha : qzArr 0 a hp.1 = true) : qzV d 7 6 [a0, a1, a2, a3] (.ref a :: st) hp = qzV d 7 9 [a0, a1, a2, a3] (.int (hp.2.2 a 7) :: st) hp := qv_getI mdc_7 dX0_worthOfCut_6 mdo_7 qff_0_42 ⟨by decide, rfl⟩ rfl ha
theorem eX0_worthOfCut_9 {d : Nat} {a1 a2 a3 : Value} {x : Nat} {st : List Value} {hp : qzH} : qzV d 7 9 [.ref x, a1, a2, a3] (st) hp = qzV d 7 10 [.ref x, a1, a2, a3] (.ref x :: st) hp := qv_aload (i := 0) mdc_7 dX0_worthOfCut_9 rfl rfl rfl
theorem eX0_worthOfCut_10 {d : Nat} {a0 a1 a2 a3 : Value} {a : Nat} {st : List Value} {hp : qzH} (ha : qzArr 0 a hp.1 = true) : qzV d 7 10 [a0, a1, a2, a3] (.ref a :: st) hp = qzV d 7 13 [a0, a1, a2, a3] (.int (hp.2.2 a 8) :: st) hp := qv_getI mdc_7 dX0_worthOfCut_10 mdo_7 qff_0_45 ⟨by decide, rfl⟩ rfl ha
theorem eX0_worthOfCut_13 {d : Nat} {a0 a2 a3 : Value} {x : Int32} {st : List Value} {hp : qzH} : qzV d 7 13 [a0, .int x, a2, a3] (st) hp = qzV d 7 14 [a0, .int x, a2, a3] (.int x :: st) hp := qv_iload (i := 1) mdc_7 dX0_worthOfCut_13 rfl rfl rfl
theorem eX0_worthOfCut_14 {d : Nat} {a0 a1 a2 a3 : Value} {w0 w1 w2 : Value} {st : List Value} {hp : qzH} (h8 : st.length ≤ 8) : qzV (d + 1) 7 14 [a0, a1, a2, a3] (w2 :: w1 :: w0 :: st) hp = (qzC d 56 [w0, w1, w2] hp).bind (fun r => qzV (d + 1) 7 17 [a0, a1, a2, a3] (r.1.toList ++ st) r.2) := qv_calls (n := 3) mdc_7 dX0_worthOfCut_14 mdo_7 (by decide) qfc_0_85 ⟨rfl, by decide, rfl⟩ rfl ⟨rfl, rfl, by simp only [List.length_cons]; omega⟩ h8
theorem eX0_worthOfCut_17 {d : Nat} {a0 a1 a2 a3 : Value} {x : Int32} {st : List Value} {hp : qzH} : qzV d 7 17 [a0, a1, a2, a3] (.int x :: st) hp = qzV d 7 18 [a0, a1, a2, .int x] (st) hp := qv_istore (i := 3) mdc_7 dX0_worthOfCut_17 rfl (Nat.le_of_ble_eq_true rfl) rfl rfl
theorem eX0_worthOfCut_18 {d : Nat} {a0 a1 a3 : Value} {x : Int32} {st : List Value} {hp : qzH} : qzV d 7 18 [a0, a1, .int x, a3] (st) hp = qzV d 7 19 [a0, a1, .int x, a3] (.int x :: st) hp := qv_iload (i := 2) mdc_7 dX0_worthOfCut_18 rfl rfl rfl
theorem eX0_worthOfCut_19 {d : Nat} {a1 a2 a3 : Value} {x : Nat} {st : List Value} {hp : qzH} : qzV d 7 19 [.ref x, a1, a2, a3] (st) hp = qzV d 7 20 [.ref x, a1, a2, a3] (.ref x :: st) hp := qv_aload (i := 0) mdc_7 dX0_worthOfCut_19 rfl rfl rfl
theorem eX0_worthOfCut_20 {d : Nat} {a0 a1 a2 a3 : Value} {a : Nat} {st : List Value} {hp : qzH} (ha : qzArr 0 a hp.1 = true) : qzV d 7 20 [a0, a1, a2, a3] (.ref a :: st) hp = qzV d 7 23 [a0, a1, a2, a3] (va_rf (hp.2.1 a 0) :: st) hp := qv_getR mdc_7 dX0_worthOfCut_20 mdo_7 qff_0_9 ⟨by decide, rfl⟩ rfl ha
theorem eX0_worthOfCut_23 {d : Nat} {a0 a1 a2 : Value} {x : Int32} {st : List Value} {hp : qzH} : qzV d 7 23 [a0, a1, a2, .int x] (st) hp = qzV d 7 24 [a0, a1, a2, .int x] (.int x :: st) hp := qv_iload (i := 3) mdc_7 dX0_worthOfCut_23 rfl rfl rfl
theorem eX0_worthOfCut_24 {d : Nat} {a0 a1 a3 : Value} {x : Int32} {st : List Value} {hp : qzH} : qzV d 7 24 [a0, a1, .int x, a3] (st) hp = qzV d 7 25 [a0, a1, .int x, a3] (.int x :: st) hp := qv_iload (i := 2) mdc_7 dX0_worthOfCut_24 rfl rfl rfl
theorem eX0_worthOfCut_25 {d : Nat} {a1 a2 a3 : Value} {x : Nat} {st : List Value} {hp : qzH} : qzV d 7 25 [.ref x, a1, a2, a3] (st) hp = qzV d 7 26 [.ref x, a1, a2, a3] (.ref x :: st) hp := qv_aload (i := 0) mdc_7 dX0_worthOfCut_25 rfl rfl rfl
theorem eX0_worthOfCut_26 {d : Nat} {a1 a2 a3 : Value} {x : Nat} {st : List Value} {hp : qzH} : qzV d 7 26 [.ref x, a1, a2, a3] (st) hp = qzV d 7 27 [.ref x, a1, a2, a3] (.ref x :: st) hp := qv_aload (i := 0) mdc_7 dX0_worthOfCut_26 rfl rfl rfl
theorem eX0_worthOfCut_27 {d : Nat} {a0 a1 a2 a3 : Value} {b : Nat} {st : List Value} {hp : qzH} (h8 : st.length ≤ 8) (hb : qzArr 0 b hp.1 = true) : qzV (d + 1) 7 27 [a0, a1, a2, a3] (.ref b :: st) hp = (qzC d 5 (.ref b :: []) hp).bind (fun r => qzV (d + 1) 7 30 [a0, a1, a2, a3] (r.1.toList ++ st) r.2) := qv_callv (n := 0) mdc_7 dX0_worthOfCut_27 mdo_7 (by decide) qfc_0_89 ⟨rfl, by decide, rfl⟩ rfl ⟨rfl, rfl, by simp only [List.length_cons]; omega⟩ h8 hb
theorem eX0_worthOfCut_30 {d : Nat} {a0 a1 a2 a3 : Value} {w0 : Value} {b : Nat} {st : List Value} {hp : qzH} (h8 : st.length ≤ 8) (hb : qzArr 0 b hp.1 = true) : qzV (d + 1) 7 30 [a0, a1, a2, a3] (w0 :: .ref b :: st) hp = (qzC d 11 (.ref b :: [w0]) hp).bind (fun r => qzV (d + 1) 7 33 [a0, a1, a2, a3] (r.1.toList ++ st) r.2) := qv_callv (n := 1) mdc_7 dX0_worthOfCut_30 mdo_7 (by decide) qfc_0_92 ⟨rfl, by decide, rfl⟩ rfl ⟨rfl, rfl, by simp only [List.length_cons]; omega⟩ h8 hb
theorem eX0_worthOfCut_33 {d : Nat} {a0 a1 a2 a3 : Value} {w0 w1 w2 w3 : Value} {st : List Value} {hp : qzH} (h8 : st.length ≤ 8) : qzV (d + 1) 7 33 [a0, a1, a2, a3] (w3 :: w2 :: w1 :: w0 :: st) hp = (qzC d 69 [w0, w1, w2, w3] hp).bind (fun r => qzV (d + 1) 7 36 [a0, a1, a2, a3] (r.1.toList ++ st) r.2) := qv_calls (n := 4) mdc_7 dX0_worthOfCut_33 mdo_7 (by decide) qfc_0_95 ⟨rfl, by decide, rfl⟩ rfl ⟨rfl, rfl, by simp only [List.length_cons]; omega⟩ h8
theorem eX0_worthOfCut_36 {d : Nat} {a1 a2 a3 : Value} {x : Nat} {st : List Value} {hp : qzH} : qzV d 7 36 [.ref x, a1, a2, a3] (st) hp = qzV d 7 37 [.ref x, a1, a2, a3] (.ref x :: st) hp := qv_aload (i := 0) mdc_7 dX0_worthOfCut_36 rfl rfl rfl
theorem eX0_worthOfCut_37 {d : Nat} {a0 a1 a2 a3 : Value} {a : Nat} {st : List Value} {hp : qzH} (ha : qzArr 0 a hp.1 = true) : qzV d 7 37 [a0, a1, a2, a3] (.ref a :: st) hp = qzV d 7 40 [a0, a1, a2, a3] (va_rf (hp.2.1 a 1) :: st) hp := qv_getR mdc_7 dX0_worthOfCut_37 mdo_7 qff_0_15 ⟨by decide, rfl⟩ rfl ha
theorem eX0_worthOfCut_40 {d : Nat} {a0 a1 a2 a3 : Value} {w0 w1 w2 : Value} {st : List Value} {hp : qzH} (h8 : st.length ≤ 8) : qzV (d + 1) 7 40 [a0, a1, a2, a3] (w2 :: w1 :: w0 :: st) hp = (qzC d 70 [w0, w1, w2] hp).bind (fun r => qzV (d + 1) 7 43 [a0, a1, a2, a3] (r.1.toList ++ st) r.2) := qv_calls (n := 3) mdc_7 dX0_worthOfCut_40 mdo_7 (by decide) qfc_0_99 ⟨rfl, by decide, rfl⟩ rfl ⟨rfl, rfl, by simp only [List.length_cons]; omega⟩ h8
theorem eX0_worthOfCut_43 {d : Nat} {a0 a1 a2 a3 : Value} {v : Int32} {hp : qzH} : qzV d 7 43 [a0, a1, a2, a3] [.int v] hp = some (some (.int v), hp) := qv_iret mdc_7 dX0_worthOfCut_43 mdr_7 rfl
theorem dX0_sew_0 : decode cX0_sew 0 = .ok (.iload_n 1, 1) := by decide +kernel
theorem dX0_sew_1 : decode cX0_sew 1 = .ok (.invokestatic 81, 3) := by decide +kernel
theorem dX0_sew_4 : decode cX0_sew 4 = .ok (.istore_n 2, 1) := by decide +kernel
theorem dX0_sew_5 : decode cX0_sew 5 = .ok (.aload_n 0, 1) := by decide +kernel
theorem dX0_sew_6 : decode cX0_sew 6 = .ok (.getfield 42, 3) := by decide +kernel
theorem dX0_sew_9 : decode cX0_sew 9 = .ok (.aload_n 0, 1) := by decide +kernel
theorem dX0_sew_10 : decode cX0_sew 10 = .ok (.getfield 45, 3) := by decide +kernel
theorem dX0_sew_13 : decode cX0_sew 13 = .ok (.iload_n 1, 1) := by decide +kernel
theorem dX0_sew_14 : decode cX0_sew 14 = .ok (.invokestatic 85, 3) := by decide +kernel
theorem dX0_sew_17 : decode cX0_sew 17 = .ok (.istore_n 3, 1) := by decide +kernel
theorem dX0_sew_18 : decode cX0_sew 18 = .ok (.aload_n 0, 1) := by decide +kernel
theorem dX0_sew_19 : decode cX0_sew 19 = .ok (.getfield 9, 3) := by decide +kernel
theorem dX0_sew_22 : decode cX0_sew 22 = .ok (.iload_n 3, 1) := by decide +kernel
theorem dX0_sew_23 : decode cX0_sew 23 = .ok (.iload_n 2, 1) := by decide +kernel
theorem dX0_sew_24 : decode cX0_sew 24 = .ok (.aload_n 0, 1) := by decide +kernel
theorem dX0_sew_25 : decode cX0_sew 25 = .ok (.aload_n 0, 1) := by decide +kernel
theorem dX0_sew_26 : decode cX0_sew 26 = .ok (.invokevirtual 89, 3) := by decide +kernel
theorem dX0_sew_29 : decode cX0_sew 29 = .ok (.invokevirtual 92, 3) := by decide +kernel
theorem dX0_sew_32 : decode cX0_sew 32 = .ok (.invokestatic 95, 3) := by decide +kernel
theorem dX0_sew_35 : decode cX0_sew 35 = .ok (.istore 4, 2) := by decide +kernel
theorem dX0_sew_37 : decode cX0_sew 37 = .ok (.iload_n 2, 1) := by decide +kernel
theorem dX0_sew_38 : decode cX0_sew 38 = .ok (.iload 4, 2) := by decide +kernel
theorem dX0_sew_40 : decode cX0_sew 40 = .ok (.aload_n 0, 1) := by decide +kernel
theorem dX0_sew_41 : decode cX0_sew 41 = .ok (.getfield 15, 3) := by decide +kernel
theorem dX0_sew_44 : decode cX0_sew 44 = .ok (.invokestatic 99, 3) := by decide +kernel
theorem dX0_sew_47 : decode cX0_sew 47 = .ok (.istore 5, 2) := by decide +kernel
theorem dX0_sew_49 : decode cX0_sew 49 = .ok (.aload_n 0, 1) := by decide +kernel
theorem dX0_sew_50 : decode cX0_sew 50 = .ok (.getfield 18, 3) := by decide +kernel
theorem dX0_sew_53 : decode cX0_sew 53 = .ok (.aload_n 0, 1) := by decide +kernel
theorem dX0_sew_54 : decode cX0_sew 54 = .ok (.getfield 48, 3) := by decide +kernel
theorem dX0_sew_57 : decode cX0_sew 57 = .ok (.iload_n 3, 1) := by decide +kernel
theorem dX0_sew_58 : decode cX0_sew 58 = .ok (.invokestatic 58, 3) := by decide +kernel
theorem dX0_sew_61 : decode cX0_sew 61 = .ok (.aload_n 0, 1) := by decide +kernel
theorem dX0_sew_62 : decode cX0_sew 62 = .ok (.getfield 21, 3) := by decide +kernel
theorem dX0_sew_65 : decode cX0_sew 65 = .ok (.aload_n 0, 1) := by decide +kernel
theorem dX0_sew_66 : decode cX0_sew 66 = .ok (.getfield 48, 3) := by decide +kernel
theorem dX0_sew_69 : decode cX0_sew 69 = .ok (.iload_n 2, 1) := by decide +kernel
theorem dX0_sew_70 : decode cX0_sew 70 = .ok (.invokestatic 58, 3) := by decide +kernel
theorem dX0_sew_73 : decode cX0_sew 73 = .ok (.aload_n 0, 1) := by decide +kernel
theorem dX0_sew_74 : decode cX0_sew 74 = .ok (.getfield 24, 3) := by decide +kernel
theorem dX0_sew_77 : decode cX0_sew 77 = .ok (.aload_n 0, 1) := by decide +kernel
theorem dX0_sew_78 : decode cX0_sew 78 = .ok (.getfield 48, 3) := by decide +kernel
theorem dX0_sew_81 : decode cX0_sew 81 = .ok (.iload 5, 2) := by decide +kernel
theorem dX0_sew_83 : decode cX0_sew 83 = .ok (.invokestatic 58, 3) := by decide +kernel
theorem dX0_sew_86 : decode cX0_sew 86 = .ok (.aload_n 0, 1) := by decide +kernel
theorem dX0_sew_87 : decode cX0_sew 87 = .ok (.getfield 27, 3) := by decide +kernel
theorem dX0_sew_90 : decode cX0_sew 90 = .ok (.aload_n 0, 1) := by decide +kernel
theorem dX0_sew_91 : decode cX0_sew 91 = .ok (.getfield 48, 3) := by decide +kernel
theorem dX0_sew_94 : decode cX0_sew 94 = .ok (.iload_n 1, 1) := by decide +kernel
theorem dX0_sew_95 : decode cX0_sew 95 = .ok (.invokestatic 103, 3) := by decide +kernel
theorem dX0_sew_98 : decode cX0_sew 98 = .ok (.ifCond .eq 10, 3) := by decide +kernel
theorem dX0_sew_101 : decode cX0_sew 101 = .ok (.iload 4, 2) := by decide +kernel
theorem dX0_sew_103 : decode cX0_sew 103 = .ok (.iconst 1, 1) := by decide +kernel
theorem dX0_sew_104 : decode cX0_sew 104 = .ok (.ior, 1) := by decide +kernel
theorem dX0_sew_105 : decode cX0_sew 105 = .ok (.goto 5, 3) := by decide +kernel
theorem dX0_sew_108 : decode cX0_sew 108 = .ok (.iload 4, 2) := by decide +kernel
theorem dX0_sew_110 : decode cX0_sew 110 = .ok (.invokestatic 58, 3) := by decide +kernel
theorem dX0_sew_113 : decode cX0_sew 113 = .ok (.aload_n 0, 1) := by decide +kernel
theorem dX0_sew_114 : decode cX0_sew 114 = .ok (.dup, 1) := by decide +kernel
theorem dX0_sew_115 : decode cX0_sew 115 = .ok (.getfield 48, 3) := by decide +kernel
theorem dX0_sew_118 : decode cX0_sew 118 = .ok (.iconst 1, 1) := by decide +kernel
theorem dX0_sew_119 : decode cX0_sew 119 = .ok (.iadd, 1) := by decide +kernel
theorem dX0_sew_120 : decode cX0_sew 120 = .ok (.putfield 48, 3) := by decide +kernel
theorem dX0_sew_123 : decode cX0_sew 123 = .ok (.aload_n 0, 1) := by decide +kernel
theorem dX0_sew_124 : decode cX0_sew 124 = .ok (.aload_n 0, 1) := by decide +kernel
theorem dX0_sew_125 : decode cX0_sew 125 = .ok (.getfield 42, 3) := by decide +kernel
theorem dX0_sew_128 : decode cX0_sew 128 = .ok (.iload_n 1, 1) := by decide +kernel
theorem dX0_sew_129 : decode cX0_sew 129 = .ok (.invokestatic 107, 3) := by decide +kernel
theorem dX0_sew_132 : decode cX0_sew 132 = .ok (.putfield 42, 3) := by decide +kernel
theorem dX0_sew_135 : decode cX0_sew 135 = .ok (.aload_n 0, 1) := by decide +kernel
theorem dX0_sew_136 : decode cX0_sew 136 = .ok (.aload_n 0, 1) := by decide +kernel
theorem dX0_sew_137 : decode cX0_sew 137 = .ok (.getfield 45, 3) := by decide +kernel
theorem dX0_sew_140 : decode cX0_sew 140 = .ok (.iload_n 1, 1) := by decide +kernel
theorem dX0_sew_141 : decode cX0_sew 141 = .ok (.invokestatic 110, 3) := by decide +kernel
theorem dX0_sew_144 : decode cX0_sew 144 = .ok (.putfield 45, 3) := by decide +kernel
theorem dX0_sew_147 : decode cX0_sew 147 = .ok (.iload 5, 2) := by decide +kernel
theorem dX0_sew_149 : decode cX0_sew 149 = .ok (.ireturn, 1) := by decide +kernel
theorem eX0_sew_0 {d : Nat} {a0 a2 a3 a4 a5 : Value} {x : Int32} {st : List Value} {hp : qzH} : qzV d 8 0 [a0, .int x, a2, a3, a4, a5] (st) hp = qzV d 8 1 [a0, .int x, a2, a3, a4, a5] (.int x :: st) hp := qv_iload (i := 1) mdc_8 dX0_sew_0 rfl rfl rfl
theorem eX0_sew_1 {d : Nat} {a0 a1 a2 a3 a4 a5 : Value} {w0 : Value} {st : List Value} {hp : qzH} (h8 : st.length ≤ 8) : qzV (d + 1) 8 1 [a0, a1, a2, a3, a4, a5] (w0 :: st) hp = (qzC d 55 [w0] hp).bind (fun r => qzV (d + 1) 8 4 [a0, a1, a2, a3, a4, a5] (r.1.toList ++ st) r.2) := qv_calls (n := 1) mdc_8 dX0_sew_1 mdo_8 (by decide) qfc_0_81 ⟨rfl, by decide, rfl⟩ rfl ⟨rfl, rfl, by simp only [List.length_cons]; omega⟩ h8
theorem eX0_sew_4 {d : Nat} {a0 a1 a2 a3 a4 a5 : Value} {x : Int32} {st : List Value} {hp : qzH} : qzV d 8 4 [a0, a1, a2, a3, a4, a5] (.int x :: st) hp = qzV d 8 5 [a0, a1, .int x, a3, a4, a5] (st) hp := qv_istore (i := 2) mdc_8 dX0_sew_4 rfl (Nat.le_of_ble_eq_true rfl) rfl rfl
theorem eX0_sew_5 {d : Nat} {a1 a2 a3 a4 a5 : Value} {x : Nat} {st : List Value} {hp : qzH} : qzV d 8 5 [.ref x, a1, a2, a3, a4, a5] (st) hp = qzV d 8 6 [.ref x, a1, a2, a3, a4, a5] (.ref x :: st) hp := qv_aload (i := 0) mdc_8 dX0_sew_5 rfl rfl rfl
theorem eX0_sew_6 {d : Nat} {a0 a1 a2 a3 a4 a5 : Value} {a : Nat} {st : List Value} {hp : qzH} (ha : qzArr 0 a hp.1 = true) : qzV d 8 6 [a0, a1, a2, a3, a4, a5] (.ref a :: st) hp = qzV d 8 9 [a0, a1, a2, a3, a4, a5] (.int (hp.2.2 a 7) :: st) hp := qv_getI mdc_8 dX0_sew_6 mdo_8 qff_0_42 ⟨by decide, rfl⟩ rfl ha
theorem eX0_sew_9 {d : Nat} {a1 a2 a3 a4 a5 : Value} {x : Nat} {st : List Value} {hp : qzH} : qzV d 8 9 [.ref x, a1, a2, a3, a4, a5] (st) hp = qzV d 8 10 [.ref x, a1, a2, a3, a4, a5] (.ref x :: st) hp := qv_aload (i := 0) mdc_8 dX0_sew_9 rfl rfl rfl
theorem eX0_sew_10 {d : Nat} {a0 a1 a2 a3 a4 a5 : Value} {a : Nat} {st : List Value} {hp : qzH} (ha : qzArr 0 a hp.1 = true) : qzV d 8 10 [a0, a1, a2, a3, a4, a5] (.ref a :: st) hp = qzV d 8 13 [a0, a1, a2, a3, a4, a5] (.int (hp.2.2 a 8) :: st) hp := qv_getI mdc_8 dX0_sew_10 mdo_8 qff_0_45 ⟨by decide, rfl⟩ rfl ha
theorem eX0_sew_13 {d : Nat} {a0 a2 a3 a4 a5 : Value} {x : Int32} {st : List Value} {hp : qzH} : qzV d 8 13 [a0, .int x, a2, a3, a4, a5] (st) hp = qzV d 8 14 [a0, .int x, a2, a3, a4, a5] (.int x :: st) hp := qv_iload (i := 1) mdc_8 dX0_sew_13 rfl rfl rfl
theorem eX0_sew_14 {d : Nat} {a0 a1 a2 a3 a4 a5 : Value} {w0 w1 w2 : Value} {st : List Value} {hp : qzH} (h8 : st.length ≤ 8) : qzV (d + 1) 8 14 [a0, a1, a2, a3, a4, a5] (w2 :: w1 :: w0 :: st) hp = (qzC d 56 [w0, w1, w2] hp).bind (fun r => qzV (d + 1) 8 17 [a0, a1, a2, a3, a4, a5] (r.1.toList ++ st) r.2) := qv_calls (n := 3) mdc_8 dX0_sew_14 mdo_8 (by decide) qfc_0_85 ⟨rfl, by decide, rfl⟩ rfl ⟨rfl, rfl, by simp only [List.length_cons]; omega⟩ h8
theorem eX0_sew_17 {d : Nat} {a0 a1 a2 a3 a4 a5 : Value} {x : Int32} {st : List Value} {hp : qzH} : qzV d 8 17 [a0, a1, a2, a3, a4, a5] (.int x :: st) hp = qzV d 8 18 [a0, a1, a2, .int x, a4, a5] (st) hp := qv_istore (i := 3) mdc_8 dX0_sew_17 rfl (Nat.le_of_ble_eq_true rfl) rfl rfl
theorem eX0_sew_18 {d : Nat} {a1 a2 a3 a4 a5 : Value} {x : Nat} {st : List Value} {hp : qzH} : qzV d 8 18 [.ref x, a1, a2, a3, a4, a5] (st) hp = qzV d 8 19 [.ref x, a1, a2, a3, a4, a5] (.ref x :: st) hp := qv_aload (i := 0) mdc_8 dX0_sew_18 rfl rfl rfl
theorem eX0_sew_19 {d : Nat} {a0 a1 a2 a3 a4 a5 : Value} {a : Nat} {st : List Value} {hp : qzH} (ha : qzArr 0 a hp.1 = true) : qzV d 8 19 [a0, a1, a2, a3, a4, a5] (.ref a :: st) hp = qzV d 8 22 [a0, a1, a2, a3, a4, a5] (va_rf (hp.2.1 a 0) :: st) hp := qv_getR mdc_8 dX0_sew_19 mdo_8 qff_0_9 ⟨by decide, rfl⟩ rfl ha
theorem eX0_sew_22 {d : Nat} {a0 a1 a2 a4 a5 : Value} {x : Int32} {st : List Value} {hp : qzH} : qzV d 8 22 [a0, a1, a2, .int x, a4, a5] (st) hp = qzV d 8 23 [a0, a1, a2, .int x, a4, a5] (.int x :: st) hp := qv_iload (i := 3) mdc_8 dX0_sew_22 rfl rfl rfl
theorem eX0_sew_23 {d : Nat} {a0 a1 a3 a4 a5 : Value} {x : Int32} {st : List Value} {hp : qzH} : qzV d 8 23 [a0, a1, .int x, a3, a4, a5] (st) hp = qzV d 8 24 [a0, a1, .int x, a3, a4, a5] (.int x :: st) hp := qv_iload (i := 2) mdc_8 dX0_sew_23 rfl rfl rfl
theorem eX0_sew_24 {d : Nat} {a1 a2 a3 a4 a5 : Value} {x : Nat} {st : List Value} {hp : qzH} : qzV d 8 24 [.ref x, a1, a2, a3, a4, a5] (st) hp = qzV d 8 25 [.ref x, a1, a2, a3, a4, a5] (.ref x :: st) hp := qv_aload (i := 0) mdc_8 dX0_sew_24 rfl rfl rfl
theorem eX0_sew_25 {d : Nat} {a1 a2 a3 a4 a5 : Value} {x : Nat} {st : List Value} {hp : qzH} : qzV d 8 25 [.ref x, a1, a2, a3, a4, a5] (st) hp = qzV d 8 26 [.ref x, a1, a2, a3, a4, a5] (.ref x :: st) hp := qv_aload (i := 0) mdc_8 dX0_sew_25 rfl rfl rfl
theorem eX0_sew_26 {d : Nat} {a0 a1 a2 a3 a4 a5 : Value} {b : Nat} {st : List Value} {hp : qzH} (h8 : st.length ≤ 8) (hb : qzArr 0 b hp.1 = true) : qzV (d + 1) 8 26 [a0, a1, a2, a3, a4, a5] (.ref b :: st) hp = (qzC d 5 (.ref b :: []) hp).bind (fun r => qzV (d + 1) 8 29 [a0, a1, a2, a3, a4, a5] (r.1.toList ++ st) r.2) := qv_callv (n := 0) mdc_8 dX0_sew_26 mdo_8 (by decide) qfc_0_89 ⟨rfl, by decide, rfl⟩ rfl ⟨rfl, rfl, by simp only [List.length_cons]; omega⟩ h8 hb
theorem eX0_sew_29 {d : Nat} {a0 a1 a2 a3 a4 a5 : Value} {w0 : Value} {b : Nat} {st : List Value} {hp : qzH} (h8 : st.length ≤ 8) (hb : qzArr 0 b hp.1 = true) : qzV (d + 1) 8 29 [a0, a1, a2, a3, a4, a5] (w0 :: .ref b :: st) hp = (qzC d 11 (.ref b :: [w0]) hp).bind (fun r => qzV (d + 1) 8 32 [a0, a1, a2, a3, a4, a5] (r.1.toList ++ st) r.2) := qv_callv (n := 1) mdc_8 dX0_sew_29 mdo_8 (by decide) qfc_0_92 ⟨rfl, by decide, rfl⟩ rfl ⟨rfl, rfl, by simp only [List.length_cons]; omega⟩ h8 hb
theorem eX0_sew_32 {d : Nat} {a0 a1 a2 a3 a4 a5 : Value} {w0 w1 w2 w3 : Value} {st : List Value} {hp : qzH} (h8 : st.length ≤ 8) : qzV (d + 1) 8 32 [a0, a1, a2, a3, a4, a5] (w3 :: w2 :: w1 :: w0 :: st) hp = (qzC d 69 [w0, w1, w2, w3] hp).bind (fun r => qzV (d + 1) 8 35 [a0, a1, a2, a3, a4, a5] (r.1.toList ++ st) r.2) := qv_calls (n := 4) mdc_8 dX0_sew_32 mdo_8 (by decide) qfc_0_95 ⟨rfl, by decide, rfl⟩ rfl ⟨rfl, rfl, by simp only [List.length_cons]; omega⟩ h8
theorem eX0_sew_35 {d : Nat} {a0 a1 a2 a3 a4 a5 : Value} {x : Int32} {st : List Value} {hp : qzH} : qzV d 8 35 [a0, a1, a2, a3, a4, a5] (.int x :: st) hp = qzV d 8 37 [a0, a1, a2, a3, .int x, a5] (st) hp := qv_istore (i := 4) mdc_8 dX0_sew_35 rfl (Nat.le_of_ble_eq_true rfl) rfl rfl
theorem eX0_sew_37 {d : Nat} {a0 a1 a3 a4 a5 : Value} {x : Int32} {st : List Value} {hp : qzH} : qzV d 8 37 [a0, a1, .int x, a3, a4, a5] (st) hp = qzV d 8 38 [a0, a1, .int x, a3, a4, a5] (.int x :: st) hp := qv_iload (i := 2) mdc_8 dX0_sew_37 rfl rfl rfl
theorem eX0_sew_38 {d : Nat} {a0 a1 a2 a3 a5 : Value} {x : Int32} {st : List Value} {hp : qzH} : qzV d 8 38 [a0, a1, a2, a3, .int x, a5] (st) hp = qzV d 8 40 [a0, a1, a2, a3, .int x, a5] (.int x :: st) hp := qv_iload (i := 4) mdc_8 dX0_sew_38 rfl rfl rfl
theorem eX0_sew_40 {d : Nat} {a1 a2 a3 a4 a5 : Value} {x : Nat} {st : List Value} {hp : qzH} : qzV d 8 40 [.ref x, a1, a2, a3, a4, a5] (st) hp = qzV d 8 41 [.ref x, a1, a2, a3, a4, a5] (.ref x :: st) hp := qv_aload (i := 0) mdc_8 dX0_sew_40 rfl rfl rfl
theorem eX0_sew_41 {d : Nat} {a0 a1 a2 a3 a4 a5 : Value} {a : Nat} {st : List Value} {hp : qzH} (ha : qzArr 0 a hp.1 = true) : qzV d 8 41 [a0, a1, a2, a3, a4, a5] (.ref a :: st) hp = qzV d 8 44 [a0, a1, a2, a3, a4, a5] (va_rf (hp.2.1 a 1) :: st) hp := qv_getR mdc_8 dX0_sew_41 mdo_8 qff_0_15 ⟨by decide, rfl⟩ rfl ha
theorem eX0_sew_44 {d : Nat} {a0 a1 a2 a3 a4 a5 : Value} {w0 w1 w2 : Value} {st : List Value} {hp : qzH} (h8 : st.length ≤ 8) : qzV (d + 1) 8 44 [a0, a1, a2, a3, a4, a5] (w2 :: w1 :: w0 :: st) hp = (qzC d 70 [w0, w1, w2] hp).bind (fun r => qzV (d + 1) 8 47 [a0, a1, a2, a3, a4, a5] (r.1.toList ++ st) r.2) := qv_calls (n := 3) mdc_8 dX0_sew_44 mdo_8 (by decide) qfc_0_99 ⟨rfl, by decide, rfl⟩ rfl ⟨rfl, rfl, by simp only [List.length_cons]; omega⟩ h8
theorem eX0_sew_47 {d : Nat} {a0 a1 a2 a3 a4 a5 : Value} {x : Int32} {st : List Value} {hp : qzH} : qzV d 8 47 [a0, a1, a2, a3, a4, a5] (.int x :: st) hp = qzV d 8 49 [a0, a1, a2, a3, a4, .int x] (st) hp := qv_istore (i := 5) mdc_8 dX0_sew_47 rfl (Nat.le_of_ble_eq_true rfl) rfl rfl
theorem eX0_sew_49 {d : Nat} {a1 a2 a3 a4 a5 : Value} {x : Nat} {st : List Value} {hp : qzH} : qzV d 8 49 [.ref x, a1, a2, a3, a4, a5] (st) hp = qzV d 8 50 [.ref x, a1, a2, a3, a4, a5] (.ref x :: st) hp := qv_aload (i := 0) mdc_8 dX0_sew_49 rfl rfl rfl
theorem eX0_sew_50 {d : Nat} {a0 a1 a2 a3 a4 a5 : Value} {a : Nat} {st : List Value} {hp : qzH} (ha : qzArr 0 a hp.1 = true) : qzV d 8 50 [a0, a1, a2, a3, a4, a5] (.ref a :: st) hp = qzV d 8 53 [a0, a1, a2, a3, a4, a5] (va_rf (hp.2.1 a 2) :: st) hp := qv_getR mdc_8 dX0_sew_50 mdo_8 qff_0_18 ⟨by decide, rfl⟩ rfl ha
theorem eX0_sew_53 {d : Nat} {a1 a2 a3 a4 a5 : Value} {x : Nat} {st : List Value} {hp : qzH} : qzV d 8 53 [.ref x, a1, a2, a3, a4, a5] (st) hp = qzV d 8 54 [.ref x, a1, a2, a3, a4, a5] (.ref x :: st) hp := qv_aload (i := 0) mdc_8 dX0_sew_53 rfl rfl rfl
theorem eX0_sew_54 {d : Nat} {a0 a1 a2 a3 a4 a5 : Value} {a : Nat} {st : List Value} {hp : qzH} (ha : qzArr 0 a hp.1 = true) : qzV d 8 54 [a0, a1, a2, a3, a4, a5] (.ref a :: st) hp = qzV d 8 57 [a0, a1, a2, a3, a4, a5] (.int (hp.2.2 a 9) :: st) hp := qv_getI mdc_8 dX0_sew_54 mdo_8 qff_0_48 ⟨by decide, rfl⟩ rfl ha
theorem eX0_sew_57 {d : Nat} {a0 a1 a2 a4 a5 : Value} {x : Int32} {st : List Value} {hp : qzH} : qzV d 8 57 [a0, a1, a2, .int x, a4, a5] (st) hp = qzV d 8 58 [a0, a1, a2, .int x, a4, a5] (.int x :: st) hp := qv_iload (i := 3) mdc_8 dX0_sew_57 rfl rfl rfl
theorem eX0_sew_58 {d : Nat} {a0 a1 a2 a3 a4 a5 : Value} {w0 w1 w2 : Value} {st : List Value} {hp : qzH} (h8 : st.length ≤ 8) : qzV (d + 1) 8 58 [a0, a1, a2, a3, a4, a5] (w2 :: w1 :: w0 :: st) hp = (qzC d 85 [w0, w1, w2] hp).bind (fun r => qzV (d + 1) 8 61 [a0, a1, a2, a3, a4, a5] (r.1.toList ++ st) r.2) := qv_calls (n := 3) mdc_8 dX0_sew_58 mdo_8 (by decide) qfc_0_58 ⟨rfl, by decide, rfl⟩ rfl ⟨rfl, rfl, by simp only [List.length_cons]; omega⟩ h8
theorem eX0_sew_61 {d : Nat} {a1 a2 a3 a4 a5 : Value} {x : Nat} {st : List Value} {hp : qzH} : qzV d 8 61 [.ref x, a1, a2, a3, a4, a5] (st) hp = qzV d 8 62 [.ref x, a1, a2, a3, a4, a5] (.ref x :: st) hp := qv_aload (i := 0) mdc_8 dX0_sew_61 rfl rfl rfl
theorem eX0_sew_62 {d : Nat} {a0 a1 a2 a3 a4 a5 : Value} {a : Nat} {st : List Value} {hp : qzH} (ha : qzArr 0 a hp.1 = true) : qzV d 8 62 [a0, a1, a2, a3, a4, a5] (.ref a :: st) hp = qzV d 8 65 [a0, a1, a2, a3, a4, a5] (va_rf (hp.2.1 a 3) :: st) hp := qv_getR mdc_8 dX0_sew_62 mdo_8 qff_0_21 ⟨by decide, rfl⟩ rfl ha
theorem eX0_sew_65 {d : Nat} {a1 a2 a3 a4 a5 : Value} {x : Nat} {st : List Value} {hp : qzH} : qzV d 8 65 [.ref x, a1, a2, a3, a4, a5] (st) hp = qzV d 8 66 [.ref x, a1, a2, a3, a4, a5] (.ref x :: st) hp := qv_aload (i := 0) mdc_8 dX0_sew_65 rfl rfl rfl
theorem eX0_sew_66 {d : Nat} {a0 a1 a2 a3 a4 a5 : Value} {a : Nat} {st : List Value} {hp : qzH} (ha : qzArr 0 a hp.1 = true) : qzV d 8 66 [a0, a1, a2, a3, a4, a5] (.ref a :: st) hp = qzV d 8 69 [a0, a1, a2, a3, a4, a5] (.int (hp.2.2 a 9) :: st) hp := qv_getI mdc_8 dX0_sew_66 mdo_8 qff_0_48 ⟨by decide, rfl⟩ rfl ha
theorem eX0_sew_69 {d : Nat} {a0 a1 a3 a4 a5 : Value} {x : Int32} {st : List Value} {hp : qzH} : qzV d 8 69 [a0, a1, .int x, a3, a4, a5] (st) hp = qzV d 8 70 [a0, a1, .int x, a3, a4, a5] (.int x :: st) hp := qv_iload (i := 2) mdc_8 dX0_sew_69 rfl rfl rfl
theorem eX0_sew_70 {d : Nat} {a0 a1 a2 a3 a4 a5 : Value} {w0 w1 w2 : Value} {st : List Value} {hp : qzH} (h8 : st.length ≤ 8) : qzV (d + 1) 8 70 [a0, a1, a2, a3, a4, a5] (w2 :: w1 :: w0 :: st) hp = (qzC d 85 [w0, w1, w2] hp).bind (fun r => qzV (d + 1) 8 73 [a0, a1, a2, a3, a4, a5] (r.1.toList ++ st) r.2) := qv_calls (n := 3) mdc_8 dX0_sew_70 mdo_8 (by decide) qfc_0_58 ⟨rfl, by decide, rfl⟩ rfl ⟨rfl, rfl, by simp only [List.length_cons]; omega⟩ h8
theorem eX0_sew_73 {d : Nat} {a1 a2 a3 a4 a5 : Value} {x : Nat} {st : List Value} {hp : qzH} : qzV d 8 73 [.ref x, a1, a2, a3, a4, a5] (st) hp = qzV d 8 74 [.ref x, a1, a2, a3, a4, a5] (.ref x :: st) hp := qv_aload (i := 0) mdc_8 dX0_sew_73 rfl rfl rfl
theorem eX0_sew_74 {d : Nat} {a0 a1 a2 a3 a4 a5 : Value} {a : Nat} {st : List Value} {hp : qzH} (ha : qzArr 0 a hp.1 = true) : qzV d 8 74 [a0, a1, a2, a3, a4, a5] (.ref a :: st) hp = qzV d 8 77 [a0, a1, a2, a3, a4, a5] (va_rf (hp.2.1 a 4) :: st) hp := qv_getR mdc_8 dX0_sew_74 mdo_8 qff_0_24 ⟨by decide, rfl⟩ rfl ha
theorem eX0_sew_77 {d : Nat} {a1 a2 a3 a4 a5 : Value} {x : Nat} {st : List Value} {hp : qzH} : qzV d 8 77 [.ref x, a1, a2, a3, a4, a5] (st) hp = qzV d 8 78 [.ref x, a1, a2, a3, a4, a5] (.ref x :: st) hp := qv_aload (i := 0) mdc_8 dX0_sew_77 rfl rfl rfl
theorem eX0_sew_78 {d : Nat} {a0 a1 a2 a3 a4 a5 : Value} {a : Nat} {st : List Value} {hp : qzH} (ha : qzArr 0 a hp.1 = true) : qzV d 8 78 [a0, a1, a2, a3, a4, a5] (.ref a :: st) hp = qzV d 8 81 [a0, a1, a2, a3, a4, a5] (.int (hp.2.2 a 9) :: st) hp := qv_getI mdc_8 dX0_sew_78 mdo_8 qff_0_48 ⟨by decide, rfl⟩ rfl ha
theorem eX0_sew_81 {d : Nat} {a0 a1 a2 a3 a4 : Value} {x : Int32} {st : List Value} {hp : qzH} : qzV d 8 81 [a0, a1, a2, a3, a4, .int x] (st) hp = qzV d 8 83 [a0, a1, a2, a3, a4, .int x] (.int x :: st) hp := qv_iload (i := 5) mdc_8 dX0_sew_81 rfl rfl rfl
theorem eX0_sew_83 {d : Nat} {a0 a1 a2 a3 a4 a5 : Value} {w0 w1 w2 : Value} {st : List Value} {hp : qzH} (h8 : st.length ≤ 8) : qzV (d + 1) 8 83 [a0, a1, a2, a3, a4, a5] (w2 :: w1 :: w0 :: st) hp = (qzC d 85 [w0, w1, w2] hp).bind (fun r => qzV (d + 1) 8 86 [a0, a1, a2, a3, a4, a5] (r.1.toList ++ st) r.2) := qv_calls (n := 3) mdc_8 dX0_sew_83 mdo_8 (by decide) qfc_0_58 ⟨rfl, by decide, rfl⟩ rfl ⟨rfl, rfl, by simp only [List.length_cons]; omega⟩ h8
theorem eX0_sew_86 {d : Nat} {a1 a2 a3 a4 a5 : Value} {x : Nat} {st : List Value} {hp : qzH} : qzV d 8 86 [.ref x, a1, a2, a3, a4, a5] (st) hp = qzV d 8 87 [.ref x, a1, a2, a3, a4, a5] (.ref x :: st) hp := qv_aload (i := 0) mdc_8 dX0_sew_86 rfl rfl rfl
theorem eX0_sew_87 {d : Nat} {a0 a1 a2 a3 a4 a5 : Value} {a : Nat} {st : List Value} {hp : qzH} (ha : qzArr 0 a hp.1 = true) : qzV d 8 87 [a0, a1, a2, a3, a4, a5] (.ref a :: st) hp = qzV d 8 90 [a0, a1, a2, a3, a4, a5] (va_rf (hp.2.1 a 5) :: st) hp := qv_getR mdc_8 dX0_sew_87 mdo_8 qff_0_27 ⟨by decide, rfl⟩ rfl ha
theorem eX0_sew_90 {d : Nat} {a1 a2 a3 a4 a5 : Value} {x : Nat} {st : List Value} {hp : qzH} : qzV d 8 90 [.ref x, a1, a2, a3, a4, a5] (st) hp = qzV d 8 91 [.ref x, a1, a2, a3, a4, a5] (.ref x :: st) hp := qv_aload (i := 0) mdc_8 dX0_sew_90 rfl rfl rfl
theorem eX0_sew_91 {d : Nat} {a0 a1 a2 a3 a4 a5 : Value} {a : Nat} {st : List Value} {hp : qzH} (ha : qzArr 0 a hp.1 = true) : qzV d 8 91 [a0, a1, a2, a3, a4, a5] (.ref a :: st) hp = qzV d 8 94 [a0, a1, a2, a3, a4, a5] (.int (hp.2.2 a 9) :: st) hp := qv_getI mdc_8 dX0_sew_91 mdo_8 qff_0_48 ⟨by decide, rfl⟩ rfl ha
theorem eX0_sew_94 {d : Nat} {a0 a2 a3 a4 a5 : Value} {x : Int32} {st : List Value} {hp : qzH} : qzV d 8 94 [a0, .int x, a2, a3, a4, a5] (st) hp = qzV d 8 95 [a0, .int x, a2, a3, a4, a5] (.int x :: st) hp := qv_iload (i := 1) mdc_8 dX0_sew_94 rfl rfl rfl
theorem eX0_sew_95 {d : Nat} {a0 a1 a2 a3 a4 a5 : Value} {w0 : Value} {st : List Value} {hp : qzH} (h8 : st.length ≤ 8) : qzV (d + 1) 8 95 [a0, a1, a2, a3, a4, a5] (w0 :: st) hp = (qzC d 54 [w0] hp).bind (fun r => qzV (d + 1) 8 98 [a0, a1, a2, a3, a4, a5] (r.1.toList ++ st) r.2) := qv_calls (n := 1) mdc_8 dX0_sew_95 mdo_8 (by decide) qfc_0_103 ⟨rfl, by decide, rfl⟩ rfl ⟨rfl, rfl, by simp only [List.length_cons]; omega⟩ h8
theorem eX0_sew_98 {d : Nat} {a0 a1 a2 a3 a4 a5 : Value} {x : Int32} {st : List Value} {hp : qzH} : qzV d 8 98 [a0, a1, a2, a3, a4, a5] (.int x :: st) hp = if x = 0 then qzV d 8 108 [a0, a1, a2, a3, a4, a5] (st) hp else qzV d 8 101 [a0, a1, a2, a3, a4, a5] (st) hp := qv_if1 mdc_8 dX0_sew_98 rfl rfl rfl
theorem eX0_sew_101 {d : Nat} {a0 a1 a2 a3 a5 : Value} {x : Int32} {st : List Value} {hp : qzH} : qzV d 8 101 [a0, a1, a2, a3, .int x, a5] (st) hp = qzV d 8 103 [a0, a1, a2, a3, .int x, a5] (.int x :: st) hp := qv_iload (i := 4) mdc_8 dX0_sew_101 rfl rfl rfl
theorem eX0_sew_103 {d : Nat} {a0 a1 a2 a3 a4 a5 : Value} {st : List Value} {hp : qzH} : qzV d 8 103 [a0, a1, a2, a3, a4, a5] (st) hp = qzV d 8 104 [a0, a1, a2, a3, a4, a5] (.int 1 :: st) hp := qv_iconst mdc_8 dX0_sew_103 il_1 rfl
theorem eX0_sew_104 {d : Nat} {a0 a1 a2 a3 a4 a5 : Value} {x y : Int32} {st : List Value} {hp : qzH} : qzV d 8 104 [a0, a1, a2, a3, a4, a5] (.int y :: .int x :: st) hp = qzV d 8 105 [a0, a1, a2, a3, a4, a5] (.int (x ||| y) :: st) hp := qv_bin (f := fun x y => x ||| y) mdc_8 dX0_sew_104 rfl rfl
theorem eX0_sew_105 {d : Nat} {a0 a1 a2 a3 a4 a5 : Value} {st : List Value} {hp : qzH} : qzV d 8 105 [a0, a1, a2, a3, a4, a5] (st) hp = qzV d 8 110 [a0, a1, a2, a3, a4, a5] (st) hp := qv_goto mdc_8 dX0_sew_105 rfl
theorem eX0_sew_108 {d : Nat} {a0 a1 a2 a3 a5 : Value} {x : Int32} {st : List Value} {hp : qzH} : qzV d 8 108 [a0, a1, a2, a3, .int x, a5] (st) hp = qzV d 8 110 [a0, a1, a2, a3, .int x, a5] (.int x :: st) hp := qv_iload (i := 4) mdc_8 dX0_sew_108 rfl rfl rfl
theorem eX0_sew_110 {d : Nat} {a0 a1 a2 a3 a4 a5 : Value} {w0 w1 w2 : Value} {st : List Value} {hp : qzH} (h8 : st.length ≤ 8) : qzV (d + 1) 8 110 [a0, a1, a2, a3, a4, a5] (w2 :: w1 :: w0 :: st) hp = (qzC d 85 [w0, w1, w2] hp).bind (fun r => qzV (d + 1) 8 113 [a0, a1, a2, a3, a4, a5] (r.1.toList ++ st) r.2) := qv_calls (n := 3) mdc_8 dX0_sew_110 mdo_8 (by decide) qfc_0_58 ⟨rfl, by decide, rfl⟩ rfl ⟨rfl, rfl, by simp only [List.length_cons]; omega⟩ h8
theorem eX0_sew_113 {d : Nat} {a1 a2 a3 a4 a5 : Value} {x : Nat} {st : List Value} {hp : qzH} : qzV d 8 113 [.ref x, a1, a2, a3, a4, a5] (st) hp = qzV d 8 114 [.ref x, a1, a2, a3, a4, a5] (.ref x :: st) hp := qv_aload (i := 0) mdc_8 dX0_sew_113 rfl rfl rfl
theorem eX0_sew_114 {d : Nat} {a0 a1 a2 a3 a4 a5 : Value} {v : Value} {st : List Value} {hp : qzH} : qzV d 8 114 [a0, a1, a2, a3, a4, a5] (v :: st) hp = qzV d 8 115 [a0, a1, a2, a3, a4, a5] (v :: v :: st) hp := qv_dup mdc_8 dX0_sew_114 rfl
theorem eX0_sew_115 {d : Nat} {a0 a1 a2 a3 a4 a5 : Value} {a : Nat} {st : List Value} {hp : qzH} (ha : qzArr 0 a hp.1 = true) : qzV d 8 115 [a0, a1, a2, a3, a4, a5] (.ref a :: st) hp = qzV d 8 118 [a0, a1, a2, a3, a4, a5] (.int (hp.2.2 a 9) :: st) hp := qv_getI mdc_8 dX0_sew_115 mdo_8 qff_0_48 ⟨by decide, rfl⟩ rfl ha
theorem eX0_sew_118 {d : Nat} {a0 a1 a2 a3 a4 a5 : Value} {st : List Value} {hp : qzH} : qzV d 8 118 [a0, a1, a2, a3, a4, a5] (st) hp = qzV d 8 119 [a0, a1, a2, a3, a4, a5] (.int 1 :: st) hp := qv_iconst mdc_8 dX0_sew_118 il_1 rfl
theorem eX0_sew_119 {d : Nat} {a0 a1 a2 a3 a4 a5 : Value} {x y : Int32} {st : List Value} {hp : qzH} : qzV d 8 119 [a0, a1, a2, a3, a4, a5] (.int y :: .int x :: st) hp = qzV d 8 120 [a0, a1, a2, a3, a4, a5] (.int (x + y) :: st) hp := qv_bin (f := fun x y => x + y) mdc_8 dX0_sew_119 rfl rfl
theorem eX0_sew_120 {d : Nat} {a0 a1 a2 a3 a4 a5 : Value} {a : Nat} {x : Int32} {st : List Value} {hp : qzH} (ha : qzArr 0 a hp.1 = true) : qzV d 8 120 [a0, a1, a2, a3, a4, a5] (.int x :: .ref a :: st) hp = qzV d 8 123 [a0, a1, a2, a3, a4, a5] st (hp.1, hp.2.1, qzUp hp.2.2 a 9 x) := qv_putI mdc_8 dX0_sew_120 mdo_8 qff_0_48 ⟨by decide, rfl, rfl⟩ rfl ha ⟨rfl, rfl⟩
theorem eX0_sew_123 {d : Nat} {a1 a2 a3 a4 a5 : Value} {x : Nat} {st : List Value} {hp : qzH} : qzV d 8 123 [.ref x, a1, a2, a3, a4, a5] (st) hp = qzV d 8 124 [.ref x, a1, a2, a3, a4, a5] (.ref x :: st) hp := qv_aload (i := 0) mdc_8 dX0_sew_123 rfl rfl rfl
theorem eX0_sew_124 {d : Nat} {a1 a2 a3 a4 a5 : Value} {x : Nat} {st : List Value} {hp : qzH} : qzV d 8 124 [.ref x, a1, a2, a3, a4, a5] (st) hp = qzV d 8 125 [.ref x, a1, a2, a3, a4, a5] (.ref x :: st) hp := qv_aload (i := 0) mdc_8 dX0_sew_124 rfl rfl rfl
theorem eX0_sew_125 {d : Nat} {a0 a1 a2 a3 a4 a5 : Value} {a : Nat} {st : List Value} {hp : qzH} (ha : qzArr 0 a hp.1 = true) : qzV d 8 125 [a0, a1, a2, a3, a4, a5] (.ref a :: st) hp = qzV d 8 128 [a0, a1, a2, a3, a4, a5] (.int (hp.2.2 a 7) :: st) hp := qv_getI mdc_8 dX0_sew_125 mdo_8 qff_0_42 ⟨by decide, rfl⟩ rfl ha
theorem eX0_sew_128 {d : Nat} {a0 a2 a3 a4 a5 : Value} {x : Int32} {st : List Value} {hp : qzH} : qzV d 8 128 [a0, .int x, a2, a3, a4, a5] (st) hp = qzV d 8 129 [a0, .int x, a2, a3, a4, a5] (.int x :: st) hp := qv_iload (i := 1) mdc_8 dX0_sew_128 rfl rfl rfl
theorem eX0_sew_129 {d : Nat} {a0 a1 a2 a3 a4 a5 : Value} {w0 w1 : Value} {st : List Value} {hp : qzH} (h8 : st.length ≤ 8) : qzV (d + 1) 8 129 [a0, a1, a2, a3, a4, a5] (w1 :: w0 :: st) hp = (qzC d 57 [w0, w1] hp).bind (fun r => qzV (d + 1) 8 132 [a0, a1, a2, a3, a4, a5] (r.1.toList ++ st) r.2) := qv_calls (n := 2) mdc_8 dX0_sew_129 mdo_8 (by decide) qfc_0_107 ⟨rfl, by decide, rfl⟩ rfl ⟨rfl, rfl, by simp only [List.length_cons]; omega⟩ h8
theorem eX0_sew_132 {d : Nat} {a0 a1 a2 a3 a4 a5 : Value} {a : Nat} {x : Int32} {st : List Value} {hp : qzH} (ha : qzArr 0 a hp.1 = true) : qzV d 8 132 [a0, a1, a2, a3, a4, a5] (.int x :: .ref a :: st) hp = qzV d 8 135 [a0, a1, a2, a3, a4, a5] st (hp.1, hp.2.1, qzUp hp.2.2 a 7 x) := qv_putI mdc_8 dX0_sew_132 mdo_8 qff_0_42 ⟨by decide, rfl, rfl⟩ rfl ha ⟨rfl, rfl⟩
theorem eX0_sew_135 {d : Nat} {a1 a2 a3 a4 a5 : Value} {x : Nat} {st : List Value} {hp : qzH} : qzV d 8 135 [.ref x, a1, a2, a3, a4, a5] (st) hp = qzV d 8 136 [.ref x, a1, a2, a3, a4, a5] (.ref x :: st) hp := qv_aload (i := 0) mdc_8 dX0_sew_135 rfl rfl rfl
theorem eX0_sew_136 {d : Nat} {a1 a2 a3 a4 a5 : Value} {x : Nat} {st : List Value} {hp : qzH} : qzV d 8 136 [.ref x, a1, a2, a3, a4, a5] (st) hp = qzV d 8 137 [.ref x, a1, a2, a3, a4, a5] (.ref x :: st) hp := qv_aload (i := 0) mdc_8 dX0_sew_136 rfl rfl rfl
theorem eX0_sew_137 {d : Nat} {a0 a1 a2 a3 a4 a5 : Value} {a : Nat} {st : List Value} {hp : qzH} (ha : qzArr 0 a hp.1 = true) : qzV d 8 137 [a0, a1, a2, a3, a4, a5] (.ref a :: st) hp = qzV d 8 140 [a0, a1, a2, a3, a4, a5] (.int (hp.2.2 a 8) :: st) hp := qv_getI mdc_8 dX0_sew_137 mdo_8 qff_0_45 ⟨by decide, rfl⟩ rfl ha
theorem eX0_sew_140 {d : Nat} {a0 a2 a3 a4 a5 : Value} {x : Int32} {st : List Value} {hp : qzH} : qzV d 8 140 [a0, .int x, a2, a3, a4, a5] (st) hp = qzV d 8 141 [a0, .int x, a2, a3, a4, a5] (.int x :: st) hp := qv_iload (i := 1) mdc_8 dX0_sew_140 rfl rfl rfl
theorem eX0_sew_141 {d : Nat} {a0 a1 a2 a3 a4 a5 : Value} {w0 w1 : Value} {st : List Value} {hp : qzH} (h8 : st.length ≤ 8) : qzV (d + 1) 8 141 [a0, a1, a2, a3, a4, a5] (w1 :: w0 :: st) hp = (qzC d 58 [w0, w1] hp).bind (fun r => qzV (d + 1) 8 144 [a0, a1, a2, a3, a4, a5] (r.1.toList ++ st) r.2) := qv_calls (n := 2) mdc_8 dX0_sew_141 mdo_8 (by decide) qfc_0_110 ⟨rfl, by decide, rfl⟩ rfl ⟨rfl, rfl, by simp only [List.length_cons]; omega⟩ h8
theorem eX0_sew_144 {d : Nat} {a0 a1 a2 a3 a4 a5 : Value} {a : Nat} {x : Int32} {st : List Value} {hp : qzH} (ha : qzArr 0 a hp.1 = true) : qzV d 8 144 [a0, a1, a2, a3, a4, a5] (.int x :: .ref a :: st) hp = qzV d 8 147 [a0, a1, a2, a3, a4, a5] st (hp.1, hp.2.1, qzUp hp.2.2 a 8 x) := qv_putI mdc_8 dX0_sew_144 mdo_8 qff_0_45 ⟨by decide, rfl, rfl⟩ rfl ha ⟨rfl, rfl⟩
theorem eX0_sew_147 {d : Nat} {a0 a1 a2 a3 a4 : Value} {x : Int32} {st : List Value} {hp : qzH} : qzV d 8 147 [a0, a1, a2, a3, a4, .int x] (st) hp = qzV d 8 149 [a0, a1, a2, a3, a4, .int x] (.int x :: st) hp := qv_iload (i := 5) mdc_8 dX0_sew_147 rfl rfl rfl
theorem eX0_sew_149 {d : Nat} {a0 a1 a2 a3 a4 a5 : Value} {v : Int32} {hp : qzH} : qzV d 8 149 [a0, a1, a2, a3, a4, a5] [.int v] hp = some (some (.int v), hp) := qv_iret mdc_8 dX0_sew_149 mdr_8 rfl
theorem dX0_turnRound_0 : decode cX0_turnRound 0 = .ok (.iconst 0, 1) := by decide +kernel
theorem dX0_turnRound_1 : decode cX0_turnRound 1 = .ok (.istore_n 1, 1) := by decide +kernel
theorem dX0_turnRound_2 : decode cX0_turnRound 2 = .ok (.aload_n 0, 1) := by decide +kernel
theorem dX0_turnRound_3 : decode cX0_turnRound 3 = .ok (.getfield 42, 3) := by decide +kernel
theorem dX0_turnRound_6 : decode cX0_turnRound 6 = .ok (.istore_n 2, 1) := by decide +kernel
theorem dX0_turnRound_7 : decode cX0_turnRound 7 = .ok (.aload_n 0, 1) := by decide +kernel
theorem dX0_turnRound_8 : decode cX0_turnRound 8 = .ok (.getfield 45, 3) := by decide +kernel
theorem dX0_turnRound_11 : decode cX0_turnRound 11 = .ok (.iconst 1, 1) := by decide +kernel
theorem dX0_turnRound_12 : decode cX0_turnRound 12 = .ok (.isub, 1) := by decide +kernel
theorem dX0_turnRound_13 : decode cX0_turnRound 13 = .ok (.istore_n 3, 1) := by decide +kernel
theorem dX0_turnRound_14 : decode cX0_turnRound 14 = .ok (.iload_n 2, 1) := by decide +kernel
theorem dX0_turnRound_15 : decode cX0_turnRound 15 = .ok (.iload_n 3, 1) := by decide +kernel
theorem dX0_turnRound_16 : decode cX0_turnRound 16 = .ok (.if_icmp .ge 64, 3) := by decide +kernel
theorem dX0_turnRound_19 : decode cX0_turnRound 19 = .ok (.aload_n 0, 1) := by decide +kernel
theorem dX0_turnRound_20 : decode cX0_turnRound 20 = .ok (.getfield 9, 3) := by decide +kernel
theorem dX0_turnRound_23 : decode cX0_turnRound 23 = .ok (.iload_n 2, 1) := by decide +kernel
theorem dX0_turnRound_24 : decode cX0_turnRound 24 = .ok (.invokestatic 54, 3) := by decide +kernel
theorem dX0_turnRound_27 : decode cX0_turnRound 27 = .ok (.istore 4, 2) := by decide +kernel
theorem dX0_turnRound_29 : decode cX0_turnRound 29 = .ok (.iload 4, 2) := by decide +kernel
theorem dX0_turnRound_31 : decode cX0_turnRound 31 = .ok (.aload_n 0, 1) := by decide +kernel
theorem dX0_turnRound_32 : decode cX0_turnRound 32 = .ok (.getfield 9, 3) := by decide +kernel
theorem dX0_turnRound_35 : decode cX0_turnRound 35 = .ok (.iload_n 3, 1) := by decide +kernel
theorem dX0_turnRound_36 : decode cX0_turnRound 36 = .ok (.invokestatic 54, 3) := by decide +kernel
theorem dX0_turnRound_39 : decode cX0_turnRound 39 = .ok (.if_icmp .eq 6, 3) := by decide +kernel
theorem dX0_turnRound_42 : decode cX0_turnRound 42 = .ok (.iinc 1 2, 3) := by decide +kernel
theorem dX0_turnRound_45 : decode cX0_turnRound 45 = .ok (.aload_n 0, 1) := by decide +kernel
theorem dX0_turnRound_46 : decode cX0_turnRound 46 = .ok (.getfield 9, 3) := by decide +kernel
theorem dX0_turnRound_49 : decode cX0_turnRound 49 = .ok (.iload_n 2, 1) := by decide +kernel
theorem dX0_turnRound_50 : decode cX0_turnRound 50 = .ok (.aload_n 0, 1) := by decide +kernel
theorem dX0_turnRound_51 : decode cX0_turnRound 51 = .ok (.getfield 9, 3) := by decide +kernel
theorem dX0_turnRound_54 : decode cX0_turnRound 54 = .ok (.iload_n 3, 1) := by decide +kernel
theorem dX0_turnRound_55 : decode cX0_turnRound 55 = .ok (.invokestatic 54, 3) := by decide +kernel
theorem dX0_turnRound_58 : decode cX0_turnRound 58 = .ok (.invokestatic 58, 3) := by decide +kernel
theorem dX0_turnRound_61 : decode cX0_turnRound 61 = .ok (.aload_n 0, 1) := by decide +kernel
theorem dX0_turnRound_62 : decode cX0_turnRound 62 = .ok (.getfield 9, 3) := by decide +kernel
theorem dX0_turnRound_65 : decode cX0_turnRound 65 = .ok (.iload_n 3, 1) := by decide +kernel
theorem dX0_turnRound_66 : decode cX0_turnRound 66 = .ok (.iload 4, 2) := by decide +kernel
theorem dX0_turnRound_68 : decode cX0_turnRound 68 = .ok (.invokestatic 58, 3) := by decide +kernel
theorem dX0_turnRound_71 : decode cX0_turnRound 71 = .ok (.iinc 2 1, 3) := by decide +kernel
theorem dX0_turnRound_74 : decode cX0_turnRound 74 = .ok (.iinc 3 (-1), 3) := by decide +kernel
theorem dX0_turnRound_77 : decode cX0_turnRound 77 = .ok (.goto (-63), 3) := by decide +kernel
theorem dX0_turnRound_80 : decode cX0_turnRound 80 = .ok (.iload_n 1, 1) := by decide +kernel
theorem dX0_turnRound_81 : decode cX0_turnRound 81 = .ok (.ireturn, 1) := by decide +kernel
theorem eX0_turnRound_0 {d : Nat} {a0 a1 a2 a3 a4 : Value} {st : List Value} {hp : qzH} : qzV d 9 0 [a0, a1, a2, a3, a4] (st) hp = qzV d 9 1 [a0, a1, a2, a3, a4] (.int 0 :: st) hp := qv_iconst mdc_9 dX0_turnRound_0 il_0 rfl
theorem eX0_turnRound_1 {d : Nat} {a0 a1 a2 a3 a4 : Value} {x : Int32} {st : List Value} {hp : qzH} : qzV d 9 1 [a0, a1, a2, a3, a4] (.int x :: st) hp = qzV d 9 2 [a0, .int x, a2, a3, a4] (st) hp := qv_istore (i := 1) mdc_9 dX0_turnRound_1 rfl (Nat.le_of_ble_eq_true rfl) rfl rfl
theorem eX0_turnRound_2 {d : Nat} {a1 a2 a3 a4 : Value} {x : Nat} {st : List Value} {hp : qzH} : qzV d 9 2 [.ref x, a1, a2, a3, a4] (st) hp = qzV d 9 3 [.ref x, a1, a2, a3, a4] (.ref x :: st) hp := qv_aload (i := 0) mdc_9 dX0_turnRound_2 rfl rfl rfl
theorem eX0_turnRound_3 {d : Nat} {a0 a1 a2 a3 a4 : Value} {a : Nat} {st : List Value} {hp : qzH} (ha : qzArr 0 a hp.1 = true) : qzV d 9 3 [a0, a1, a2, a3, a4] (.ref a :: st) hp = qzV d 9 6 [a0, a1, a2, a3, a4] (.int (hp.2.2 a 7) :: st) hp := qv_getI mdc_9 dX0_turnRound_3 mdo_9 qff_0_42 ⟨by decide, rfl⟩ rfl ha
theorem eX0_turnRound_6 {d : Nat} {a0 a1 a2 a3 a4 : Value} {x : Int32} {st : List Value} {hp : qzH} : qzV d 9 6 [a0, a1, a2, a3, a4] (.int x :: st) hp = qzV d 9 7 [a0, a1, .int x, a3, a4] (st) hp := qv_istore (i := 2) mdc_9 dX0_turnRound_6 rfl (Nat.le_of_ble_eq_true rfl) rfl rfl
theorem eX0_turnRound_7 {d : Nat} {a1 a2 a3 a4 : Value} {x : Nat} {st : List Value} {hp : qzH} : qzV d 9 7 [.ref x, a1, a2, a3, a4] (st) hp = qzV d 9 8 [.ref x, a1, a2, a3, a4] (.ref x :: st) hp := qv_aload (i := 0) mdc_9 dX0_turnRound_7 rfl rfl rfl
theorem eX0_turnRound_8 {d : Nat} {a0 a1 a2 a3 a4 : Value} {a : Nat} {st : List Value} {hp : qzH} (ha : qzArr 0 a hp.1 = true) : qzV d 9 8 [a0, a1, a2, a3, a4] (.ref a :: st) hp = qzV d 9 11 [a0, a1, a2, a3, a4] (.int (hp.2.2 a 8) :: st) hp := qv_getI mdc_9 dX0_turnRound_8 mdo_9 qff_0_45 ⟨by decide, rfl⟩ rfl ha
theorem eX0_turnRound_11 {d : Nat} {a0 a1 a2 a3 a4 : Value} {st : List Value} {hp : qzH} : qzV d 9 11 [a0, a1, a2, a3, a4] (st) hp = qzV d 9 12 [a0, a1, a2, a3, a4] (.int 1 :: st) hp := qv_iconst mdc_9 dX0_turnRound_11 il_1 rfl
theorem eX0_turnRound_12 {d : Nat} {a0 a1 a2 a3 a4 : Value} {x y : Int32} {st : List Value} {hp : qzH} : qzV d 9 12 [a0, a1, a2, a3, a4] (.int y :: .int x :: st) hp = qzV d 9 13 [a0, a1, a2, a3, a4] (.int (x - y) :: st) hp := qv_bin (f := fun x y => x - y) mdc_9 dX0_turnRound_12 rfl rfl
theorem eX0_turnRound_13 {d : Nat} {a0 a1 a2 a3 a4 : Value} {x : Int32} {st : List Value} {hp : qzH} : qzV d 9 13 [a0, a1, a2, a3, a4] (.int x :: st) hp = qzV d 9 14 [a0, a1, a2, .int x, a4] (st) hp := qv_istore (i := 3) mdc_9 dX0_turnRound_13 rfl (Nat.le_of_ble_eq_true rfl) rfl rfl
theorem eX0_turnRound_14 {d : Nat} {a0 a1 a3 a4 : Value} {x : Int32} {st : List Value} {hp : qzH} : qzV d 9 14 [a0, a1, .int x, a3, a4] (st) hp = qzV d 9 15 [a0, a1, .int x, a3, a4] (.int x :: st) hp := qv_iload (i := 2) mdc_9 dX0_turnRound_14 rfl rfl rfl
theorem eX0_turnRound_15 {d : Nat} {a0 a1 a2 a4 : Value} {x : Int32} {st : List Value} {hp : qzH} : qzV d 9 15 [a0, a1, a2, .int x, a4] (st) hp = qzV d 9 16 [a0, a1, a2, .int x, a4] (.int x :: st) hp := qv_iload (i := 3) mdc_9 dX0_turnRound_15 rfl rfl rfl
theorem eX0_turnRound_16 {d : Nat} {a0 a1 a2 a3 a4 : Value} {x y : Int32} {st : List Value} {hp : qzH} : qzV d 9 16 [a0, a1, a2, a3, a4] (.int y :: .int x :: st) hp = if y ≤ x then qzV d 9 80 [a0, a1, a2, a3, a4] (st) hp else qzV d 9 19 [a0, a1, a2, a3, a4] (st) hp := qv_if2 mdc_9 dX0_turnRound_16 rfl rfl rfl
theorem eX0_turnRound_19 {d : Nat} {a1 a2 a3 a4 : Value} {x : Nat} {st : List Value} {hp : qzH} : qzV d 9 19 [.ref x, a1, a2, a3, a4] (st) hp = qzV d 9 20 [.ref x, a1, a2, a3, a4] (.ref x :: st) hp := qv_aload (i := 0) mdc_9 dX0_turnRound_19 rfl rfl rfl
theorem eX0_turnRound_20 {d : Nat} {a0 a1 a2 a3 a4 : Value} {a : Nat} {st : List Value} {hp : qzH} (ha : qzArr 0 a hp.1 = true) : qzV d 9 20 [a0, a1, a2, a3, a4] (.ref a :: st) hp = qzV d 9 23 [a0, a1, a2, a3, a4] (va_rf (hp.2.1 a 0) :: st) hp := qv_getR mdc_9 dX0_turnRound_20 mdo_9 qff_0_9 ⟨by decide, rfl⟩ rfl ha
theorem eX0_turnRound_23 {d : Nat} {a0 a1 a3 a4 : Value} {x : Int32} {st : List Value} {hp : qzH} : qzV d 9 23 [a0, a1, .int x, a3, a4] (st) hp = qzV d 9 24 [a0, a1, .int x, a3, a4] (.int x :: st) hp := qv_iload (i := 2) mdc_9 dX0_turnRound_23 rfl rfl rfl
theorem eX0_turnRound_24 {d : Nat} {a0 a1 a2 a3 a4 : Value} {w0 w1 : Value} {st : List Value} {hp : qzH} (h8 : st.length ≤ 8) : qzV (d + 1) 9 24 [a0, a1, a2, a3, a4] (w1 :: w0 :: st) hp = (qzC d 84 [w0, w1] hp).bind (fun r => qzV (d + 1) 9 27 [a0, a1, a2, a3, a4] (r.1.toList ++ st) r.2) := qv_calls (n := 2) mdc_9 dX0_turnRound_24 mdo_9 (by decide) qfc_0_54 ⟨rfl, by decide, rfl⟩ rfl ⟨rfl, rfl, by simp only [List.length_cons]; omega⟩ h8
theorem eX0_turnRound_27 {d : Nat} {a0 a1 a2 a3 a4 : Value} {x : Int32} {st : List Value} {hp : qzH} : qzV d 9 27 [a0, a1, a2, a3, a4] (.int x :: st) hp = qzV d 9 29 [a0, a1, a2, a3, .int x] (st) hp := qv_istore (i := 4) mdc_9 dX0_turnRound_27 rfl (Nat.le_of_ble_eq_true rfl) rfl rfl
theorem eX0_turnRound_29 {d : Nat} {a0 a1 a2 a3 : Value} {x : Int32} {st : List Value} {hp : qzH} : qzV d 9 29 [a0, a1, a2, a3, .int x] (st) hp = qzV d 9 31 [a0, a1, a2, a3, .int x] (.int x :: st) hp := qv_iload (i := 4) mdc_9 dX0_turnRound_29 rfl rfl rfl
theorem eX0_turnRound_31 {d : Nat} {a1 a2 a3 a4 : Value} {x : Nat} {st : List Value} {hp : qzH} : qzV d 9 31 [.ref x, a1, a2, a3, a4] (st) hp = qzV d 9 32 [.ref x, a1, a2, a3, a4] (.ref x :: st) hp := qv_aload (i := 0) mdc_9 dX0_turnRound_31 rfl rfl rfl
theorem eX0_turnRound_32 {d : Nat} {a0 a1 a2 a3 a4 : Value} {a : Nat} {st : List Value} {hp : qzH} (ha : qzArr 0 a hp.1 = true) : qzV d 9 32 [a0, a1, a2, a3, a4] (.ref a :: st) hp = qzV d 9 35 [a0, a1, a2, a3, a4] (va_rf (hp.2.1 a 0) :: st) hp := qv_getR mdc_9 dX0_turnRound_32 mdo_9 qff_0_9 ⟨by decide, rfl⟩ rfl ha
theorem eX0_turnRound_35 {d : Nat} {a0 a1 a2 a4 : Value} {x : Int32} {st : List Value} {hp : qzH} : qzV d 9 35 [a0, a1, a2, .int x, a4] (st) hp = qzV d 9 36 [a0, a1, a2, .int x, a4] (.int x :: st) hp := qv_iload (i := 3) mdc_9 dX0_turnRound_35 rfl rfl rfl
theorem eX0_turnRound_36 {d : Nat} {a0 a1 a2 a3 a4 : Value} {w0 w1 : Value} {st : List Value} {hp : qzH} (h8 : st.length ≤ 8) : qzV (d + 1) 9 36 [a0, a1, a2, a3, a4] (w1 :: w0 :: st) hp = (qzC d 84 [w0, w1] hp).bind (fun r => qzV (d + 1) 9 39 [a0, a1, a2, a3, a4] (r.1.toList ++ st) r.2) := qv_calls (n := 2) mdc_9 dX0_turnRound_36 mdo_9 (by decide) qfc_0_54 ⟨rfl, by decide, rfl⟩ rfl ⟨rfl, rfl, by simp only [List.length_cons]; omega⟩ h8
theorem eX0_turnRound_39 {d : Nat} {a0 a1 a2 a3 a4 : Value} {x y : Int32} {st : List Value} {hp : qzH} : qzV d 9 39 [a0, a1, a2, a3, a4] (.int y :: .int x :: st) hp = if x = y then qzV d 9 45 [a0, a1, a2, a3, a4] (st) hp else qzV d 9 42 [a0, a1, a2, a3, a4] (st) hp := qv_if2 mdc_9 dX0_turnRound_39 rfl rfl rfl
theorem eX0_turnRound_42 {d : Nat} {a0 a2 a3 a4 : Value} {x : Int32} {st : List Value} {hp : qzH} : qzV d 9 42 [a0, .int x, a2, a3, a4] (st) hp = qzV d 9 45 [a0, .int (x + 2), a2, a3, a4] (st) hp := qv_iinc mdc_9 dX0_turnRound_42 rfl il_2 rfl rfl
theorem eX0_turnRound_45 {d : Nat} {a1 a2 a3 a4 : Value} {x : Nat} {st : List Value} {hp : qzH} : qzV d 9 45 [.ref x, a1, a2, a3, a4] (st) hp = qzV d 9 46 [.ref x, a1, a2, a3, a4] (.ref x :: st) hp := qv_aload (i := 0) mdc_9 dX0_turnRound_45 rfl rfl rfl
theorem eX0_turnRound_46 {d : Nat} {a0 a1 a2 a3 a4 : Value} {a : Nat} {st : List Value} {hp : qzH} (ha : qzArr 0 a hp.1 = true) : qzV d 9 46 [a0, a1, a2, a3, a4] (.ref a :: st) hp = qzV d 9 49 [a0, a1, a2, a3, a4] (va_rf (hp.2.1 a 0) :: st) hp := qv_getR mdc_9 dX0_turnRound_46 mdo_9 qff_0_9 ⟨by decide, rfl⟩ rfl ha
theorem eX0_turnRound_49 {d : Nat} {a0 a1 a3 a4 : Value} {x : Int32} {st : List Value} {hp : qzH} : qzV d 9 49 [a0, a1, .int x, a3, a4] (st) hp = qzV d 9 50 [a0, a1, .int x, a3, a4] (.int x :: st) hp := qv_iload (i := 2) mdc_9 dX0_turnRound_49 rfl rfl rfl
theorem eX0_turnRound_50 {d : Nat} {a1 a2 a3 a4 : Value} {x : Nat} {st : List Value} {hp : qzH} : qzV d 9 50 [.ref x, a1, a2, a3, a4] (st) hp = qzV d 9 51 [.ref x, a1, a2, a3, a4] (.ref x :: st) hp := qv_aload (i := 0) mdc_9 dX0_turnRound_50 rfl rfl rfl
theorem eX0_turnRound_51 {d : Nat} {a0 a1 a2 a3 a4 : Value} {a : Nat} {st : List Value} {hp : qzH} (ha : qzArr 0 a hp.1 = true) : qzV d 9 51 [a0, a1, a2, a3, a4] (.ref a :: st) hp = qzV d 9 54 [a0, a1, a2, a3, a4] (va_rf (hp.2.1 a 0) :: st) hp := qv_getR mdc_9 dX0_turnRound_51 mdo_9 qff_0_9 ⟨by decide, rfl⟩ rfl ha
theorem eX0_turnRound_54 {d : Nat} {a0 a1 a2 a4 : Value} {x : Int32} {st : List Value} {hp : qzH} : qzV d 9 54 [a0, a1, a2, .int x, a4] (st) hp = qzV d 9 55 [a0, a1, a2, .int x, a4] (.int x :: st) hp := qv_iload (i := 3) mdc_9 dX0_turnRound_54 rfl rfl rfl
theorem eX0_turnRound_55 {d : Nat} {a0 a1 a2 a3 a4 : Value} {w0 w1 : Value} {st : List Value} {hp : qzH} (h8 : st.length ≤ 8) : qzV (d + 1) 9 55 [a0, a1, a2, a3, a4] (w1 :: w0 :: st) hp = (qzC d 84 [w0, w1] hp).bind (fun r => qzV (d + 1) 9 58 [a0, a1, a2, a3, a4] (r.1.toList ++ st) r.2) := qv_calls (n := 2) mdc_9 dX0_turnRound_55 mdo_9 (by decide) qfc_0_54 ⟨rfl, by decide, rfl⟩ rfl ⟨rfl, rfl, by simp only [List.length_cons]; omega⟩ h8
theorem eX0_turnRound_58 {d : Nat} {a0 a1 a2 a3 a4 : Value} {w0 w1 w2 : Value} {st : List Value} {hp : qzH} (h8 : st.length ≤ 8) : qzV (d + 1) 9 58 [a0, a1, a2, a3, a4] (w2 :: w1 :: w0 :: st) hp = (qzC d 85 [w0, w1, w2] hp).bind (fun r => qzV (d + 1) 9 61 [a0, a1, a2, a3, a4] (r.1.toList ++ st) r.2) := qv_calls (n := 3) mdc_9 dX0_turnRound_58 mdo_9 (by decide) qfc_0_58 ⟨rfl, by decide, rfl⟩ rfl ⟨rfl, rfl, by simp only [List.length_cons]; omega⟩ h8
theorem eX0_turnRound_61 {d : Nat} {a1 a2 a3 a4 : Value} {x : Nat} {st : List Value} {hp : qzH} : qzV d 9 61 [.ref x, a1, a2, a3, a4] (st) hp = qzV d 9 62 [.ref x, a1, a2, a3, a4] (.ref x :: st) hp := qv_aload (i := 0) mdc_9 dX0_turnRound_61 rfl rfl rfl
theorem eX0_turnRound_62 {d : Nat} {a0 a1 a2 a3 a4 : Value} {a : Nat} {st : List Value} {hp : qzH} (ha : qzArr 0 a hp.1 = true) : qzV d 9 62 [a0, a1, a2, a3, a4] (.ref a :: st) hp = qzV d 9 65 [a0, a1, a2, a3, a4] (va_rf (hp.2.1 a 0) :: st) hp := qv_getR mdc_9 dX0_turnRound_62 mdo_9 qff_0_9 ⟨by decide, rfl⟩ rfl ha
theorem eX0_turnRound_65 {d : Nat} {a0 a1 a2 a4 : Value} {x : Int32} {st : List Value} {hp : qzH} : qzV d 9 65 [a0, a1, a2, .int x, a4] (st) hp = qzV d 9 66 [a0, a1, a2, .int x, a4] (.int x :: st) hp := qv_iload (i := 3) mdc_9 dX0_turnRound_65 rfl rfl rfl
theorem eX0_turnRound_66 {d : Nat} {a0 a1 a2 a3 : Value} {x : Int32} {st : List Value} {hp : qzH} : qzV d 9 66 [a0, a1, a2, a3, .int x] (st) hp = qzV d 9 68 [a0, a1, a2, a3, .int x] (.int x :: st) hp := qv_iload (i := 4) mdc_9 dX0_turnRound_66 rfl rfl rfl
theorem eX0_turnRound_68 {d : Nat} {a0 a1 a2 a3 a4 : Value} {w0 w1 w2 : Value} {st : List Value} {hp : qzH} (h8 : st.length ≤ 8) : qzV (d + 1) 9 68 [a0, a1, a2, a3, a4] (w2 :: w1 :: w0 :: st) hp = (qzC d 85 [w0, w1, w2] hp).bind (fun r => qzV (d + 1) 9 71 [a0, a1, a2, a3, a4] (r.1.toList ++ st) r.2) := qv_calls (n := 3) mdc_9 dX0_turnRound_68 mdo_9 (by decide) qfc_0_58 ⟨rfl, by decide, rfl⟩ rfl ⟨rfl, rfl, by simp only [List.length_cons]; omega⟩ h8
theorem eX0_turnRound_71 {d : Nat} {a0 a1 a3 a4 : Value} {x : Int32} {st : List Value} {hp : qzH} : qzV d 9 71 [a0, a1, .int x, a3, a4] (st) hp = qzV d 9 74 [a0, a1, .int (x + 1), a3, a4] (st) hp := qv_iinc mdc_9 dX0_turnRound_71 rfl il_1 rfl rfl
theorem eX0_turnRound_74 {d : Nat} {a0 a1 a2 a4 : Value} {x : Int32} {st : List Value} {hp : qzH} : qzV d 9 74 [a0, a1, a2, .int x, a4] (st) hp = qzV d 9 77 [a0, a1, a2, .int (x + (-1)), a4] (st) hp := qv_iinc mdc_9 dX0_turnRound_74 rfl il_m1 rfl rfl
theorem eX0_turnRound_77 {d : Nat} {a0 a1 a2 a3 a4 : Value} {st : List Value} {hp : qzH} : qzV d 9 77 [a0, a1, a2, a3, a4] (st) hp = qzV d 9 14 [a0, a1, a2, a3, a4] (st) hp := qv_goto mdc_9 dX0_turnRound_77 rfl
theorem eX0_turnRound_80 {d : Nat} {a0 a2 a3 a4 : Value} {x : Int32} {st : List Value} {hp : qzH} : qzV d 9 80 [a0, .int x, a2, a3, a4] (st) hp = qzV d 9 81 [a0, .int x, a2, a3, a4] (.int x :: st) hp := qv_iload (i := 1) mdc_9 dX0_turnRound_80 rfl rfl rfl
theorem eX0_turnRound_81 {d : Nat} {a0 a1 a2 a3 a4 : Value} {v : Int32} {hp : qzH} : qzV d 9 81 [a0, a1, a2, a3, a4] [.int v] hp = some (some (.int v), hp) := qv_iret mdc_9 dX0_turnRound_81 mdr_9 rfl
theorem dX0_piecesOf_0 : decode cX0_piecesOf 0 = .ok (.aload_n 0, 1) := by decide +kernel
theorem dX0_piecesOf_1 : decode cX0_piecesOf 1 = .ok (.getfield 48, 3) := by decide +kernel
theorem dX0_piecesOf_4 : decode cX0_piecesOf 4 = .ok (.iconst 1, 1) := by decide +kernel
theorem dX0_piecesOf_5 : decode cX0_piecesOf 5 = .ok (.iadd, 1) := by decide +kernel
theorem dX0_piecesOf_6 : decode cX0_piecesOf 6 = .ok (.iload_n 1, 1) := by decide +kernel
theorem dX0_piecesOf_7 : decode cX0_piecesOf 7 = .ok (.isub, 1) := by decide +kernel
theorem dX0_piecesOf_8 : decode cX0_piecesOf 8 = .ok (.iconst 2, 1) := by decide +kernel
theorem dX0_piecesOf_9 : decode cX0_piecesOf 9 = .ok (.idiv, 1) := by decide +kernel
theorem dX0_piecesOf_10 : decode cX0_piecesOf 10 = .ok (.ireturn, 1) := by decide +kernel
theorem eX0_piecesOf_0 {d : Nat} {a1 : Value} {x : Nat} {st : List Value} {hp : qzH} : qzV d 10 0 [.ref x, a1] (st) hp = qzV d 10 1 [.ref x, a1] (.ref x :: st) hp := qv_aload (i := 0) mdc_10 dX0_piecesOf_0 rfl rfl rfl
theorem eX0_piecesOf_1 {d : Nat} {a0 a1 : Value} {a : Nat} {st : List Value} {hp : qzH} (ha : qzArr 0 a hp.1 = true) : qzV d 10 1 [a0, a1] (.ref a :: st) hp = qzV d 10 4 [a0, a1] (.int (hp.2.2 a 9) :: st) hp := qv_getI mdc_10 dX0_piecesOf_1 mdo_10 qff_0_48 ⟨by decide, rfl⟩ rfl ha
theorem eX0_piecesOf_4 {d : Nat} {a0 a1 : Value} {st : List Value} {hp : qzH} : qzV d 10 4 [a0, a1] (st) hp = qzV d 10 5 [a0, a1] (.int 1 :: st) hp := qv_iconst mdc_10 dX0_piecesOf_4 il_1 rfl
theorem eX0_piecesOf_5 {d : Nat} {a0 a1 : Value} {x y : Int32} {st : List Value} {hp : qzH} : qzV d 10 5 [a0, a1] (.int y :: .int x :: st) hp = qzV d 10 6 [a0, a1] (.int (x + y) :: st) hp := qv_bin (f := fun x y => x + y) mdc_10 dX0_piecesOf_5 rfl rfl
theorem eX0_piecesOf_6 {d : Nat} {a0 : Value} {x : Int32} {st : List Value} {hp : qzH} : qzV d 10 6 [a0, .int x] (st) hp = qzV d 10 7 [a0, .int x] (.int x :: st) hp := qv_iload (i := 1) mdc_10 dX0_piecesOf_6 rfl rfl rfl
theorem eX0_piecesOf_7 {d : Nat} {a0 a1 : Value} {x y : Int32} {st : List Value} {hp : qzH} : qzV d 10 7 [a0, a1] (.int y :: .int x :: st) hp = qzV d 10 8 [a0, a1] (.int (x - y) :: st) hp := qv_bin (f := fun x y => x - y) mdc_10 dX0_piecesOf_7 rfl rfl
theorem eX0_piecesOf_8 {d : Nat} {a0 a1 : Value} {st : List Value} {hp : qzH} : qzV d 10 8 [a0, a1] (st) hp = qzV d 10 9 [a0, a1] (.int 2 :: st) hp := qv_iconst mdc_10 dX0_piecesOf_8 il_2 rfl
theorem eX0_piecesOf_9 {d : Nat} {a0 a1 : Value} {x y : Int32} {st : List Value} {hp : qzH} (hy : ¬ y = 0) : qzV d 10 9 [a0, a1] (.int y :: .int x :: st) hp = qzV d 10 10 [a0, a1] (.int (x / y) :: st) hp := qv_binD (f := fun x y => x / y) mdc_10 dX0_piecesOf_9 rfl rfl hy
theorem eX0_piecesOf_10 {d : Nat} {a0 a1 : Value} {v : Int32} {hp : qzH} : qzV d 10 10 [a0, a1] [.int v] hp = some (some (.int v), hp) := qv_iret mdc_10 dX0_piecesOf_10 mdr_10 rfl
theorem dX0_endOfCoat_0 : decode cX0_endOfCoat 0 = .ok (.aload_n 0, 1) := by decide +kernel
theorem dX0_endOfCoat_1 : decode cX0_endOfCoat 1 = .ok (.iload_n 1, 1) := by decide +kernel
theorem dX0_endOfCoat_2 : decode cX0_endOfCoat 2 = .ok (.invokevirtual 113, 3) := by decide +kernel
theorem dX0_endOfCoat_5 : decode cX0_endOfCoat 5 = .ok (.istore_n 2, 1) := by decide +kernel
theorem dX0_endOfCoat_6 : decode cX0_endOfCoat 6 = .ok (.iload_n 2, 1) := by decide +kernel
theorem dX0_endOfCoat_7 : decode cX0_endOfCoat 7 = .ok (.ifCond .gt 6, 3) := by decide +kernel
theorem dX0_endOfCoat_10 : decode cX0_endOfCoat 10 = .ok (.bipush 6, 2) := by decide +kernel
theorem dX0_endOfCoat_12 : decode cX0_endOfCoat 12 = .ok (.ireturn, 1) := by decide +kernel
theorem dX0_endOfCoat_13 : decode cX0_endOfCoat 13 = .ok (.iconst 2, 1) := by decide +kernel
theorem dX0_endOfCoat_14 : decode cX0_endOfCoat 14 = .ok (.iload_n 2, 1) := by decide +kernel
theorem dX0_endOfCoat_15 : decode cX0_endOfCoat 15 = .ok (.iconst 1, 1) := by decide +kernel
theorem dX0_endOfCoat_16 : decode cX0_endOfCoat 16 = .ok (.isub, 1) := by decide +kernel
theorem dX0_endOfCoat_17 : decode cX0_endOfCoat 17 = .ok (.imul, 1) := by decide +kernel
theorem dX0_endOfCoat_18 : decode cX0_endOfCoat 18 = .ok (.iload_n 1, 1) := by decide +kernel
theorem dX0_endOfCoat_19 : decode cX0_endOfCoat 19 = .ok (.iadd, 1) := by decide +kernel
theorem dX0_endOfCoat_20 : decode cX0_endOfCoat 20 = .ok (.istore_n 3, 1) := by decide +kernel
theorem dX0_endOfCoat_21 : decode cX0_endOfCoat 21 = .ok (.aload_n 0, 1) := by decide +kernel
theorem dX0_endOfCoat_22 : decode cX0_endOfCoat 22 = .ok (.getfield 9, 3) := by decide +kernel
theorem dX0_endOfCoat_25 : decode cX0_endOfCoat 25 = .ok (.aload_n 0, 1) := by decide +kernel
theorem dX0_endOfCoat_26 : decode cX0_endOfCoat 26 = .ok (.getfield 18, 3) := by decide +kernel
theorem dX0_endOfCoat_29 : decode cX0_endOfCoat 29 = .ok (.iload_n 3, 1) := by decide +kernel
theorem dX0_endOfCoat_30 : decode cX0_endOfCoat 30 = .ok (.invokestatic 54, 3) := by decide +kernel
theorem dX0_endOfCoat_33 : decode cX0_endOfCoat 33 = .ok (.aload_n 0, 1) := by decide +kernel
theorem dX0_endOfCoat_34 : decode cX0_endOfCoat 34 = .ok (.getfield 21, 3) := by decide +kernel
theorem dX0_endOfCoat_37 : decode cX0_endOfCoat 37 = .ok (.iload_n 3, 1) := by decide +kernel
theorem dX0_endOfCoat_38 : decode cX0_endOfCoat 38 = .ok (.invokestatic 54, 3) := by decide +kernel
theorem dX0_endOfCoat_41 : decode cX0_endOfCoat 41 = .ok (.iadd, 1) := by decide +kernel
theorem dX0_endOfCoat_42 : decode cX0_endOfCoat 42 = .ok (.iconst 1, 1) := by decide +kernel
theorem dX0_endOfCoat_43 : decode cX0_endOfCoat 43 = .ok (.isub, 1) := by decide +kernel
theorem dX0_endOfCoat_44 : decode cX0_endOfCoat 44 = .ok (.invokestatic 54, 3) := by decide +kernel
theorem dX0_endOfCoat_47 : decode cX0_endOfCoat 47 = .ok (.ireturn, 1) := by decide +kernel
theorem eX0_endOfCoat_0 {d : Nat} {a1 a2 a3 : Value} {x : Nat} {st : List Value} {hp : qzH} : qzV d 11 0 [.ref x, a1, a2, a3] (st) hp = qzV d 11 1 [.ref x, a1, a2, a3] (.ref x :: st) hp := qv_aload (i := 0) mdc_11 dX0_endOfCoat_0 rfl rfl rfl
theorem eX0_endOfCoat_1 {d : Nat} {a0 a2 a3 : Value} {x : Int32} {st : List Value} {hp : qzH} : qzV d 11 1 [a0, .int x, a2, a3] (st) hp = qzV d 11 2 [a0, .int x, a2, a3] (.int x :: st) hp := qv_iload (i := 1) mdc_11 dX0_endOfCoat_1 rfl rfl rfl
theorem eX0_endOfCoat_2 {d : Nat} {a0 a1 a2 a3 : Value} {w0 : Value} {b : Nat} {st : List Value} {hp : qzH} (h8 : st.length ≤ 8) (hb : qzArr 0 b hp.1 = true) : qzV (d + 1) 11 2 [a0, a1, a2, a3] (w0 :: .ref b :: st) hp = (qzC d 10 (.ref b :: [w0]) hp).bind (fun r => qzV (d + 1) 11 5 [a0, a1, a2, a3] (r.1.toList ++ st) r.2) := qv_callv (n := 1) mdc_11 dX0_endOfCoat_2 mdo_11 (by decide) qfc_0_113 ⟨rfl, by decide, rfl⟩ rfl ⟨rfl, rfl, by simp only [List.length_cons]; omega⟩ h8 hb
theorem eX0_endOfCoat_5 {d : Nat} {a0 a1 a2 a3 : Value} {x : Int32} {st : List Value} {hp : qzH} : qzV d 11 5 [a0, a1, a2, a3] (.int x :: st) hp = qzV d 11 6 [a0, a1, .int x, a3] (st) hp := qv_istore (i := 2) mdc_11 dX0_endOfCoat_5 rfl (Nat.le_of_ble_eq_true rfl) rfl rfl
theorem eX0_endOfCoat_6 {d : Nat} {a0 a1 a3 : Value} {x : Int32} {st : List Value} {hp : qzH} : qzV d 11 6 [a0, a1, .int x, a3] (st) hp = qzV d 11 7 [a0, a1, .int x, a3] (.int x :: st) hp := qv_iload (i := 2) mdc_11 dX0_endOfCoat_6 rfl rfl rfl
theorem eX0_endOfCoat_7 {d : Nat} {a0 a1 a2 a3 : Value} {x : Int32} {st : List Value} {hp : qzH} : qzV d 11 7 [a0, a1, a2, a3] (.int x :: st) hp = if 0 < x then qzV d 11 13 [a0, a1, a2, a3] (st) hp else qzV d 11 10 [a0, a1, a2, a3] (st) hp := qv_if1 mdc_11 dX0_endOfCoat_7 rfl rfl rfl
theorem eX0_endOfCoat_10 {d : Nat} {a0 a1 a2 a3 : Value} {st : List Value} {hp : qzH} : qzV d 11 10 [a0, a1, a2, a3] (st) hp = qzV d 11 12 [a0, a1, a2, a3] (.int 6 :: st) hp := qv_bipush mdc_11 dX0_endOfCoat_10 ib_6 rfl
theorem eX0_endOfCoat_12 {d : Nat} {a0 a1 a2 a3 : Value} {v : Int32} {hp : qzH} : qzV d 11 12 [a0, a1, a2, a3] [.int v] hp = some (some (.int v), hp) := qv_iret mdc_11 dX0_endOfCoat_12 mdr_11 rfl
theorem eX0_endOfCoat_13 {d : Nat} {a0 a1 a2 a3 : Value} {st : List Value} {hp : qzH} : qzV d 11 13 [a0, a1, a2, a3] (st) hp = qzV d 11 14 [a0, a1, a2, a3] (.int 2 :: st) hp := qv_iconst mdc_11 dX0_endOfCoat_13 il_2 rfl
theorem eX0_endOfCoat_14 {d : Nat} {a0 a1 a3 : Value} {x : Int32} {st : List Value} {hp : qzH} : qzV d 11 14 [a0, a1, .int x, a3] (st) hp = qzV d 11 15 [a0, a1, .int x, a3] (.int x :: st) hp := qv_iload (i := 2) mdc_11 dX0_endOfCoat_14 rfl rfl rfl
theorem eX0_endOfCoat_15 {d : Nat} {a0 a1 a2 a3 : Value} {st : List Value} {hp : qzH} : qzV d 11 15 [a0, a1, a2, a3] (st) hp = qzV d 11 16 [a0, a1, a2, a3] (.int 1 :: st) hp := qv_iconst mdc_11 dX0_endOfCoat_15 il_1 rfl
theorem eX0_endOfCoat_16 {d : Nat} {a0 a1 a2 a3 : Value} {x y : Int32} {st : List Value} {hp : qzH} : qzV d 11 16 [a0, a1, a2, a3] (.int y :: .int x :: st) hp = qzV d 11 17 [a0, a1, a2, a3] (.int (x - y) :: st) hp := qv_bin (f := fun x y => x - y) mdc_11 dX0_endOfCoat_16 rfl rfl
theorem eX0_endOfCoat_17 {d : Nat} {a0 a1 a2 a3 : Value} {x y : Int32} {st : List Value} {hp : qzH} : qzV d 11 17 [a0, a1, a2, a3] (.int y :: .int x :: st) hp = qzV d 11 18 [a0, a1, a2, a3] (.int (x * y) :: st) hp := qv_bin (f := fun x y => x * y) mdc_11 dX0_endOfCoat_17 rfl rfl
theorem eX0_endOfCoat_18 {d : Nat} {a0 a2 a3 : Value} {x : Int32} {st : List Value} {hp : qzH} : qzV d 11 18 [a0, .int x, a2, a3] (st) hp = qzV d 11 19 [a0, .int x, a2, a3] (.int x :: st) hp := qv_iload (i := 1) mdc_11 dX0_endOfCoat_18 rfl rfl rfl
theorem eX0_endOfCoat_19 {d : Nat} {a0 a1 a2 a3 : Value} {x y : Int32} {st : List Value} {hp : qzH} : qzV d 11 19 [a0, a1, a2, a3] (.int y :: .int x :: st) hp = qzV d 11 20 [a0, a1, a2, a3] (.int (x + y) :: st) hp := qv_bin (f := fun x y => x + y) mdc_11 dX0_endOfCoat_19 rfl rfl
theorem eX0_endOfCoat_20 {d : Nat} {a0 a1 a2 a3 : Value} {x : Int32} {st : List Value} {hp : qzH} : qzV d 11 20 [a0, a1, a2, a3] (.int x :: st) hp = qzV d 11 21 [a0, a1, a2, .int x] (st) hp := qv_istore (i := 3) mdc_11 dX0_endOfCoat_20 rfl (Nat.le_of_ble_eq_true rfl) rfl rfl
theorem eX0_endOfCoat_21 {d : Nat} {a1 a2 a3 : Value} {x : Nat} {st : List Value} {hp : qzH} : qzV d 11 21 [.ref x, a1, a2, a3] (st) hp = qzV d 11 22 [.ref x, a1, a2, a3] (.ref x :: st) hp := qv_aload (i := 0) mdc_11 dX0_endOfCoat_21 rfl rfl rfl
theorem eX0_endOfCoat_22 {d : Nat} {a0 a1 a2 a3 : Value} {a : Nat} {st : List Value} {hp : qzH} (ha : qzArr 0 a hp.1 = true) : qzV d 11 22 [a0, a1, a2, a3] (.ref a :: st) hp = qzV d 11 25 [a0, a1, a2, a3] (va_rf (hp.2.1 a 0) :: st) hp := qv_getR mdc_11 dX0_endOfCoat_22 mdo_11 qff_0_9 ⟨by decide, rfl⟩ rfl ha
theorem eX0_endOfCoat_25 {d : Nat} {a1 a2 a3 : Value} {x : Nat} {st : List Value} {hp : qzH} : qzV d 11 25 [.ref x, a1, a2, a3] (st) hp = qzV d 11 26 [.ref x, a1, a2, a3] (.ref x :: st) hp := qv_aload (i := 0) mdc_11 dX0_endOfCoat_25 rfl rfl rfl
theorem eX0_endOfCoat_26 {d : Nat} {a0 a1 a2 a3 : Value} {a : Nat} {st : List Value} {hp : qzH} (ha : qzArr 0 a hp.1 = true) : qzV d 11 26 [a0, a1, a2, a3] (.ref a :: st) hp = qzV d 11 29 [a0, a1, a2, a3] (va_rf (hp.2.1 a 2) :: st) hp := qv_getR mdc_11 dX0_endOfCoat_26 mdo_11 qff_0_18 ⟨by decide, rfl⟩ rfl ha
theorem eX0_endOfCoat_29 {d : Nat} {a0 a1 a2 : Value} {x : Int32} {st : List Value} {hp : qzH} : qzV d 11 29 [a0, a1, a2, .int x] (st) hp = qzV d 11 30 [a0, a1, a2, .int x] (.int x :: st) hp := qv_iload (i := 3) mdc_11 dX0_endOfCoat_29 rfl rfl rfl
theorem eX0_endOfCoat_30 {d : Nat} {a0 a1 a2 a3 : Value} {w0 w1 : Value} {st : List Value} {hp : qzH} (h8 : st.length ≤ 8) : qzV (d + 1) 11 30 [a0, a1, a2, a3] (w1 :: w0 :: st) hp = (qzC d 84 [w0, w1] hp).bind (fun r => qzV (d + 1) 11 33 [a0, a1, a2, a3] (r.1.toList ++ st) r.2) := qv_calls (n := 2) mdc_11 dX0_endOfCoat_30 mdo_11 (by decide) qfc_0_54 ⟨rfl, by decide, rfl⟩ rfl ⟨rfl, rfl, by simp only [List.length_cons]; omega⟩ h8
theorem eX0_endOfCoat_33 {d : Nat} {a1 a2 a3 : Value} {x : Nat} {st : List Value} {hp : qzH} : qzV d 11 33 [.ref x, a1, a2, a3] (st) hp = qzV d 11 34 [.ref x, a1, a2, a3] (.ref x :: st) hp := qv_aload (i := 0) mdc_11 dX0_endOfCoat_33 rfl rfl rfl
theorem eX0_endOfCoat_34 {d : Nat} {a0 a1 a2 a3 : Value} {a : Nat} {st : List Value} {hp : qzH} (ha : qzArr 0 a hp.1 = true) : qzV d 11 34 [a0, a1, a2, a3] (.ref a :: st) hp = qzV d 11 37 [a0, a1, a2, a3] (va_rf (hp.2.1 a 3) :: st) hp := qv_getR mdc_11 dX0_endOfCoat_34 mdo_11 qff_0_21 ⟨by decide, rfl⟩ rfl ha
theorem eX0_endOfCoat_37 {d : Nat} {a0 a1 a2 : Value} {x : Int32} {st : List Value} {hp : qzH} : qzV d 11 37 [a0, a1, a2, .int x] (st) hp = qzV d 11 38 [a0, a1, a2, .int x] (.int x :: st) hp := qv_iload (i := 3) mdc_11 dX0_endOfCoat_37 rfl rfl rfl
theorem eX0_endOfCoat_38 {d : Nat} {a0 a1 a2 a3 : Value} {w0 w1 : Value} {st : List Value} {hp : qzH} (h8 : st.length ≤ 8) : qzV (d + 1) 11 38 [a0, a1, a2, a3] (w1 :: w0 :: st) hp = (qzC d 84 [w0, w1] hp).bind (fun r => qzV (d + 1) 11 41 [a0, a1, a2, a3] (r.1.toList ++ st) r.2) := qv_calls (n := 2) mdc_11 dX0_endOfCoat_38 mdo_11 (by decide) qfc_0_54 ⟨rfl, by decide, rfl⟩ rfl ⟨rfl, rfl, by simp only [List.length_cons]; omega⟩ h8
theorem eX0_endOfCoat_41 {d : Nat} {a0 a1 a2 a3 : Value} {x y : Int32} {st : List Value} {hp : qzH} : qzV d 11 41 [a0, a1, a2, a3] (.int y :: .int x :: st) hp = qzV d 11 42 [a0, a1, a2, a3] (.int (x + y) :: st) hp := qv_bin (f := fun x y => x + y) mdc_11 dX0_endOfCoat_41 rfl rfl
theorem eX0_endOfCoat_42 {d : Nat} {a0 a1 a2 a3 : Value} {st : List Value} {hp : qzH} : qzV d 11 42 [a0, a1, a2, a3] (st) hp = qzV d 11 43 [a0, a1, a2, a3] (.int 1 :: st) hp := qv_iconst mdc_11 dX0_endOfCoat_42 il_1 rfl
theorem eX0_endOfCoat_43 {d : Nat} {a0 a1 a2 a3 : Value} {x y : Int32} {st : List Value} {hp : qzH} : qzV d 11 43 [a0, a1, a2, a3] (.int y :: .int x :: st) hp = qzV d 11 44 [a0, a1, a2, a3] (.int (x - y) :: st) hp := qv_bin (f := fun x y => x - y) mdc_11 dX0_endOfCoat_43 rfl rfl
theorem eX0_endOfCoat_44 {d : Nat} {a0 a1 a2 a3 : Value} {w0 w1 : Value} {st : List Value} {hp : qzH} (h8 : st.length ≤ 8) : qzV (d + 1) 11 44 [a0, a1, a2, a3] (w1 :: w0 :: st) hp = (qzC d 84 [w0, w1] hp).bind (fun r => qzV (d + 1) 11 47 [a0, a1, a2, a3] (r.1.toList ++ st) r.2) := qv_calls (n := 2) mdc_11 dX0_endOfCoat_44 mdo_11 (by decide) qfc_0_54 ⟨rfl, by decide, rfl⟩ rfl ⟨rfl, rfl, by simp only [List.length_cons]; omega⟩ h8
theorem eX0_endOfCoat_47 {d : Nat} {a0 a1 a2 a3 : Value} {v : Int32} {hp : qzH} : qzV d 11 47 [a0, a1, a2, a3] [.int v] hp = some (some (.int v), hp) := qv_iret mdc_11 dX0_endOfCoat_47 mdr_11 rfl
theorem dX0_sumOfCoat_0 : decode cX0_sumOfCoat 0 = .ok (.iconst 0, 1) := by decide +kernel
theorem dX0_sumOfCoat_1 : decode cX0_sumOfCoat 1 = .ok (.istore_n 3, 1) := by decide +kernel
theorem dX0_sumOfCoat_2 : decode cX0_sumOfCoat 2 = .ok (.iload_n 2, 1) := by decide +kernel
theorem dX0_sumOfCoat_3 : decode cX0_sumOfCoat 3 = .ok (.istore 4, 2) := by decide +kernel
theorem dX0_sumOfCoat_5 : decode cX0_sumOfCoat 5 = .ok (.iload 4, 2) := by decide +kernel
theorem dX0_sumOfCoat_7 : decode cX0_sumOfCoat 7 = .ok (.aload_n 0, 1) := by decide +kernel
theorem dX0_sumOfCoat_8 : decode cX0_sumOfCoat 8 = .ok (.getfield 48, 3) := by decide +kernel
theorem dX0_sumOfCoat_11 : decode cX0_sumOfCoat 11 = .ok (.if_icmp .ge 18, 3) := by decide +kernel
theorem dX0_sumOfCoat_14 : decode cX0_sumOfCoat 14 = .ok (.iload_n 3, 1) := by decide +kernel
theorem dX0_sumOfCoat_15 : decode cX0_sumOfCoat 15 = .ok (.aload_n 1, 1) := by decide +kernel
theorem dX0_sumOfCoat_16 : decode cX0_sumOfCoat 16 = .ok (.iload 4, 2) := by decide +kernel
theorem dX0_sumOfCoat_18 : decode cX0_sumOfCoat 18 = .ok (.invokestatic 54, 3) := by decide +kernel
theorem dX0_sumOfCoat_21 : decode cX0_sumOfCoat 21 = .ok (.iadd, 1) := by decide +kernel
theorem dX0_sumOfCoat_22 : decode cX0_sumOfCoat 22 = .ok (.istore_n 3, 1) := by decide +kernel
theorem dX0_sumOfCoat_23 : decode cX0_sumOfCoat 23 = .ok (.iinc 4 2, 3) := by decide +kernel
theorem dX0_sumOfCoat_26 : decode cX0_sumOfCoat 26 = .ok (.goto (-21), 3) := by decide +kernel
theorem dX0_sumOfCoat_29 : decode cX0_sumOfCoat 29 = .ok (.iload_n 3, 1) := by decide +kernel
theorem dX0_sumOfCoat_30 : decode cX0_sumOfCoat 30 = .ok (.ireturn, 1) := by decide +kernel
theorem eX0_sumOfCoat_0 {d : Nat} {a0 a1 a2 a3 a4 : Value} {st : List Value} {hp : qzH} : qzV d 12 0 [a0, a1, a2, a3, a4] (st) hp = qzV d 12 1 [a0, a1, a2, a3, a4] (.int 0 :: st) hp := qv_iconst mdc_12 dX0_sumOfCoat_0 il_0 rfl
theorem eX0_sumOfCoat_1 {d : Nat} {a0 a1 a2 a3 a4 : Value} {x : Int32} {st : List Value} {hp : qzH} : qzV d 12 1 [a0, a1, a2, a3, a4] (.int x :: st) hp = qzV d 12 2 [a0, a1, a2, .int x, a4] (st) hp := qv_istore (i := 3) mdc_12 dX0_sumOfCoat_1 rfl (Nat.le_of_ble_eq_true rfl) rfl rfl
theorem eX0_sumOfCoat_2 {d : Nat} {a0 a1 a3 a4 : Value} {x : Int32} {st : List Value} {hp : qzH} : qzV d 12 2 [a0, a1, .int x, a3, a4] (st) hp = qzV d 12 3 [a0, a1, .int x, a3, a4] (.int x :: st) hp := qv_iload (i := 2) mdc_12 dX0_sumOfCoat_2 rfl rfl rfl
theorem eX0_sumOfCoat_3 {d : Nat} {a0 a1 a2 a3 a4 : Value} {x : Int32} {st : List Value} {hp : qzH} : qzV d 12 3 [a0, a1, a2, a3, a4] (.int x :: st) hp = qzV d 12 5 [a0, a1, a2, a3, .int x] (st) hp := qv_istore (i := 4) mdc_12 dX0_sumOfCoat_3 rfl (Nat.le_of_ble_eq_true rfl) rfl rfl
theorem eX0_sumOfCoat_5 {d : Nat} {a0 a1 a2 a3 : Value} {x : Int32} {st : List Value} {hp : qzH} : qzV d 12 5 [a0, a1, a2, a3, .int x] (st) hp = qzV d 12 7 [a0, a1, a2, a3, .int x] (.int x :: st) hp := qv_iload (i := 4) mdc_12 dX0_sumOfCoat_5 rfl rfl rfl
theorem eX0_sumOfCoat_7 {d : Nat} {a1 a2 a3 a4 : Value} {x : Nat} {st : List Value} {hp : qzH} : qzV d 12 7 [.ref x, a1, a2, a3, a4] (st) hp = qzV d 12 8 [.ref x, a1, a2, a3, a4] (.ref x :: st) hp := qv_aload (i := 0) mdc_12 dX0_sumOfCoat_7 rfl rfl rfl
theorem eX0_sumOfCoat_8 {d : Nat} {a0 a1 a2 a3 a4 : Value} {a : Nat} {st : List Value} {hp : qzH} (ha : qzArr 0 a hp.1 = true) : qzV d 12 8 [a0, a1, a2, a3, a4] (.ref a :: st) hp = qzV d 12 11 [a0, a1, a2, a3, a4] (.int (hp.2.2 a 9) :: st) hp := qv_getI mdc_12 dX0_sumOfCoat_8 mdo_12 qff_0_48 ⟨by decide, rfl⟩ rfl ha
theorem eX0_sumOfCoat_11 {d : Nat} {a0 a1 a2 a3 a4 : Value} {x y : Int32} {st : List Value} {hp : qzH} : qzV d 12 11 [a0, a1, a2, a3, a4] (.int y :: .int x :: st) hp = if y ≤ x then qzV d 12 29 [a0, a1, a2, a3, a4] (st) hp else qzV d 12 14 [a0, a1, a2, a3, a4] (st) hp := qv_if2 mdc_12 dX0_sumOfCoat_11 rfl rfl rfl
theorem eX0_sumOfCoat_14 {d : Nat} {a0 a1 a2 a4 : Value} {x : Int32} {st : List Value} {hp : qzH} : qzV d 12 14 [a0, a1, a2, .int x, a4] (st) hp = qzV d 12 15 [a0, a1, a2, .int x, a4] (.int x :: st) hp := qv_iload (i := 3) mdc_12 dX0_sumOfCoat_14 rfl rfl rfl
theorem eX0_sumOfCoat_15 {d : Nat} {a0 a2 a3 a4 : Value} {x : Nat} {st : List Value} {hp : qzH} : qzV d 12 15 [a0, .ref x, a2, a3, a4] (st) hp = qzV d 12 16 [a0, .ref x, a2, a3, a4] (.ref x :: st) hp := qv_aload (i := 1) mdc_12 dX0_sumOfCoat_15 rfl rfl rfl
theorem eX0_sumOfCoat_16 {d : Nat} {a0 a1 a2 a3 : Value} {x : Int32} {st : List Value} {hp : qzH} : qzV d 12 16 [a0, a1, a2, a3, .int x] (st) hp = qzV d 12 18 [a0, a1, a2, a3, .int x] (.int x :: st) hp := qv_iload (i := 4) mdc_12 dX0_sumOfCoat_16 rfl rfl rfl
theorem eX0_sumOfCoat_18 {d : Nat} {a0 a1 a2 a3 a4 : Value} {w0 w1 : Value} {st : List Value} {hp : qzH} (h8 : st.length ≤ 8) : qzV (d + 1) 12 18 [a0, a1, a2, a3, a4] (w1 :: w0 :: st) hp = (qzC d 84 [w0, w1] hp).bind (fun r => qzV (d + 1) 12 21 [a0, a1, a2, a3, a4] (r.1.toList ++ st) r.2) := qv_calls (n := 2) mdc_12 dX0_sumOfCoat_18 mdo_12 (by decide) qfc_0_54 ⟨rfl, by decide, rfl⟩ rfl ⟨rfl, rfl, by simp only [List.length_cons]; omega⟩ h8
theorem eX0_sumOfCoat_21 {d : Nat} {a0 a1 a2 a3 a4 : Value} {x y : Int32} {st : List Value} {hp : qzH} : qzV d 12 21 [a0, a1, a2, a3, a4] (.int y :: .int x :: st) hp = qzV d 12 22 [a0, a1, a2, a3, a4] (.int (x + y) :: st) hp := qv_bin (f := fun x y => x + y) mdc_12 dX0_sumOfCoat_21 rfl rfl
theorem eX0_sumOfCoat_22 {d : Nat} {a0 a1 a2 a3 a4 : Value} {x : Int32} {st : List Value} {hp : qzH} : qzV d 12 22 [a0, a1, a2, a3, a4] (.int x :: st) hp = qzV d 12 23 [a0, a1, a2, .int x, a4] (st) hp := qv_istore (i := 3) mdc_12 dX0_sumOfCoat_22 rfl (Nat.le_of_ble_eq_true rfl) rfl rfl
theorem eX0_sumOfCoat_23 {d : Nat} {a0 a1 a2 a3 : Value} {x : Int32} {st : List Value} {hp : qzH} : qzV d 12 23 [a0, a1, a2, a3, .int x] (st) hp = qzV d 12 26 [a0, a1, a2, a3, .int (x + 2)] (st) hp := qv_iinc mdc_12 dX0_sumOfCoat_23 rfl il_2 rfl rfl
theorem eX0_sumOfCoat_26 {d : Nat} {a0 a1 a2 a3 a4 : Value} {st : List Value} {hp : qzH} : qzV d 12 26 [a0, a1, a2, a3, a4] (st) hp = qzV d 12 5 [a0, a1, a2, a3, a4] (st) hp := qv_goto mdc_12 dX0_sumOfCoat_26 rfl
theorem eX0_sumOfCoat_29 {d : Nat} {a0 a1 a2 a4 : Value} {x : Int32} {st : List Value} {hp : qzH} : qzV d 12 29 [a0, a1, a2, .int x, a4] (st) hp = qzV d 12 30 [a0, a1, a2, .int x, a4] (.int x :: st) hp := qv_iload (i := 3) mdc_12 dX0_sumOfCoat_29 rfl rfl rfl
theorem eX0_sumOfCoat_30 {d : Nat} {a0 a1 a2 a3 a4 : Value} {v : Int32} {hp : qzH} : qzV d 12 30 [a0, a1, a2, a3, a4] [.int v] hp = some (some (.int v), hp) := qv_iret mdc_12 dX0_sumOfCoat_30 mdr_12 rfl
theorem dX0_piecesWith_0 : decode cX0_piecesWith 0 = .ok (.iconst 0, 1) := by decide +kernel
theorem dX0_piecesWith_1 : decode cX0_piecesWith 1 = .ok (.istore_n 3, 1) := by decide +kernel
theorem dX0_piecesWith_2 : decode cX0_piecesWith 2 = .ok (.iload_n 2, 1) := by decide +kernel
theorem dX0_piecesWith_3 : decode cX0_piecesWith 3 = .ok (.istore 4, 2) := by decide +kernel
theorem dX0_piecesWith_5 : decode cX0_piecesWith 5 = .ok (.iload 4, 2) := by decide +kernel
theorem dX0_piecesWith_7 : decode cX0_piecesWith 7 = .ok (.aload_n 0, 1) := by decide +kernel
theorem dX0_piecesWith_8 : decode cX0_piecesWith 8 = .ok (.getfield 48, 3) := by decide +kernel
theorem dX0_piecesWith_11 : decode cX0_piecesWith 11 = .ok (.if_icmp .ge 26, 3) := by decide +kernel
theorem dX0_piecesWith_14 : decode cX0_piecesWith 14 = .ok (.aload_n 0, 1) := by decide +kernel
theorem dX0_piecesWith_15 : decode cX0_piecesWith 15 = .ok (.getfield 27, 3) := by decide +kernel
theorem dX0_piecesWith_18 : decode cX0_piecesWith 18 = .ok (.iload 4, 2) := by decide +kernel
theorem dX0_piecesWith_20 : decode cX0_piecesWith 20 = .ok (.invokestatic 54, 3) := by decide +kernel
theorem dX0_piecesWith_23 : decode cX0_piecesWith 23 = .ok (.iload_n 1, 1) := by decide +kernel
theorem dX0_piecesWith_24 : decode cX0_piecesWith 24 = .ok (.iand, 1) := by decide +kernel
theorem dX0_piecesWith_25 : decode cX0_piecesWith 25 = .ok (.ifCond .eq 6, 3) := by decide +kernel
theorem dX0_piecesWith_28 : decode cX0_piecesWith 28 = .ok (.iinc 3 1, 3) := by decide +kernel
theorem dX0_piecesWith_31 : decode cX0_piecesWith 31 = .ok (.iinc 4 2, 3) := by decide +kernel
theorem dX0_piecesWith_34 : decode cX0_piecesWith 34 = .ok (.goto (-29), 3) := by decide +kernel
theorem dX0_piecesWith_37 : decode cX0_piecesWith 37 = .ok (.iload_n 3, 1) := by decide +kernel
theorem dX0_piecesWith_38 : decode cX0_piecesWith 38 = .ok (.ireturn, 1) := by decide +kernel
theorem eX0_piecesWith_0 {d : Nat} {a0 a1 a2 a3 a4 : Value} {st : List Value} {hp : qzH} : qzV d 13 0 [a0, a1, a2, a3, a4] (st) hp = qzV d 13 1 [a0, a1, a2, a3, a4] (.int 0 :: st) hp := qv_iconst mdc_13 dX0_piecesWith_0 il_0 rfl
theorem eX0_piecesWith_1 {d : Nat} {a0 a1 a2 a3 a4 : Value} {x : Int32} {st : List Value} {hp : qzH} : qzV d 13 1 [a0, a1, a2, a3, a4] (.int x :: st) hp = qzV d 13 2 [a0, a1, a2, .int x, a4] (st) hp := qv_istore (i := 3) mdc_13 dX0_piecesWith_1 rfl (Nat.le_of_ble_eq_true rfl) rfl rfl
theorem eX0_piecesWith_2 {d : Nat} {a0 a1 a3 a4 : Value} {x : Int32} {st : List Value} {hp : qzH} : qzV d 13 2 [a0, a1, .int x, a3, a4] (st) hp = qzV d 13 3 [a0, a1, .int x, a3, a4] (.int x :: st) hp := qv_iload (i := 2) mdc_13 dX0_piecesWith_2 rfl rfl rfl
theorem eX0_piecesWith_3 {d : Nat} {a0 a1 a2 a3 a4 : Value} {x : Int32} {st : List Value} {hp : qzH} : qzV d 13 3 [a0, a1, a2, a3, a4] (.int x :: st) hp = qzV d 13 5 [a0, a1, a2, a3, .int x] (st) hp := qv_istore (i := 4) mdc_13 dX0_piecesWith_3 rfl (Nat.le_of_ble_eq_true rfl) rfl rfl
theorem eX0_piecesWith_5 {d : Nat} {a0 a1 a2 a3 : Value} {x : Int32} {st : List Value} {hp : qzH} : qzV d 13 5 [a0, a1, a2, a3, .int x] (st) hp = qzV d 13 7 [a0, a1, a2, a3, .int x] (.int x :: st) hp := qv_iload (i := 4) mdc_13 dX0_piecesWith_5 rfl rfl rfl
theorem eX0_piecesWith_7 {d : Nat} {a1 a2 a3 a4 : Value} {x : Nat} {st : List Value} {hp : qzH} : qzV d 13 7 [.ref x, a1, a2, a3, a4] (st) hp = qzV d 13 8 [.ref x, a1, a2, a3, a4] (.ref x :: st) hp := qv_aload (i := 0) mdc_13 dX0_piecesWith_7 rfl rfl rfl
theorem eX0_piecesWith_8 {d : Nat} {a0 a1 a2 a3 a4 : Value} {a : Nat} {st : List Value} {hp : qzH} (ha : qzArr 0 a hp.1 = true) : qzV d 13 8 [a0, a1, a2, a3, a4] (.ref a :: st) hp = qzV d 13 11 [a0, a1, a2, a3, a4] (.int (hp.2.2 a 9) :: st) hp := qv_getI mdc_13 dX0_piecesWith_8 mdo_13 qff_0_48 ⟨by decide, rfl⟩ rfl ha
theorem eX0_piecesWith_11 {d : Nat} {a0 a1 a2 a3 a4 : Value} {x y : Int32} {st : List Value} {hp : qzH} : qzV d 13 11 [a0, a1, a2, a3, a4] (.int y :: .int x :: st) hp = if y ≤ x then qzV d 13 37 [a0, a1, a2, a3, a4] (st) hp else qzV d 13 14 [a0, a1, a2, a3, a4] (st) hp := qv_if2 mdc_13 dX0_piecesWith_11 rfl rfl rfl
theorem eX0_piecesWith_14 {d : Nat} {a1 a2 a3 a4 : Value} {x : Nat} {st : List Value} {hp : qzH} : qzV d 13 14 [.ref x, a1, a2, a3, a4] (st) hp = qzV d 13 15 [.ref x, a1, a2, a3, a4] (.ref x :: st) hp := qv_aload (i := 0) mdc_13 dX0_piecesWith_14 rfl rfl rfl
theorem eX0_piecesWith_15 {d : Nat} {a0 a1 a2 a3 a4 : Value} {a : Nat} {st : List Value} {hp : qzH} (ha : qzArr 0 a hp.1 = true) : qzV d 13 15 [a0, a1, a2, a3, a4] (.ref a :: st) hp = qzV d 13 18 [a0, a1, a2, a3, a4] (va_rf (hp.2.1 a 5) :: st) hp := qv_getR mdc_13 dX0_piecesWith_15 mdo_13 qff_0_27 ⟨by decide, rfl⟩ rfl ha
theorem eX0_piecesWith_18 {d : Nat} {a0 a1 a2 a3 : Value} {x : Int32} {st : List Value} {hp : qzH} : qzV d 13 18 [a0, a1, a2, a3, .int x] (st) hp = qzV d 13 20 [a0, a1, a2, a3, .int x] (.int x :: st) hp := qv_iload (i := 4) mdc_13 dX0_piecesWith_18 rfl rfl rfl
theorem eX0_piecesWith_20 {d : Nat} {a0 a1 a2 a3 a4 : Value} {w0 w1 : Value} {st : List Value} {hp : qzH} (h8 : st.length ≤ 8) : qzV (d + 1) 13 20 [a0, a1, a2, a3, a4] (w1 :: w0 :: st) hp = (qzC d 84 [w0, w1] hp).bind (fun r => qzV (d + 1) 13 23 [a0, a1, a2, a3, a4] (r.1.toList ++ st) r.2) := qv_calls (n := 2) mdc_13 dX0_piecesWith_20 mdo_13 (by decide) qfc_0_54 ⟨rfl, by decide, rfl⟩ rfl ⟨rfl, rfl, by simp only [List.length_cons]; omega⟩ h8
theorem eX0_piecesWith_23 {d : Nat} {a0 a2 a3 a4 : Value} {x : Int32} {st : List Value} {hp : qzH} : qzV d 13 23 [a0, .int x, a2, a3, a4] (st) hp = qzV d 13 24 [a0, .int x, a2, a3, a4] (.int x :: st) hp := qv_iload (i := 1) mdc_13 dX0_piecesWith_23 rfl rfl rfl
theorem eX0_piecesWith_24 {d : Nat} {a0 a1 a2 a3 a4 : Value} {x y : Int32} {st : List Value} {hp : qzH} : qzV d 13 24 [a0, a1, a2, a3, a4] (.int y :: .int x :: st) hp = qzV d 13 25 [a0, a1, a2, a3, a4] (.int (x &&& y) :: st) hp := qv_bin (f := fun x y => x &&& y) mdc_13 dX0_piecesWith_24 rfl rfl
theorem eX0_piecesWith_25 {d : Nat} {a0 a1 a2 a3 a4 : Value} {x : Int32} {st : List Value} {hp : qzH} : qzV d 13 25 [a0, a1, a2, a3, a4] (.int x :: st) hp = if x = 0 then qzV d 13 31 [a0, a1, a2, a3, a4] (st) hp else qzV d 13 28 [a0, a1, a2, a3, a4] (st) hp := qv_if1 mdc_13 dX0_piecesWith_25 rfl rfl rfl
theorem eX0_piecesWith_28 {d : Nat} {a0 a1 a2 a4 : Value} {x : Int32} {st : List Value} {hp : qzH} : qzV d 13 28 [a0, a1, a2, .int x, a4] (st) hp = qzV d 13 31 [a0, a1, a2, .int (x + 1), a4] (st) hp := qv_iinc mdc_13 dX0_piecesWith_28 rfl il_1 rfl rfl
theorem eX0_piecesWith_31 {d : Nat} {a0 a1 a2 a3 : Value} {x : Int32} {st : List Value} {hp : qzH} : qzV d 13 31 [a0, a1, a2, a3, .int x] (st) hp = qzV d 13 34 [a0, a1, a2, a3, .int (x + 2)] (st) hp := qv_iinc mdc_13 dX0_piecesWith_31 rfl il_2 rfl rfl
theorem eX0_piecesWith_34 {d : Nat} {a0 a1 a2 a3 a4 : Value} {st : List Value} {hp : qzH} : qzV d 13 34 [a0, a1, a2, a3, a4] (st) hp = qzV d 13 5 [a0, a1, a2, a3, a4] (st) hp := qv_goto mdc_13 dX0_piecesWith_34 rfl
theorem eX0_piecesWith_37 {d : Nat} {a0 a1 a2 a4 : Value} {x : Int32} {st : List Value} {hp : qzH} : qzV d 13 37 [a0, a1, a2, .int x, a4] (st) hp = qzV d 13 38 [a0, a1, a2, .int x, a4] (.int x :: st) hp := qv_iload (i := 3) mdc_13 dX0_piecesWith_37 rfl rfl rfl
theorem eX0_piecesWith_38 {d : Nat} {a0 a1 a2 a3 a4 : Value} {v : Int32} {hp : qzH} : qzV d 13 38 [a0, a1, a2, a3, a4] [.int v] hp = some (some (.int v), hp) := qv_iret mdc_13 dX0_piecesWith_38 mdr_13 rfl
theorem dX0_colourChanges_0 : decode cX0_colourChanges 0 = .ok (.iconst 0, 1) := by decide +kernel
theorem dX0_colourChanges_1 : decode cX0_colourChanges 1 = .ok (.istore_n 1, 1) := by decide +kernel
theorem dX0_colourChanges_2 : decode cX0_colourChanges 2 = .ok (.aload_n 0, 1) := by decide +kernel
theorem dX0_colourChanges_3 : decode cX0_colourChanges 3 = .ok (.getfield 42, 3) := by decide +kernel
theorem dX0_colourChanges_6 : decode cX0_colourChanges 6 = .ok (.iconst 1, 1) := by decide +kernel
theorem dX0_colourChanges_7 : decode cX0_colourChanges 7 = .ok (.iadd, 1) := by decide +kernel
theorem dX0_colourChanges_8 : decode cX0_colourChanges 8 = .ok (.istore_n 2, 1) := by decide +kernel
theorem dX0_colourChanges_9 : decode cX0_colourChanges 9 = .ok (.iload_n 2, 1) := by decide +kernel
theorem dX0_colourChanges_10 : decode cX0_colourChanges 10 = .ok (.aload_n 0, 1) := by decide +kernel
theorem dX0_colourChanges_11 : decode cX0_colourChanges 11 = .ok (.getfield 45, 3) := by decide +kernel
theorem dX0_colourChanges_14 : decode cX0_colourChanges 14 = .ok (.if_icmp .ge 33, 3) := by decide +kernel
theorem dX0_colourChanges_17 : decode cX0_colourChanges 17 = .ok (.aload_n 0, 1) := by decide +kernel
theorem dX0_colourChanges_18 : decode cX0_colourChanges 18 = .ok (.getfield 9, 3) := by decide +kernel
theorem dX0_colourChanges_21 : decode cX0_colourChanges 21 = .ok (.iload_n 2, 1) := by decide +kernel
theorem dX0_colourChanges_22 : decode cX0_colourChanges 22 = .ok (.invokestatic 54, 3) := by decide +kernel
theorem dX0_colourChanges_25 : decode cX0_colourChanges 25 = .ok (.aload_n 0, 1) := by decide +kernel
theorem dX0_colourChanges_26 : decode cX0_colourChanges 26 = .ok (.getfield 9, 3) := by decide +kernel
theorem dX0_colourChanges_29 : decode cX0_colourChanges 29 = .ok (.iload_n 2, 1) := by decide +kernel
theorem dX0_colourChanges_30 : decode cX0_colourChanges 30 = .ok (.iconst 1, 1) := by decide +kernel
theorem dX0_colourChanges_31 : decode cX0_colourChanges 31 = .ok (.isub, 1) := by decide +kernel
theorem dX0_colourChanges_32 : decode cX0_colourChanges 32 = .ok (.invokestatic 54, 3) := by decide +kernel
theorem dX0_colourChanges_35 : decode cX0_colourChanges 35 = .ok (.if_icmp .eq 6, 3) := by decide +kernel
theorem dX0_colourChanges_38 : decode cX0_colourChanges 38 = .ok (.iinc 1 1, 3) := by decide +kernel
theorem dX0_colourChanges_41 : decode cX0_colourChanges 41 = .ok (.iinc 2 1, 3) := by decide +kernel
theorem dX0_colourChanges_44 : decode cX0_colourChanges 44 = .ok (.goto (-35), 3) := by decide +kernel
theorem dX0_colourChanges_47 : decode cX0_colourChanges 47 = .ok (.iload_n 1, 1) := by decide +kernel
theorem dX0_colourChanges_48 : decode cX0_colourChanges 48 = .ok (.ireturn, 1) := by decide +kernel
theorem eX0_colourChanges_0 {d : Nat} {a0 a1 a2 : Value} {st : List Value} {hp : qzH} : qzV d 14 0 [a0, a1, a2] (st) hp = qzV d 14 1 [a0, a1, a2] (.int 0 :: st) hp := qv_iconst mdc_14 dX0_colourChanges_0 il_0 rfl
theorem eX0_colourChanges_1 {d : Nat} {a0 a1 a2 : Value} {x : Int32} {st : List Value} {hp : qzH} : qzV d 14 1 [a0, a1, a2] (.int x :: st) hp = qzV d 14 2 [a0, .int x, a2] (st) hp := qv_istore (i := 1) mdc_14 dX0_colourChanges_1 rfl (Nat.le_of_ble_eq_true rfl) rfl rfl
theorem eX0_colourChanges_2 {d : Nat} {a1 a2 : Value} {x : Nat} {st : List Value} {hp : qzH} : qzV d 14 2 [.ref x, a1, a2] (st) hp = qzV d 14 3 [.ref x, a1, a2] (.ref x :: st) hp := qv_aload (i := 0) mdc_14 dX0_colourChanges_2 rfl rfl rfl
theorem eX0_colourChanges_3 {d : Nat} {a0 a1 a2 : Value} {a : Nat} {st : List Value} {hp : qzH} (ha : qzArr 0 a hp.1 = true) : qzV d 14 3 [a0, a1, a2] (.ref a :: st) hp = qzV d 14 6 [a0, a1, a2] (.int (hp.2.2 a 7) :: st) hp := qv_getI mdc_14 dX0_colourChanges_3 mdo_14 qff_0_42 ⟨by decide, rfl⟩ rfl ha
theorem eX0_colourChanges_6 {d : Nat} {a0 a1 a2 : Value} {st : List Value} {hp : qzH} : qzV d 14 6 [a0, a1, a2] (st) hp = qzV d 14 7 [a0, a1, a2] (.int 1 :: st) hp := qv_iconst mdc_14 dX0_colourChanges_6 il_1 rfl
theorem eX0_colourChanges_7 {d : Nat} {a0 a1 a2 : Value} {x y : Int32} {st : List Value} {hp : qzH} : qzV d 14 7 [a0, a1, a2] (.int y :: .int x :: st) hp = qzV d 14 8 [a0, a1, a2] (.int (x + y) :: st) hp := qv_bin (f := fun x y => x + y) mdc_14 dX0_colourChanges_7 rfl rfl
theorem eX0_colourChanges_8 {d : Nat} {a0 a1 a2 : Value} {x : Int32} {st : List Value} {hp : qzH} : qzV d 14 8 [a0, a1, a2] (.int x :: st) hp = qzV d 14 9 [a0, a1, .int x] (st) hp := qv_istore (i := 2) mdc_14 dX0_colourChanges_8 rfl (Nat.le_of_ble_eq_true rfl) rfl rfl
theorem eX0_colourChanges_9 {d : Nat} {a0 a1 : Value} {x : Int32} {st : List Value} {hp : qzH} : qzV d 14 9 [a0, a1, .int x] (st) hp = qzV d 14 10 [a0, a1, .int x] (.int x :: st) hp := qv_iload (i := 2) mdc_14 dX0_colourChanges_9 rfl rfl rfl
theorem eX0_colourChanges_10 {d : Nat} {a1 a2 : Value} {x : Nat} {st : List Value} {hp : qzH} : qzV d 14 10 [.ref x, a1, a2] (st) hp = qzV d 14 11 [.ref x, a1, a2] (.ref x :: st) hp := qv_aload (i := 0) mdc_14 dX0_colourChanges_10 rfl rfl rfl
theorem eX0_colourChanges_11 {d : Nat} {a0 a1 a2 : Value} {a : Nat} {st : List Value} {hp : qzH} (ha : qzArr 0 a hp.1 = true) : qzV d 14 11 [a0, a1, a2] (.ref a :: st) hp = qzV d 14 14 [a0, a1, a2] (.int (hp.2.2 a 8) :: st) hp := qv_getI mdc_14 dX0_colourChanges_11 mdo_14 qff_0_45 ⟨by decide, rfl⟩ rfl ha
theorem eX0_colourChanges_14 {d : Nat} {a0 a1 a2 : Value} {x y : Int32} {st : List Value} {hp : qzH} : qzV d 14 14 [a0, a1, a2] (.int y :: .int x :: st) hp = if y ≤ x then qzV d 14 47 [a0, a1, a2] (st) hp else qzV d 14 17 [a0, a1, a2] (st) hp := qv_if2 mdc_14 dX0_colourChanges_14 rfl rfl rfl
theorem eX0_colourChanges_17 {d : Nat} {a1 a2 : Value} {x : Nat} {st : List Value} {hp : qzH} : qzV d 14 17 [.ref x, a1, a2] (st) hp = qzV d 14 18 [.ref x, a1, a2] (.ref x :: st) hp := qv_aload (i := 0) mdc_14 dX0_colourChanges_17 rfl rfl rfl
theorem eX0_colourChanges_18 {d : Nat} {a0 a1 a2 : Value} {a : Nat} {st : List Value} {hp : qzH} (ha : qzArr 0 a hp.1 = true) : qzV d 14 18 [a0, a1, a2] (.ref a :: st) hp = qzV d 14 21 [a0, a1, a2] (va_rf (hp.2.1 a 0) :: st) hp := qv_getR mdc_14 dX0_colourChanges_18 mdo_14 qff_0_9 ⟨by decide, rfl⟩ rfl ha
theorem eX0_colourChanges_21 {d : Nat} {a0 a1 : Value} {x : Int32} {st : List Value} {hp : qzH} : qzV d 14 21 [a0, a1, .int x] (st) hp = qzV d 14 22 [a0, a1, .int x] (.int x :: st) hp := qv_iload (i := 2) mdc_14 dX0_colourChanges_21 rfl rfl rfl
theorem eX0_colourChanges_22 {d : Nat} {a0 a1 a2 : Value} {w0 w1 : Value} {st : List Value} {hp : qzH} (h8 : st.length ≤ 8) : qzV (d + 1) 14 22 [a0, a1, a2] (w1 :: w0 :: st) hp = (qzC d 84 [w0, w1] hp).bind (fun r => qzV (d + 1) 14 25 [a0, a1, a2] (r.1.toList ++ st) r.2) := qv_calls (n := 2) mdc_14 dX0_colourChanges_22 mdo_14 (by decide) qfc_0_54 ⟨rfl, by decide, rfl⟩ rfl ⟨rfl, rfl, by simp only [List.length_cons]; omega⟩ h8
theorem eX0_colourChanges_25 {d : Nat} {a1 a2 : Value} {x : Nat} {st : List Value} {hp : qzH} : qzV d 14 25 [.ref x, a1, a2] (st) hp = qzV d 14 26 [.ref x, a1, a2] (.ref x :: st) hp := qv_aload (i := 0) mdc_14 dX0_colourChanges_25 rfl rfl rfl
theorem eX0_colourChanges_26 {d : Nat} {a0 a1 a2 : Value} {a : Nat} {st : List Value} {hp : qzH} (ha : qzArr 0 a hp.1 = true) : qzV d 14 26 [a0, a1, a2] (.ref a :: st) hp = qzV d 14 29 [a0, a1, a2] (va_rf (hp.2.1 a 0) :: st) hp := qv_getR mdc_14 dX0_colourChanges_26 mdo_14 qff_0_9 ⟨by decide, rfl⟩ rfl ha
theorem eX0_colourChanges_29 {d : Nat} {a0 a1 : Value} {x : Int32} {st : List Value} {hp : qzH} : qzV d 14 29 [a0, a1, .int x] (st) hp = qzV d 14 30 [a0, a1, .int x] (.int x :: st) hp := qv_iload (i := 2) mdc_14 dX0_colourChanges_29 rfl rfl rfl
theorem eX0_colourChanges_30 {d : Nat} {a0 a1 a2 : Value} {st : List Value} {hp : qzH} : qzV d 14 30 [a0, a1, a2] (st) hp = qzV d 14 31 [a0, a1, a2] (.int 1 :: st) hp := qv_iconst mdc_14 dX0_colourChanges_30 il_1 rfl
theorem eX0_colourChanges_31 {d : Nat} {a0 a1 a2 : Value} {x y : Int32} {st : List Value} {hp : qzH} : qzV d 14 31 [a0, a1, a2] (.int y :: .int x :: st) hp = qzV d 14 32 [a0, a1, a2] (.int (x - y) :: st) hp := qv_bin (f := fun x y => x - y) mdc_14 dX0_colourChanges_31 rfl rfl
theorem eX0_colourChanges_32 {d : Nat} {a0 a1 a2 : Value} {w0 w1 : Value} {st : List Value} {hp : qzH} (h8 : st.length ≤ 8) : qzV (d + 1) 14 32 [a0, a1, a2] (w1 :: w0 :: st) hp = (qzC d 84 [w0, w1] hp).bind (fun r => qzV (d + 1) 14 35 [a0, a1, a2] (r.1.toList ++ st) r.2) := qv_calls (n := 2) mdc_14 dX0_colourChanges_32 mdo_14 (by decide) qfc_0_54 ⟨rfl, by decide, rfl⟩ rfl ⟨rfl, rfl, by simp only [List.length_cons]; omega⟩ h8
theorem eX0_colourChanges_35 {d : Nat} {a0 a1 a2 : Value} {x y : Int32} {st : List Value} {hp : qzH} : qzV d 14 35 [a0, a1, a2] (.int y :: .int x :: st) hp = if x = y then qzV d 14 41 [a0, a1, a2] (st) hp else qzV d 14 38 [a0, a1, a2] (st) hp := qv_if2 mdc_14 dX0_colourChanges_35 rfl rfl rfl
theorem eX0_colourChanges_38 {d : Nat} {a0 a2 : Value} {x : Int32} {st : List Value} {hp : qzH} : qzV d 14 38 [a0, .int x, a2] (st) hp = qzV d 14 41 [a0, .int (x + 1), a2] (st) hp := qv_iinc mdc_14 dX0_colourChanges_38 rfl il_1 rfl rfl
theorem eX0_colourChanges_41 {d : Nat} {a0 a1 : Value} {x : Int32} {st : List Value} {hp : qzH} : qzV d 14 41 [a0, a1, .int x] (st) hp = qzV d 14 44 [a0, a1, .int (x + 1)] (st) hp := qv_iinc mdc_14 dX0_colourChanges_41 rfl il_1 rfl rfl
theorem eX0_colourChanges_44 {d : Nat} {a0 a1 a2 : Value} {st : List Value} {hp : qzH} : qzV d 14 44 [a0, a1, a2] (st) hp = qzV d 14 9 [a0, a1, a2] (st) hp := qv_goto mdc_14 dX0_colourChanges_44 rfl
theorem eX0_colourChanges_47 {d : Nat} {a0 a2 : Value} {x : Int32} {st : List Value} {hp : qzH} : qzV d 14 47 [a0, .int x, a2] (st) hp = qzV d 14 48 [a0, .int x, a2] (.int x :: st) hp := qv_iload (i := 1) mdc_14 dX0_colourChanges_47 rfl rfl rfl
theorem eX0_colourChanges_48 {d : Nat} {a0 a1 a2 : Value} {v : Int32} {hp : qzH} : qzV d 14 48 [a0, a1, a2] [.int v] hp = some (some (.int v), hp) := qv_iret mdc_14 dX0_colourChanges_48 mdr_14 rfl
theorem dX0_stripesLeftOf_0 : decode cX0_stripesLeftOf 0 = .ok (.iconst 0, 1) := by decide +kernel
theorem dX0_stripesLeftOf_1 : decode cX0_stripesLeftOf 1 = .ok (.istore_n 2, 1) := by decide +kernel
theorem dX0_stripesLeftOf_2 : decode cX0_stripesLeftOf 2 = .ok (.aload_n 0, 1) := by decide +kernel
theorem dX0_stripesLeftOf_3 : decode cX0_stripesLeftOf 3 = .ok (.getfield 42, 3) := by decide +kernel
theorem dX0_stripesLeftOf_6 : decode cX0_stripesLeftOf 6 = .ok (.istore_n 3, 1) := by decide +kernel
theorem dX0_stripesLeftOf_7 : decode cX0_stripesLeftOf 7 = .ok (.iload_n 3, 1) := by decide +kernel
theorem dX0_stripesLeftOf_8 : decode cX0_stripesLeftOf 8 = .ok (.aload_n 0, 1) := by decide +kernel
theorem dX0_stripesLeftOf_9 : decode cX0_stripesLeftOf 9 = .ok (.getfield 45, 3) := by decide +kernel
theorem dX0_stripesLeftOf_12 : decode cX0_stripesLeftOf 12 = .ok (.if_icmp .ge 24, 3) := by decide +kernel
theorem dX0_stripesLeftOf_15 : decode cX0_stripesLeftOf 15 = .ok (.aload_n 0, 1) := by decide +kernel
theorem dX0_stripesLeftOf_16 : decode cX0_stripesLeftOf 16 = .ok (.getfield 9, 3) := by decide +kernel
theorem dX0_stripesLeftOf_19 : decode cX0_stripesLeftOf 19 = .ok (.iload_n 3, 1) := by decide +kernel
theorem dX0_stripesLeftOf_20 : decode cX0_stripesLeftOf 20 = .ok (.invokestatic 54, 3) := by decide +kernel
theorem dX0_stripesLeftOf_23 : decode cX0_stripesLeftOf 23 = .ok (.iload_n 1, 1) := by decide +kernel
theorem dX0_stripesLeftOf_24 : decode cX0_stripesLeftOf 24 = .ok (.if_icmp .ne 6, 3) := by decide +kernel
theorem dX0_stripesLeftOf_27 : decode cX0_stripesLeftOf 27 = .ok (.iinc 2 1, 3) := by decide +kernel
theorem dX0_stripesLeftOf_30 : decode cX0_stripesLeftOf 30 = .ok (.iinc 3 1, 3) := by decide +kernel
theorem dX0_stripesLeftOf_33 : decode cX0_stripesLeftOf 33 = .ok (.goto (-26), 3) := by decide +kernel
theorem dX0_stripesLeftOf_36 : decode cX0_stripesLeftOf 36 = .ok (.iload_n 2, 1) := by decide +kernel
theorem dX0_stripesLeftOf_37 : decode cX0_stripesLeftOf 37 = .ok (.ireturn, 1) := by decide +kernel
theorem eX0_stripesLeftOf_0 {d : Nat} {a0 a1 a2 a3 : Value} {st : List Value} {hp : qzH} : qzV d 15 0 [a0, a1, a2, a3] (st) hp = qzV d 15 1 [a0, a1, a2, a3] (.int 0 :: st) hp := qv_iconst mdc_15 dX0_stripesLeftOf_0 il_0 rfl
theorem eX0_stripesLeftOf_1 {d : Nat} {a0 a1 a2 a3 : Value} {x : Int32} {st : List Value} {hp : qzH} : qzV d 15 1 [a0, a1, a2, a3] (.int x :: st) hp = qzV d 15 2 [a0, a1, .int x, a3] (st) hp := qv_istore (i := 2) mdc_15 dX0_stripesLeftOf_1 rfl (Nat.le_of_ble_eq_true rfl) rfl rfl
theorem eX0_stripesLeftOf_2 {d : Nat} {a1 a2 a3 : Value} {x : Nat} {st : List Value} {hp : qzH} : qzV d 15 2 [.ref x, a1, a2, a3] (st) hp = qzV d 15 3 [.ref x, a1, a2, a3] (.ref x :: st) hp := qv_aload (i := 0) mdc_15 dX0_stripesLeftOf_2 rfl rfl rfl
theorem eX0_stripesLeftOf_3 {d : Nat} {a0 a1 a2 a3 : Value} {a : Nat} {st : List Value} {hp : qzH} (ha : qzArr 0 a hp.1 = true) : qzV d 15 3 [a0, a1, a2, a3] (.ref a :: st) hp = qzV d 15 6 [a0, a1, a2, a3] (.int (hp.2.2 a 7) :: st) hp := qv_getI mdc_15 dX0_stripesLeftOf_3 mdo_15 qff_0_42 ⟨by decide, rfl⟩ rfl ha
theorem eX0_stripesLeftOf_6 {d : Nat} {a0 a1 a2 a3 : Value} {x : Int32} {st : List Value} {hp : qzH} : qzV d 15 6 [a0, a1, a2, a3] (.int x :: st) hp = qzV d 15 7 [a0, a1, a2, .int x] (st) hp := qv_istore (i := 3) mdc_15 dX0_stripesLeftOf_6 rfl (Nat.le_of_ble_eq_true rfl) rfl rfl
theorem eX0_stripesLeftOf_7 {d : Nat} {a0 a1 a2 : Value} {x : Int32} {st : List Value} {hp : qzH} : qzV d 15 7 [a0, a1, a2, .int x] (st) hp = qzV d 15 8 [a0, a1, a2, .int x] (.int x :: st) hp := qv_iload (i := 3) mdc_15 dX0_stripesLeftOf_7 rfl rfl rfl
theorem eX0_stripesLeftOf_8 {d : Nat} {a1 a2 a3 : Value} {x : Nat} {st : List Value} {hp : qzH} : qzV d 15 8 [.ref x, a1, a2, a3] (st) hp = qzV d 15 9 [.ref x, a1, a2, a3] (.ref x :: st) hp := qv_aload (i := 0) mdc_15 dX0_stripesLeftOf_8 rfl rfl rfl
theorem eX0_stripesLeftOf_9 {d : Nat} {a0 a1 a2 a3 : Value} {a : Nat} {st : List Value} {hp : qzH} (ha : qzArr 0 a hp.1 = true) : qzV d 15 9 [a0, a1, a2, a3] (.ref a :: st) hp = qzV d 15 12 [a0, a1, a2, a3] (.int (hp.2.2 a 8) :: st) hp := qv_getI mdc_15 dX0_stripesLeftOf_9 mdo_15 qff_0_45 ⟨by decide, rfl⟩ rfl ha
theorem eX0_stripesLeftOf_12 {d : Nat} {a0 a1 a2 a3 : Value} {x y : Int32} {st : List Value} {hp : qzH} : qzV d 15 12 [a0, a1, a2, a3] (.int y :: .int x :: st) hp = if y ≤ x then qzV d 15 36 [a0, a1, a2, a3] (st) hp else qzV d 15 15 [a0, a1, a2, a3] (st) hp := qv_if2 mdc_15 dX0_stripesLeftOf_12 rfl rfl rfl
theorem eX0_stripesLeftOf_15 {d : Nat} {a1 a2 a3 : Value} {x : Nat} {st : List Value} {hp : qzH} : qzV d 15 15 [.ref x, a1, a2, a3] (st) hp = qzV d 15 16 [.ref x, a1, a2, a3] (.ref x :: st) hp := qv_aload (i := 0) mdc_15 dX0_stripesLeftOf_15 rfl rfl rfl
theorem eX0_stripesLeftOf_16 {d : Nat} {a0 a1 a2 a3 : Value} {a : Nat} {st : List Value} {hp : qzH} (ha : qzArr 0 a hp.1 = true) : qzV d 15 16 [a0, a1, a2, a3] (.ref a :: st) hp = qzV d 15 19 [a0, a1, a2, a3] (va_rf (hp.2.1 a 0) :: st) hp := qv_getR mdc_15 dX0_stripesLeftOf_16 mdo_15 qff_0_9 ⟨by decide, rfl⟩ rfl ha
theorem eX0_stripesLeftOf_19 {d : Nat} {a0 a1 a2 : Value} {x : Int32} {st : List Value} {hp : qzH} : qzV d 15 19 [a0, a1, a2, .int x] (st) hp = qzV d 15 20 [a0, a1, a2, .int x] (.int x :: st) hp := qv_iload (i := 3) mdc_15 dX0_stripesLeftOf_19 rfl rfl rfl
theorem eX0_stripesLeftOf_20 {d : Nat} {a0 a1 a2 a3 : Value} {w0 w1 : Value} {st : List Value} {hp : qzH} (h8 : st.length ≤ 8) : qzV (d + 1) 15 20 [a0, a1, a2, a3] (w1 :: w0 :: st) hp = (qzC d 84 [w0, w1] hp).bind (fun r => qzV (d + 1) 15 23 [a0, a1, a2, a3] (r.1.toList ++ st) r.2) := qv_calls (n := 2) mdc_15 dX0_stripesLeftOf_20 mdo_15 (by decide) qfc_0_54 ⟨rfl, by decide, rfl⟩ rfl ⟨rfl, rfl, by simp only [List.length_cons]; omega⟩ h8
theorem eX0_stripesLeftOf_23 {d : Nat} {a0 a2 a3 : Value} {x : Int32} {st : List Value} {hp : qzH} : qzV d 15 23 [a0, .int x, a2, a3] (st) hp = qzV d 15 24 [a0, .int x, a2, a3] (.int x :: st) hp := qv_iload (i := 1) mdc_15 dX0_stripesLeftOf_23 rfl rfl rfl
theorem eX0_stripesLeftOf_24 {d : Nat} {a0 a1 a2 a3 : Value} {x y : Int32} {st : List Value} {hp : qzH} : qzV d 15 24 [a0, a1, a2, a3] (.int y :: .int x :: st) hp = if ¬ x = y then qzV d 15 30 [a0, a1, a2, a3] (st) hp else qzV d 15 27 [a0, a1, a2, a3] (st) hp := qv_if2 mdc_15 dX0_stripesLeftOf_24 rfl rfl rfl
theorem eX0_stripesLeftOf_27 {d : Nat} {a0 a1 a3 : Value} {x : Int32} {st : List Value} {hp : qzH} : qzV d 15 27 [a0, a1, .int x, a3] (st) hp = qzV d 15 30 [a0, a1, .int (x + 1), a3] (st) hp := qv_iinc mdc_15 dX0_stripesLeftOf_27 rfl il_1 rfl rfl
theorem eX0_stripesLeftOf_30 {d : Nat} {a0 a1 a2 : Value} {x : Int32} {st : List Value} {hp : qzH} : qzV d 15 30 [a0, a1, a2, .int x] (st) hp = qzV d 15 33 [a0, a1, a2, .int (x + 1)] (st) hp := qv_iinc mdc_15 dX0_stripesLeftOf_30 rfl il_1 rfl rfl
theorem eX0_stripesLeftOf_33 {d : Nat} {a0 a1 a2 a3 : Value} {st : List Value} {hp : qzH} : qzV d 15 33 [a0, a1, a2, a3] (st) hp = qzV d 15 7 [a0, a1, a2, a3] (st) hp := qv_goto mdc_15 dX0_stripesLeftOf_33 rfl
theorem eX0_stripesLeftOf_36 {d : Nat} {a0 a1 a3 : Value} {x : Int32} {st : List Value} {hp : qzH} : qzV d 15 36 [a0, a1, .int x, a3] (st) hp = qzV d 15 37 [a0, a1, .int x, a3] (.int x :: st) hp := qv_iload (i := 2) mdc_15 dX0_stripesLeftOf_36 rfl rfl rfl
theorem eX0_stripesLeftOf_37 {d : Nat} {a0 a1 a2 a3 : Value} {v : Int32} {hp : qzH} : qzV d 15 37 [a0, a1, a2, a3] [.int v] hp = some (some (.int v), hp) := qv_iret mdc_15 dX0_stripesLeftOf_37 mdr_15 rfl
theorem dX0_coloursLeft_0 : decode cX0_coloursLeft 0 = .ok (.iconst 0, 1) := by decide +kernel
theorem dX0_coloursLeft_1 : decode cX0_coloursLeft 1 = .ok (.istore_n 1, 1) := by decide +kernel
theorem dX0_coloursLeft_2 : decode cX0_coloursLeft 2 = .ok (.iconst 0, 1) := by decide +kernel
theorem dX0_coloursLeft_3 : decode cX0_coloursLeft 3 = .ok (.istore_n 2, 1) := by decide +kernel
theorem dX0_coloursLeft_4 : decode cX0_coloursLeft 4 = .ok (.iload_n 2, 1) := by decide +kernel
theorem dX0_coloursLeft_5 : decode cX0_coloursLeft 5 = .ok (.bipush 6, 2) := by decide +kernel
theorem dX0_coloursLeft_7 : decode cX0_coloursLeft 7 = .ok (.if_icmp .ge 20, 3) := by decide +kernel
theorem dX0_coloursLeft_10 : decode cX0_coloursLeft 10 = .ok (.aload_n 0, 1) := by decide +kernel
theorem dX0_coloursLeft_11 : decode cX0_coloursLeft 11 = .ok (.iload_n 2, 1) := by decide +kernel
theorem dX0_coloursLeft_12 : decode cX0_coloursLeft 12 = .ok (.invokevirtual 116, 3) := by decide +kernel
theorem dX0_coloursLeft_15 : decode cX0_coloursLeft 15 = .ok (.ifCond .le 6, 3) := by decide +kernel
theorem dX0_coloursLeft_18 : decode cX0_coloursLeft 18 = .ok (.iinc 1 1, 3) := by decide +kernel
theorem dX0_coloursLeft_21 : decode cX0_coloursLeft 21 = .ok (.iinc 2 1, 3) := by decide +kernel
theorem dX0_coloursLeft_24 : decode cX0_coloursLeft 24 = .ok (.goto (-20), 3) := by decide +kernel
theorem dX0_coloursLeft_27 : decode cX0_coloursLeft 27 = .ok (.iload_n 1, 1) := by decide +kernel
theorem dX0_coloursLeft_28 : decode cX0_coloursLeft 28 = .ok (.ireturn, 1) := by decide +kernel
theorem eX0_coloursLeft_0 {d : Nat} {a0 a1 a2 : Value} {st : List Value} {hp : qzH} : qzV d 16 0 [a0, a1, a2] (st) hp = qzV d 16 1 [a0, a1, a2] (.int 0 :: st) hp := qv_iconst mdc_16 dX0_coloursLeft_0 il_0 rfl
theorem eX0_coloursLeft_1 {d : Nat} {a0 a1 a2 : Value} {x : Int32} {st : List Value} {hp : qzH} : qzV d 16 1 [a0, a1, a2] (.int x :: st) hp = qzV d 16 2 [a0, .int x, a2] (st) hp := qv_istore (i := 1) mdc_16 dX0_coloursLeft_1 rfl (Nat.le_of_ble_eq_true rfl) rfl rfl
theorem eX0_coloursLeft_2 {d : Nat} {a0 a1 a2 : Value} {st : List Value} {hp : qzH} : qzV d 16 2 [a0, a1, a2] (st) hp = qzV d 16 3 [a0, a1, a2] (.int 0 :: st) hp := qv_iconst mdc_16 dX0_coloursLeft_2 il_0 rfl
theorem eX0_coloursLeft_3 {d : Nat} {a0 a1 a2 : Value} {x : Int32} {st : List Value} {hp : qzH} : qzV d 16 3 [a0, a1, a2] (.int x :: st) hp = qzV d 16 4 [a0, a1, .int x] (st) hp := qv_istore (i := 2) mdc_16 dX0_coloursLeft_3 rfl (Nat.le_of_ble_eq_true rfl) rfl rfl
theorem eX0_coloursLeft_4 {d : Nat} {a0 a1 : Value} {x : Int32} {st : List Value} {hp : qzH} : qzV d 16 4 [a0, a1, .int x] (st) hp = qzV d 16 5 [a0, a1, .int x] (.int x :: st) hp := qv_iload (i := 2) mdc_16 dX0_coloursLeft_4 rfl rfl rfl
theorem eX0_coloursLeft_5 {d : Nat} {a0 a1 a2 : Value} {st : List Value} {hp : qzH} : qzV d 16 5 [a0, a1, a2] (st) hp = qzV d 16 7 [a0, a1, a2] (.int 6 :: st) hp := qv_bipush mdc_16 dX0_coloursLeft_5 ib_6 rfl
theorem eX0_coloursLeft_7 {d : Nat} {a0 a1 a2 : Value} {x y : Int32} {st : List Value} {hp : qzH} : qzV d 16 7 [a0, a1, a2] (.int y :: .int x :: st) hp = if y ≤ x then qzV d 16 27 [a0, a1, a2] (st) hp else qzV d 16 10 [a0, a1, a2] (st) hp := qv_if2 mdc_16 dX0_coloursLeft_7 rfl rfl rfl
theorem eX0_coloursLeft_10 {d : Nat} {a1 a2 : Value} {x : Nat} {st : List Value} {hp : qzH} : qzV d 16 10 [.ref x, a1, a2] (st) hp = qzV d 16 11 [.ref x, a1, a2] (.ref x :: st) hp := qv_aload (i := 0) mdc_16 dX0_coloursLeft_10 rfl rfl rfl
theorem eX0_coloursLeft_11 {d : Nat} {a0 a1 : Value} {x : Int32} {st : List Value} {hp : qzH} : qzV d 16 11 [a0, a1, .int x] (st) hp = qzV d 16 12 [a0, a1, .int x] (.int x :: st) hp := qv_iload (i := 2) mdc_16 dX0_coloursLeft_11 rfl rfl rfl
theorem eX0_coloursLeft_12 {d : Nat} {a0 a1 a2 : Value} {w0 : Value} {b : Nat} {st : List Value} {hp : qzH} (h8 : st.length ≤ 8) (hb : qzArr 0 b hp.1 = true) : qzV (d + 1) 16 12 [a0, a1, a2] (w0 :: .ref b :: st) hp = (qzC d 15 (.ref b :: [w0]) hp).bind (fun r => qzV (d + 1) 16 15 [a0, a1, a2] (r.1.toList ++ st) r.2) := qv_callv (n := 1) mdc_16 dX0_coloursLeft_12 mdo_16 (by decide) qfc_0_116 ⟨rfl, by decide, rfl⟩ rfl ⟨rfl, rfl, by simp only [List.length_cons]; omega⟩ h8 hb
theorem eX0_coloursLeft_15 {d : Nat} {a0 a1 a2 : Value} {x : Int32} {st : List Value} {hp : qzH} : qzV d 16 15 [a0, a1, a2] (.int x :: st) hp = if x ≤ 0 then qzV d 16 21 [a0, a1, a2] (st) hp else qzV d 16 18 [a0, a1, a2] (st) hp := qv_if1 mdc_16 dX0_coloursLeft_15 rfl rfl rfl
theorem eX0_coloursLeft_18 {d : Nat} {a0 a2 : Value} {x : Int32} {st : List Value} {hp : qzH} : qzV d 16 18 [a0, .int x, a2] (st) hp = qzV d 16 21 [a0, .int (x + 1), a2] (st) hp := qv_iinc mdc_16 dX0_coloursLeft_18 rfl il_1 rfl rfl
theorem eX0_coloursLeft_21 {d : Nat} {a0 a1 : Value} {x : Int32} {st : List Value} {hp : qzH} : qzV d 16 21 [a0, a1, .int x] (st) hp = qzV d 16 24 [a0, a1, .int (x + 1)] (st) hp := qv_iinc mdc_16 dX0_coloursLeft_21 rfl il_1 rfl rfl
theorem eX0_coloursLeft_24 {d : Nat} {a0 a1 a2 : Value} {st : List Value} {hp : qzH} : qzV d 16 24 [a0, a1, a2] (st) hp = qzV d 16 4 [a0, a1, a2] (st) hp := qv_goto mdc_16 dX0_coloursLeft_24 rfl
theorem eX0_coloursLeft_27 {d : Nat} {a0 a2 : Value} {x : Int32} {st : List Value} {hp : qzH} : qzV d 16 27 [a0, .int x, a2] (st) hp = qzV d 16 28 [a0, .int x, a2] (.int x :: st) hp := qv_iload (i := 1) mdc_16 dX0_coloursLeft_27 rfl rfl rfl
theorem eX0_coloursLeft_28 {d : Nat} {a0 a1 a2 : Value} {v : Int32} {hp : qzH} : qzV d 16 28 [a0, a1, a2] [.int v] hp = some (some (.int v), hp) := qv_iret mdc_16 dX0_coloursLeft_28 mdr_16 rfl
theorem dX0_longestFold_0 : decode cX0_longestFold 0 = .ok (.aload_n 0, 1) := by decide +kernel
theorem dX0_longestFold_1 : decode cX0_longestFold 1 = .ok (.invokevirtual 72, 3) := by decide +kernel
theorem dX0_longestFold_4 : decode cX0_longestFold 4 = .ok (.istore_n 1, 1) := by decide +kernel
theorem dX0_longestFold_5 : decode cX0_longestFold 5 = .ok (.iload_n 1, 1) := by decide +kernel
theorem dX0_longestFold_6 : decode cX0_longestFold 6 = .ok (.ifCond .le 44, 3) := by decide +kernel
theorem dX0_longestFold_9 : decode cX0_longestFold 9 = .ok (.aload_n 0, 1) := by decide +kernel
theorem dX0_longestFold_10 : decode cX0_longestFold 10 = .ok (.getfield 42, 3) := by decide +kernel
theorem dX0_longestFold_13 : decode cX0_longestFold 13 = .ok (.istore_n 2, 1) := by decide +kernel
theorem dX0_longestFold_14 : decode cX0_longestFold 14 = .ok (.iload_n 2, 1) := by decide +kernel
theorem dX0_longestFold_15 : decode cX0_longestFold 15 = .ok (.iload_n 1, 1) := by decide +kernel
theorem dX0_longestFold_16 : decode cX0_longestFold 16 = .ok (.iadd, 1) := by decide +kernel
theorem dX0_longestFold_17 : decode cX0_longestFold 17 = .ok (.aload_n 0, 1) := by decide +kernel
theorem dX0_longestFold_18 : decode cX0_longestFold 18 = .ok (.getfield 45, 3) := by decide +kernel
theorem dX0_longestFold_21 : decode cX0_longestFold 21 = .ok (.if_icmp .gt 23, 3) := by decide +kernel
theorem dX0_longestFold_24 : decode cX0_longestFold 24 = .ok (.aload_n 0, 1) := by decide +kernel
theorem dX0_longestFold_25 : decode cX0_longestFold 25 = .ok (.getfield 9, 3) := by decide +kernel
theorem dX0_longestFold_28 : decode cX0_longestFold 28 = .ok (.iload_n 2, 1) := by decide +kernel
theorem dX0_longestFold_29 : decode cX0_longestFold 29 = .ok (.iload_n 1, 1) := by decide +kernel
theorem dX0_longestFold_30 : decode cX0_longestFold 30 = .ok (.invokestatic 119, 3) := by decide +kernel
theorem dX0_longestFold_33 : decode cX0_longestFold 33 = .ok (.ifCond .eq 5, 3) := by decide +kernel
theorem dX0_longestFold_36 : decode cX0_longestFold 36 = .ok (.iload_n 1, 1) := by decide +kernel
theorem dX0_longestFold_37 : decode cX0_longestFold 37 = .ok (.ireturn, 1) := by decide +kernel
theorem dX0_longestFold_38 : decode cX0_longestFold 38 = .ok (.iinc 2 1, 3) := by decide +kernel
theorem dX0_longestFold_41 : decode cX0_longestFold 41 = .ok (.goto (-27), 3) := by decide +kernel
theorem dX0_longestFold_44 : decode cX0_longestFold 44 = .ok (.iinc 1 (-1), 3) := by decide +kernel
theorem dX0_longestFold_47 : decode cX0_longestFold 47 = .ok (.goto (-42), 3) := by decide +kernel
theorem dX0_longestFold_50 : decode cX0_longestFold 50 = .ok (.iconst 0, 1) := by decide +kernel
theorem dX0_longestFold_51 : decode cX0_longestFold 51 = .ok (.ireturn, 1) := by decide +kernel
theorem eX0_longestFold_0 {d : Nat} {a1 a2 : Value} {x : Nat} {st : List Value} {hp : qzH} : qzV d 17 0 [.ref x, a1, a2] (st) hp = qzV d 17 1 [.ref x, a1, a2] (.ref x :: st) hp := qv_aload (i := 0) mdc_17 dX0_longestFold_0 rfl rfl rfl
theorem eX0_longestFold_1 {d : Nat} {a0 a1 a2 : Value} {b : Nat} {st : List Value} {hp : qzH} (h8 : st.length ≤ 8) (hb : qzArr 0 b hp.1 = true) : qzV (d + 1) 17 1 [a0, a1, a2] (.ref b :: st) hp = (qzC d 3 (.ref b :: []) hp).bind (fun r => qzV (d + 1) 17 4 [a0, a1, a2] (r.1.toList ++ st) r.2) := qv_callv (n := 0) mdc_17 dX0_longestFold_1 mdo_17 (by decide) qfc_0_72 ⟨rfl, by decide, rfl⟩ rfl ⟨rfl, rfl, by simp only [List.length_cons]; omega⟩ h8 hb
theorem eX0_longestFold_4 {d : Nat} {a0 a1 a2 : Value} {x : Int32} {st : List Value} {hp : qzH} : qzV d 17 4 [a0, a1, a2] (.int x :: st) hp = qzV d 17 5 [a0, .int x, a2] (st) hp := qv_istore (i := 1) mdc_17 dX0_longestFold_4 rfl (Nat.le_of_ble_eq_true rfl) rfl rfl
theorem eX0_longestFold_5 {d : Nat} {a0 a2 : Value} {x : Int32} {st : List Value} {hp : qzH} : qzV d 17 5 [a0, .int x, a2] (st) hp = qzV d 17 6 [a0, .int x, a2] (.int x :: st) hp := qv_iload (i := 1) mdc_17 dX0_longestFold_5 rfl rfl rfl
theorem eX0_longestFold_6 {d : Nat} {a0 a1 a2 : Value} {x : Int32} {st : List Value} {hp : qzH} : qzV d 17 6 [a0, a1, a2] (.int x :: st) hp = if x ≤ 0 then qzV d 17 50 [a0, a1, a2] (st) hp else qzV d 17 9 [a0, a1, a2] (st) hp := qv_if1 mdc_17 dX0_longestFold_6 rfl rfl rfl
theorem eX0_longestFold_9 {d : Nat} {a1 a2 : Value} {x : Nat} {st : List Value} {hp : qzH} : qzV d 17 9 [.ref x, a1, a2] (st) hp = qzV d 17 10 [.ref x, a1, a2] (.ref x :: st) hp := qv_aload (i := 0) mdc_17 dX0_longestFold_9 rfl rfl rfl
theorem eX0_longestFold_10 {d : Nat} {a0 a1 a2 : Value} {a : Nat} {st : List Value} {hp : qzH} (ha : qzArr 0 a hp.1 = true) : qzV d 17 10 [a0, a1, a2] (.ref a :: st) hp = qzV d 17 13 [a0, a1, a2] (.int (hp.2.2 a 7) :: st) hp := qv_getI mdc_17 dX0_longestFold_10 mdo_17 qff_0_42 ⟨by decide, rfl⟩ rfl ha
theorem eX0_longestFold_13 {d : Nat} {a0 a1 a2 : Value} {x : Int32} {st : List Value} {hp : qzH} : qzV d 17 13 [a0, a1, a2] (.int x :: st) hp = qzV d 17 14 [a0, a1, .int x] (st) hp := qv_istore (i := 2) mdc_17 dX0_longestFold_13 rfl (Nat.le_of_ble_eq_true rfl) rfl rfl
theorem eX0_longestFold_14 {d : Nat} {a0 a1 : Value} {x : Int32} {st : List Value} {hp : qzH} : qzV d 17 14 [a0, a1, .int x] (st) hp = qzV d 17 15 [a0, a1, .int x] (.int x :: st) hp := qv_iload (i := 2) mdc_17 dX0_longestFold_14 rfl rfl rfl
theorem eX0_longestFold_15 {d : Nat} {a0 a2 : Value} {x : Int32} {st : List Value} {hp : qzH} : qzV d 17 15 [a0, .int x, a2] (st) hp = qzV d 17 16 [a0, .int x, a2] (.int x :: st) hp := qv_iload (i := 1) mdc_17 dX0_longestFold_15 rfl rfl rfl
theorem eX0_longestFold_16 {d : Nat} {a0 a1 a2 : Value} {x y : Int32} {st : List Value} {hp : qzH} : qzV d 17 16 [a0, a1, a2] (.int y :: .int x :: st) hp = qzV d 17 17 [a0, a1, a2] (.int (x + y) :: st) hp := qv_bin (f := fun x y => x + y) mdc_17 dX0_longestFold_16 rfl rfl
theorem eX0_longestFold_17 {d : Nat} {a1 a2 : Value} {x : Nat} {st : List Value} {hp : qzH} : qzV d 17 17 [.ref x, a1, a2] (st) hp = qzV d 17 18 [.ref x, a1, a2] (.ref x :: st) hp := qv_aload (i := 0) mdc_17 dX0_longestFold_17 rfl rfl rfl
theorem eX0_longestFold_18 {d : Nat} {a0 a1 a2 : Value} {a : Nat} {st : List Value} {hp : qzH} (ha : qzArr 0 a hp.1 = true) : qzV d 17 18 [a0, a1, a2] (.ref a :: st) hp = qzV d 17 21 [a0, a1, a2] (.int (hp.2.2 a 8) :: st) hp := qv_getI mdc_17 dX0_longestFold_18 mdo_17 qff_0_45 ⟨by decide, rfl⟩ rfl ha
theorem eX0_longestFold_21 {d : Nat} {a0 a1 a2 : Value} {x y : Int32} {st : List Value} {hp : qzH} : qzV d 17 21 [a0, a1, a2] (.int y :: .int x :: st) hp = if y < x then qzV d 17 44 [a0, a1, a2] (st) hp else qzV d 17 24 [a0, a1, a2] (st) hp := qv_if2 mdc_17 dX0_longestFold_21 rfl rfl rfl
theorem eX0_longestFold_24 {d : Nat} {a1 a2 : Value} {x : Nat} {st : List Value} {hp : qzH} : qzV d 17 24 [.ref x, a1, a2] (st) hp = qzV d 17 25 [.ref x, a1, a2] (.ref x :: st) hp := qv_aload (i := 0) mdc_17 dX0_longestFold_24 rfl rfl rfl
theorem eX0_longestFold_25 {d : Nat} {a0 a1 a2 : Value} {a : Nat} {st : List Value} {hp : qzH} (ha : qzArr 0 a hp.1 = true) : qzV d 17 25 [a0, a1, a2] (.ref a :: st) hp = qzV d 17 28 [a0, a1, a2] (va_rf (hp.2.1 a 0) :: st) hp := qv_getR mdc_17 dX0_longestFold_25 mdo_17 qff_0_9 ⟨by decide, rfl⟩ rfl ha
theorem eX0_longestFold_28 {d : Nat} {a0 a1 : Value} {x : Int32} {st : List Value} {hp : qzH} : qzV d 17 28 [a0, a1, .int x] (st) hp = qzV d 17 29 [a0, a1, .int x] (.int x :: st) hp := qv_iload (i := 2) mdc_17 dX0_longestFold_28 rfl rfl rfl
theorem eX0_longestFold_29 {d : Nat} {a0 a2 : Value} {x : Int32} {st : List Value} {hp : qzH} : qzV d 17 29 [a0, .int x, a2] (st) hp = qzV d 17 30 [a0, .int x, a2] (.int x :: st) hp := qv_iload (i := 1) mdc_17 dX0_longestFold_29 rfl rfl rfl
theorem eX0_longestFold_30 {d : Nat} {a0 a1 a2 : Value} {w0 w1 w2 : Value} {st : List Value} {hp : qzH} (h8 : st.length ≤ 8) : qzV (d + 1) 17 30 [a0, a1, a2] (w2 :: w1 :: w0 :: st) hp = (qzC d 71 [w0, w1, w2] hp).bind (fun r => qzV (d + 1) 17 33 [a0, a1, a2] (r.1.toList ++ st) r.2) := qv_calls (n := 3) mdc_17 dX0_longestFold_30 mdo_17 (by decide) qfc_0_119 ⟨rfl, by decide, rfl⟩ rfl ⟨rfl, rfl, by simp only [List.length_cons]; omega⟩ h8
theorem eX0_longestFold_33 {d : Nat} {a0 a1 a2 : Value} {x : Int32} {st : List Value} {hp : qzH} : qzV d 17 33 [a0, a1, a2] (.int x :: st) hp = if x = 0 then qzV d 17 38 [a0, a1, a2] (st) hp else qzV d 17 36 [a0, a1, a2] (st) hp := qv_if1 mdc_17 dX0_longestFold_33 rfl rfl rfl
theorem eX0_longestFold_36 {d : Nat} {a0 a2 : Value} {x : Int32} {st : List Value} {hp : qzH} : qzV d 17 36 [a0, .int x, a2] (st) hp = qzV d 17 37 [a0, .int x, a2] (.int x :: st) hp := qv_iload (i := 1) mdc_17 dX0_longestFold_36 rfl rfl rfl
theorem eX0_longestFold_37 {d : Nat} {a0 a1 a2 : Value} {v : Int32} {hp : qzH} : qzV d 17 37 [a0, a1, a2] [.int v] hp = some (some (.int v), hp) := qv_iret mdc_17 dX0_longestFold_37 mdr_17 rfl
theorem eX0_longestFold_38 {d : Nat} {a0 a1 : Value} {x : Int32} {st : List Value} {hp : qzH} : qzV d 17 38 [a0, a1, .int x] (st) hp = qzV d 17 41 [a0, a1, .int (x + 1)] (st) hp := qv_iinc mdc_17 dX0_longestFold_38 rfl il_1 rfl rfl
theorem eX0_longestFold_41 {d : Nat} {a0 a1 a2 : Value} {st : List Value} {hp : qzH} : qzV d 17 41 [a0, a1, a2] (st) hp = qzV d 17 14 [a0, a1, a2] (st) hp := qv_goto mdc_17 dX0_longestFold_41 rfl
theorem eX0_longestFold_44 {d : Nat} {a0 a2 : Value} {x : Int32} {st : List Value} {hp : qzH} : qzV d 17 44 [a0, .int x, a2] (st) hp = qzV d 17 47 [a0, .int (x + (-1)), a2] (st) hp := qv_iinc mdc_17 dX0_longestFold_44 rfl il_m1 rfl rfl
theorem eX0_longestFold_47 {d : Nat} {a0 a1 a2 : Value} {st : List Value} {hp : qzH} : qzV d 17 47 [a0, a1, a2] (st) hp = qzV d 17 5 [a0, a1, a2] (st) hp := qv_goto mdc_17 dX0_longestFold_47 rfl
theorem eX0_longestFold_50 {d : Nat} {a0 a1 a2 : Value} {st : List Value} {hp : qzH} : qzV d 17 50 [a0, a1, a2] (st) hp = qzV d 17 51 [a0, a1, a2] (.int 0 :: st) hp := qv_iconst mdc_17 dX0_longestFold_50 il_0 rfl
theorem eX0_longestFold_51 {d : Nat} {a0 a1 a2 : Value} {v : Int32} {hp : qzH} : qzV d 17 51 [a0, a1, a2] [.int v] hp = some (some (.int v), hp) := qv_iret mdc_17 dX0_longestFold_51 mdr_17 rfl
theorem dX1_init_0 : decode cX1_init 0 = .ok (.aload_n 0, 1) := by decide +kernel
theorem dX1_init_1 : decode cX1_init 1 = .ok (.invokespecial 3, 3) := by decide +kernel
theorem dX1_init_4 : decode cX1_init 4 = .ok (.aload_n 0, 1) := by decide +kernel
theorem dX1_init_5 : decode cX1_init 5 = .ok (.bipush 20, 2) := by decide +kernel
theorem dX1_init_7 : decode cX1_init 7 = .ok (.newarray .int, 2) := by decide +kernel
theorem dX1_init_9 : decode cX1_init 9 = .ok (.putfield 9, 3) := by decide +kernel
theorem dX1_init_12 : decode cX1_init 12 = .ok (.aload_n 0, 1) := by decide +kernel
theorem dX1_init_13 : decode cX1_init 13 = .ok (.iconst 3, 1) := by decide +kernel
theorem dX1_init_14 : decode cX1_init 14 = .ok (.newarray .int, 2) := by decide +kernel
theorem dX1_init_16 : decode cX1_init 16 = .ok (.putfield 15, 3) := by decide +kernel
theorem dX1_init_19 : decode cX1_init 19 = .ok (.aload_n 0, 1) := by decide +kernel
theorem dX1_init_20 : decode cX1_init 20 = .ok (.sipush 10290, 3) := by decide +kernel
theorem dX1_init_23 : decode cX1_init 23 = .ok (.newarray .int, 2) := by decide +kernel
theorem dX1_init_25 : decode cX1_init 25 = .ok (.putfield 18, 3) := by decide +kernel
theorem dX1_init_28 : decode cX1_init 28 = .ok (.return_, 1) := by decide +kernel
theorem eX1_init_0 {d : Nat} {x : Nat} {st : List Value} {hp : qzH} : qzV d 18 0 [.ref x] (st) hp = qzV d 18 1 [.ref x] (.ref x :: st) hp := qv_aload (i := 0) mdc_18 dX1_init_0 rfl rfl rfl
theorem eX1_init_4 {d : Nat} {x : Nat} {st : List Value} {hp : qzH} : qzV d 18 4 [.ref x] (st) hp = qzV d 18 5 [.ref x] (.ref x :: st) hp := qv_aload (i := 0) mdc_18 dX1_init_4 rfl rfl rfl
theorem eX1_init_5 {d : Nat} {a0 : Value} {st : List Value} {hp : qzH} : qzV d 18 5 [a0] (st) hp = qzV d 18 7 [a0] (.int 20 :: st) hp := qv_bipush mdc_18 dX1_init_5 ib_20 rfl
theorem eX1_init_12 {d : Nat} {x : Nat} {st : List Value} {hp : qzH} : qzV d 18 12 [.ref x] (st) hp = qzV d 18 13 [.ref x] (.ref x :: st) hp := qv_aload (i := 0) mdc_18 dX1_init_12 rfl rfl rfl
theorem eX1_init_13 {d : Nat} {a0 : Value} {st : List Value} {hp : qzH} : qzV d 18 13 [a0] (st) hp = qzV d 18 14 [a0] (.int 3 :: st) hp := qv_iconst mdc_18 dX1_init_13 il_3 rfl
theorem eX1_init_19 {d : Nat} {x : Nat} {st : List Value} {hp : qzH} : qzV d 18 19 [.ref x] (st) hp = qzV d 18 20 [.ref x] (.ref x :: st) hp := qv_aload (i := 0) mdc_18 dX1_init_19 rfl rfl rfl
theorem eX1_init_20 {d : Nat} {a0 : Value} {st : List Value} {hp : qzH} : qzV d 18 20 [a0] (st) hp = qzV d 18 23 [a0] (.int 10290 :: st) hp := qv_sipush mdc_18 dX1_init_20 is_10290 rfl
theorem eX1_init_28 {d : Nat} {a0 : Value} {hp : qzH} : qzV d 18 28 [a0] [] hp = some (none, hp) := qv_vret mdc_18 dX1_init_28 mdr_18
theorem dX1_fitTo_0 : decode cX1_fitTo 0 = .ok (.aload_n 0, 1) := by decide +kernel
theorem dX1_fitTo_1 : decode cX1_fitTo 1 = .ok (.aload_n 1, 1) := by decide +kernel
theorem dX1_fitTo_2 : decode cX1_fitTo 2 = .ok (.invokevirtual 21, 3) := by decide +kernel
theorem dX1_fitTo_5 : decode cX1_fitTo 5 = .ok (.ifCond .eq 4, 3) := by decide +kernel
theorem dX1_fitTo_8 : decode cX1_fitTo 8 = .ok (.return_, 1) := by decide +kernel
theorem dX1_fitTo_9 : decode cX1_fitTo 9 = .ok (.aload_n 1, 1) := by decide +kernel
theorem dX1_fitTo_10 : decode cX1_fitTo 10 = .ok (.getfield 25, 3) := by decide +kernel
theorem dX1_fitTo_13 : decode cX1_fitTo 13 = .ok (.iconst 0, 1) := by decide +kernel
theorem dX1_fitTo_14 : decode cX1_fitTo 14 = .ok (.aload_n 0, 1) := by decide +kernel
theorem dX1_fitTo_15 : decode cX1_fitTo 15 = .ok (.getfield 9, 3) := by decide +kernel
theorem dX1_fitTo_18 : decode cX1_fitTo 18 = .ok (.iconst 0, 1) := by decide +kernel
theorem dX1_fitTo_19 : decode cX1_fitTo 19 = .ok (.bipush 20, 2) := by decide +kernel
theorem dX1_fitTo_21 : decode cX1_fitTo 21 = .ok (.invokestatic 28, 3) := by decide +kernel
theorem dX1_fitTo_24 : decode cX1_fitTo 24 = .ok (.aload_n 1, 1) := by decide +kernel
theorem dX1_fitTo_25 : decode cX1_fitTo 25 = .ok (.getfield 34, 3) := by decide +kernel
theorem dX1_fitTo_28 : decode cX1_fitTo 28 = .ok (.iconst 0, 1) := by decide +kernel
theorem dX1_fitTo_29 : decode cX1_fitTo 29 = .ok (.aload_n 0, 1) := by decide +kernel
theorem dX1_fitTo_30 : decode cX1_fitTo 30 = .ok (.getfield 15, 3) := by decide +kernel
theorem dX1_fitTo_33 : decode cX1_fitTo 33 = .ok (.iconst 0, 1) := by decide +kernel
theorem dX1_fitTo_34 : decode cX1_fitTo 34 = .ok (.iconst 3, 1) := by decide +kernel
theorem dX1_fitTo_35 : decode cX1_fitTo 35 = .ok (.invokestatic 28, 3) := by decide +kernel
theorem dX1_fitTo_38 : decode cX1_fitTo 38 = .ok (.aload_n 0, 1) := by decide +kernel
theorem dX1_fitTo_39 : decode cX1_fitTo 39 = .ok (.aload_n 1, 1) := by decide +kernel
theorem dX1_fitTo_40 : decode cX1_fitTo 40 = .ok (.getfield 35, 3) := by decide +kernel
theorem dX1_fitTo_43 : decode cX1_fitTo 43 = .ok (.putfield 39, 3) := by decide +kernel
theorem dX1_fitTo_46 : decode cX1_fitTo 46 = .ok (.aload_n 0, 1) := by decide +kernel
theorem dX1_fitTo_47 : decode cX1_fitTo 47 = .ok (.getfield 18, 3) := by decide +kernel
theorem dX1_fitTo_50 : decode cX1_fitTo 50 = .ok (.ldc 40, 2) := by decide +kernel
theorem dX1_fitTo_52 : decode cX1_fitTo 52 = .ok (.invokestatic 41, 3) := by decide +kernel
theorem dX1_fitTo_55 : decode cX1_fitTo 55 = .ok (.return_, 1) := by decide +kernel
theorem eX1_fitTo_0 {d : Nat} {a1 : Value} {x : Nat} {st : List Value} {hp : qzH} : qzV d 19 0 [.ref x, a1] (st) hp = qzV d 19 1 [.ref x, a1] (.ref x :: st) hp := qv_aload (i := 0) mdc_19 dX1_fitTo_0 rfl rfl rfl
theorem eX1_fitTo_1 {d : Nat} {a0 : Value} {x : Nat} {st : List Value} {hp : qzH} : qzV d 19 1 [a0, .ref x] (st) hp = qzV d 19 2 [a0, .ref x] (.ref x :: st) hp := qv_aload (i := 1) mdc_19 dX1_fitTo_1 rfl rfl rfl
theorem eX1_fitTo_2 {d : Nat} {a0 a1 : Value} {w0 : Value} {b : Nat} {st : List Value} {hp : qzH} (h8 : st.length ≤ 8) (hb : qzArr 1 b hp.1 = true) : qzV (d + 1) 19 2 [a0, a1] (w0 :: .ref b :: st) hp = (qzC d 20 (.ref b :: [w0]) hp).bind (fun r => qzV (d + 1) 19 5 [a0, a1] (r.1.toList ++ st) r.2) := qv_callv (n := 1) mdc_19 dX1_fitTo_2 mdo_19 (by decide) qfc_1_21 ⟨rfl, by decide, rfl⟩ rfl ⟨rfl, rfl, by simp only [List.length_cons]; omega⟩ h8 hb
theorem eX1_fitTo_5 {d : Nat} {a0 a1 : Value} {x : Int32} {st : List Value} {hp : qzH} : qzV d 19 5 [a0, a1] (.int x :: st) hp = if x = 0 then qzV d 19 9 [a0, a1] (st) hp else qzV d 19 8 [a0, a1] (st) hp := qv_if1 mdc_19 dX1_fitTo_5 rfl rfl rfl
theorem eX1_fitTo_8 {d : Nat} {a0 a1 : Value} {hp : qzH} : qzV d 19 8 [a0, a1] [] hp = some (none, hp) := qv_vret mdc_19 dX1_fitTo_8 mdr_19
theorem eX1_fitTo_9 {d : Nat} {a0 : Value} {x : Nat} {st : List Value} {hp : qzH} : qzV d 19 9 [a0, .ref x] (st) hp = qzV d 19 10 [a0, .ref x] (.ref x :: st) hp := qv_aload (i := 1) mdc_19 dX1_fitTo_9 rfl rfl rfl
theorem eX1_fitTo_10 {d : Nat} {a0 a1 : Value} {a : Nat} {st : List Value} {hp : qzH} (ha : qzArr 0 a hp.1 = true) : qzV d 19 10 [a0, a1] (.ref a :: st) hp = qzV d 19 13 [a0, a1] (va_rf (hp.2.1 a 0) :: st) hp := qv_getR mdc_19 dX1_fitTo_10 mdo_19 qff_1_25 ⟨by decide, rfl⟩ rfl ha
theorem eX1_fitTo_13 {d : Nat} {a0 a1 : Value} {st : List Value} {hp : qzH} : qzV d 19 13 [a0, a1] (st) hp = qzV d 19 14 [a0, a1] (.int 0 :: st) hp := qv_iconst mdc_19 dX1_fitTo_13 il_0 rfl
theorem eX1_fitTo_14 {d : Nat} {a1 : Value} {x : Nat} {st : List Value} {hp : qzH} : qzV d 19 14 [.ref x, a1] (st) hp = qzV d 19 15 [.ref x, a1] (.ref x :: st) hp := qv_aload (i := 0) mdc_19 dX1_fitTo_14 rfl rfl rfl
theorem eX1_fitTo_15 {d : Nat} {a0 a1 : Value} {a : Nat} {st : List Value} {hp : qzH} (ha : qzArr 1 a hp.1 = true) : qzV d 19 15 [a0, a1] (.ref a :: st) hp = qzV d 19 18 [a0, a1] (va_rf (hp.2.1 a 0) :: st) hp := qv_getR mdc_19 dX1_fitTo_15 mdo_19 qff_1_9 ⟨by decide, rfl⟩ rfl ha
theorem eX1_fitTo_18 {d : Nat} {a0 a1 : Value} {st : List Value} {hp : qzH} : qzV d 19 18 [a0, a1] (st) hp = qzV d 19 19 [a0, a1] (.int 0 :: st) hp := qv_iconst mdc_19 dX1_fitTo_18 il_0 rfl
theorem eX1_fitTo_19 {d : Nat} {a0 a1 : Value} {st : List Value} {hp : qzH} : qzV d 19 19 [a0, a1] (st) hp = qzV d 19 21 [a0, a1] (.int 20 :: st) hp := qv_bipush mdc_19 dX1_fitTo_19 ib_20 rfl
theorem eX1_fitTo_21 {d : Nat} {a0 a1 : Value} {n dp sp : Int32} {a b : Nat} {st : List Value} {hp : qzH} (h8 : qzArr 4 a hp.1 = true ∧ qzArr 4 b hp.1 = true ∧ ¬ sp < 0 ∧ ¬ dp < 0 ∧ ¬ n < 0 ∧ sp.toNatClampNeg + n.toNatClampNeg ≤ (qzk b).2 ∧ dp.toNatClampNeg + n.toNatClampNeg ≤ (qzk a).2 ∧ st.length ≤ 8) : qzV d 19 21 [a0, a1] (.int n :: .int dp :: .ref a :: .int sp :: .ref b :: st) hp = qzV d 19 24 [a0, a1] st (hp.1, hp.2.1, qzUr hp.2.2 a (va_cpy (hp.2.2 b) (hp.2.2 a) sp.toNatClampNeg dp.toNatClampNeg n.toNatClampNeg)) := qv_copy mdc_19 dX1_fitTo_21 mdo_19 (by decide) rfl h8
theorem eX1_fitTo_24 {d : Nat} {a0 : Value} {x : Nat} {st : List Value} {hp : qzH} : qzV d 19 24 [a0, .ref x] (st) hp = qzV d 19 25 [a0, .ref x] (.ref x :: st) hp := qv_aload (i := 1) mdc_19 dX1_fitTo_24 rfl rfl rfl
theorem eX1_fitTo_25 {d : Nat} {a0 a1 : Value} {a : Nat} {st : List Value} {hp : qzH} (ha : qzArr 0 a hp.1 = true) : qzV d 19 25 [a0, a1] (.ref a :: st) hp = qzV d 19 28 [a0, a1] (va_rf (hp.2.1 a 1) :: st) hp := qv_getR mdc_19 dX1_fitTo_25 mdo_19 qff_1_34 ⟨by decide, rfl⟩ rfl ha
theorem eX1_fitTo_28 {d : Nat} {a0 a1 : Value} {st : List Value} {hp : qzH} : qzV d 19 28 [a0, a1] (st) hp = qzV d 19 29 [a0, a1] (.int 0 :: st) hp := qv_iconst mdc_19 dX1_fitTo_28 il_0 rfl
theorem eX1_fitTo_29 {d : Nat} {a1 : Value} {x : Nat} {st : List Value} {hp : qzH} : qzV d 19 29 [.ref x, a1] (st) hp = qzV d 19 30 [.ref x, a1] (.ref x :: st) hp := qv_aload (i := 0) mdc_19 dX1_fitTo_29 rfl rfl rfl
theorem eX1_fitTo_30 {d : Nat} {a0 a1 : Value} {a : Nat} {st : List Value} {hp : qzH} (ha : qzArr 1 a hp.1 = true) : qzV d 19 30 [a0, a1] (.ref a :: st) hp = qzV d 19 33 [a0, a1] (va_rf (hp.2.1 a 1) :: st) hp := qv_getR mdc_19 dX1_fitTo_30 mdo_19 qff_1_15 ⟨by decide, rfl⟩ rfl ha
theorem eX1_fitTo_33 {d : Nat} {a0 a1 : Value} {st : List Value} {hp : qzH} : qzV d 19 33 [a0, a1] (st) hp = qzV d 19 34 [a0, a1] (.int 0 :: st) hp := qv_iconst mdc_19 dX1_fitTo_33 il_0 rfl
theorem eX1_fitTo_34 {d : Nat} {a0 a1 : Value} {st : List Value} {hp : qzH} : qzV d 19 34 [a0, a1] (st) hp = qzV d 19 35 [a0, a1] (.int 3 :: st) hp := qv_iconst mdc_19 dX1_fitTo_34 il_3 rfl
theorem eX1_fitTo_35 {d : Nat} {a0 a1 : Value} {n dp sp : Int32} {a b : Nat} {st : List Value} {hp : qzH} (h8 : qzArr 4 a hp.1 = true ∧ qzArr 4 b hp.1 = true ∧ ¬ sp < 0 ∧ ¬ dp < 0 ∧ ¬ n < 0 ∧ sp.toNatClampNeg + n.toNatClampNeg ≤ (qzk b).2 ∧ dp.toNatClampNeg + n.toNatClampNeg ≤ (qzk a).2 ∧ st.length ≤ 8) : qzV d 19 35 [a0, a1] (.int n :: .int dp :: .ref a :: .int sp :: .ref b :: st) hp = qzV d 19 38 [a0, a1] st (hp.1, hp.2.1, qzUr hp.2.2 a (va_cpy (hp.2.2 b) (hp.2.2 a) sp.toNatClampNeg dp.toNatClampNeg n.toNatClampNeg)) := qv_copy mdc_19 dX1_fitTo_35 mdo_19 (by decide) rfl h8
theorem eX1_fitTo_38 {d : Nat} {a1 : Value} {x : Nat} {st : List Value} {hp : qzH} : qzV d 19 38 [.ref x, a1] (st) hp = qzV d 19 39 [.ref x, a1] (.ref x :: st) hp := qv_aload (i := 0) mdc_19 dX1_fitTo_38 rfl rfl rfl
theorem eX1_fitTo_39 {d : Nat} {a0 : Value} {x : Nat} {st : List Value} {hp : qzH} : qzV d 19 39 [a0, .ref x] (st) hp = qzV d 19 40 [a0, .ref x] (.ref x :: st) hp := qv_aload (i := 1) mdc_19 dX1_fitTo_39 rfl rfl rfl
theorem eX1_fitTo_40 {d : Nat} {a0 a1 : Value} {a : Nat} {st : List Value} {hp : qzH} (ha : qzArr 0 a hp.1 = true) : qzV d 19 40 [a0, a1] (.ref a :: st) hp = qzV d 19 43 [a0, a1] (.int (hp.2.2 a 6) :: st) hp := qv_getI mdc_19 dX1_fitTo_40 mdo_19 qff_1_35 ⟨by decide, rfl⟩ rfl ha
theorem eX1_fitTo_43 {d : Nat} {a0 a1 : Value} {a : Nat} {x : Int32} {st : List Value} {hp : qzH} (ha : qzArr 1 a hp.1 = true) : qzV d 19 43 [a0, a1] (.int x :: .ref a :: st) hp = qzV d 19 46 [a0, a1] st (hp.1, hp.2.1, qzUp hp.2.2 a 3 x) := qv_putI mdc_19 dX1_fitTo_43 mdo_19 qff_1_39 ⟨by decide, rfl, rfl⟩ rfl ha ⟨rfl, rfl⟩
theorem eX1_fitTo_46 {d : Nat} {a1 : Value} {x : Nat} {st : List Value} {hp : qzH} : qzV d 19 46 [.ref x, a1] (st) hp = qzV d 19 47 [.ref x, a1] (.ref x :: st) hp := qv_aload (i := 0) mdc_19 dX1_fitTo_46 rfl rfl rfl
theorem eX1_fitTo_47 {d : Nat} {a0 a1 : Value} {a : Nat} {st : List Value} {hp : qzH} (ha : qzArr 1 a hp.1 = true) : qzV d 19 47 [a0, a1] (.ref a :: st) hp = qzV d 19 50 [a0, a1] (va_rf (hp.2.1 a 2) :: st) hp := qv_getR mdc_19 dX1_fitTo_47 mdo_19 qff_1_18 ⟨by decide, rfl⟩ rfl ha
theorem eX1_fitTo_50 {d : Nat} {a0 a1 : Value} {st : List Value} {hp : qzH} : qzV d 19 50 [a0, a1] (st) hp = qzV d 19 52 [a0, a1] (.int (-1000000) :: st) hp := qv_ldc mdc_19 dX1_fitTo_50 mdo_19 rfl rfl
theorem eX1_fitTo_52 {d : Nat} {a0 a1 : Value} {w0 w1 : Value} {st : List Value} {hp : qzH} (h8 : st.length ≤ 8) : qzV (d + 1) 19 52 [a0, a1] (w1 :: w0 :: st) hp = (qzC d 148 [w0, w1] hp).bind (fun r => qzV (d + 1) 19 55 [a0, a1] (r.1.toList ++ st) r.2) := qv_calls (n := 2) mdc_19 dX1_fitTo_52 mdo_19 (by decide) qfc_1_41 ⟨rfl, by decide, rfl⟩ rfl ⟨rfl, rfl, by simp only [List.length_cons]; omega⟩ h8
theorem eX1_fitTo_55 {d : Nat} {a0 a1 : Value} {hp : qzH} : qzV d 19 55 [a0, a1] [] hp = some (none, hp) := qv_vret mdc_19 dX1_fitTo_55 mdr_19
theorem dX1_isFor_0 : decode cX1_isFor 0 = .ok (.aload_n 0, 1) := by decide +kernel
theorem dX1_isFor_1 : decode cX1_isFor 1 = .ok (.getfield 39, 3) := by decide +kernel
theorem dX1_isFor_4 : decode cX1_isFor 4 = .ok (.aload_n 1, 1) := by decide +kernel
theorem dX1_isFor_5 : decode cX1_isFor 5 = .ok (.getfield 35, 3) := by decide +kernel
theorem dX1_isFor_8 : decode cX1_isFor 8 = .ok (.if_icmp .ne 7, 3) := by decide +kernel
theorem dX1_isFor_11 : decode cX1_isFor 11 = .ok (.iconst 1, 1) := by decide +kernel
theorem dX1_isFor_12 : decode cX1_isFor 12 = .ok (.goto 4, 3) := by decide +kernel
theorem dX1_isFor_15 : decode cX1_isFor 15 = .ok (.iconst 0, 1) := by decide +kernel
theorem dX1_isFor_16 : decode cX1_isFor 16 = .ok (.istore_n 2, 1) := by decide +kernel
theorem dX1_isFor_17 : decode cX1_isFor 17 = .ok (.iconst 0, 1) := by decide +kernel
theorem dX1_isFor_18 : decode cX1_isFor 18 = .ok (.istore_n 3, 1) := by decide +kernel
theorem dX1_isFor_19 : decode cX1_isFor 19 = .ok (.iload_n 3, 1) := by decide +kernel
theorem dX1_isFor_20 : decode cX1_isFor 20 = .ok (.iconst 3, 1) := by decide +kernel
theorem dX1_isFor_21 : decode cX1_isFor 21 = .ok (.if_icmp .ge 38, 3) := by decide +kernel
theorem dX1_isFor_24 : decode cX1_isFor 24 = .ok (.iload_n 2, 1) := by decide +kernel
theorem dX1_isFor_25 : decode cX1_isFor 25 = .ok (.ifCond .eq 26, 3) := by decide +kernel
theorem dX1_isFor_28 : decode cX1_isFor 28 = .ok (.aload_n 0, 1) := by decide +kernel
theorem dX1_isFor_29 : decode cX1_isFor 29 = .ok (.getfield 15, 3) := by decide +kernel
theorem dX1_isFor_32 : decode cX1_isFor 32 = .ok (.iload_n 3, 1) := by decide +kernel
theorem dX1_isFor_33 : decode cX1_isFor 33 = .ok (.invokestatic 47, 3) := by decide +kernel
theorem dX1_isFor_36 : decode cX1_isFor 36 = .ok (.aload_n 1, 1) := by decide +kernel
theorem dX1_isFor_37 : decode cX1_isFor 37 = .ok (.getfield 34, 3) := by decide +kernel
theorem dX1_isFor_40 : decode cX1_isFor 40 = .ok (.iload_n 3, 1) := by decide +kernel
theorem dX1_isFor_41 : decode cX1_isFor 41 = .ok (.invokestatic 47, 3) := by decide +kernel
theorem dX1_isFor_44 : decode cX1_isFor 44 = .ok (.if_icmp .ne 7, 3) := by decide +kernel
theorem dX1_isFor_47 : decode cX1_isFor 47 = .ok (.iconst 1, 1) := by decide +kernel
theorem dX1_isFor_48 : decode cX1_isFor 48 = .ok (.goto 4, 3) := by decide +kernel
theorem dX1_isFor_51 : decode cX1_isFor 51 = .ok (.iconst 0, 1) := by decide +kernel
theorem dX1_isFor_52 : decode cX1_isFor 52 = .ok (.istore_n 2, 1) := by decide +kernel
theorem dX1_isFor_53 : decode cX1_isFor 53 = .ok (.iinc 3 1, 3) := by decide +kernel
theorem dX1_isFor_56 : decode cX1_isFor 56 = .ok (.goto (-37), 3) := by decide +kernel
theorem dX1_isFor_59 : decode cX1_isFor 59 = .ok (.iconst 0, 1) := by decide +kernel
theorem dX1_isFor_60 : decode cX1_isFor 60 = .ok (.istore_n 3, 1) := by decide +kernel
theorem dX1_isFor_61 : decode cX1_isFor 61 = .ok (.iload_n 3, 1) := by decide +kernel
theorem dX1_isFor_62 : decode cX1_isFor 62 = .ok (.aload_n 0, 1) := by decide +kernel
theorem dX1_isFor_63 : decode cX1_isFor 63 = .ok (.getfield 39, 3) := by decide +kernel
theorem dX1_isFor_66 : decode cX1_isFor 66 = .ok (.if_icmp .ge 38, 3) := by decide +kernel
theorem dX1_isFor_69 : decode cX1_isFor 69 = .ok (.iload_n 2, 1) := by decide +kernel
theorem dX1_isFor_70 : decode cX1_isFor 70 = .ok (.ifCond .eq 26, 3) := by decide +kernel
theorem dX1_isFor_73 : decode cX1_isFor 73 = .ok (.aload_n 0, 1) := by decide +kernel
theorem dX1_isFor_74 : decode cX1_isFor 74 = .ok (.getfield 9, 3) := by decide +kernel
theorem dX1_isFor_77 : decode cX1_isFor 77 = .ok (.iload_n 3, 1) := by decide +kernel
theorem dX1_isFor_78 : decode cX1_isFor 78 = .ok (.invokestatic 47, 3) := by decide +kernel
theorem dX1_isFor_81 : decode cX1_isFor 81 = .ok (.aload_n 1, 1) := by decide +kernel
theorem dX1_isFor_82 : decode cX1_isFor 82 = .ok (.getfield 25, 3) := by decide +kernel
theorem dX1_isFor_85 : decode cX1_isFor 85 = .ok (.iload_n 3, 1) := by decide +kernel
theorem dX1_isFor_86 : decode cX1_isFor 86 = .ok (.invokestatic 47, 3) := by decide +kernel
theorem dX1_isFor_89 : decode cX1_isFor 89 = .ok (.if_icmp .ne 7, 3) := by decide +kernel
theorem dX1_isFor_92 : decode cX1_isFor 92 = .ok (.iconst 1, 1) := by decide +kernel
theorem dX1_isFor_93 : decode cX1_isFor 93 = .ok (.goto 4, 3) := by decide +kernel
theorem dX1_isFor_96 : decode cX1_isFor 96 = .ok (.iconst 0, 1) := by decide +kernel
theorem dX1_isFor_97 : decode cX1_isFor 97 = .ok (.istore_n 2, 1) := by decide +kernel
theorem dX1_isFor_98 : decode cX1_isFor 98 = .ok (.iinc 3 1, 3) := by decide +kernel
theorem dX1_isFor_101 : decode cX1_isFor 101 = .ok (.goto (-40), 3) := by decide +kernel
theorem dX1_isFor_104 : decode cX1_isFor 104 = .ok (.iload_n 2, 1) := by decide +kernel
theorem dX1_isFor_105 : decode cX1_isFor 105 = .ok (.ireturn, 1) := by decide +kernel
theorem eX1_isFor_0 {d : Nat} {a1 a2 a3 : Value} {x : Nat} {st : List Value} {hp : qzH} : qzV d 20 0 [.ref x, a1, a2, a3] (st) hp = qzV d 20 1 [.ref x, a1, a2, a3] (.ref x :: st) hp := qv_aload (i := 0) mdc_20 dX1_isFor_0 rfl rfl rfl
theorem eX1_isFor_1 {d : Nat} {a0 a1 a2 a3 : Value} {a : Nat} {st : List Value} {hp : qzH} (ha : qzArr 1 a hp.1 = true) : qzV d 20 1 [a0, a1, a2, a3] (.ref a :: st) hp = qzV d 20 4 [a0, a1, a2, a3] (.int (hp.2.2 a 3) :: st) hp := qv_getI mdc_20 dX1_isFor_1 mdo_20 qff_1_39 ⟨by decide, rfl⟩ rfl ha
theorem eX1_isFor_4 {d : Nat} {a0 a2 a3 : Value} {x : Nat} {st : List Value} {hp : qzH} : qzV d 20 4 [a0, .ref x, a2, a3] (st) hp = qzV d 20 5 [a0, .ref x, a2, a3] (.ref x :: st) hp := qv_aload (i := 1) mdc_20 dX1_isFor_4 rfl rfl rfl
theorem eX1_isFor_5 {d : Nat} {a0 a1 a2 a3 : Value} {a : Nat} {st : List Value} {hp : qzH} (ha : qzArr 0 a hp.1 = true) : qzV d 20 5 [a0, a1, a2, a3] (.ref a :: st) hp = qzV d 20 8 [a0, a1, a2, a3] (.int (hp.2.2 a 6) :: st) hp := qv_getI mdc_20 dX1_isFor_5 mdo_20 qff_1_35 ⟨by decide, rfl⟩ rfl ha
theorem eX1_isFor_8 {d : Nat} {a0 a1 a2 a3 : Value} {x y : Int32} {st : List Value} {hp : qzH} : qzV d 20 8 [a0, a1, a2, a3] (.int y :: .int x :: st) hp = if ¬ x = y then qzV d 20 15 [a0, a1, a2, a3] (st) hp else qzV d 20 11 [a0, a1, a2, a3] (st) hp := qv_if2 mdc_20 dX1_isFor_8 rfl rfl rfl
theorem eX1_isFor_11 {d : Nat} {a0 a1 a2 a3 : Value} {st : List Value} {hp : qzH} : qzV d 20 11 [a0, a1, a2, a3] (st) hp = qzV d 20 12 [a0, a1, a2, a3] (.int 1 :: st) hp := qv_iconst mdc_20 dX1_isFor_11 il_1 rfl
theorem eX1_isFor_12 {d : Nat} {a0 a1 a2 a3 : Value} {st : List Value} {hp : qzH} : qzV d 20 12 [a0, a1, a2, a3] (st) hp = qzV d 20 16 [a0, a1, a2, a3] (st) hp := qv_goto mdc_20 dX1_isFor_12 rfl
theorem eX1_isFor_15 {d : Nat} {a0 a1 a2 a3 : Value} {st : List Value} {hp : qzH} : qzV d 20 15 [a0, a1, a2, a3] (st) hp = qzV d 20 16 [a0, a1, a2, a3] (.int 0 :: st) hp := qv_iconst mdc_20 dX1_isFor_15 il_0 rfl
theorem eX1_isFor_16 {d : Nat} {a0 a1 a2 a3 : Value} {x : Int32} {st : List Value} {hp : qzH} : qzV d 20 16 [a0, a1, a2, a3] (.int x :: st) hp = qzV d 20 17 [a0, a1, .int x, a3] (st) hp := qv_istore (i := 2) mdc_20 dX1_isFor_16 rfl (Nat.le_of_ble_eq_true rfl) rfl rfl
theorem eX1_isFor_17 {d : Nat} {a0 a1 a2 a3 : Value} {st : List Value} {hp : qzH} : qzV d 20 17 [a0, a1, a2, a3] (st) hp = qzV d 20 18 [a0, a1, a2, a3] (.int 0 :: st) hp := qv_iconst mdc_20 dX1_isFor_17 il_0 rfl
theorem eX1_isFor_18 {d : Nat} {a0 a1 a2 a3 : Value} {x : Int32} {st : List Value} {hp : qzH} : qzV d 20 18 [a0, a1, a2, a3] (.int x :: st) hp = qzV d 20 19 [a0, a1, a2, .int x] (st) hp := qv_istore (i := 3) mdc_20 dX1_isFor_18 rfl (Nat.le_of_ble_eq_true rfl) rfl rfl
theorem eX1_isFor_19 {d : Nat} {a0 a1 a2 : Value} {x : Int32} {st : List Value} {hp : qzH} : qzV d 20 19 [a0, a1, a2, .int x] (st) hp = qzV d 20 20 [a0, a1, a2, .int x] (.int x :: st) hp := qv_iload (i := 3) mdc_20 dX1_isFor_19 rfl rfl rfl
theorem eX1_isFor_20 {d : Nat} {a0 a1 a2 a3 : Value} {st : List Value} {hp : qzH} : qzV d 20 20 [a0, a1, a2, a3] (st) hp = qzV d 20 21 [a0, a1, a2, a3] (.int 3 :: st) hp := qv_iconst mdc_20 dX1_isFor_20 il_3 rfl
theorem eX1_isFor_21 {d : Nat} {a0 a1 a2 a3 : Value} {x y : Int32} {st : List Value} {hp : qzH} : qzV d 20 21 [a0, a1, a2, a3] (.int y :: .int x :: st) hp = if y ≤ x then qzV d 20 59 [a0, a1, a2, a3] (st) hp else qzV d 20 24 [a0, a1, a2, a3] (st) hp := qv_if2 mdc_20 dX1_isFor_21 rfl rfl rfl
theorem eX1_isFor_24 {d : Nat} {a0 a1 a3 : Value} {x : Int32} {st : List Value} {hp : qzH} : qzV d 20 24 [a0, a1, .int x, a3] (st) hp = qzV d 20 25 [a0, a1, .int x, a3] (.int x :: st) hp := qv_iload (i := 2) mdc_20 dX1_isFor_24 rfl rfl rfl
theorem eX1_isFor_25 {d : Nat} {a0 a1 a2 a3 : Value} {x : Int32} {st : List Value} {hp : qzH} : qzV d 20 25 [a0, a1, a2, a3] (.int x :: st) hp = if x = 0 then qzV d 20 51 [a0, a1, a2, a3] (st) hp else qzV d 20 28 [a0, a1, a2, a3] (st) hp := qv_if1 mdc_20 dX1_isFor_25 rfl rfl rfl
theorem eX1_isFor_28 {d : Nat} {a1 a2 a3 : Value} {x : Nat} {st : List Value} {hp : qzH} : qzV d 20 28 [.ref x, a1, a2, a3] (st) hp = qzV d 20 29 [.ref x, a1, a2, a3] (.ref x :: st) hp := qv_aload (i := 0) mdc_20 dX1_isFor_28 rfl rfl rfl
theorem eX1_isFor_29 {d : Nat} {a0 a1 a2 a3 : Value} {a : Nat} {st : List Value} {hp : qzH} (ha : qzArr 1 a hp.1 = true) : qzV d 20 29 [a0, a1, a2, a3] (.ref a :: st) hp = qzV d 20 32 [a0, a1, a2, a3] (va_rf (hp.2.1 a 1) :: st) hp := qv_getR mdc_20 dX1_isFor_29 mdo_20 qff_1_15 ⟨by decide, rfl⟩ rfl ha
theorem eX1_isFor_32 {d : Nat} {a0 a1 a2 : Value} {x : Int32} {st : List Value} {hp : qzH} : qzV d 20 32 [a0, a1, a2, .int x] (st) hp = qzV d 20 33 [a0, a1, a2, .int x] (.int x :: st) hp := qv_iload (i := 3) mdc_20 dX1_isFor_32 rfl rfl rfl
theorem eX1_isFor_33 {d : Nat} {a0 a1 a2 a3 : Value} {w0 w1 : Value} {st : List Value} {hp : qzH} (h8 : st.length ≤ 8) : qzV (d + 1) 20 33 [a0, a1, a2, a3] (w1 :: w0 :: st) hp = (qzC d 84 [w0, w1] hp).bind (fun r => qzV (d + 1) 20 36 [a0, a1, a2, a3] (r.1.toList ++ st) r.2) := qv_calls (n := 2) mdc_20 dX1_isFor_33 mdo_20 (by decide) qfc_1_47 ⟨rfl, by decide, rfl⟩ rfl ⟨rfl, rfl, by simp only [List.length_cons]; omega⟩ h8
theorem eX1_isFor_36 {d : Nat} {a0 a2 a3 : Value} {x : Nat} {st : List Value} {hp : qzH} : qzV d 20 36 [a0, .ref x, a2, a3] (st) hp = qzV d 20 37 [a0, .ref x, a2, a3] (.ref x :: st) hp := qv_aload (i := 1) mdc_20 dX1_isFor_36 rfl rfl rfl
theorem eX1_isFor_37 {d : Nat} {a0 a1 a2 a3 : Value} {a : Nat} {st : List Value} {hp : qzH} (ha : qzArr 0 a hp.1 = true) : qzV d 20 37 [a0, a1, a2, a3] (.ref a :: st) hp = qzV d 20 40 [a0, a1, a2, a3] (va_rf (hp.2.1 a 1) :: st) hp := qv_getR mdc_20 dX1_isFor_37 mdo_20 qff_1_34 ⟨by decide, rfl⟩ rfl ha
theorem eX1_isFor_40 {d : Nat} {a0 a1 a2 : Value} {x : Int32} {st : List Value} {hp : qzH} : qzV d 20 40 [a0, a1, a2, .int x] (st) hp = qzV d 20 41 [a0, a1, a2, .int x] (.int x :: st) hp := qv_iload (i := 3) mdc_20 dX1_isFor_40 rfl rfl rfl
theorem eX1_isFor_41 {d : Nat} {a0 a1 a2 a3 : Value} {w0 w1 : Value} {st : List Value} {hp : qzH} (h8 : st.length ≤ 8) : qzV (d + 1) 20 41 [a0, a1, a2, a3] (w1 :: w0 :: st) hp = (qzC d 84 [w0, w1] hp).bind (fun r => qzV (d + 1) 20 44 [a0, a1, a2, a3] (r.1.toList ++ st) r.2) := qv_calls (n := 2) mdc_20 dX1_isFor_41 mdo_20 (by decide) qfc_1_47 ⟨rfl, by decide, rfl⟩ rfl ⟨rfl, rfl, by simp only [List.length_cons]; omega⟩ h8
theorem eX1_isFor_44 {d : Nat} {a0 a1 a2 a3 : Value} {x y : Int32} {st : List Value} {hp : qzH} : qzV d 20 44 [a0, a1, a2, a3] (.int y :: .int x :: st) hp = if ¬ x = y then qzV d 20 51 [a0, a1, a2, a3] (st) hp else qzV d 20 47 [a0, a1, a2, a3] (st) hp := qv_if2 mdc_20 dX1_isFor_44 rfl rfl rfl
theorem eX1_isFor_47 {d : Nat} {a0 a1 a2 a3 : Value} {st : List Value} {hp : qzH} : qzV d 20 47 [a0, a1, a2, a3] (st) hp = qzV d 20 48 [a0, a1, a2, a3] (.int 1 :: st) hp := qv_iconst mdc_20 dX1_isFor_47 il_1 rfl
theorem eX1_isFor_48 {d : Nat} {a0 a1 a2 a3 : Value} {st : List Value} {hp : qzH} : qzV d 20 48 [a0, a1, a2, a3] (st) hp = qzV d 20 52 [a0, a1, a2, a3] (st) hp := qv_goto mdc_20 dX1_isFor_48 rfl
theorem eX1_isFor_51 {d : Nat} {a0 a1 a2 a3 : Value} {st : List Value} {hp : qzH} : qzV d 20 51 [a0, a1, a2, a3] (st) hp = qzV d 20 52 [a0, a1, a2, a3] (.int 0 :: st) hp := qv_iconst mdc_20 dX1_isFor_51 il_0 rfl
theorem eX1_isFor_52 {d : Nat} {a0 a1 a2 a3 : Value} {x : Int32} {st : List Value} {hp : qzH} : qzV d 20 52 [a0, a1, a2, a3] (.int x :: st) hp = qzV d 20 53 [a0, a1, .int x, a3] (st) hp := qv_istore (i := 2) mdc_20 dX1_isFor_52 rfl (Nat.le_of_ble_eq_true rfl) rfl rfl
theorem eX1_isFor_53 {d : Nat} {a0 a1 a2 : Value} {x : Int32} {st : List Value} {hp : qzH} : qzV d 20 53 [a0, a1, a2, .int x] (st) hp = qzV d 20 56 [a0, a1, a2, .int (x + 1)] (st) hp := qv_iinc mdc_20 dX1_isFor_53 rfl il_1 rfl rfl
theorem eX1_isFor_56 {d : Nat} {a0 a1 a2 a3 : Value} {st : List Value} {hp : qzH} : qzV d 20 56 [a0, a1, a2, a3] (st) hp = qzV d 20 19 [a0, a1, a2, a3] (st) hp := qv_goto mdc_20 dX1_isFor_56 rfl
theorem eX1_isFor_59 {d : Nat} {a0 a1 a2 a3 : Value} {st : List Value} {hp : qzH} : qzV d 20 59 [a0, a1, a2, a3] (st) hp = qzV d 20 60 [a0, a1, a2, a3] (.int 0 :: st) hp := qv_iconst mdc_20 dX1_isFor_59 il_0 rfl
theorem eX1_isFor_60 {d : Nat} {a0 a1 a2 a3 : Value} {x : Int32} {st : List Value} {hp : qzH} : qzV d 20 60 [a0, a1, a2, a3] (.int x :: st) hp = qzV d 20 61 [a0, a1, a2, .int x] (st) hp := qv_istore (i := 3) mdc_20 dX1_isFor_60 rfl (Nat.le_of_ble_eq_true rfl) rfl rfl
theorem eX1_isFor_61 {d : Nat} {a0 a1 a2 : Value} {x : Int32} {st : List Value} {hp : qzH} : qzV d 20 61 [a0, a1, a2, .int x] (st) hp = qzV d 20 62 [a0, a1, a2, .int x] (.int x :: st) hp := qv_iload (i := 3) mdc_20 dX1_isFor_61 rfl rfl rfl
theorem eX1_isFor_62 {d : Nat} {a1 a2 a3 : Value} {x : Nat} {st : List Value} {hp : qzH} : qzV d 20 62 [.ref x, a1, a2, a3] (st) hp = qzV d 20 63 [.ref x, a1, a2, a3] (.ref x :: st) hp := qv_aload (i := 0) mdc_20 dX1_isFor_62 rfl rfl rfl
theorem eX1_isFor_63 {d : Nat} {a0 a1 a2 a3 : Value} {a : Nat} {st : List Value} {hp : qzH} (ha : qzArr 1 a hp.1 = true) : qzV d 20 63 [a0, a1, a2, a3] (.ref a :: st) hp = qzV d 20 66 [a0, a1, a2, a3] (.int (hp.2.2 a 3) :: st) hp := qv_getI mdc_20 dX1_isFor_63 mdo_20 qff_1_39 ⟨by decide, rfl⟩ rfl ha
theorem eX1_isFor_66 {d : Nat} {a0 a1 a2 a3 : Value} {x y : Int32} {st : List Value} {hp : qzH} : qzV d 20 66 [a0, a1, a2, a3] (.int y :: .int x :: st) hp = if y ≤ x then qzV d 20 104 [a0, a1, a2, a3] (st) hp else qzV d 20 69 [a0, a1, a2, a3] (st) hp := qv_if2 mdc_20 dX1_isFor_66 rfl rfl rfl
theorem eX1_isFor_69 {d : Nat} {a0 a1 a3 : Value} {x : Int32} {st : List Value} {hp : qzH} : qzV d 20 69 [a0, a1, .int x, a3] (st) hp = qzV d 20 70 [a0, a1, .int x, a3] (.int x :: st) hp := qv_iload (i := 2) mdc_20 dX1_isFor_69 rfl rfl rfl
theorem eX1_isFor_70 {d : Nat} {a0 a1 a2 a3 : Value} {x : Int32} {st : List Value} {hp : qzH} : qzV d 20 70 [a0, a1, a2, a3] (.int x :: st) hp = if x = 0 then qzV d 20 96 [a0, a1, a2, a3] (st) hp else qzV d 20 73 [a0, a1, a2, a3] (st) hp := qv_if1 mdc_20 dX1_isFor_70 rfl rfl rfl
theorem eX1_isFor_73 {d : Nat} {a1 a2 a3 : Value} {x : Nat} {st : List Value} {hp : qzH} : qzV d 20 73 [.ref x, a1, a2, a3] (st) hp = qzV d 20 74 [.ref x, a1, a2, a3] (.ref x :: st) hp := qv_aload (i := 0) mdc_20 dX1_isFor_73 rfl rfl rfl
theorem eX1_isFor_74 {d : Nat} {a0 a1 a2 a3 : Value} {a : Nat} {st : List Value} {hp : qzH} (ha : qzArr 1 a hp.1 = true) : qzV d 20 74 [a0, a1, a2, a3] (.ref a :: st) hp = qzV d 20 77 [a0, a1, a2, a3] (va_rf (hp.2.1 a 0) :: st) hp := qv_getR mdc_20 dX1_isFor_74 mdo_20 qff_1_9 ⟨by decide, rfl⟩ rfl ha
theorem eX1_isFor_77 {d : Nat} {a0 a1 a2 : Value} {x : Int32} {st : List Value} {hp : qzH} : qzV d 20 77 [a0, a1, a2, .int x] (st) hp = qzV d 20 78 [a0, a1, a2, .int x] (.int x :: st) hp := qv_iload (i := 3) mdc_20 dX1_isFor_77 rfl rfl rfl
theorem eX1_isFor_78 {d : Nat} {a0 a1 a2 a3 : Value} {w0 w1 : Value} {st : List Value} {hp : qzH} (h8 : st.length ≤ 8) : qzV (d + 1) 20 78 [a0, a1, a2, a3] (w1 :: w0 :: st) hp = (qzC d 84 [w0, w1] hp).bind (fun r => qzV (d + 1) 20 81 [a0, a1, a2, a3] (r.1.toList ++ st) r.2) := qv_calls (n := 2) mdc_20 dX1_isFor_78 mdo_20 (by decide) qfc_1_47 ⟨rfl, by decide, rfl⟩ rfl ⟨rfl, rfl, by simp only [List.length_cons]; omega⟩ h8
theorem eX1_isFor_81 {d : Nat} {a0 a2 a3 : Value} {x : Nat} {st : List Value} {hp : qzH} : qzV d 20 81 [a0, .ref x, a2, a3] (st) hp = qzV d 20 82 [a0, .ref x, a2, a3] (.ref x :: st) hp := qv_aload (i := 1) mdc_20 dX1_isFor_81 rfl rfl rfl
theorem eX1_isFor_82 {d : Nat} {a0 a1 a2 a3 : Value} {a : Nat} {st : List Value} {hp : qzH} (ha : qzArr 0 a hp.1 = true) : qzV d 20 82 [a0, a1, a2, a3] (.ref a :: st) hp = qzV d 20 85 [a0, a1, a2, a3] (va_rf (hp.2.1 a 0) :: st) hp := qv_getR mdc_20 dX1_isFor_82 mdo_20 qff_1_25 ⟨by decide, rfl⟩ rfl ha
theorem eX1_isFor_85 {d : Nat} {a0 a1 a2 : Value} {x : Int32} {st : List Value} {hp : qzH} : qzV d 20 85 [a0, a1, a2, .int x] (st) hp = qzV d 20 86 [a0, a1, a2, .int x] (.int x :: st) hp := qv_iload (i := 3) mdc_20 dX1_isFor_85 rfl rfl rfl
theorem eX1_isFor_86 {d : Nat} {a0 a1 a2 a3 : Value} {w0 w1 : Value} {st : List Value} {hp : qzH} (h8 : st.length ≤ 8) : qzV (d + 1) 20 86 [a0, a1, a2, a3] (w1 :: w0 :: st) hp = (qzC d 84 [w0, w1] hp).bind (fun r => qzV (d + 1) 20 89 [a0, a1, a2, a3] (r.1.toList ++ st) r.2) := qv_calls (n := 2) mdc_20 dX1_isFor_86 mdo_20 (by decide) qfc_1_47 ⟨rfl, by decide, rfl⟩ rfl ⟨rfl, rfl, by simp only [List.length_cons]; omega⟩ h8
theorem eX1_isFor_89 {d : Nat} {a0 a1 a2 a3 : Value} {x y : Int32} {st : List Value} {hp : qzH} : qzV d 20 89 [a0, a1, a2, a3] (.int y :: .int x :: st) hp = if ¬ x = y then qzV d 20 96 [a0, a1, a2, a3] (st) hp else qzV d 20 92 [a0, a1, a2, a3] (st) hp := qv_if2 mdc_20 dX1_isFor_89 rfl rfl rfl
theorem eX1_isFor_92 {d : Nat} {a0 a1 a2 a3 : Value} {st : List Value} {hp : qzH} : qzV d 20 92 [a0, a1, a2, a3] (st) hp = qzV d 20 93 [a0, a1, a2, a3] (.int 1 :: st) hp := qv_iconst mdc_20 dX1_isFor_92 il_1 rfl
theorem eX1_isFor_93 {d : Nat} {a0 a1 a2 a3 : Value} {st : List Value} {hp : qzH} : qzV d 20 93 [a0, a1, a2, a3] (st) hp = qzV d 20 97 [a0, a1, a2, a3] (st) hp := qv_goto mdc_20 dX1_isFor_93 rfl
theorem eX1_isFor_96 {d : Nat} {a0 a1 a2 a3 : Value} {st : List Value} {hp : qzH} : qzV d 20 96 [a0, a1, a2, a3] (st) hp = qzV d 20 97 [a0, a1, a2, a3] (.int 0 :: st) hp := qv_iconst mdc_20 dX1_isFor_96 il_0 rfl
theorem eX1_isFor_97 {d : Nat} {a0 a1 a2 a3 : Value} {x : Int32} {st : List Value} {hp : qzH} : qzV d 20 97 [a0, a1, a2, a3] (.int x :: st) hp = qzV d 20 98 [a0, a1, .int x, a3] (st) hp := qv_istore (i := 2) mdc_20 dX1_isFor_97 rfl (Nat.le_of_ble_eq_true rfl) rfl rfl
theorem eX1_isFor_98 {d : Nat} {a0 a1 a2 : Value} {x : Int32} {st : List Value} {hp : qzH} : qzV d 20 98 [a0, a1, a2, .int x] (st) hp = qzV d 20 101 [a0, a1, a2, .int (x + 1)] (st) hp := qv_iinc mdc_20 dX1_isFor_98 rfl il_1 rfl rfl
theorem eX1_isFor_101 {d : Nat} {a0 a1 a2 a3 : Value} {st : List Value} {hp : qzH} : qzV d 20 101 [a0, a1, a2, a3] (st) hp = qzV d 20 61 [a0, a1, a2, a3] (st) hp := qv_goto mdc_20 dX1_isFor_101 rfl
theorem eX1_isFor_104 {d : Nat} {a0 a1 a3 : Value} {x : Int32} {st : List Value} {hp : qzH} : qzV d 20 104 [a0, a1, .int x, a3] (st) hp = qzV d 20 105 [a0, a1, .int x, a3] (.int x :: st) hp := qv_iload (i := 2) mdc_20 dX1_isFor_104 rfl rfl rfl
theorem eX1_isFor_105 {d : Nat} {a0 a1 a2 a3 : Value} {v : Int32} {hp : qzH} (hn : narrow .boolean (.int v) = .int v) : qzV d 20 105 [a0, a1, a2, a3] [.int v] hp = some (some (.int v), hp) := qv_iret mdc_20 dX1_isFor_105 mdr_20 hn
theorem dX1_told_0 : decode cX1_told 0 = .ok (.iload_n 1, 1) := by decide +kernel
theorem dX1_told_1 : decode cX1_told 1 = .ok (.iload_n 2, 1) := by decide +kernel
theorem dX1_told_2 : decode cX1_told 2 = .ok (.if_icmp .lt 7, 3) := by decide +kernel
theorem dX1_told_5 : decode cX1_told 5 = .ok (.iconst 0, 1) := by decide +kernel
theorem dX1_told_6 : decode cX1_told 6 = .ok (.goto 18, 3) := by decide +kernel
theorem dX1_told_9 : decode cX1_told 9 = .ok (.aload_n 0, 1) := by decide +kernel
theorem dX1_told_10 : decode cX1_told 10 = .ok (.getfield 18, 3) := by decide +kernel
theorem dX1_told_13 : decode cX1_told 13 = .ok (.iload_n 1, 1) := by decide +kernel
theorem dX1_told_14 : decode cX1_told 14 = .ok (.iload_n 2, 1) := by decide +kernel
theorem dX1_told_15 : decode cX1_told 15 = .ok (.iload_n 3, 1) := by decide +kernel
theorem dX1_told_16 : decode cX1_told 16 = .ok (.iload 4, 2) := by decide +kernel
theorem dX1_told_18 : decode cX1_told 18 = .ok (.invokestatic 51, 3) := by decide +kernel
theorem dX1_told_21 : decode cX1_told 21 = .ok (.invokestatic 47, 3) := by decide +kernel
theorem dX1_told_24 : decode cX1_told 24 = .ok (.ireturn, 1) := by decide +kernel
theorem eX1_told_0 {d : Nat} {a0 a2 a3 a4 : Value} {x : Int32} {st : List Value} {hp : qzH} : qzV d 21 0 [a0, .int x, a2, a3, a4] (st) hp = qzV d 21 1 [a0, .int x, a2, a3, a4] (.int x :: st) hp := qv_iload (i := 1) mdc_21 dX1_told_0 rfl rfl rfl
theorem eX1_told_1 {d : Nat} {a0 a1 a3 a4 : Value} {x : Int32} {st : List Value} {hp : qzH} : qzV d 21 1 [a0, a1, .int x, a3, a4] (st) hp = qzV d 21 2 [a0, a1, .int x, a3, a4] (.int x :: st) hp := qv_iload (i := 2) mdc_21 dX1_told_1 rfl rfl rfl
theorem eX1_told_2 {d : Nat} {a0 a1 a2 a3 a4 : Value} {x y : Int32} {st : List Value} {hp : qzH} : qzV d 21 2 [a0, a1, a2, a3, a4] (.int y :: .int x :: st) hp = if x < y then qzV d 21 9 [a0, a1, a2, a3, a4] (st) hp else qzV d 21 5 [a0, a1, a2, a3, a4] (st) hp := qv_if2 mdc_21 dX1_told_2 rfl rfl rfl
theorem eX1_told_5 {d : Nat} {a0 a1 a2 a3 a4 : Value} {st : List Value} {hp : qzH} : qzV d 21 5 [a0, a1, a2, a3, a4] (st) hp = qzV d 21 6 [a0, a1, a2, a3, a4] (.int 0 :: st) hp := qv_iconst mdc_21 dX1_told_5 il_0 rfl
theorem eX1_told_6 {d : Nat} {a0 a1 a2 a3 a4 : Value} {st : List Value} {hp : qzH} : qzV d 21 6 [a0, a1, a2, a3, a4] (st) hp = qzV d 21 24 [a0, a1, a2, a3, a4] (st) hp := qv_goto mdc_21 dX1_told_6 rfl
theorem eX1_told_9 {d : Nat} {a1 a2 a3 a4 : Value} {x : Nat} {st : List Value} {hp : qzH} : qzV d 21 9 [.ref x, a1, a2, a3, a4] (st) hp = qzV d 21 10 [.ref x, a1, a2, a3, a4] (.ref x :: st) hp := qv_aload (i := 0) mdc_21 dX1_told_9 rfl rfl rfl
theorem eX1_told_10 {d : Nat} {a0 a1 a2 a3 a4 : Value} {a : Nat} {st : List Value} {hp : qzH} (ha : qzArr 1 a hp.1 = true) : qzV d 21 10 [a0, a1, a2, a3, a4] (.ref a :: st) hp = qzV d 21 13 [a0, a1, a2, a3, a4] (va_rf (hp.2.1 a 2) :: st) hp := qv_getR mdc_21 dX1_told_10 mdo_21 qff_1_18 ⟨by decide, rfl⟩ rfl ha
theorem eX1_told_13 {d : Nat} {a0 a2 a3 a4 : Value} {x : Int32} {st : List Value} {hp : qzH} : qzV d 21 13 [a0, .int x, a2, a3, a4] (st) hp = qzV d 21 14 [a0, .int x, a2, a3, a4] (.int x :: st) hp := qv_iload (i := 1) mdc_21 dX1_told_13 rfl rfl rfl
theorem eX1_told_14 {d : Nat} {a0 a1 a3 a4 : Value} {x : Int32} {st : List Value} {hp : qzH} : qzV d 21 14 [a0, a1, .int x, a3, a4] (st) hp = qzV d 21 15 [a0, a1, .int x, a3, a4] (.int x :: st) hp := qv_iload (i := 2) mdc_21 dX1_told_14 rfl rfl rfl
theorem eX1_told_15 {d : Nat} {a0 a1 a2 a4 : Value} {x : Int32} {st : List Value} {hp : qzH} : qzV d 21 15 [a0, a1, a2, .int x, a4] (st) hp = qzV d 21 16 [a0, a1, a2, .int x, a4] (.int x :: st) hp := qv_iload (i := 3) mdc_21 dX1_told_15 rfl rfl rfl
theorem eX1_told_16 {d : Nat} {a0 a1 a2 a3 : Value} {x : Int32} {st : List Value} {hp : qzH} : qzV d 21 16 [a0, a1, a2, a3, .int x] (st) hp = qzV d 21 18 [a0, a1, a2, a3, .int x] (.int x :: st) hp := qv_iload (i := 4) mdc_21 dX1_told_16 rfl rfl rfl
theorem eX1_told_18 {d : Nat} {a0 a1 a2 a3 a4 : Value} {w0 w1 w2 w3 : Value} {st : List Value} {hp : qzH} (h8 : st.length ≤ 8) : qzV (d + 1) 21 18 [a0, a1, a2, a3, a4] (w3 :: w2 :: w1 :: w0 :: st) hp = (qzC d 23 [w0, w1, w2, w3] hp).bind (fun r => qzV (d + 1) 21 21 [a0, a1, a2, a3, a4] (r.1.toList ++ st) r.2) := qv_calls (n := 4) mdc_21 dX1_told_18 mdo_21 (by decide) qfc_1_51 ⟨rfl, by decide, rfl⟩ rfl ⟨rfl, rfl, by simp only [List.length_cons]; omega⟩ h8
theorem eX1_told_21 {d : Nat} {a0 a1 a2 a3 a4 : Value} {w0 w1 : Value} {st : List Value} {hp : qzH} (h8 : st.length ≤ 8) : qzV (d + 1) 21 21 [a0, a1, a2, a3, a4] (w1 :: w0 :: st) hp = (qzC d 84 [w0, w1] hp).bind (fun r => qzV (d + 1) 21 24 [a0, a1, a2, a3, a4] (r.1.toList ++ st) r.2) := qv_calls (n := 2) mdc_21 dX1_told_21 mdo_21 (by decide) qfc_1_47 ⟨rfl, by decide, rfl⟩ rfl ⟨rfl, rfl, by simp only [List.length_cons]; omega⟩ h8
theorem eX1_told_24 {d : Nat} {a0 a1 a2 a3 a4 : Value} {v : Int32} {hp : qzH} : qzV d 21 24 [a0, a1, a2, a3, a4] [.int v] hp = some (some (.int v), hp) := qv_iret mdc_21 dX1_told_24 mdr_21 rfl
theorem dX1_keep_0 : decode cX1_keep 0 = .ok (.aload_n 0, 1) := by decide +kernel
theorem dX1_keep_1 : decode cX1_keep 1 = .ok (.getfield 18, 3) := by decide +kernel
theorem dX1_keep_4 : decode cX1_keep 4 = .ok (.iload_n 1, 1) := by decide +kernel
theorem dX1_keep_5 : decode cX1_keep 5 = .ok (.iload_n 2, 1) := by decide +kernel
theorem dX1_keep_6 : decode cX1_keep 6 = .ok (.iload_n 3, 1) := by decide +kernel
theorem dX1_keep_7 : decode cX1_keep 7 = .ok (.iload 4, 2) := by decide +kernel
theorem dX1_keep_9 : decode cX1_keep 9 = .ok (.invokestatic 51, 3) := by decide +kernel
theorem dX1_keep_12 : decode cX1_keep 12 = .ok (.iload 5, 2) := by decide +kernel
theorem dX1_keep_14 : decode cX1_keep 14 = .ok (.invokestatic 55, 3) := by decide +kernel
theorem dX1_keep_17 : decode cX1_keep 17 = .ok (.return_, 1) := by decide +kernel
theorem eX1_keep_0 {d : Nat} {a1 a2 a3 a4 a5 : Value} {x : Nat} {st : List Value} {hp : qzH} : qzV d 22 0 [.ref x, a1, a2, a3, a4, a5] (st) hp = qzV d 22 1 [.ref x, a1, a2, a3, a4, a5] (.ref x :: st) hp := qv_aload (i := 0) mdc_22 dX1_keep_0 rfl rfl rfl
theorem eX1_keep_1 {d : Nat} {a0 a1 a2 a3 a4 a5 : Value} {a : Nat} {st : List Value} {hp : qzH} (ha : qzArr 1 a hp.1 = true) : qzV d 22 1 [a0, a1, a2, a3, a4, a5] (.ref a :: st) hp = qzV d 22 4 [a0, a1, a2, a3, a4, a5] (va_rf (hp.2.1 a 2) :: st) hp := qv_getR mdc_22 dX1_keep_1 mdo_22 qff_1_18 ⟨by decide, rfl⟩ rfl ha
theorem eX1_keep_4 {d : Nat} {a0 a2 a3 a4 a5 : Value} {x : Int32} {st : List Value} {hp : qzH} : qzV d 22 4 [a0, .int x, a2, a3, a4, a5] (st) hp = qzV d 22 5 [a0, .int x, a2, a3, a4, a5] (.int x :: st) hp := qv_iload (i := 1) mdc_22 dX1_keep_4 rfl rfl rfl
theorem eX1_keep_5 {d : Nat} {a0 a1 a3 a4 a5 : Value} {x : Int32} {st : List Value} {hp : qzH} : qzV d 22 5 [a0, a1, .int x, a3, a4, a5] (st) hp = qzV d 22 6 [a0, a1, .int x, a3, a4, a5] (.int x :: st) hp := qv_iload (i := 2) mdc_22 dX1_keep_5 rfl rfl rfl
theorem eX1_keep_6 {d : Nat} {a0 a1 a2 a4 a5 : Value} {x : Int32} {st : List Value} {hp : qzH} : qzV d 22 6 [a0, a1, a2, .int x, a4, a5] (st) hp = qzV d 22 7 [a0, a1, a2, .int x, a4, a5] (.int x :: st) hp := qv_iload (i := 3) mdc_22 dX1_keep_6 rfl rfl rfl
theorem eX1_keep_7 {d : Nat} {a0 a1 a2 a3 a5 : Value} {x : Int32} {st : List Value} {hp : qzH} : qzV d 22 7 [a0, a1, a2, a3, .int x, a5] (st) hp = qzV d 22 9 [a0, a1, a2, a3, .int x, a5] (.int x :: st) hp := qv_iload (i := 4) mdc_22 dX1_keep_7 rfl rfl rfl
theorem eX1_keep_9 {d : Nat} {a0 a1 a2 a3 a4 a5 : Value} {w0 w1 w2 w3 : Value} {st : List Value} {hp : qzH} (h8 : st.length ≤ 8) : qzV (d + 1) 22 9 [a0, a1, a2, a3, a4, a5] (w3 :: w2 :: w1 :: w0 :: st) hp = (qzC d 23 [w0, w1, w2, w3] hp).bind (fun r => qzV (d + 1) 22 12 [a0, a1, a2, a3, a4, a5] (r.1.toList ++ st) r.2) := qv_calls (n := 4) mdc_22 dX1_keep_9 mdo_22 (by decide) qfc_1_51 ⟨rfl, by decide, rfl⟩ rfl ⟨rfl, rfl, by simp only [List.length_cons]; omega⟩ h8
theorem eX1_keep_12 {d : Nat} {a0 a1 a2 a3 a4 : Value} {x : Int32} {st : List Value} {hp : qzH} : qzV d 22 12 [a0, a1, a2, a3, a4, .int x] (st) hp = qzV d 22 14 [a0, a1, a2, a3, a4, .int x] (.int x :: st) hp := qv_iload (i := 5) mdc_22 dX1_keep_12 rfl rfl rfl
theorem eX1_keep_14 {d : Nat} {a0 a1 a2 a3 a4 a5 : Value} {w0 w1 w2 : Value} {st : List Value} {hp : qzH} (h8 : st.length ≤ 8) : qzV (d + 1) 22 14 [a0, a1, a2, a3, a4, a5] (w2 :: w1 :: w0 :: st) hp = (qzC d 85 [w0, w1, w2] hp).bind (fun r => qzV (d + 1) 22 17 [a0, a1, a2, a3, a4, a5] (r.1.toList ++ st) r.2) := qv_calls (n := 3) mdc_22 dX1_keep_14 mdo_22 (by decide) qfc_1_55 ⟨rfl, by decide, rfl⟩ rfl ⟨rfl, rfl, by simp only [List.length_cons]; omega⟩ h8
theorem eX1_keep_17 {d : Nat} {a0 a1 a2 a3 a4 a5 : Value} {hp : qzH} : qzV d 22 17 [a0, a1, a2, a3, a4, a5] [] hp = some (none, hp) := qv_vret mdc_22 dX1_keep_17 mdr_22
theorem dX1_place_0 : decode cX1_place 0 = .ok (.iload_n 1, 1) := by decide +kernel
theorem dX1_place_1 : decode cX1_place 1 = .ok (.iload_n 1, 1) := by decide +kernel
theorem dX1_place_2 : decode cX1_place 2 = .ok (.iconst 1, 1) := by decide +kernel
theorem dX1_place_3 : decode cX1_place 3 = .ok (.isub, 1) := by decide +kernel
theorem dX1_place_4 : decode cX1_place 4 = .ok (.imul, 1) := by decide +kernel
theorem dX1_place_5 : decode cX1_place 5 = .ok (.iconst 2, 1) := by decide +kernel
theorem dX1_place_6 : decode cX1_place 6 = .ok (.idiv, 1) := by decide +kernel
theorem dX1_place_7 : decode cX1_place 7 = .ok (.iload_n 0, 1) := by decide +kernel
theorem dX1_place_8 : decode cX1_place 8 = .ok (.iadd, 1) := by decide +kernel
theorem dX1_place_9 : decode cX1_place 9 = .ok (.bipush 7, 2) := by decide +kernel
theorem dX1_place_11 : decode cX1_place 11 = .ok (.imul, 1) := by decide +kernel
theorem dX1_place_12 : decode cX1_place 12 = .ok (.iload_n 2, 1) := by decide +kernel
theorem dX1_place_13 : decode cX1_place 13 = .ok (.iadd, 1) := by decide +kernel
theorem dX1_place_14 : decode cX1_place 14 = .ok (.bipush 7, 2) := by decide +kernel
theorem dX1_place_16 : decode cX1_place 16 = .ok (.imul, 1) := by decide +kernel
theorem dX1_place_17 : decode cX1_place 17 = .ok (.iload_n 3, 1) := by decide +kernel
theorem dX1_place_18 : decode cX1_place 18 = .ok (.iadd, 1) := by decide +kernel
theorem dX1_place_19 : decode cX1_place 19 = .ok (.ireturn, 1) := by decide +kernel
theorem eX1_place_0 {d : Nat} {a0 a2 a3 : Value} {x : Int32} {st : List Value} {hp : qzH} : qzV d 23 0 [a0, .int x, a2, a3] (st) hp = qzV d 23 1 [a0, .int x, a2, a3] (.int x :: st) hp := qv_iload (i := 1) mdc_23 dX1_place_0 rfl rfl rfl
theorem eX1_place_1 {d : Nat} {a0 a2 a3 : Value} {x : Int32} {st : List Value} {hp : qzH} : qzV d 23 1 [a0, .int x, a2, a3] (st) hp = qzV d 23 2 [a0, .int x, a2, a3] (.int x :: st) hp := qv_iload (i := 1) mdc_23 dX1_place_1 rfl rfl rfl
theorem eX1_place_2 {d : Nat} {a0 a1 a2 a3 : Value} {st : List Value} {hp : qzH} : qzV d 23 2 [a0, a1, a2, a3] (st) hp = qzV d 23 3 [a0, a1, a2, a3] (.int 1 :: st) hp := qv_iconst mdc_23 dX1_place_2 il_1 rfl
theorem eX1_place_3 {d : Nat} {a0 a1 a2 a3 : Value} {x y : Int32} {st : List Value} {hp : qzH} : qzV d 23 3 [a0, a1, a2, a3] (.int y :: .int x :: st) hp = qzV d 23 4 [a0, a1, a2, a3] (.int (x - y) :: st) hp := qv_bin (f := fun x y => x - y) mdc_23 dX1_place_3 rfl rfl
theorem eX1_place_4 {d : Nat} {a0 a1 a2 a3 : Value} {x y : Int32} {st : List Value} {hp : qzH} : qzV d 23 4 [a0, a1, a2, a3] (.int y :: .int x :: st) hp = qzV d 23 5 [a0, a1, a2, a3] (.int (x * y) :: st) hp := qv_bin (f := fun x y => x * y) mdc_23 dX1_place_4 rfl rfl
theorem eX1_place_5 {d : Nat} {a0 a1 a2 a3 : Value} {st : List Value} {hp : qzH} : qzV d 23 5 [a0, a1, a2, a3] (st) hp = qzV d 23 6 [a0, a1, a2, a3] (.int 2 :: st) hp := qv_iconst mdc_23 dX1_place_5 il_2 rfl
theorem eX1_place_6 {d : Nat} {a0 a1 a2 a3 : Value} {x y : Int32} {st : List Value} {hp : qzH} (hy : ¬ y = 0) : qzV d 23 6 [a0, a1, a2, a3] (.int y :: .int x :: st) hp = qzV d 23 7 [a0, a1, a2, a3] (.int (x / y) :: st) hp := qv_binD (f := fun x y => x / y) mdc_23 dX1_place_6 rfl rfl hy
theorem eX1_place_7 {d : Nat} {a1 a2 a3 : Value} {x : Int32} {st : List Value} {hp : qzH} : qzV d 23 7 [.int x, a1, a2, a3] (st) hp = qzV d 23 8 [.int x, a1, a2, a3] (.int x :: st) hp := qv_iload (i := 0) mdc_23 dX1_place_7 rfl rfl rfl
theorem eX1_place_8 {d : Nat} {a0 a1 a2 a3 : Value} {x y : Int32} {st : List Value} {hp : qzH} : qzV d 23 8 [a0, a1, a2, a3] (.int y :: .int x :: st) hp = qzV d 23 9 [a0, a1, a2, a3] (.int (x + y) :: st) hp := qv_bin (f := fun x y => x + y) mdc_23 dX1_place_8 rfl rfl
theorem eX1_place_9 {d : Nat} {a0 a1 a2 a3 : Value} {st : List Value} {hp : qzH} : qzV d 23 9 [a0, a1, a2, a3] (st) hp = qzV d 23 11 [a0, a1, a2, a3] (.int 7 :: st) hp := qv_bipush mdc_23 dX1_place_9 ib_7 rfl
theorem eX1_place_11 {d : Nat} {a0 a1 a2 a3 : Value} {x y : Int32} {st : List Value} {hp : qzH} : qzV d 23 11 [a0, a1, a2, a3] (.int y :: .int x :: st) hp = qzV d 23 12 [a0, a1, a2, a3] (.int (x * y) :: st) hp := qv_bin (f := fun x y => x * y) mdc_23 dX1_place_11 rfl rfl
theorem eX1_place_12 {d : Nat} {a0 a1 a3 : Value} {x : Int32} {st : List Value} {hp : qzH} : qzV d 23 12 [a0, a1, .int x, a3] (st) hp = qzV d 23 13 [a0, a1, .int x, a3] (.int x :: st) hp := qv_iload (i := 2) mdc_23 dX1_place_12 rfl rfl rfl
theorem eX1_place_13 {d : Nat} {a0 a1 a2 a3 : Value} {x y : Int32} {st : List Value} {hp : qzH} : qzV d 23 13 [a0, a1, a2, a3] (.int y :: .int x :: st) hp = qzV d 23 14 [a0, a1, a2, a3] (.int (x + y) :: st) hp := qv_bin (f := fun x y => x + y) mdc_23 dX1_place_13 rfl rfl
theorem eX1_place_14 {d : Nat} {a0 a1 a2 a3 : Value} {st : List Value} {hp : qzH} : qzV d 23 14 [a0, a1, a2, a3] (st) hp = qzV d 23 16 [a0, a1, a2, a3] (.int 7 :: st) hp := qv_bipush mdc_23 dX1_place_14 ib_7 rfl
theorem eX1_place_16 {d : Nat} {a0 a1 a2 a3 : Value} {x y : Int32} {st : List Value} {hp : qzH} : qzV d 23 16 [a0, a1, a2, a3] (.int y :: .int x :: st) hp = qzV d 23 17 [a0, a1, a2, a3] (.int (x * y) :: st) hp := qv_bin (f := fun x y => x * y) mdc_23 dX1_place_16 rfl rfl
theorem eX1_place_17 {d : Nat} {a0 a1 a2 : Value} {x : Int32} {st : List Value} {hp : qzH} : qzV d 23 17 [a0, a1, a2, .int x] (st) hp = qzV d 23 18 [a0, a1, a2, .int x] (.int x :: st) hp := qv_iload (i := 3) mdc_23 dX1_place_17 rfl rfl rfl
theorem eX1_place_18 {d : Nat} {a0 a1 a2 a3 : Value} {x y : Int32} {st : List Value} {hp : qzH} : qzV d 23 18 [a0, a1, a2, a3] (.int y :: .int x :: st) hp = qzV d 23 19 [a0, a1, a2, a3] (.int (x + y) :: st) hp := qv_bin (f := fun x y => x + y) mdc_23 dX1_place_18 rfl rfl
theorem eX1_place_19 {d : Nat} {a0 a1 a2 a3 : Value} {v : Int32} {hp : qzH} : qzV d 23 19 [a0, a1, a2, a3] [.int v] hp = some (some (.int v), hp) := qv_iret mdc_23 dX1_place_19 mdr_23 rfl
theorem dJ7_fill_53178_0 : decode cJ7_fill_53178 0 = .ok (.iconst 0, 1) := by decide +kernel
theorem dJ7_fill_53178_1 : decode cJ7_fill_53178 1 = .ok (.istore_n 2, 1) := by decide +kernel
theorem dJ7_fill_53178_2 : decode cJ7_fill_53178 2 = .ok (.aload_n 0, 1) := by decide +kernel
theorem dJ7_fill_53178_3 : decode cJ7_fill_53178 3 = .ok (.arraylength, 1) := by decide +kernel
theorem dJ7_fill_53178_4 : decode cJ7_fill_53178 4 = .ok (.istore_n 3, 1) := by decide +kernel
theorem dJ7_fill_53178_5 : decode cJ7_fill_53178 5 = .ok (.iload_n 2, 1) := by decide +kernel
theorem dJ7_fill_53178_6 : decode cJ7_fill_53178 6 = .ok (.iload_n 3, 1) := by decide +kernel
theorem dJ7_fill_53178_7 : decode cJ7_fill_53178 7 = .ok (.if_icmp .ge 13, 3) := by decide +kernel
theorem dJ7_fill_53178_10 : decode cJ7_fill_53178 10 = .ok (.aload_n 0, 1) := by decide +kernel
theorem dJ7_fill_53178_11 : decode cJ7_fill_53178 11 = .ok (.iload_n 2, 1) := by decide +kernel
theorem dJ7_fill_53178_12 : decode cJ7_fill_53178 12 = .ok (.iload_n 1, 1) := by decide +kernel
theorem dJ7_fill_53178_13 : decode cJ7_fill_53178 13 = .ok (.iastore, 1) := by decide +kernel
theorem dJ7_fill_53178_14 : decode cJ7_fill_53178 14 = .ok (.iinc 2 1, 3) := by decide +kernel
theorem dJ7_fill_53178_17 : decode cJ7_fill_53178 17 = .ok (.goto (-12), 3) := by decide +kernel
theorem dJ7_fill_53178_20 : decode cJ7_fill_53178 20 = .ok (.return_, 1) := by decide +kernel
theorem eJ7_fill_53178_0 {d : Nat} {a0 a1 a2 a3 : Value} {st : List Value} {hp : qzH} : qzV d 148 0 [a0, a1, a2, a3] (st) hp = qzV d 148 1 [a0, a1, a2, a3] (.int 0 :: st) hp := qv_iconst mdc_148 dJ7_fill_53178_0 il_0 rfl
theorem eJ7_fill_53178_1 {d : Nat} {a0 a1 a2 a3 : Value} {x : Int32} {st : List Value} {hp : qzH} : qzV d 148 1 [a0, a1, a2, a3] (.int x :: st) hp = qzV d 148 2 [a0, a1, .int x, a3] (st) hp := qv_istore (i := 2) mdc_148 dJ7_fill_53178_1 rfl (Nat.le_of_ble_eq_true rfl) rfl rfl
theorem eJ7_fill_53178_2 {d : Nat} {a1 a2 a3 : Value} {x : Nat} {st : List Value} {hp : qzH} : qzV d 148 2 [.ref x, a1, a2, a3] (st) hp = qzV d 148 3 [.ref x, a1, a2, a3] (.ref x :: st) hp := qv_aload (i := 0) mdc_148 dJ7_fill_53178_2 rfl rfl rfl
theorem eJ7_fill_53178_3 {d : Nat} {a0 a1 a2 a3 : Value} {a : Nat} {st : List Value} {hp : qzH} (ha : qzArr 4 a hp.1 = true ∨ qzArr 5 a hp.1 = true ∨ qzArr 6 a hp.1 = true) : qzV d 148 3 [a0, a1, a2, a3] (.ref a :: st) hp = qzV d 148 4 [a0, a1, a2, a3] (.int (Int32.ofNat (qzk a).2) :: st) hp := qv_alen mdc_148 dJ7_fill_53178_3 rfl ha
theorem eJ7_fill_53178_4 {d : Nat} {a0 a1 a2 a3 : Value} {x : Int32} {st : List Value} {hp : qzH} : qzV d 148 4 [a0, a1, a2, a3] (.int x :: st) hp = qzV d 148 5 [a0, a1, a2, .int x] (st) hp := qv_istore (i := 3) mdc_148 dJ7_fill_53178_4 rfl (Nat.le_of_ble_eq_true rfl) rfl rfl
theorem eJ7_fill_53178_5 {d : Nat} {a0 a1 a3 : Value} {x : Int32} {st : List Value} {hp : qzH} : qzV d 148 5 [a0, a1, .int x, a3] (st) hp = qzV d 148 6 [a0, a1, .int x, a3] (.int x :: st) hp := qv_iload (i := 2) mdc_148 dJ7_fill_53178_5 rfl rfl rfl
theorem eJ7_fill_53178_6 {d : Nat} {a0 a1 a2 : Value} {x : Int32} {st : List Value} {hp : qzH} : qzV d 148 6 [a0, a1, a2, .int x] (st) hp = qzV d 148 7 [a0, a1, a2, .int x] (.int x :: st) hp := qv_iload (i := 3) mdc_148 dJ7_fill_53178_6 rfl rfl rfl
theorem eJ7_fill_53178_7 {d : Nat} {a0 a1 a2 a3 : Value} {x y : Int32} {st : List Value} {hp : qzH} : qzV d 148 7 [a0, a1, a2, a3] (.int y :: .int x :: st) hp = if y ≤ x then qzV d 148 20 [a0, a1, a2, a3] (st) hp else qzV d 148 10 [a0, a1, a2, a3] (st) hp := qv_if2 mdc_148 dJ7_fill_53178_7 rfl rfl rfl
theorem eJ7_fill_53178_10 {d : Nat} {a1 a2 a3 : Value} {x : Nat} {st : List Value} {hp : qzH} : qzV d 148 10 [.ref x, a1, a2, a3] (st) hp = qzV d 148 11 [.ref x, a1, a2, a3] (.ref x :: st) hp := qv_aload (i := 0) mdc_148 dJ7_fill_53178_10 rfl rfl rfl
theorem eJ7_fill_53178_11 {d : Nat} {a0 a1 a3 : Value} {x : Int32} {st : List Value} {hp : qzH} : qzV d 148 11 [a0, a1, .int x, a3] (st) hp = qzV d 148 12 [a0, a1, .int x, a3] (.int x :: st) hp := qv_iload (i := 2) mdc_148 dJ7_fill_53178_11 rfl rfl rfl
theorem eJ7_fill_53178_12 {d : Nat} {a0 a2 a3 : Value} {x : Int32} {st : List Value} {hp : qzH} : qzV d 148 12 [a0, .int x, a2, a3] (st) hp = qzV d 148 13 [a0, .int x, a2, a3] (.int x :: st) hp := qv_iload (i := 1) mdc_148 dJ7_fill_53178_12 rfl rfl rfl
theorem eJ7_fill_53178_13 {d : Nat} {a0 a1 a2 a3 : Value} {i x : Int32} {a : Nat} {st : List Value} {hp : qzH} (ha : qzArr 4 a hp.1 = true) (hi : qzIn i (qzk a).2 = true) : qzV d 148 13 [a0, a1, a2, a3] (.int x :: .int i :: .ref a :: st) hp = qzV d 148 14 [a0, a1, a2, a3] st (hp.1, hp.2.1, qzUp hp.2.2 a i.toNatClampNeg x) := qv_iast mdc_148 dJ7_fill_53178_13 rfl ha hi
theorem eJ7_fill_53178_14 {d : Nat} {a0 a1 a3 : Value} {x : Int32} {st : List Value} {hp : qzH} : qzV d 148 14 [a0, a1, .int x, a3] (st) hp = qzV d 148 17 [a0, a1, .int (x + 1), a3] (st) hp := qv_iinc mdc_148 dJ7_fill_53178_14 rfl il_1 rfl rfl
theorem eJ7_fill_53178_17 {d : Nat} {a0 a1 a2 a3 : Value} {st : List Value} {hp : qzH} : qzV d 148 17 [a0, a1, a2, a3] (st) hp = qzV d 148 5 [a0, a1, a2, a3] (st) hp := qv_goto mdc_148 dJ7_fill_53178_17 rfl
theorem eJ7_fill_53178_20 {d : Nat} {a0 a1 a2 a3 : Value} {hp : qzH} : qzV d 148 20 [a0, a1, a2, a3] [] hp = some (none, hp) := qv_vret mdc_148 dJ7_fill_53178_20 mdr_148
