theorem dX3_init_0 : decode cX3_init 0 = .ok (.aload_n 0, 1) := by decide +kernel
theorem dX3_init_1 : decode cX3_init 1 = .ok (.invokespecial 1, 3) := by decide +kernel
theorem dX3_init_4 : decode cX3_init 4 = .ok (.aload_n 0, 1) := by decide +kernel
theorem dX3_init_5 : decode cX3_init 5 = .ok (.bipush 120, 2) := by decide +kernel
theorem dX3_init_7 : decode cX3_init 7 = .ok (.newarray .int, 2) := by decide +kernel
theorem dX3_init_9 : decode cX3_init 9 = .ok (.putfield 7, 3) := by decide +kernel
theorem dX3_init_12 : decode cX3_init 12 = .ok (.aload_n 0, 1) := by decide +kernel
theorem dX3_init_13 : decode cX3_init 13 = .ok (.bipush 120, 2) := by decide +kernel
theorem dX3_init_15 : decode cX3_init 15 = .ok (.newarray .int, 2) := by decide +kernel
theorem dX3_init_17 : decode cX3_init 17 = .ok (.putfield 13, 3) := by decide +kernel
theorem dX3_init_20 : decode cX3_init 20 = .ok (.aload_n 0, 1) := by decide +kernel
theorem dX3_init_21 : decode cX3_init 21 = .ok (.sipush 480, 3) := by decide +kernel
theorem dX3_init_24 : decode cX3_init 24 = .ok (.newarray .int, 2) := by decide +kernel
theorem dX3_init_26 : decode cX3_init 26 = .ok (.putfield 16, 3) := by decide +kernel
theorem dX3_init_29 : decode cX3_init 29 = .ok (.aload_n 0, 1) := by decide +kernel
theorem dX3_init_30 : decode cX3_init 30 = .ok (.bipush 120, 2) := by decide +kernel
theorem dX3_init_32 : decode cX3_init 32 = .ok (.newarray .int, 2) := by decide +kernel
theorem dX3_init_34 : decode cX3_init 34 = .ok (.putfield 19, 3) := by decide +kernel
theorem dX3_init_37 : decode cX3_init 37 = .ok (.aload_n 0, 1) := by decide +kernel
theorem dX3_init_38 : decode cX3_init 38 = .ok (.bipush 60, 2) := by decide +kernel
theorem dX3_init_40 : decode cX3_init 40 = .ok (.newarray .int, 2) := by decide +kernel
theorem dX3_init_42 : decode cX3_init 42 = .ok (.putfield 22, 3) := by decide +kernel
theorem dX3_init_45 : decode cX3_init 45 = .ok (.aload_n 0, 1) := by decide +kernel
theorem dX3_init_46 : decode cX3_init 46 = .ok (.sipush 10290, 3) := by decide +kernel
theorem dX3_init_49 : decode cX3_init 49 = .ok (.newarray .int, 2) := by decide +kernel
theorem dX3_init_51 : decode cX3_init 51 = .ok (.putfield 25, 3) := by decide +kernel
theorem dX3_init_54 : decode cX3_init 54 = .ok (.aload_n 0, 1) := by decide +kernel
theorem dX3_init_55 : decode cX3_init 55 = .ok (.getfield 7, 3) := by decide +kernel
theorem dX3_init_58 : decode cX3_init 58 = .ok (.iconst 5, 1) := by decide +kernel
theorem dX3_init_59 : decode cX3_init 59 = .ok (.iconst 4, 1) := by decide +kernel
theorem dX3_init_60 : decode cX3_init 60 = .ok (.iastore, 1) := by decide +kernel
theorem dX3_init_61 : decode cX3_init 61 = .ok (.aload_n 0, 1) := by decide +kernel
theorem dX3_init_62 : decode cX3_init 62 = .ok (.getfield 7, 3) := by decide +kernel
theorem dX3_init_65 : decode cX3_init 65 = .ok (.bipush 6, 2) := by decide +kernel
theorem dX3_init_67 : decode cX3_init 67 = .ok (.iconst 3, 1) := by decide +kernel
theorem dX3_init_68 : decode cX3_init 68 = .ok (.iastore, 1) := by decide +kernel
theorem dX3_init_69 : decode cX3_init 69 = .ok (.aload_n 0, 1) := by decide +kernel
theorem dX3_init_70 : decode cX3_init 70 = .ok (.getfield 7, 3) := by decide +kernel
theorem dX3_init_73 : decode cX3_init 73 = .ok (.bipush 7, 2) := by decide +kernel
theorem dX3_init_75 : decode cX3_init 75 = .ok (.iconst 2, 1) := by decide +kernel
theorem dX3_init_76 : decode cX3_init 76 = .ok (.iastore, 1) := by decide +kernel
theorem dX3_init_77 : decode cX3_init 77 = .ok (.aload_n 0, 1) := by decide +kernel
theorem dX3_init_78 : decode cX3_init 78 = .ok (.getfield 7, 3) := by decide +kernel
theorem dX3_init_81 : decode cX3_init 81 = .ok (.iconst 0, 1) := by decide +kernel
theorem dX3_init_82 : decode cX3_init 82 = .ok (.bipush 12, 2) := by decide +kernel
theorem dX3_init_84 : decode cX3_init 84 = .ok (.iastore, 1) := by decide +kernel
theorem dX3_init_85 : decode cX3_init 85 = .ok (.iconst 0, 1) := by decide +kernel
theorem dX3_init_86 : decode cX3_init 86 = .ok (.istore_n 1, 1) := by decide +kernel
theorem dX3_init_87 : decode cX3_init 87 = .ok (.iload_n 1, 1) := by decide +kernel
theorem dX3_init_88 : decode cX3_init 88 = .ok (.aload_n 0, 1) := by decide +kernel
theorem dX3_init_89 : decode cX3_init 89 = .ok (.getfield 7, 3) := by decide +kernel
theorem dX3_init_92 : decode cX3_init 92 = .ok (.iconst 0, 1) := by decide +kernel
theorem dX3_init_93 : decode cX3_init 93 = .ok (.iaload, 1) := by decide +kernel
theorem dX3_init_94 : decode cX3_init 94 = .ok (.if_icmp .ge 21, 3) := by decide +kernel
theorem dX3_init_97 : decode cX3_init 97 = .ok (.aload_n 0, 1) := by decide +kernel
theorem dX3_init_98 : decode cX3_init 98 = .ok (.getfield 7, 3) := by decide +kernel
theorem dX3_init_101 : decode cX3_init 101 = .ok (.bipush 8, 2) := by decide +kernel
theorem dX3_init_103 : decode cX3_init 103 = .ok (.iload_n 1, 1) := by decide +kernel
theorem dX3_init_104 : decode cX3_init 104 = .ok (.iadd, 1) := by decide +kernel
theorem dX3_init_105 : decode cX3_init 105 = .ok (.iload_n 1, 1) := by decide +kernel
theorem dX3_init_106 : decode cX3_init 106 = .ok (.iconst 3, 1) := by decide +kernel
theorem dX3_init_107 : decode cX3_init 107 = .ok (.irem, 1) := by decide +kernel
theorem dX3_init_108 : decode cX3_init 108 = .ok (.iastore, 1) := by decide +kernel
theorem dX3_init_109 : decode cX3_init 109 = .ok (.iinc 1 1, 3) := by decide +kernel
theorem dX3_init_112 : decode cX3_init 112 = .ok (.goto (-25), 3) := by decide +kernel
theorem dX3_init_115 : decode cX3_init 115 = .ok (.aload_n 0, 1) := by decide +kernel
theorem dX3_init_116 : decode cX3_init 116 = .ok (.invokevirtual 28, 3) := by decide +kernel
theorem dX3_init_119 : decode cX3_init 119 = .ok (.return_, 1) := by decide +kernel
theorem eX3_init_0 {d : Nat} {a1 : Value} {x : Nat} {st : List Value} {hp : qzH} : qzV d 86 0 [.ref x, a1] (st) hp = qzV d 86 1 [.ref x, a1] (.ref x :: st) hp := qv_aload (i := 0) mdc_86 dX3_init_0 rfl rfl rfl
theorem eX3_init_4 {d : Nat} {a1 : Value} {x : Nat} {st : List Value} {hp : qzH} : qzV d 86 4 [.ref x, a1] (st) hp = qzV d 86 5 [.ref x, a1] (.ref x :: st) hp := qv_aload (i := 0) mdc_86 dX3_init_4 rfl rfl rfl
theorem eX3_init_5 {d : Nat} {a0 a1 : Value} {st : List Value} {hp : qzH} : qzV d 86 5 [a0, a1] (st) hp = qzV d 86 7 [a0, a1] (.int 120 :: st) hp := qv_bipush mdc_86 dX3_init_5 ib_120 rfl
theorem eX3_init_12 {d : Nat} {a1 : Value} {x : Nat} {st : List Value} {hp : qzH} : qzV d 86 12 [.ref x, a1] (st) hp = qzV d 86 13 [.ref x, a1] (.ref x :: st) hp := qv_aload (i := 0) mdc_86 dX3_init_12 rfl rfl rfl
theorem eX3_init_13 {d : Nat} {a0 a1 : Value} {st : List Value} {hp : qzH} : qzV d 86 13 [a0, a1] (st) hp = qzV d 86 15 [a0, a1] (.int 120 :: st) hp := qv_bipush mdc_86 dX3_init_13 ib_120 rfl
theorem eX3_init_20 {d : Nat} {a1 : Value} {x : Nat} {st : List Value} {hp : qzH} : qzV d 86 20 [.ref x, a1] (st) hp = qzV d 86 21 [.ref x, a1] (.ref x :: st) hp := qv_aload (i := 0) mdc_86 dX3_init_20 rfl rfl rfl
theorem eX3_init_21 {d : Nat} {a0 a1 : Value} {st : List Value} {hp : qzH} : qzV d 86 21 [a0, a1] (st) hp = qzV d 86 24 [a0, a1] (.int 480 :: st) hp := qv_sipush mdc_86 dX3_init_21 is_480 rfl
theorem eX3_init_29 {d : Nat} {a1 : Value} {x : Nat} {st : List Value} {hp : qzH} : qzV d 86 29 [.ref x, a1] (st) hp = qzV d 86 30 [.ref x, a1] (.ref x :: st) hp := qv_aload (i := 0) mdc_86 dX3_init_29 rfl rfl rfl
theorem eX3_init_30 {d : Nat} {a0 a1 : Value} {st : List Value} {hp : qzH} : qzV d 86 30 [a0, a1] (st) hp = qzV d 86 32 [a0, a1] (.int 120 :: st) hp := qv_bipush mdc_86 dX3_init_30 ib_120 rfl
theorem eX3_init_37 {d : Nat} {a1 : Value} {x : Nat} {st : List Value} {hp : qzH} : qzV d 86 37 [.ref x, a1] (st) hp = qzV d 86 38 [.ref x, a1] (.ref x :: st) hp := qv_aload (i := 0) mdc_86 dX3_init_37 rfl rfl rfl
theorem eX3_init_38 {d : Nat} {a0 a1 : Value} {st : List Value} {hp : qzH} : qzV d 86 38 [a0, a1] (st) hp = qzV d 86 40 [a0, a1] (.int 60 :: st) hp := qv_bipush mdc_86 dX3_init_38 ib_60 rfl
theorem eX3_init_45 {d : Nat} {a1 : Value} {x : Nat} {st : List Value} {hp : qzH} : qzV d 86 45 [.ref x, a1] (st) hp = qzV d 86 46 [.ref x, a1] (.ref x :: st) hp := qv_aload (i := 0) mdc_86 dX3_init_45 rfl rfl rfl
theorem eX3_init_46 {d : Nat} {a0 a1 : Value} {st : List Value} {hp : qzH} : qzV d 86 46 [a0, a1] (st) hp = qzV d 86 49 [a0, a1] (.int 10290 :: st) hp := qv_sipush mdc_86 dX3_init_46 is_10290 rfl
theorem eX3_init_54 {d : Nat} {a1 : Value} {x : Nat} {st : List Value} {hp : qzH} : qzV d 86 54 [.ref x, a1] (st) hp = qzV d 86 55 [.ref x, a1] (.ref x :: st) hp := qv_aload (i := 0) mdc_86 dX3_init_54 rfl rfl rfl
theorem eX3_init_55 {d : Nat} {a0 a1 : Value} {a : Nat} {st : List Value} {hp : qzH} (ha : qzArr 3 a hp.1 = true) : qzV d 86 55 [a0, a1] (.ref a :: st) hp = qzV d 86 58 [a0, a1] (va_rf (hp.2.1 a 0) :: st) hp := qv_getR mdc_86 dX3_init_55 mdo_86 qff_3_7 ⟨by decide, rfl⟩ rfl ha
theorem eX3_init_58 {d : Nat} {a0 a1 : Value} {st : List Value} {hp : qzH} : qzV d 86 58 [a0, a1] (st) hp = qzV d 86 59 [a0, a1] (.int 5 :: st) hp := qv_iconst mdc_86 dX3_init_58 il_5 rfl
theorem eX3_init_59 {d : Nat} {a0 a1 : Value} {st : List Value} {hp : qzH} : qzV d 86 59 [a0, a1] (st) hp = qzV d 86 60 [a0, a1] (.int 4 :: st) hp := qv_iconst mdc_86 dX3_init_59 il_4 rfl
theorem eX3_init_60 {d : Nat} {a0 a1 : Value} {i x : Int32} {a : Nat} {st : List Value} {hp : qzH} (ha : qzArr 4 a hp.1 = true) (hi : qzIn i (qzk a).2 = true) : qzV d 86 60 [a0, a1] (.int x :: .int i :: .ref a :: st) hp = qzV d 86 61 [a0, a1] st (hp.1, hp.2.1, qzUp hp.2.2 a i.toNatClampNeg x) := qv_iast mdc_86 dX3_init_60 rfl ha hi
theorem eX3_init_61 {d : Nat} {a1 : Value} {x : Nat} {st : List Value} {hp : qzH} : qzV d 86 61 [.ref x, a1] (st) hp = qzV d 86 62 [.ref x, a1] (.ref x :: st) hp := qv_aload (i := 0) mdc_86 dX3_init_61 rfl rfl rfl
theorem eX3_init_62 {d : Nat} {a0 a1 : Value} {a : Nat} {st : List Value} {hp : qzH} (ha : qzArr 3 a hp.1 = true) : qzV d 86 62 [a0, a1] (.ref a :: st) hp = qzV d 86 65 [a0, a1] (va_rf (hp.2.1 a 0) :: st) hp := qv_getR mdc_86 dX3_init_62 mdo_86 qff_3_7 ⟨by decide, rfl⟩ rfl ha
theorem eX3_init_65 {d : Nat} {a0 a1 : Value} {st : List Value} {hp : qzH} : qzV d 86 65 [a0, a1] (st) hp = qzV d 86 67 [a0, a1] (.int 6 :: st) hp := qv_bipush mdc_86 dX3_init_65 ib_6 rfl
theorem eX3_init_67 {d : Nat} {a0 a1 : Value} {st : List Value} {hp : qzH} : qzV d 86 67 [a0, a1] (st) hp = qzV d 86 68 [a0, a1] (.int 3 :: st) hp := qv_iconst mdc_86 dX3_init_67 il_3 rfl
theorem eX3_init_68 {d : Nat} {a0 a1 : Value} {i x : Int32} {a : Nat} {st : List Value} {hp : qzH} (ha : qzArr 4 a hp.1 = true) (hi : qzIn i (qzk a).2 = true) : qzV d 86 68 [a0, a1] (.int x :: .int i :: .ref a :: st) hp = qzV d 86 69 [a0, a1] st (hp.1, hp.2.1, qzUp hp.2.2 a i.toNatClampNeg x) := qv_iast mdc_86 dX3_init_68 rfl ha hi
theorem eX3_init_69 {d : Nat} {a1 : Value} {x : Nat} {st : List Value} {hp : qzH} : qzV d 86 69 [.ref x, a1] (st) hp = qzV d 86 70 [.ref x, a1] (.ref x :: st) hp := qv_aload (i := 0) mdc_86 dX3_init_69 rfl rfl rfl
theorem eX3_init_70 {d : Nat} {a0 a1 : Value} {a : Nat} {st : List Value} {hp : qzH} (ha : qzArr 3 a hp.1 = true) : qzV d 86 70 [a0, a1] (.ref a :: st) hp = qzV d 86 73 [a0, a1] (va_rf (hp.2.1 a 0) :: st) hp := qv_getR mdc_86 dX3_init_70 mdo_86 qff_3_7 ⟨by decide, rfl⟩ rfl ha
theorem eX3_init_73 {d : Nat} {a0 a1 : Value} {st : List Value} {hp : qzH} : qzV d 86 73 [a0, a1] (st) hp = qzV d 86 75 [a0, a1] (.int 7 :: st) hp := qv_bipush mdc_86 dX3_init_73 ib_7 rfl
theorem eX3_init_75 {d : Nat} {a0 a1 : Value} {st : List Value} {hp : qzH} : qzV d 86 75 [a0, a1] (st) hp = qzV d 86 76 [a0, a1] (.int 2 :: st) hp := qv_iconst mdc_86 dX3_init_75 il_2 rfl
theorem eX3_init_76 {d : Nat} {a0 a1 : Value} {i x : Int32} {a : Nat} {st : List Value} {hp : qzH} (ha : qzArr 4 a hp.1 = true) (hi : qzIn i (qzk a).2 = true) : qzV d 86 76 [a0, a1] (.int x :: .int i :: .ref a :: st) hp = qzV d 86 77 [a0, a1] st (hp.1, hp.2.1, qzUp hp.2.2 a i.toNatClampNeg x) := qv_iast mdc_86 dX3_init_76 rfl ha hi
theorem eX3_init_77 {d : Nat} {a1 : Value} {x : Nat} {st : List Value} {hp : qzH} : qzV d 86 77 [.ref x, a1] (st) hp = qzV d 86 78 [.ref x, a1] (.ref x :: st) hp := qv_aload (i := 0) mdc_86 dX3_init_77 rfl rfl rfl
theorem eX3_init_78 {d : Nat} {a0 a1 : Value} {a : Nat} {st : List Value} {hp : qzH} (ha : qzArr 3 a hp.1 = true) : qzV d 86 78 [a0, a1] (.ref a :: st) hp = qzV d 86 81 [a0, a1] (va_rf (hp.2.1 a 0) :: st) hp := qv_getR mdc_86 dX3_init_78 mdo_86 qff_3_7 ⟨by decide, rfl⟩ rfl ha
theorem eX3_init_81 {d : Nat} {a0 a1 : Value} {st : List Value} {hp : qzH} : qzV d 86 81 [a0, a1] (st) hp = qzV d 86 82 [a0, a1] (.int 0 :: st) hp := qv_iconst mdc_86 dX3_init_81 il_0 rfl
theorem eX3_init_82 {d : Nat} {a0 a1 : Value} {st : List Value} {hp : qzH} : qzV d 86 82 [a0, a1] (st) hp = qzV d 86 84 [a0, a1] (.int 12 :: st) hp := qv_bipush mdc_86 dX3_init_82 ib_12 rfl
theorem eX3_init_84 {d : Nat} {a0 a1 : Value} {i x : Int32} {a : Nat} {st : List Value} {hp : qzH} (ha : qzArr 4 a hp.1 = true) (hi : qzIn i (qzk a).2 = true) : qzV d 86 84 [a0, a1] (.int x :: .int i :: .ref a :: st) hp = qzV d 86 85 [a0, a1] st (hp.1, hp.2.1, qzUp hp.2.2 a i.toNatClampNeg x) := qv_iast mdc_86 dX3_init_84 rfl ha hi
theorem eX3_init_85 {d : Nat} {a0 a1 : Value} {st : List Value} {hp : qzH} : qzV d 86 85 [a0, a1] (st) hp = qzV d 86 86 [a0, a1] (.int 0 :: st) hp := qv_iconst mdc_86 dX3_init_85 il_0 rfl
theorem eX3_init_86 {d : Nat} {a0 a1 : Value} {x : Int32} {st : List Value} {hp : qzH} : qzV d 86 86 [a0, a1] (.int x :: st) hp = qzV d 86 87 [a0, .int x] (st) hp := qv_istore (i := 1) mdc_86 dX3_init_86 rfl (Nat.le_of_ble_eq_true rfl) rfl rfl
theorem eX3_init_87 {d : Nat} {a0 : Value} {x : Int32} {st : List Value} {hp : qzH} : qzV d 86 87 [a0, .int x] (st) hp = qzV d 86 88 [a0, .int x] (.int x :: st) hp := qv_iload (i := 1) mdc_86 dX3_init_87 rfl rfl rfl
theorem eX3_init_88 {d : Nat} {a1 : Value} {x : Nat} {st : List Value} {hp : qzH} : qzV d 86 88 [.ref x, a1] (st) hp = qzV d 86 89 [.ref x, a1] (.ref x :: st) hp := qv_aload (i := 0) mdc_86 dX3_init_88 rfl rfl rfl
theorem eX3_init_89 {d : Nat} {a0 a1 : Value} {a : Nat} {st : List Value} {hp : qzH} (ha : qzArr 3 a hp.1 = true) : qzV d 86 89 [a0, a1] (.ref a :: st) hp = qzV d 86 92 [a0, a1] (va_rf (hp.2.1 a 0) :: st) hp := qv_getR mdc_86 dX3_init_89 mdo_86 qff_3_7 ⟨by decide, rfl⟩ rfl ha
theorem eX3_init_92 {d : Nat} {a0 a1 : Value} {st : List Value} {hp : qzH} : qzV d 86 92 [a0, a1] (st) hp = qzV d 86 93 [a0, a1] (.int 0 :: st) hp := qv_iconst mdc_86 dX3_init_92 il_0 rfl
theorem eX3_init_93 {d : Nat} {a0 a1 : Value} {i : Int32} {a : Nat} {st : List Value} {hp : qzH} (ha : qzArr 4 a hp.1 = true) (hi : qzIn i (qzk a).2 = true) : qzV d 86 93 [a0, a1] (.int i :: .ref a :: st) hp = qzV d 86 94 [a0, a1] (.int (hp.2.2 a i.toNatClampNeg) :: st) hp := qv_iald mdc_86 dX3_init_93 rfl ha hi
theorem eX3_init_94 {d : Nat} {a0 a1 : Value} {x y : Int32} {st : List Value} {hp : qzH} : qzV d 86 94 [a0, a1] (.int y :: .int x :: st) hp = if y ≤ x then qzV d 86 115 [a0, a1] (st) hp else qzV d 86 97 [a0, a1] (st) hp := qv_if2 mdc_86 dX3_init_94 rfl rfl rfl
theorem eX3_init_97 {d : Nat} {a1 : Value} {x : Nat} {st : List Value} {hp : qzH} : qzV d 86 97 [.ref x, a1] (st) hp = qzV d 86 98 [.ref x, a1] (.ref x :: st) hp := qv_aload (i := 0) mdc_86 dX3_init_97 rfl rfl rfl
theorem eX3_init_98 {d : Nat} {a0 a1 : Value} {a : Nat} {st : List Value} {hp : qzH} (ha : qzArr 3 a hp.1 = true) : qzV d 86 98 [a0, a1] (.ref a :: st) hp = qzV d 86 101 [a0, a1] (va_rf (hp.2.1 a 0) :: st) hp := qv_getR mdc_86 dX3_init_98 mdo_86 qff_3_7 ⟨by decide, rfl⟩ rfl ha
theorem eX3_init_101 {d : Nat} {a0 a1 : Value} {st : List Value} {hp : qzH} : qzV d 86 101 [a0, a1] (st) hp = qzV d 86 103 [a0, a1] (.int 8 :: st) hp := qv_bipush mdc_86 dX3_init_101 ib_8 rfl
theorem eX3_init_103 {d : Nat} {a0 : Value} {x : Int32} {st : List Value} {hp : qzH} : qzV d 86 103 [a0, .int x] (st) hp = qzV d 86 104 [a0, .int x] (.int x :: st) hp := qv_iload (i := 1) mdc_86 dX3_init_103 rfl rfl rfl
theorem eX3_init_104 {d : Nat} {a0 a1 : Value} {x y : Int32} {st : List Value} {hp : qzH} : qzV d 86 104 [a0, a1] (.int y :: .int x :: st) hp = qzV d 86 105 [a0, a1] (.int (x + y) :: st) hp := qv_bin (f := fun x y => x + y) mdc_86 dX3_init_104 rfl rfl
theorem eX3_init_105 {d : Nat} {a0 : Value} {x : Int32} {st : List Value} {hp : qzH} : qzV d 86 105 [a0, .int x] (st) hp = qzV d 86 106 [a0, .int x] (.int x :: st) hp := qv_iload (i := 1) mdc_86 dX3_init_105 rfl rfl rfl
theorem eX3_init_106 {d : Nat} {a0 a1 : Value} {st : List Value} {hp : qzH} : qzV d 86 106 [a0, a1] (st) hp = qzV d 86 107 [a0, a1] (.int 3 :: st) hp := qv_iconst mdc_86 dX3_init_106 il_3 rfl
theorem eX3_init_107 {d : Nat} {a0 a1 : Value} {x y : Int32} {st : List Value} {hp : qzH} (hy : ¬ y = 0) : qzV d 86 107 [a0, a1] (.int y :: .int x :: st) hp = qzV d 86 108 [a0, a1] (.int (x - x / y * y) :: st) hp := qv_binD (f := fun x y => x - x / y * y) mdc_86 dX3_init_107 rfl rfl hy
theorem eX3_init_108 {d : Nat} {a0 a1 : Value} {i x : Int32} {a : Nat} {st : List Value} {hp : qzH} (ha : qzArr 4 a hp.1 = true) (hi : qzIn i (qzk a).2 = true) : qzV d 86 108 [a0, a1] (.int x :: .int i :: .ref a :: st) hp = qzV d 86 109 [a0, a1] st (hp.1, hp.2.1, qzUp hp.2.2 a i.toNatClampNeg x) := qv_iast mdc_86 dX3_init_108 rfl ha hi
theorem eX3_init_109 {d : Nat} {a0 : Value} {x : Int32} {st : List Value} {hp : qzH} : qzV d 86 109 [a0, .int x] (st) hp = qzV d 86 112 [a0, .int (x + 1)] (st) hp := qv_iinc mdc_86 dX3_init_109 rfl il_1 rfl rfl
theorem eX3_init_112 {d : Nat} {a0 a1 : Value} {st : List Value} {hp : qzH} : qzV d 86 112 [a0, a1] (st) hp = qzV d 86 87 [a0, a1] (st) hp := qv_goto mdc_86 dX3_init_112 rfl
theorem eX3_init_115 {d : Nat} {a1 : Value} {x : Nat} {st : List Value} {hp : qzH} : qzV d 86 115 [.ref x, a1] (st) hp = qzV d 86 116 [.ref x, a1] (.ref x :: st) hp := qv_aload (i := 0) mdc_86 dX3_init_115 rfl rfl rfl
theorem eX3_init_116 {d : Nat} {a0 a1 : Value} {b : Nat} {st : List Value} {hp : qzH} (h8 : st.length ≤ 8) (hb : qzArr 3 b hp.1 = true) : qzV (d + 1) 86 116 [a0, a1] (.ref b :: st) hp = (qzC d 90 (.ref b :: []) hp).bind (fun r => qzV (d + 1) 86 119 [a0, a1] (r.1.toList ++ st) r.2) := qv_callv (n := 0) mdc_86 dX3_init_116 mdo_86 (by decide) qfc_3_28 ⟨rfl, by decide, rfl⟩ rfl ⟨rfl, rfl, by simp only [List.length_cons]; omega⟩ h8 hb
theorem eX3_init_119 {d : Nat} {a0 a1 : Value} {hp : qzH} : qzV d 86 119 [a0, a1] [] hp = some (none, hp) := qv_vret mdc_86 dX3_init_119 mdr_86
theorem dX3_in_0 : decode cX3_in 0 = .ok (.iload_n 0, 1) := by decide +kernel
theorem dX3_in_1 : decode cX3_in 1 = .ok (.iload_n 1, 1) := by decide +kernel
theorem dX3_in_2 : decode cX3_in 2 = .ok (.if_icmp .lt 12, 3) := by decide +kernel
theorem dX3_in_5 : decode cX3_in 5 = .ok (.iload_n 0, 1) := by decide +kernel
theorem dX3_in_6 : decode cX3_in 6 = .ok (.iload_n 2, 1) := by decide +kernel
theorem dX3_in_7 : decode cX3_in 7 = .ok (.if_icmp .gt 7, 3) := by decide +kernel
theorem dX3_in_10 : decode cX3_in 10 = .ok (.iconst 1, 1) := by decide +kernel
theorem dX3_in_11 : decode cX3_in 11 = .ok (.goto 4, 3) := by decide +kernel
theorem dX3_in_14 : decode cX3_in 14 = .ok (.iconst 0, 1) := by decide +kernel
theorem dX3_in_15 : decode cX3_in 15 = .ok (.ireturn, 1) := by decide +kernel
theorem eX3_in_0 {d : Nat} {a1 a2 : Value} {x : Int32} {st : List Value} {hp : qzH} : qzV d 87 0 [.int x, a1, a2] (st) hp = qzV d 87 1 [.int x, a1, a2] (.int x :: st) hp := qv_iload (i := 0) mdc_87 dX3_in_0 rfl rfl rfl
theorem eX3_in_1 {d : Nat} {a0 a2 : Value} {x : Int32} {st : List Value} {hp : qzH} : qzV d 87 1 [a0, .int x, a2] (st) hp = qzV d 87 2 [a0, .int x, a2] (.int x :: st) hp := qv_iload (i := 1) mdc_87 dX3_in_1 rfl rfl rfl
theorem eX3_in_2 {d : Nat} {a0 a1 a2 : Value} {x y : Int32} {st : List Value} {hp : qzH} : qzV d 87 2 [a0, a1, a2] (.int y :: .int x :: st) hp = if x < y then qzV d 87 14 [a0, a1, a2] (st) hp else qzV d 87 5 [a0, a1, a2] (st) hp := qv_if2 mdc_87 dX3_in_2 rfl rfl rfl
theorem eX3_in_5 {d : Nat} {a1 a2 : Value} {x : Int32} {st : List Value} {hp : qzH} : qzV d 87 5 [.int x, a1, a2] (st) hp = qzV d 87 6 [.int x, a1, a2] (.int x :: st) hp := qv_iload (i := 0) mdc_87 dX3_in_5 rfl rfl rfl
theorem eX3_in_6 {d : Nat} {a0 a1 : Value} {x : Int32} {st : List Value} {hp : qzH} : qzV d 87 6 [a0, a1, .int x] (st) hp = qzV d 87 7 [a0, a1, .int x] (.int x :: st) hp := qv_iload (i := 2) mdc_87 dX3_in_6 rfl rfl rfl
theorem eX3_in_7 {d : Nat} {a0 a1 a2 : Value} {x y : Int32} {st : List Value} {hp : qzH} : qzV d 87 7 [a0, a1, a2] (.int y :: .int x :: st) hp = if y < x then qzV d 87 14 [a0, a1, a2] (st) hp else qzV d 87 10 [a0, a1, a2] (st) hp := qv_if2 mdc_87 dX3_in_7 rfl rfl rfl
theorem eX3_in_10 {d : Nat} {a0 a1 a2 : Value} {st : List Value} {hp : qzH} : qzV d 87 10 [a0, a1, a2] (st) hp = qzV d 87 11 [a0, a1, a2] (.int 1 :: st) hp := qv_iconst mdc_87 dX3_in_10 il_1 rfl
theorem eX3_in_11 {d : Nat} {a0 a1 a2 : Value} {st : List Value} {hp : qzH} : qzV d 87 11 [a0, a1, a2] (st) hp = qzV d 87 15 [a0, a1, a2] (st) hp := qv_goto mdc_87 dX3_in_11 rfl
theorem eX3_in_14 {d : Nat} {a0 a1 a2 : Value} {st : List Value} {hp : qzH} : qzV d 87 14 [a0, a1, a2] (st) hp = qzV d 87 15 [a0, a1, a2] (.int 0 :: st) hp := qv_iconst mdc_87 dX3_in_14 il_0 rfl
theorem eX3_in_15 {d : Nat} {a0 a1 a2 : Value} {v : Int32} {hp : qzH} (hn : narrow .boolean (.int v) = .int v) : qzV d 87 15 [a0, a1, a2] [.int v] hp = some (some (.int v), hp) := qv_iret mdc_87 dX3_in_15 mdr_87 hn
theorem dX3_copies_0 : decode cX3_copies 0 = .ok (.iconst 0, 1) := by decide +kernel
theorem dX3_copies_1 : decode cX3_copies 1 = .ok (.istore 4, 2) := by decide +kernel
theorem dX3_copies_3 : decode cX3_copies 3 = .ok (.iload 4, 2) := by decide +kernel
theorem dX3_copies_5 : decode cX3_copies 5 = .ok (.bipush 120, 2) := by decide +kernel
theorem dX3_copies_7 : decode cX3_copies 7 = .ok (.if_icmp .ge 21, 3) := by decide +kernel
theorem dX3_copies_10 : decode cX3_copies 10 = .ok (.aload_n 2, 1) := by decide +kernel
theorem dX3_copies_11 : decode cX3_copies 11 = .ok (.iload_n 3, 1) := by decide +kernel
theorem dX3_copies_12 : decode cX3_copies 12 = .ok (.iload 4, 2) := by decide +kernel
theorem dX3_copies_14 : decode cX3_copies 14 = .ok (.iadd, 1) := by decide +kernel
theorem dX3_copies_15 : decode cX3_copies 15 = .ok (.aload_n 0, 1) := by decide +kernel
theorem dX3_copies_16 : decode cX3_copies 16 = .ok (.iload_n 1, 1) := by decide +kernel
theorem dX3_copies_17 : decode cX3_copies 17 = .ok (.iload 4, 2) := by decide +kernel
theorem dX3_copies_19 : decode cX3_copies 19 = .ok (.iadd, 1) := by decide +kernel
theorem dX3_copies_20 : decode cX3_copies 20 = .ok (.iaload, 1) := by decide +kernel
theorem dX3_copies_21 : decode cX3_copies 21 = .ok (.iastore, 1) := by decide +kernel
theorem dX3_copies_22 : decode cX3_copies 22 = .ok (.iinc 4 1, 3) := by decide +kernel
theorem dX3_copies_25 : decode cX3_copies 25 = .ok (.goto (-22), 3) := by decide +kernel
theorem dX3_copies_28 : decode cX3_copies 28 = .ok (.return_, 1) := by decide +kernel
theorem eX3_copies_0 {d : Nat} {a0 a1 a2 a3 a4 : Value} {st : List Value} {hp : qzH} : qzV d 88 0 [a0, a1, a2, a3, a4] (st) hp = qzV d 88 1 [a0, a1, a2, a3, a4] (.int 0 :: st) hp := qv_iconst mdc_88 dX3_copies_0 il_0 rfl
theorem eX3_copies_1 {d : Nat} {a0 a1 a2 a3 a4 : Value} {x : Int32} {st : List Value} {hp : qzH} : qzV d 88 1 [a0, a1, a2, a3, a4] (.int x :: st) hp = qzV d 88 3 [a0, a1, a2, a3, .int x] (st) hp := qv_istore (i := 4) mdc_88 dX3_copies_1 rfl (Nat.le_of_ble_eq_true rfl) rfl rfl
theorem eX3_copies_3 {d : Nat} {a0 a1 a2 a3 : Value} {x : Int32} {st : List Value} {hp : qzH} : qzV d 88 3 [a0, a1, a2, a3, .int x] (st) hp = qzV d 88 5 [a0, a1, a2, a3, .int x] (.int x :: st) hp := qv_iload (i := 4) mdc_88 dX3_copies_3 rfl rfl rfl
theorem eX3_copies_5 {d : Nat} {a0 a1 a2 a3 a4 : Value} {st : List Value} {hp : qzH} : qzV d 88 5 [a0, a1, a2, a3, a4] (st) hp = qzV d 88 7 [a0, a1, a2, a3, a4] (.int 120 :: st) hp := qv_bipush mdc_88 dX3_copies_5 ib_120 rfl
theorem eX3_copies_7 {d : Nat} {a0 a1 a2 a3 a4 : Value} {x y : Int32} {st : List Value} {hp : qzH} : qzV d 88 7 [a0, a1, a2, a3, a4] (.int y :: .int x :: st) hp = if y ≤ x then qzV d 88 28 [a0, a1, a2, a3, a4] (st) hp else qzV d 88 10 [a0, a1, a2, a3, a4] (st) hp := qv_if2 mdc_88 dX3_copies_7 rfl rfl rfl
theorem eX3_copies_10 {d : Nat} {a0 a1 a3 a4 : Value} {x : Nat} {st : List Value} {hp : qzH} : qzV d 88 10 [a0, a1, .ref x, a3, a4] (st) hp = qzV d 88 11 [a0, a1, .ref x, a3, a4] (.ref x :: st) hp := qv_aload (i := 2) mdc_88 dX3_copies_10 rfl rfl rfl
theorem eX3_copies_11 {d : Nat} {a0 a1 a2 a4 : Value} {x : Int32} {st : List Value} {hp : qzH} : qzV d 88 11 [a0, a1, a2, .int x, a4] (st) hp = qzV d 88 12 [a0, a1, a2, .int x, a4] (.int x :: st) hp := qv_iload (i := 3) mdc_88 dX3_copies_11 rfl rfl rfl
theorem eX3_copies_12 {d : Nat} {a0 a1 a2 a3 : Value} {x : Int32} {st : List Value} {hp : qzH} : qzV d 88 12 [a0, a1, a2, a3, .int x] (st) hp = qzV d 88 14 [a0, a1, a2, a3, .int x] (.int x :: st) hp := qv_iload (i := 4) mdc_88 dX3_copies_12 rfl rfl rfl
theorem eX3_copies_14 {d : Nat} {a0 a1 a2 a3 a4 : Value} {x y : Int32} {st : List Value} {hp : qzH} : qzV d 88 14 [a0, a1, a2, a3, a4] (.int y :: .int x :: st) hp = qzV d 88 15 [a0, a1, a2, a3, a4] (.int (x + y) :: st) hp := qv_bin (f := fun x y => x + y) mdc_88 dX3_copies_14 rfl rfl
theorem eX3_copies_15 {d : Nat} {a1 a2 a3 a4 : Value} {x : Nat} {st : List Value} {hp : qzH} : qzV d 88 15 [.ref x, a1, a2, a3, a4] (st) hp = qzV d 88 16 [.ref x, a1, a2, a3, a4] (.ref x :: st) hp := qv_aload (i := 0) mdc_88 dX3_copies_15 rfl rfl rfl
theorem eX3_copies_16 {d : Nat} {a0 a2 a3 a4 : Value} {x : Int32} {st : List Value} {hp : qzH} : qzV d 88 16 [a0, .int x, a2, a3, a4] (st) hp = qzV d 88 17 [a0, .int x, a2, a3, a4] (.int x :: st) hp := qv_iload (i := 1) mdc_88 dX3_copies_16 rfl rfl rfl
theorem eX3_copies_17 {d : Nat} {a0 a1 a2 a3 : Value} {x : Int32} {st : List Value} {hp : qzH} : qzV d 88 17 [a0, a1, a2, a3, .int x] (st) hp = qzV d 88 19 [a0, a1, a2, a3, .int x] (.int x :: st) hp := qv_iload (i := 4) mdc_88 dX3_copies_17 rfl rfl rfl
theorem eX3_copies_19 {d : Nat} {a0 a1 a2 a3 a4 : Value} {x y : Int32} {st : List Value} {hp : qzH} : qzV d 88 19 [a0, a1, a2, a3, a4] (.int y :: .int x :: st) hp = qzV d 88 20 [a0, a1, a2, a3, a4] (.int (x + y) :: st) hp := qv_bin (f := fun x y => x + y) mdc_88 dX3_copies_19 rfl rfl
theorem eX3_copies_20 {d : Nat} {a0 a1 a2 a3 a4 : Value} {i : Int32} {a : Nat} {st : List Value} {hp : qzH} (ha : qzArr 4 a hp.1 = true) (hi : qzIn i (qzk a).2 = true) : qzV d 88 20 [a0, a1, a2, a3, a4] (.int i :: .ref a :: st) hp = qzV d 88 21 [a0, a1, a2, a3, a4] (.int (hp.2.2 a i.toNatClampNeg) :: st) hp := qv_iald mdc_88 dX3_copies_20 rfl ha hi
theorem eX3_copies_21 {d : Nat} {a0 a1 a2 a3 a4 : Value} {i x : Int32} {a : Nat} {st : List Value} {hp : qzH} (ha : qzArr 4 a hp.1 = true) (hi : qzIn i (qzk a).2 = true) : qzV d 88 21 [a0, a1, a2, a3, a4] (.int x :: .int i :: .ref a :: st) hp = qzV d 88 22 [a0, a1, a2, a3, a4] st (hp.1, hp.2.1, qzUp hp.2.2 a i.toNatClampNeg x) := qv_iast mdc_88 dX3_copies_21 rfl ha hi
theorem eX3_copies_22 {d : Nat} {a0 a1 a2 a3 : Value} {x : Int32} {st : List Value} {hp : qzH} : qzV d 88 22 [a0, a1, a2, a3, .int x] (st) hp = qzV d 88 25 [a0, a1, a2, a3, .int (x + 1)] (st) hp := qv_iinc mdc_88 dX3_copies_22 rfl il_1 rfl rfl
theorem eX3_copies_25 {d : Nat} {a0 a1 a2 a3 a4 : Value} {st : List Value} {hp : qzH} : qzV d 88 25 [a0, a1, a2, a3, a4] (st) hp = qzV d 88 3 [a0, a1, a2, a3, a4] (st) hp := qv_goto mdc_88 dX3_copies_25 rfl
theorem eX3_copies_28 {d : Nat} {a0 a1 a2 a3 a4 : Value} {hp : qzH} : qzV d 88 28 [a0, a1, a2, a3, a4] [] hp = some (none, hp) := qv_vret mdc_88 dX3_copies_28 mdr_88
theorem dX3_records_0 : decode cX3_records 0 = .ok (.aload_n 0, 1) := by decide +kernel
theorem dX3_records_1 : decode cX3_records 1 = .ok (.getfield 31, 3) := by decide +kernel
theorem dX3_records_4 : decode cX3_records 4 = .ok (.iconst 4, 1) := by decide +kernel
theorem dX3_records_5 : decode cX3_records 5 = .ok (.if_icmp .ne 43, 3) := by decide +kernel
theorem dX3_records_8 : decode cX3_records 8 = .ok (.iconst 0, 1) := by decide +kernel
theorem dX3_records_9 : decode cX3_records 9 = .ok (.istore_n 1, 1) := by decide +kernel
theorem dX3_records_10 : decode cX3_records 10 = .ok (.iload_n 1, 1) := by decide +kernel
theorem dX3_records_11 : decode cX3_records 11 = .ok (.sipush 360, 3) := by decide +kernel
theorem dX3_records_14 : decode cX3_records 14 = .ok (.if_icmp .ge 24, 3) := by decide +kernel
theorem dX3_records_17 : decode cX3_records 17 = .ok (.aload_n 0, 1) := by decide +kernel
theorem dX3_records_18 : decode cX3_records 18 = .ok (.getfield 16, 3) := by decide +kernel
theorem dX3_records_21 : decode cX3_records 21 = .ok (.iload_n 1, 1) := by decide +kernel
theorem dX3_records_22 : decode cX3_records 22 = .ok (.aload_n 0, 1) := by decide +kernel
theorem dX3_records_23 : decode cX3_records 23 = .ok (.getfield 16, 3) := by decide +kernel
theorem dX3_records_26 : decode cX3_records 26 = .ok (.iload_n 1, 1) := by decide +kernel
theorem dX3_records_27 : decode cX3_records 27 = .ok (.bipush 120, 2) := by decide +kernel
theorem dX3_records_29 : decode cX3_records 29 = .ok (.iadd, 1) := by decide +kernel
theorem dX3_records_30 : decode cX3_records 30 = .ok (.iaload, 1) := by decide +kernel
theorem dX3_records_31 : decode cX3_records 31 = .ok (.iastore, 1) := by decide +kernel
theorem dX3_records_32 : decode cX3_records 32 = .ok (.iinc 1 1, 3) := by decide +kernel
theorem dX3_records_35 : decode cX3_records 35 = .ok (.goto (-25), 3) := by decide +kernel
theorem dX3_records_38 : decode cX3_records 38 = .ok (.aload_n 0, 1) := by decide +kernel
theorem dX3_records_39 : decode cX3_records 39 = .ok (.dup, 1) := by decide +kernel
theorem dX3_records_40 : decode cX3_records 40 = .ok (.getfield 31, 3) := by decide +kernel
theorem dX3_records_43 : decode cX3_records 43 = .ok (.iconst 1, 1) := by decide +kernel
theorem dX3_records_44 : decode cX3_records 44 = .ok (.isub, 1) := by decide +kernel
theorem dX3_records_45 : decode cX3_records 45 = .ok (.putfield 31, 3) := by decide +kernel
theorem dX3_records_48 : decode cX3_records 48 = .ok (.aload_n 0, 1) := by decide +kernel
theorem dX3_records_49 : decode cX3_records 49 = .ok (.getfield 7, 3) := by decide +kernel
theorem dX3_records_52 : decode cX3_records 52 = .ok (.iconst 0, 1) := by decide +kernel
theorem dX3_records_53 : decode cX3_records 53 = .ok (.aload_n 0, 1) := by decide +kernel
theorem dX3_records_54 : decode cX3_records 54 = .ok (.getfield 16, 3) := by decide +kernel
theorem dX3_records_57 : decode cX3_records 57 = .ok (.bipush 120, 2) := by decide +kernel
theorem dX3_records_59 : decode cX3_records 59 = .ok (.aload_n 0, 1) := by decide +kernel
theorem dX3_records_60 : decode cX3_records 60 = .ok (.getfield 31, 3) := by decide +kernel
theorem dX3_records_63 : decode cX3_records 63 = .ok (.imul, 1) := by decide +kernel
theorem dX3_records_64 : decode cX3_records 64 = .ok (.invokestatic 35, 3) := by decide +kernel
theorem dX3_records_67 : decode cX3_records 67 = .ok (.aload_n 0, 1) := by decide +kernel
theorem dX3_records_68 : decode cX3_records 68 = .ok (.dup, 1) := by decide +kernel
theorem dX3_records_69 : decode cX3_records 69 = .ok (.getfield 31, 3) := by decide +kernel
theorem dX3_records_72 : decode cX3_records 72 = .ok (.iconst 1, 1) := by decide +kernel
theorem dX3_records_73 : decode cX3_records 73 = .ok (.iadd, 1) := by decide +kernel
theorem dX3_records_74 : decode cX3_records 74 = .ok (.putfield 31, 3) := by decide +kernel
theorem dX3_records_77 : decode cX3_records 77 = .ok (.return_, 1) := by decide +kernel
theorem eX3_records_0 {d : Nat} {a1 : Value} {x : Nat} {st : List Value} {hp : qzH} : qzV d 89 0 [.ref x, a1] (st) hp = qzV d 89 1 [.ref x, a1] (.ref x :: st) hp := qv_aload (i := 0) mdc_89 dX3_records_0 rfl rfl rfl
theorem eX3_records_1 {d : Nat} {a0 a1 : Value} {a : Nat} {st : List Value} {hp : qzH} (ha : qzArr 3 a hp.1 = true) : qzV d 89 1 [a0, a1] (.ref a :: st) hp = qzV d 89 4 [a0, a1] (.int (hp.2.2 a 3) :: st) hp := qv_getI mdc_89 dX3_records_1 mdo_89 qff_3_31 ⟨by decide, rfl⟩ rfl ha
theorem eX3_records_4 {d : Nat} {a0 a1 : Value} {st : List Value} {hp : qzH} : qzV d 89 4 [a0, a1] (st) hp = qzV d 89 5 [a0, a1] (.int 4 :: st) hp := qv_iconst mdc_89 dX3_records_4 il_4 rfl
theorem eX3_records_5 {d : Nat} {a0 a1 : Value} {x y : Int32} {st : List Value} {hp : qzH} : qzV d 89 5 [a0, a1] (.int y :: .int x :: st) hp = if ¬ x = y then qzV d 89 48 [a0, a1] (st) hp else qzV d 89 8 [a0, a1] (st) hp := qv_if2 mdc_89 dX3_records_5 rfl rfl rfl
theorem eX3_records_8 {d : Nat} {a0 a1 : Value} {st : List Value} {hp : qzH} : qzV d 89 8 [a0, a1] (st) hp = qzV d 89 9 [a0, a1] (.int 0 :: st) hp := qv_iconst mdc_89 dX3_records_8 il_0 rfl
theorem eX3_records_9 {d : Nat} {a0 a1 : Value} {x : Int32} {st : List Value} {hp : qzH} : qzV d 89 9 [a0, a1] (.int x :: st) hp = qzV d 89 10 [a0, .int x] (st) hp := qv_istore (i := 1) mdc_89 dX3_records_9 rfl (Nat.le_of_ble_eq_true rfl) rfl rfl
theorem eX3_records_10 {d : Nat} {a0 : Value} {x : Int32} {st : List Value} {hp : qzH} : qzV d 89 10 [a0, .int x] (st) hp = qzV d 89 11 [a0, .int x] (.int x :: st) hp := qv_iload (i := 1) mdc_89 dX3_records_10 rfl rfl rfl
theorem eX3_records_11 {d : Nat} {a0 a1 : Value} {st : List Value} {hp : qzH} : qzV d 89 11 [a0, a1] (st) hp = qzV d 89 14 [a0, a1] (.int 360 :: st) hp := qv_sipush mdc_89 dX3_records_11 is_360 rfl
theorem eX3_records_14 {d : Nat} {a0 a1 : Value} {x y : Int32} {st : List Value} {hp : qzH} : qzV d 89 14 [a0, a1] (.int y :: .int x :: st) hp = if y ≤ x then qzV d 89 38 [a0, a1] (st) hp else qzV d 89 17 [a0, a1] (st) hp := qv_if2 mdc_89 dX3_records_14 rfl rfl rfl
theorem eX3_records_17 {d : Nat} {a1 : Value} {x : Nat} {st : List Value} {hp : qzH} : qzV d 89 17 [.ref x, a1] (st) hp = qzV d 89 18 [.ref x, a1] (.ref x :: st) hp := qv_aload (i := 0) mdc_89 dX3_records_17 rfl rfl rfl
theorem eX3_records_18 {d : Nat} {a0 a1 : Value} {a : Nat} {st : List Value} {hp : qzH} (ha : qzArr 3 a hp.1 = true) : qzV d 89 18 [a0, a1] (.ref a :: st) hp = qzV d 89 21 [a0, a1] (va_rf (hp.2.1 a 2) :: st) hp := qv_getR mdc_89 dX3_records_18 mdo_89 qff_3_16 ⟨by decide, rfl⟩ rfl ha
theorem eX3_records_21 {d : Nat} {a0 : Value} {x : Int32} {st : List Value} {hp : qzH} : qzV d 89 21 [a0, .int x] (st) hp = qzV d 89 22 [a0, .int x] (.int x :: st) hp := qv_iload (i := 1) mdc_89 dX3_records_21 rfl rfl rfl
theorem eX3_records_22 {d : Nat} {a1 : Value} {x : Nat} {st : List Value} {hp : qzH} : qzV d 89 22 [.ref x, a1] (st) hp = qzV d 89 23 [.ref x, a1] (.ref x :: st) hp := qv_aload (i := 0) mdc_89 dX3_records_22 rfl rfl rfl
theorem eX3_records_23 {d : Nat} {a0 a1 : Value} {a : Nat} {st : List Value} {hp : qzH} (ha : qzArr 3 a hp.1 = true) : qzV d 89 23 [a0, a1] (.ref a :: st) hp = qzV d 89 26 [a0, a1] (va_rf (hp.2.1 a 2) :: st) hp := qv_getR mdc_89 dX3_records_23 mdo_89 qff_3_16 ⟨by decide, rfl⟩ rfl ha
theorem eX3_records_26 {d : Nat} {a0 : Value} {x : Int32} {st : List Value} {hp : qzH} : qzV d 89 26 [a0, .int x] (st) hp = qzV d 89 27 [a0, .int x] (.int x :: st) hp := qv_iload (i := 1) mdc_89 dX3_records_26 rfl rfl rfl
theorem eX3_records_27 {d : Nat} {a0 a1 : Value} {st : List Value} {hp : qzH} : qzV d 89 27 [a0, a1] (st) hp = qzV d 89 29 [a0, a1] (.int 120 :: st) hp := qv_bipush mdc_89 dX3_records_27 ib_120 rfl
theorem eX3_records_29 {d : Nat} {a0 a1 : Value} {x y : Int32} {st : List Value} {hp : qzH} : qzV d 89 29 [a0, a1] (.int y :: .int x :: st) hp = qzV d 89 30 [a0, a1] (.int (x + y) :: st) hp := qv_bin (f := fun x y => x + y) mdc_89 dX3_records_29 rfl rfl
theorem eX3_records_30 {d : Nat} {a0 a1 : Value} {i : Int32} {a : Nat} {st : List Value} {hp : qzH} (ha : qzArr 4 a hp.1 = true) (hi : qzIn i (qzk a).2 = true) : qzV d 89 30 [a0, a1] (.int i :: .ref a :: st) hp = qzV d 89 31 [a0, a1] (.int (hp.2.2 a i.toNatClampNeg) :: st) hp := qv_iald mdc_89 dX3_records_30 rfl ha hi
theorem eX3_records_31 {d : Nat} {a0 a1 : Value} {i x : Int32} {a : Nat} {st : List Value} {hp : qzH} (ha : qzArr 4 a hp.1 = true) (hi : qzIn i (qzk a).2 = true) : qzV d 89 31 [a0, a1] (.int x :: .int i :: .ref a :: st) hp = qzV d 89 32 [a0, a1] st (hp.1, hp.2.1, qzUp hp.2.2 a i.toNatClampNeg x) := qv_iast mdc_89 dX3_records_31 rfl ha hi
theorem eX3_records_32 {d : Nat} {a0 : Value} {x : Int32} {st : List Value} {hp : qzH} : qzV d 89 32 [a0, .int x] (st) hp = qzV d 89 35 [a0, .int (x + 1)] (st) hp := qv_iinc mdc_89 dX3_records_32 rfl il_1 rfl rfl
theorem eX3_records_35 {d : Nat} {a0 a1 : Value} {st : List Value} {hp : qzH} : qzV d 89 35 [a0, a1] (st) hp = qzV d 89 10 [a0, a1] (st) hp := qv_goto mdc_89 dX3_records_35 rfl
theorem eX3_records_38 {d : Nat} {a1 : Value} {x : Nat} {st : List Value} {hp : qzH} : qzV d 89 38 [.ref x, a1] (st) hp = qzV d 89 39 [.ref x, a1] (.ref x :: st) hp := qv_aload (i := 0) mdc_89 dX3_records_38 rfl rfl rfl
theorem eX3_records_39 {d : Nat} {a0 a1 : Value} {v : Value} {st : List Value} {hp : qzH} : qzV d 89 39 [a0, a1] (v :: st) hp = qzV d 89 40 [a0, a1] (v :: v :: st) hp := qv_dup mdc_89 dX3_records_39 rfl
theorem eX3_records_40 {d : Nat} {a0 a1 : Value} {a : Nat} {st : List Value} {hp : qzH} (ha : qzArr 3 a hp.1 = true) : qzV d 89 40 [a0, a1] (.ref a :: st) hp = qzV d 89 43 [a0, a1] (.int (hp.2.2 a 3) :: st) hp := qv_getI mdc_89 dX3_records_40 mdo_89 qff_3_31 ⟨by decide, rfl⟩ rfl ha
theorem eX3_records_43 {d : Nat} {a0 a1 : Value} {st : List Value} {hp : qzH} : qzV d 89 43 [a0, a1] (st) hp = qzV d 89 44 [a0, a1] (.int 1 :: st) hp := qv_iconst mdc_89 dX3_records_43 il_1 rfl
theorem eX3_records_44 {d : Nat} {a0 a1 : Value} {x y : Int32} {st : List Value} {hp : qzH} : qzV d 89 44 [a0, a1] (.int y :: .int x :: st) hp = qzV d 89 45 [a0, a1] (.int (x - y) :: st) hp := qv_bin (f := fun x y => x - y) mdc_89 dX3_records_44 rfl rfl
theorem eX3_records_45 {d : Nat} {a0 a1 : Value} {a : Nat} {x : Int32} {st : List Value} {hp : qzH} (ha : qzArr 3 a hp.1 = true) : qzV d 89 45 [a0, a1] (.int x :: .ref a :: st) hp = qzV d 89 48 [a0, a1] st (hp.1, hp.2.1, qzUp hp.2.2 a 3 x) := qv_putI mdc_89 dX3_records_45 mdo_89 qff_3_31 ⟨by decide, rfl, rfl⟩ rfl ha ⟨rfl, rfl⟩
theorem eX3_records_48 {d : Nat} {a1 : Value} {x : Nat} {st : List Value} {hp : qzH} : qzV d 89 48 [.ref x, a1] (st) hp = qzV d 89 49 [.ref x, a1] (.ref x :: st) hp := qv_aload (i := 0) mdc_89 dX3_records_48 rfl rfl rfl
theorem eX3_records_49 {d : Nat} {a0 a1 : Value} {a : Nat} {st : List Value} {hp : qzH} (ha : qzArr 3 a hp.1 = true) : qzV d 89 49 [a0, a1] (.ref a :: st) hp = qzV d 89 52 [a0, a1] (va_rf (hp.2.1 a 0) :: st) hp := qv_getR mdc_89 dX3_records_49 mdo_89 qff_3_7 ⟨by decide, rfl⟩ rfl ha
theorem eX3_records_52 {d : Nat} {a0 a1 : Value} {st : List Value} {hp : qzH} : qzV d 89 52 [a0, a1] (st) hp = qzV d 89 53 [a0, a1] (.int 0 :: st) hp := qv_iconst mdc_89 dX3_records_52 il_0 rfl
theorem eX3_records_53 {d : Nat} {a1 : Value} {x : Nat} {st : List Value} {hp : qzH} : qzV d 89 53 [.ref x, a1] (st) hp = qzV d 89 54 [.ref x, a1] (.ref x :: st) hp := qv_aload (i := 0) mdc_89 dX3_records_53 rfl rfl rfl
theorem eX3_records_54 {d : Nat} {a0 a1 : Value} {a : Nat} {st : List Value} {hp : qzH} (ha : qzArr 3 a hp.1 = true) : qzV d 89 54 [a0, a1] (.ref a :: st) hp = qzV d 89 57 [a0, a1] (va_rf (hp.2.1 a 2) :: st) hp := qv_getR mdc_89 dX3_records_54 mdo_89 qff_3_16 ⟨by decide, rfl⟩ rfl ha
theorem eX3_records_57 {d : Nat} {a0 a1 : Value} {st : List Value} {hp : qzH} : qzV d 89 57 [a0, a1] (st) hp = qzV d 89 59 [a0, a1] (.int 120 :: st) hp := qv_bipush mdc_89 dX3_records_57 ib_120 rfl
theorem eX3_records_59 {d : Nat} {a1 : Value} {x : Nat} {st : List Value} {hp : qzH} : qzV d 89 59 [.ref x, a1] (st) hp = qzV d 89 60 [.ref x, a1] (.ref x :: st) hp := qv_aload (i := 0) mdc_89 dX3_records_59 rfl rfl rfl
theorem eX3_records_60 {d : Nat} {a0 a1 : Value} {a : Nat} {st : List Value} {hp : qzH} (ha : qzArr 3 a hp.1 = true) : qzV d 89 60 [a0, a1] (.ref a :: st) hp = qzV d 89 63 [a0, a1] (.int (hp.2.2 a 3) :: st) hp := qv_getI mdc_89 dX3_records_60 mdo_89 qff_3_31 ⟨by decide, rfl⟩ rfl ha
theorem eX3_records_63 {d : Nat} {a0 a1 : Value} {x y : Int32} {st : List Value} {hp : qzH} : qzV d 89 63 [a0, a1] (.int y :: .int x :: st) hp = qzV d 89 64 [a0, a1] (.int (x * y) :: st) hp := qv_bin (f := fun x y => x * y) mdc_89 dX3_records_63 rfl rfl
theorem eX3_records_64 {d : Nat} {a0 a1 : Value} {w0 w1 w2 w3 : Value} {st : List Value} {hp : qzH} (h8 : st.length ≤ 8) : qzV (d + 1) 89 64 [a0, a1] (w3 :: w2 :: w1 :: w0 :: st) hp = (qzC d 88 [w0, w1, w2, w3] hp).bind (fun r => qzV (d + 1) 89 67 [a0, a1] (r.1.toList ++ st) r.2) := qv_calls (n := 4) mdc_89 dX3_records_64 mdo_89 (by decide) qfc_3_35 ⟨rfl, by decide, rfl⟩ rfl ⟨rfl, rfl, by simp only [List.length_cons]; omega⟩ h8
theorem eX3_records_67 {d : Nat} {a1 : Value} {x : Nat} {st : List Value} {hp : qzH} : qzV d 89 67 [.ref x, a1] (st) hp = qzV d 89 68 [.ref x, a1] (.ref x :: st) hp := qv_aload (i := 0) mdc_89 dX3_records_67 rfl rfl rfl
theorem eX3_records_68 {d : Nat} {a0 a1 : Value} {v : Value} {st : List Value} {hp : qzH} : qzV d 89 68 [a0, a1] (v :: st) hp = qzV d 89 69 [a0, a1] (v :: v :: st) hp := qv_dup mdc_89 dX3_records_68 rfl
theorem eX3_records_69 {d : Nat} {a0 a1 : Value} {a : Nat} {st : List Value} {hp : qzH} (ha : qzArr 3 a hp.1 = true) : qzV d 89 69 [a0, a1] (.ref a :: st) hp = qzV d 89 72 [a0, a1] (.int (hp.2.2 a 3) :: st) hp := qv_getI mdc_89 dX3_records_69 mdo_89 qff_3_31 ⟨by decide, rfl⟩ rfl ha
theorem eX3_records_72 {d : Nat} {a0 a1 : Value} {st : List Value} {hp : qzH} : qzV d 89 72 [a0, a1] (st) hp = qzV d 89 73 [a0, a1] (.int 1 :: st) hp := qv_iconst mdc_89 dX3_records_72 il_1 rfl
theorem eX3_records_73 {d : Nat} {a0 a1 : Value} {x y : Int32} {st : List Value} {hp : qzH} : qzV d 89 73 [a0, a1] (.int y :: .int x :: st) hp = qzV d 89 74 [a0, a1] (.int (x + y) :: st) hp := qv_bin (f := fun x y => x + y) mdc_89 dX3_records_73 rfl rfl
theorem eX3_records_74 {d : Nat} {a0 a1 : Value} {a : Nat} {x : Int32} {st : List Value} {hp : qzH} (ha : qzArr 3 a hp.1 = true) : qzV d 89 74 [a0, a1] (.int x :: .ref a :: st) hp = qzV d 89 77 [a0, a1] st (hp.1, hp.2.1, qzUp hp.2.2 a 3 x) := qv_putI mdc_89 dX3_records_74 mdo_89 qff_3_31 ⟨by decide, rfl, rfl⟩ rfl ha ⟨rfl, rfl⟩
theorem eX3_records_77 {d : Nat} {a0 a1 : Value} {hp : qzH} : qzV d 89 77 [a0, a1] [] hp = some (none, hp) := qv_vret mdc_89 dX3_records_77 mdr_89
theorem dX3_beginsAgain_0 : decode cX3_beginsAgain 0 = .ok (.aload_n 0, 1) := by decide +kernel
theorem dX3_beginsAgain_1 : decode cX3_beginsAgain 1 = .ok (.getfield 7, 3) := by decide +kernel
theorem dX3_beginsAgain_4 : decode cX3_beginsAgain 4 = .ok (.iconst 1, 1) := by decide +kernel
theorem dX3_beginsAgain_5 : decode cX3_beginsAgain 5 = .ok (.iconst 0, 1) := by decide +kernel
theorem dX3_beginsAgain_6 : decode cX3_beginsAgain 6 = .ok (.iastore, 1) := by decide +kernel
theorem dX3_beginsAgain_7 : decode cX3_beginsAgain 7 = .ok (.aload_n 0, 1) := by decide +kernel
theorem dX3_beginsAgain_8 : decode cX3_beginsAgain 8 = .ok (.getfield 7, 3) := by decide +kernel
theorem dX3_beginsAgain_11 : decode cX3_beginsAgain 11 = .ok (.iconst 2, 1) := by decide +kernel
theorem dX3_beginsAgain_12 : decode cX3_beginsAgain 12 = .ok (.aload_n 0, 1) := by decide +kernel
theorem dX3_beginsAgain_13 : decode cX3_beginsAgain 13 = .ok (.getfield 7, 3) := by decide +kernel
theorem dX3_beginsAgain_16 : decode cX3_beginsAgain 16 = .ok (.iconst 0, 1) := by decide +kernel
theorem dX3_beginsAgain_17 : decode cX3_beginsAgain 17 = .ok (.iaload, 1) := by decide +kernel
theorem dX3_beginsAgain_18 : decode cX3_beginsAgain 18 = .ok (.iastore, 1) := by decide +kernel
theorem dX3_beginsAgain_19 : decode cX3_beginsAgain 19 = .ok (.aload_n 0, 1) := by decide +kernel
theorem dX3_beginsAgain_20 : decode cX3_beginsAgain 20 = .ok (.getfield 7, 3) := by decide +kernel
theorem dX3_beginsAgain_23 : decode cX3_beginsAgain 23 = .ok (.iconst 3, 1) := by decide +kernel
theorem dX3_beginsAgain_24 : decode cX3_beginsAgain 24 = .ok (.iconst 0, 1) := by decide +kernel
theorem dX3_beginsAgain_25 : decode cX3_beginsAgain 25 = .ok (.iastore, 1) := by decide +kernel
theorem dX3_beginsAgain_26 : decode cX3_beginsAgain 26 = .ok (.aload_n 0, 1) := by decide +kernel
theorem dX3_beginsAgain_27 : decode cX3_beginsAgain 27 = .ok (.getfield 7, 3) := by decide +kernel
theorem dX3_beginsAgain_30 : decode cX3_beginsAgain 30 = .ok (.iconst 4, 1) := by decide +kernel
theorem dX3_beginsAgain_31 : decode cX3_beginsAgain 31 = .ok (.iconst 0, 1) := by decide +kernel
theorem dX3_beginsAgain_32 : decode cX3_beginsAgain 32 = .ok (.iastore, 1) := by decide +kernel
theorem dX3_beginsAgain_33 : decode cX3_beginsAgain 33 = .ok (.bipush 28, 2) := by decide +kernel
theorem dX3_beginsAgain_35 : decode cX3_beginsAgain 35 = .ok (.istore_n 1, 1) := by decide +kernel
theorem dX3_beginsAgain_36 : decode cX3_beginsAgain 36 = .ok (.iload_n 1, 1) := by decide +kernel
theorem dX3_beginsAgain_37 : decode cX3_beginsAgain 37 = .ok (.bipush 120, 2) := by decide +kernel
theorem dX3_beginsAgain_39 : decode cX3_beginsAgain 39 = .ok (.if_icmp .ge 16, 3) := by decide +kernel
theorem dX3_beginsAgain_42 : decode cX3_beginsAgain 42 = .ok (.aload_n 0, 1) := by decide +kernel
theorem dX3_beginsAgain_43 : decode cX3_beginsAgain 43 = .ok (.getfield 7, 3) := by decide +kernel
theorem dX3_beginsAgain_46 : decode cX3_beginsAgain 46 = .ok (.iload_n 1, 1) := by decide +kernel
theorem dX3_beginsAgain_47 : decode cX3_beginsAgain 47 = .ok (.iconst 0, 1) := by decide +kernel
theorem dX3_beginsAgain_48 : decode cX3_beginsAgain 48 = .ok (.iastore, 1) := by decide +kernel
theorem dX3_beginsAgain_49 : decode cX3_beginsAgain 49 = .ok (.iinc 1 1, 3) := by decide +kernel
theorem dX3_beginsAgain_52 : decode cX3_beginsAgain 52 = .ok (.goto (-16), 3) := by decide +kernel
theorem dX3_beginsAgain_55 : decode cX3_beginsAgain 55 = .ok (.return_, 1) := by decide +kernel
theorem eX3_beginsAgain_0 {d : Nat} {a1 : Value} {x : Nat} {st : List Value} {hp : qzH} : qzV d 90 0 [.ref x, a1] (st) hp = qzV d 90 1 [.ref x, a1] (.ref x :: st) hp := qv_aload (i := 0) mdc_90 dX3_beginsAgain_0 rfl rfl rfl
theorem eX3_beginsAgain_1 {d : Nat} {a0 a1 : Value} {a : Nat} {st : List Value} {hp : qzH} (ha : qzArr 3 a hp.1 = true) : qzV d 90 1 [a0, a1] (.ref a :: st) hp = qzV d 90 4 [a0, a1] (va_rf (hp.2.1 a 0) :: st) hp := qv_getR mdc_90 dX3_beginsAgain_1 mdo_90 qff_3_7 ⟨by decide, rfl⟩ rfl ha
theorem eX3_beginsAgain_4 {d : Nat} {a0 a1 : Value} {st : List Value} {hp : qzH} : qzV d 90 4 [a0, a1] (st) hp = qzV d 90 5 [a0, a1] (.int 1 :: st) hp := qv_iconst mdc_90 dX3_beginsAgain_4 il_1 rfl
theorem eX3_beginsAgain_5 {d : Nat} {a0 a1 : Value} {st : List Value} {hp : qzH} : qzV d 90 5 [a0, a1] (st) hp = qzV d 90 6 [a0, a1] (.int 0 :: st) hp := qv_iconst mdc_90 dX3_beginsAgain_5 il_0 rfl
theorem eX3_beginsAgain_6 {d : Nat} {a0 a1 : Value} {i x : Int32} {a : Nat} {st : List Value} {hp : qzH} (ha : qzArr 4 a hp.1 = true) (hi : qzIn i (qzk a).2 = true) : qzV d 90 6 [a0, a1] (.int x :: .int i :: .ref a :: st) hp = qzV d 90 7 [a0, a1] st (hp.1, hp.2.1, qzUp hp.2.2 a i.toNatClampNeg x) := qv_iast mdc_90 dX3_beginsAgain_6 rfl ha hi
theorem eX3_beginsAgain_7 {d : Nat} {a1 : Value} {x : Nat} {st : List Value} {hp : qzH} : qzV d 90 7 [.ref x, a1] (st) hp = qzV d 90 8 [.ref x, a1] (.ref x :: st) hp := qv_aload (i := 0) mdc_90 dX3_beginsAgain_7 rfl rfl rfl
theorem eX3_beginsAgain_8 {d : Nat} {a0 a1 : Value} {a : Nat} {st : List Value} {hp : qzH} (ha : qzArr 3 a hp.1 = true) : qzV d 90 8 [a0, a1] (.ref a :: st) hp = qzV d 90 11 [a0, a1] (va_rf (hp.2.1 a 0) :: st) hp := qv_getR mdc_90 dX3_beginsAgain_8 mdo_90 qff_3_7 ⟨by decide, rfl⟩ rfl ha
theorem eX3_beginsAgain_11 {d : Nat} {a0 a1 : Value} {st : List Value} {hp : qzH} : qzV d 90 11 [a0, a1] (st) hp = qzV d 90 12 [a0, a1] (.int 2 :: st) hp := qv_iconst mdc_90 dX3_beginsAgain_11 il_2 rfl
theorem eX3_beginsAgain_12 {d : Nat} {a1 : Value} {x : Nat} {st : List Value} {hp : qzH} : qzV d 90 12 [.ref x, a1] (st) hp = qzV d 90 13 [.ref x, a1] (.ref x :: st) hp := qv_aload (i := 0) mdc_90 dX3_beginsAgain_12 rfl rfl rfl
theorem eX3_beginsAgain_13 {d : Nat} {a0 a1 : Value} {a : Nat} {st : List Value} {hp : qzH} (ha : qzArr 3 a hp.1 = true) : qzV d 90 13 [a0, a1] (.ref a :: st) hp = qzV d 90 16 [a0, a1] (va_rf (hp.2.1 a 0) :: st) hp := qv_getR mdc_90 dX3_beginsAgain_13 mdo_90 qff_3_7 ⟨by decide, rfl⟩ rfl ha
theorem eX3_beginsAgain_16 {d : Nat} {a0 a1 : Value} {st : List Value} {hp : qzH} : qzV d 90 16 [a0, a1] (st) hp = qzV d 90 17 [a0, a1] (.int 0 :: st) hp := qv_iconst mdc_90 dX3_beginsAgain_16 il_0 rfl
theorem eX3_beginsAgain_17 {d : Nat} {a0 a1 : Value} {i : Int32} {a : Nat} {st : List Value} {hp : qzH} (ha : qzArr 4 a hp.1 = true) (hi : qzIn i (qzk a).2 = true) : qzV d 90 17 [a0, a1] (.int i :: .ref a :: st) hp = qzV d 90 18 [a0, a1] (.int (hp.2.2 a i.toNatClampNeg) :: st) hp := qv_iald mdc_90 dX3_beginsAgain_17 rfl ha hi
theorem eX3_beginsAgain_18 {d : Nat} {a0 a1 : Value} {i x : Int32} {a : Nat} {st : List Value} {hp : qzH} (ha : qzArr 4 a hp.1 = true) (hi : qzIn i (qzk a).2 = true) : qzV d 90 18 [a0, a1] (.int x :: .int i :: .ref a :: st) hp = qzV d 90 19 [a0, a1] st (hp.1, hp.2.1, qzUp hp.2.2 a i.toNatClampNeg x) := qv_iast mdc_90 dX3_beginsAgain_18 rfl ha hi
theorem eX3_beginsAgain_19 {d : Nat} {a1 : Value} {x : Nat} {st : List Value} {hp : qzH} : qzV d 90 19 [.ref x, a1] (st) hp = qzV d 90 20 [.ref x, a1] (.ref x :: st) hp := qv_aload (i := 0) mdc_90 dX3_beginsAgain_19 rfl rfl rfl
theorem eX3_beginsAgain_20 {d : Nat} {a0 a1 : Value} {a : Nat} {st : List Value} {hp : qzH} (ha : qzArr 3 a hp.1 = true) : qzV d 90 20 [a0, a1] (.ref a :: st) hp = qzV d 90 23 [a0, a1] (va_rf (hp.2.1 a 0) :: st) hp := qv_getR mdc_90 dX3_beginsAgain_20 mdo_90 qff_3_7 ⟨by decide, rfl⟩ rfl ha
theorem eX3_beginsAgain_23 {d : Nat} {a0 a1 : Value} {st : List Value} {hp : qzH} : qzV d 90 23 [a0, a1] (st) hp = qzV d 90 24 [a0, a1] (.int 3 :: st) hp := qv_iconst mdc_90 dX3_beginsAgain_23 il_3 rfl
theorem eX3_beginsAgain_24 {d : Nat} {a0 a1 : Value} {st : List Value} {hp : qzH} : qzV d 90 24 [a0, a1] (st) hp = qzV d 90 25 [a0, a1] (.int 0 :: st) hp := qv_iconst mdc_90 dX3_beginsAgain_24 il_0 rfl
theorem eX3_beginsAgain_25 {d : Nat} {a0 a1 : Value} {i x : Int32} {a : Nat} {st : List Value} {hp : qzH} (ha : qzArr 4 a hp.1 = true) (hi : qzIn i (qzk a).2 = true) : qzV d 90 25 [a0, a1] (.int x :: .int i :: .ref a :: st) hp = qzV d 90 26 [a0, a1] st (hp.1, hp.2.1, qzUp hp.2.2 a i.toNatClampNeg x) := qv_iast mdc_90 dX3_beginsAgain_25 rfl ha hi
theorem eX3_beginsAgain_26 {d : Nat} {a1 : Value} {x : Nat} {st : List Value} {hp : qzH} : qzV d 90 26 [.ref x, a1] (st) hp = qzV d 90 27 [.ref x, a1] (.ref x :: st) hp := qv_aload (i := 0) mdc_90 dX3_beginsAgain_26 rfl rfl rfl
theorem eX3_beginsAgain_27 {d : Nat} {a0 a1 : Value} {a : Nat} {st : List Value} {hp : qzH} (ha : qzArr 3 a hp.1 = true) : qzV d 90 27 [a0, a1] (.ref a :: st) hp = qzV d 90 30 [a0, a1] (va_rf (hp.2.1 a 0) :: st) hp := qv_getR mdc_90 dX3_beginsAgain_27 mdo_90 qff_3_7 ⟨by decide, rfl⟩ rfl ha
theorem eX3_beginsAgain_30 {d : Nat} {a0 a1 : Value} {st : List Value} {hp : qzH} : qzV d 90 30 [a0, a1] (st) hp = qzV d 90 31 [a0, a1] (.int 4 :: st) hp := qv_iconst mdc_90 dX3_beginsAgain_30 il_4 rfl
theorem eX3_beginsAgain_31 {d : Nat} {a0 a1 : Value} {st : List Value} {hp : qzH} : qzV d 90 31 [a0, a1] (st) hp = qzV d 90 32 [a0, a1] (.int 0 :: st) hp := qv_iconst mdc_90 dX3_beginsAgain_31 il_0 rfl
theorem eX3_beginsAgain_32 {d : Nat} {a0 a1 : Value} {i x : Int32} {a : Nat} {st : List Value} {hp : qzH} (ha : qzArr 4 a hp.1 = true) (hi : qzIn i (qzk a).2 = true) : qzV d 90 32 [a0, a1] (.int x :: .int i :: .ref a :: st) hp = qzV d 90 33 [a0, a1] st (hp.1, hp.2.1, qzUp hp.2.2 a i.toNatClampNeg x) := qv_iast mdc_90 dX3_beginsAgain_32 rfl ha hi
theorem eX3_beginsAgain_33 {d : Nat} {a0 a1 : Value} {st : List Value} {hp : qzH} : qzV d 90 33 [a0, a1] (st) hp = qzV d 90 35 [a0, a1] (.int 28 :: st) hp := qv_bipush mdc_90 dX3_beginsAgain_33 ib_28 rfl
theorem eX3_beginsAgain_35 {d : Nat} {a0 a1 : Value} {x : Int32} {st : List Value} {hp : qzH} : qzV d 90 35 [a0, a1] (.int x :: st) hp = qzV d 90 36 [a0, .int x] (st) hp := qv_istore (i := 1) mdc_90 dX3_beginsAgain_35 rfl (Nat.le_of_ble_eq_true rfl) rfl rfl
theorem eX3_beginsAgain_36 {d : Nat} {a0 : Value} {x : Int32} {st : List Value} {hp : qzH} : qzV d 90 36 [a0, .int x] (st) hp = qzV d 90 37 [a0, .int x] (.int x :: st) hp := qv_iload (i := 1) mdc_90 dX3_beginsAgain_36 rfl rfl rfl
theorem eX3_beginsAgain_37 {d : Nat} {a0 a1 : Value} {st : List Value} {hp : qzH} : qzV d 90 37 [a0, a1] (st) hp = qzV d 90 39 [a0, a1] (.int 120 :: st) hp := qv_bipush mdc_90 dX3_beginsAgain_37 ib_120 rfl
theorem eX3_beginsAgain_39 {d : Nat} {a0 a1 : Value} {x y : Int32} {st : List Value} {hp : qzH} : qzV d 90 39 [a0, a1] (.int y :: .int x :: st) hp = if y ≤ x then qzV d 90 55 [a0, a1] (st) hp else qzV d 90 42 [a0, a1] (st) hp := qv_if2 mdc_90 dX3_beginsAgain_39 rfl rfl rfl
theorem eX3_beginsAgain_42 {d : Nat} {a1 : Value} {x : Nat} {st : List Value} {hp : qzH} : qzV d 90 42 [.ref x, a1] (st) hp = qzV d 90 43 [.ref x, a1] (.ref x :: st) hp := qv_aload (i := 0) mdc_90 dX3_beginsAgain_42 rfl rfl rfl
theorem eX3_beginsAgain_43 {d : Nat} {a0 a1 : Value} {a : Nat} {st : List Value} {hp : qzH} (ha : qzArr 3 a hp.1 = true) : qzV d 90 43 [a0, a1] (.ref a :: st) hp = qzV d 90 46 [a0, a1] (va_rf (hp.2.1 a 0) :: st) hp := qv_getR mdc_90 dX3_beginsAgain_43 mdo_90 qff_3_7 ⟨by decide, rfl⟩ rfl ha
theorem eX3_beginsAgain_46 {d : Nat} {a0 : Value} {x : Int32} {st : List Value} {hp : qzH} : qzV d 90 46 [a0, .int x] (st) hp = qzV d 90 47 [a0, .int x] (.int x :: st) hp := qv_iload (i := 1) mdc_90 dX3_beginsAgain_46 rfl rfl rfl
theorem eX3_beginsAgain_47 {d : Nat} {a0 a1 : Value} {st : List Value} {hp : qzH} : qzV d 90 47 [a0, a1] (st) hp = qzV d 90 48 [a0, a1] (.int 0 :: st) hp := qv_iconst mdc_90 dX3_beginsAgain_47 il_0 rfl
theorem eX3_beginsAgain_48 {d : Nat} {a0 a1 : Value} {i x : Int32} {a : Nat} {st : List Value} {hp : qzH} (ha : qzArr 4 a hp.1 = true) (hi : qzIn i (qzk a).2 = true) : qzV d 90 48 [a0, a1] (.int x :: .int i :: .ref a :: st) hp = qzV d 90 49 [a0, a1] st (hp.1, hp.2.1, qzUp hp.2.2 a i.toNatClampNeg x) := qv_iast mdc_90 dX3_beginsAgain_48 rfl ha hi
theorem eX3_beginsAgain_49 {d : Nat} {a0 : Value} {x : Int32} {st : List Value} {hp : qzH} : qzV d 90 49 [a0, .int x] (st) hp = qzV d 90 52 [a0, .int (x + 1)] (st) hp := qv_iinc mdc_90 dX3_beginsAgain_49 rfl il_1 rfl rfl
theorem eX3_beginsAgain_52 {d : Nat} {a0 a1 : Value} {st : List Value} {hp : qzH} : qzV d 90 52 [a0, a1] (st) hp = qzV d 90 36 [a0, a1] (st) hp := qv_goto mdc_90 dX3_beginsAgain_52 rfl
theorem eX3_beginsAgain_55 {d : Nat} {a0 a1 : Value} {hp : qzH} : qzV d 90 55 [a0, a1] [] hp = some (none, hp) := qv_vret mdc_90 dX3_beginsAgain_55 mdr_90
theorem dX3_coatOf_0 : decode cX3_coatOf 0 = .ok (.aload_n 0, 1) := by decide +kernel
theorem dX3_coatOf_1 : decode cX3_coatOf 1 = .ok (.getfield 7, 3) := by decide +kernel
theorem dX3_coatOf_4 : decode cX3_coatOf 4 = .ok (.bipush 28, 2) := by decide +kernel
theorem dX3_coatOf_6 : decode cX3_coatOf 6 = .ok (.bipush 6, 2) := by decide +kernel
theorem dX3_coatOf_8 : decode cX3_coatOf 8 = .ok (.iload_n 1, 1) := by decide +kernel
theorem dX3_coatOf_9 : decode cX3_coatOf 9 = .ok (.imul, 1) := by decide +kernel
theorem dX3_coatOf_10 : decode cX3_coatOf 10 = .ok (.iadd, 1) := by decide +kernel
theorem dX3_coatOf_11 : decode cX3_coatOf 11 = .ok (.iload_n 2, 1) := by decide +kernel
theorem dX3_coatOf_12 : decode cX3_coatOf 12 = .ok (.iadd, 1) := by decide +kernel
theorem dX3_coatOf_13 : decode cX3_coatOf 13 = .ok (.iaload, 1) := by decide +kernel
theorem dX3_coatOf_14 : decode cX3_coatOf 14 = .ok (.ireturn, 1) := by decide +kernel
theorem eX3_coatOf_0 {d : Nat} {a1 a2 : Value} {x : Nat} {st : List Value} {hp : qzH} : qzV d 91 0 [.ref x, a1, a2] (st) hp = qzV d 91 1 [.ref x, a1, a2] (.ref x :: st) hp := qv_aload (i := 0) mdc_91 dX3_coatOf_0 rfl rfl rfl
theorem eX3_coatOf_1 {d : Nat} {a0 a1 a2 : Value} {a : Nat} {st : List Value} {hp : qzH} (ha : qzArr 3 a hp.1 = true) : qzV d 91 1 [a0, a1, a2] (.ref a :: st) hp = qzV d 91 4 [a0, a1, a2] (va_rf (hp.2.1 a 0) :: st) hp := qv_getR mdc_91 dX3_coatOf_1 mdo_91 qff_3_7 ⟨by decide, rfl⟩ rfl ha
theorem eX3_coatOf_4 {d : Nat} {a0 a1 a2 : Value} {st : List Value} {hp : qzH} : qzV d 91 4 [a0, a1, a2] (st) hp = qzV d 91 6 [a0, a1, a2] (.int 28 :: st) hp := qv_bipush mdc_91 dX3_coatOf_4 ib_28 rfl
theorem eX3_coatOf_6 {d : Nat} {a0 a1 a2 : Value} {st : List Value} {hp : qzH} : qzV d 91 6 [a0, a1, a2] (st) hp = qzV d 91 8 [a0, a1, a2] (.int 6 :: st) hp := qv_bipush mdc_91 dX3_coatOf_6 ib_6 rfl
theorem eX3_coatOf_8 {d : Nat} {a0 a2 : Value} {x : Int32} {st : List Value} {hp : qzH} : qzV d 91 8 [a0, .int x, a2] (st) hp = qzV d 91 9 [a0, .int x, a2] (.int x :: st) hp := qv_iload (i := 1) mdc_91 dX3_coatOf_8 rfl rfl rfl
theorem eX3_coatOf_9 {d : Nat} {a0 a1 a2 : Value} {x y : Int32} {st : List Value} {hp : qzH} : qzV d 91 9 [a0, a1, a2] (.int y :: .int x :: st) hp = qzV d 91 10 [a0, a1, a2] (.int (x * y) :: st) hp := qv_bin (f := fun x y => x * y) mdc_91 dX3_coatOf_9 rfl rfl
theorem eX3_coatOf_10 {d : Nat} {a0 a1 a2 : Value} {x y : Int32} {st : List Value} {hp : qzH} : qzV d 91 10 [a0, a1, a2] (.int y :: .int x :: st) hp = qzV d 91 11 [a0, a1, a2] (.int (x + y) :: st) hp := qv_bin (f := fun x y => x + y) mdc_91 dX3_coatOf_10 rfl rfl
theorem eX3_coatOf_11 {d : Nat} {a0 a1 : Value} {x : Int32} {st : List Value} {hp : qzH} : qzV d 91 11 [a0, a1, .int x] (st) hp = qzV d 91 12 [a0, a1, .int x] (.int x :: st) hp := qv_iload (i := 2) mdc_91 dX3_coatOf_11 rfl rfl rfl
theorem eX3_coatOf_12 {d : Nat} {a0 a1 a2 : Value} {x y : Int32} {st : List Value} {hp : qzH} : qzV d 91 12 [a0, a1, a2] (.int y :: .int x :: st) hp = qzV d 91 13 [a0, a1, a2] (.int (x + y) :: st) hp := qv_bin (f := fun x y => x + y) mdc_91 dX3_coatOf_12 rfl rfl
theorem eX3_coatOf_13 {d : Nat} {a0 a1 a2 : Value} {i : Int32} {a : Nat} {st : List Value} {hp : qzH} (ha : qzArr 4 a hp.1 = true) (hi : qzIn i (qzk a).2 = true) : qzV d 91 13 [a0, a1, a2] (.int i :: .ref a :: st) hp = qzV d 91 14 [a0, a1, a2] (.int (hp.2.2 a i.toNatClampNeg) :: st) hp := qv_iald mdc_91 dX3_coatOf_13 rfl ha hi
theorem eX3_coatOf_14 {d : Nat} {a0 a1 a2 : Value} {v : Int32} {hp : qzH} : qzV d 91 14 [a0, a1, a2] [.int v] hp = some (some (.int v), hp) := qv_iret mdc_91 dX3_coatOf_14 mdr_91 rfl
theorem dX3_adds_0 : decode cX3_adds 0 = .ok (.aload_n 0, 1) := by decide +kernel
theorem dX3_adds_1 : decode cX3_adds 1 = .ok (.getfield 7, 3) := by decide +kernel
theorem dX3_adds_4 : decode cX3_adds 4 = .ok (.bipush 28, 2) := by decide +kernel
theorem dX3_adds_6 : decode cX3_adds 6 = .ok (.bipush 6, 2) := by decide +kernel
theorem dX3_adds_8 : decode cX3_adds 8 = .ok (.iload_n 1, 1) := by decide +kernel
theorem dX3_adds_9 : decode cX3_adds 9 = .ok (.imul, 1) := by decide +kernel
theorem dX3_adds_10 : decode cX3_adds 10 = .ok (.iadd, 1) := by decide +kernel
theorem dX3_adds_11 : decode cX3_adds 11 = .ok (.iload_n 2, 1) := by decide +kernel
theorem dX3_adds_12 : decode cX3_adds 12 = .ok (.iadd, 1) := by decide +kernel
theorem dX3_adds_13 : decode cX3_adds 13 = .ok (.dup2, 1) := by decide +kernel
theorem dX3_adds_14 : decode cX3_adds 14 = .ok (.iaload, 1) := by decide +kernel
theorem dX3_adds_15 : decode cX3_adds 15 = .ok (.iload_n 3, 1) := by decide +kernel
theorem dX3_adds_16 : decode cX3_adds 16 = .ok (.iadd, 1) := by decide +kernel
theorem dX3_adds_17 : decode cX3_adds 17 = .ok (.iastore, 1) := by decide +kernel
theorem dX3_adds_18 : decode cX3_adds 18 = .ok (.return_, 1) := by decide +kernel
theorem eX3_adds_0 {d : Nat} {a1 a2 a3 : Value} {x : Nat} {st : List Value} {hp : qzH} : qzV d 92 0 [.ref x, a1, a2, a3] (st) hp = qzV d 92 1 [.ref x, a1, a2, a3] (.ref x :: st) hp := qv_aload (i := 0) mdc_92 dX3_adds_0 rfl rfl rfl
theorem eX3_adds_1 {d : Nat} {a0 a1 a2 a3 : Value} {a : Nat} {st : List Value} {hp : qzH} (ha : qzArr 3 a hp.1 = true) : qzV d 92 1 [a0, a1, a2, a3] (.ref a :: st) hp = qzV d 92 4 [a0, a1, a2, a3] (va_rf (hp.2.1 a 0) :: st) hp := qv_getR mdc_92 dX3_adds_1 mdo_92 qff_3_7 ⟨by decide, rfl⟩ rfl ha
theorem eX3_adds_4 {d : Nat} {a0 a1 a2 a3 : Value} {st : List Value} {hp : qzH} : qzV d 92 4 [a0, a1, a2, a3] (st) hp = qzV d 92 6 [a0, a1, a2, a3] (.int 28 :: st) hp := qv_bipush mdc_92 dX3_adds_4 ib_28 rfl
theorem eX3_adds_6 {d : Nat} {a0 a1 a2 a3 : Value} {st : List Value} {hp : qzH} : qzV d 92 6 [a0, a1, a2, a3] (st) hp = qzV d 92 8 [a0, a1, a2, a3] (.int 6 :: st) hp := qv_bipush mdc_92 dX3_adds_6 ib_6 rfl
theorem eX3_adds_8 {d : Nat} {a0 a2 a3 : Value} {x : Int32} {st : List Value} {hp : qzH} : qzV d 92 8 [a0, .int x, a2, a3] (st) hp = qzV d 92 9 [a0, .int x, a2, a3] (.int x :: st) hp := qv_iload (i := 1) mdc_92 dX3_adds_8 rfl rfl rfl
theorem eX3_adds_9 {d : Nat} {a0 a1 a2 a3 : Value} {x y : Int32} {st : List Value} {hp : qzH} : qzV d 92 9 [a0, a1, a2, a3] (.int y :: .int x :: st) hp = qzV d 92 10 [a0, a1, a2, a3] (.int (x * y) :: st) hp := qv_bin (f := fun x y => x * y) mdc_92 dX3_adds_9 rfl rfl
theorem eX3_adds_10 {d : Nat} {a0 a1 a2 a3 : Value} {x y : Int32} {st : List Value} {hp : qzH} : qzV d 92 10 [a0, a1, a2, a3] (.int y :: .int x :: st) hp = qzV d 92 11 [a0, a1, a2, a3] (.int (x + y) :: st) hp := qv_bin (f := fun x y => x + y) mdc_92 dX3_adds_10 rfl rfl
theorem eX3_adds_11 {d : Nat} {a0 a1 a3 : Value} {x : Int32} {st : List Value} {hp : qzH} : qzV d 92 11 [a0, a1, .int x, a3] (st) hp = qzV d 92 12 [a0, a1, .int x, a3] (.int x :: st) hp := qv_iload (i := 2) mdc_92 dX3_adds_11 rfl rfl rfl
theorem eX3_adds_12 {d : Nat} {a0 a1 a2 a3 : Value} {x y : Int32} {st : List Value} {hp : qzH} : qzV d 92 12 [a0, a1, a2, a3] (.int y :: .int x :: st) hp = qzV d 92 13 [a0, a1, a2, a3] (.int (x + y) :: st) hp := qv_bin (f := fun x y => x + y) mdc_92 dX3_adds_12 rfl rfl
theorem eX3_adds_13 {d : Nat} {a0 a1 a2 a3 : Value} {v w : Value} {st : List Value} {hp : qzH} : qzV d 92 13 [a0, a1, a2, a3] (v :: w :: st) hp = qzV d 92 14 [a0, a1, a2, a3] (v :: w :: v :: w :: st) hp := qv_dup2 mdc_92 dX3_adds_13 rfl
theorem eX3_adds_14 {d : Nat} {a0 a1 a2 a3 : Value} {i : Int32} {a : Nat} {st : List Value} {hp : qzH} (ha : qzArr 4 a hp.1 = true) (hi : qzIn i (qzk a).2 = true) : qzV d 92 14 [a0, a1, a2, a3] (.int i :: .ref a :: st) hp = qzV d 92 15 [a0, a1, a2, a3] (.int (hp.2.2 a i.toNatClampNeg) :: st) hp := qv_iald mdc_92 dX3_adds_14 rfl ha hi
theorem eX3_adds_15 {d : Nat} {a0 a1 a2 : Value} {x : Int32} {st : List Value} {hp : qzH} : qzV d 92 15 [a0, a1, a2, .int x] (st) hp = qzV d 92 16 [a0, a1, a2, .int x] (.int x :: st) hp := qv_iload (i := 3) mdc_92 dX3_adds_15 rfl rfl rfl
theorem eX3_adds_16 {d : Nat} {a0 a1 a2 a3 : Value} {x y : Int32} {st : List Value} {hp : qzH} : qzV d 92 16 [a0, a1, a2, a3] (.int y :: .int x :: st) hp = qzV d 92 17 [a0, a1, a2, a3] (.int (x + y) :: st) hp := qv_bin (f := fun x y => x + y) mdc_92 dX3_adds_16 rfl rfl
theorem eX3_adds_17 {d : Nat} {a0 a1 a2 a3 : Value} {i x : Int32} {a : Nat} {st : List Value} {hp : qzH} (ha : qzArr 4 a hp.1 = true) (hi : qzIn i (qzk a).2 = true) : qzV d 92 17 [a0, a1, a2, a3] (.int x :: .int i :: .ref a :: st) hp = qzV d 92 18 [a0, a1, a2, a3] st (hp.1, hp.2.1, qzUp hp.2.2 a i.toNatClampNeg x) := qv_iast mdc_92 dX3_adds_17 rfl ha hi
theorem eX3_adds_18 {d : Nat} {a0 a1 a2 a3 : Value} {hp : qzH} : qzV d 92 18 [a0, a1, a2, a3] [] hp = some (none, hp) := qv_vret mdc_92 dX3_adds_18 mdr_92
theorem dX3_isOver_0 : decode cX3_isOver 0 = .ok (.aload_n 0, 1) := by decide +kernel
theorem dX3_isOver_1 : decode cX3_isOver 1 = .ok (.getfield 7, 3) := by decide +kernel
theorem dX3_isOver_4 : decode cX3_isOver 4 = .ok (.iconst 2, 1) := by decide +kernel
theorem dX3_isOver_5 : decode cX3_isOver 5 = .ok (.iaload, 1) := by decide +kernel
theorem dX3_isOver_6 : decode cX3_isOver 6 = .ok (.ifCond .ne 7, 3) := by decide +kernel
theorem dX3_isOver_9 : decode cX3_isOver 9 = .ok (.iconst 1, 1) := by decide +kernel
theorem dX3_isOver_10 : decode cX3_isOver 10 = .ok (.goto 4, 3) := by decide +kernel
theorem dX3_isOver_13 : decode cX3_isOver 13 = .ok (.iconst 0, 1) := by decide +kernel
theorem dX3_isOver_14 : decode cX3_isOver 14 = .ok (.ireturn, 1) := by decide +kernel
theorem eX3_isOver_0 {d : Nat} {x : Nat} {st : List Value} {hp : qzH} : qzV d 93 0 [.ref x] (st) hp = qzV d 93 1 [.ref x] (.ref x :: st) hp := qv_aload (i := 0) mdc_93 dX3_isOver_0 rfl rfl rfl
theorem eX3_isOver_1 {d : Nat} {a0 : Value} {a : Nat} {st : List Value} {hp : qzH} (ha : qzArr 3 a hp.1 = true) : qzV d 93 1 [a0] (.ref a :: st) hp = qzV d 93 4 [a0] (va_rf (hp.2.1 a 0) :: st) hp := qv_getR mdc_93 dX3_isOver_1 mdo_93 qff_3_7 ⟨by decide, rfl⟩ rfl ha
theorem eX3_isOver_4 {d : Nat} {a0 : Value} {st : List Value} {hp : qzH} : qzV d 93 4 [a0] (st) hp = qzV d 93 5 [a0] (.int 2 :: st) hp := qv_iconst mdc_93 dX3_isOver_4 il_2 rfl
theorem eX3_isOver_5 {d : Nat} {a0 : Value} {i : Int32} {a : Nat} {st : List Value} {hp : qzH} (ha : qzArr 4 a hp.1 = true) (hi : qzIn i (qzk a).2 = true) : qzV d 93 5 [a0] (.int i :: .ref a :: st) hp = qzV d 93 6 [a0] (.int (hp.2.2 a i.toNatClampNeg) :: st) hp := qv_iald mdc_93 dX3_isOver_5 rfl ha hi
theorem eX3_isOver_6 {d : Nat} {a0 : Value} {x : Int32} {st : List Value} {hp : qzH} : qzV d 93 6 [a0] (.int x :: st) hp = if ¬ x = 0 then qzV d 93 13 [a0] (st) hp else qzV d 93 9 [a0] (st) hp := qv_if1 mdc_93 dX3_isOver_6 rfl rfl rfl
theorem eX3_isOver_9 {d : Nat} {a0 : Value} {st : List Value} {hp : qzH} : qzV d 93 9 [a0] (st) hp = qzV d 93 10 [a0] (.int 1 :: st) hp := qv_iconst mdc_93 dX3_isOver_9 il_1 rfl
theorem eX3_isOver_10 {d : Nat} {a0 : Value} {st : List Value} {hp : qzH} : qzV d 93 10 [a0] (st) hp = qzV d 93 14 [a0] (st) hp := qv_goto mdc_93 dX3_isOver_10 rfl
theorem eX3_isOver_13 {d : Nat} {a0 : Value} {st : List Value} {hp : qzH} : qzV d 93 13 [a0] (st) hp = qzV d 93 14 [a0] (.int 0 :: st) hp := qv_iconst mdc_93 dX3_isOver_13 il_0 rfl
theorem eX3_isOver_14 {d : Nat} {a0 : Value} {v : Int32} {hp : qzH} (hn : narrow .boolean (.int v) = .int v) : qzV d 93 14 [a0] [.int v] hp = some (some (.int v), hp) := qv_iret mdc_93 dX3_isOver_14 mdr_93 hn
theorem dX3_firstOf_0 : decode cX3_firstOf 0 = .ok (.iload_n 3, 1) := by decide +kernel
theorem dX3_firstOf_1 : decode cX3_firstOf 1 = .ok (.ifCond .eq 7, 3) := by decide +kernel
theorem dX3_firstOf_4 : decode cX3_firstOf 4 = .ok (.iload_n 0, 1) := by decide +kernel
theorem dX3_firstOf_5 : decode cX3_firstOf 5 = .ok (.goto 8, 3) := by decide +kernel
theorem dX3_firstOf_8 : decode cX3_firstOf 8 = .ok (.iload_n 0, 1) := by decide +kernel
theorem dX3_firstOf_9 : decode cX3_firstOf 9 = .ok (.iload_n 1, 1) := by decide +kernel
theorem dX3_firstOf_10 : decode cX3_firstOf 10 = .ok (.iadd, 1) := by decide +kernel
theorem dX3_firstOf_11 : decode cX3_firstOf 11 = .ok (.iload_n 2, 1) := by decide +kernel
theorem dX3_firstOf_12 : decode cX3_firstOf 12 = .ok (.isub, 1) := by decide +kernel
theorem dX3_firstOf_13 : decode cX3_firstOf 13 = .ok (.ireturn, 1) := by decide +kernel
theorem eX3_firstOf_0 {d : Nat} {a0 a1 a2 : Value} {x : Int32} {st : List Value} {hp : qzH} : qzV d 94 0 [a0, a1, a2, .int x] (st) hp = qzV d 94 1 [a0, a1, a2, .int x] (.int x :: st) hp := qv_iload (i := 3) mdc_94 dX3_firstOf_0 rfl rfl rfl
theorem eX3_firstOf_1 {d : Nat} {a0 a1 a2 a3 : Value} {x : Int32} {st : List Value} {hp : qzH} : qzV d 94 1 [a0, a1, a2, a3] (.int x :: st) hp = if x = 0 then qzV d 94 8 [a0, a1, a2, a3] (st) hp else qzV d 94 4 [a0, a1, a2, a3] (st) hp := qv_if1 mdc_94 dX3_firstOf_1 rfl rfl rfl
theorem eX3_firstOf_4 {d : Nat} {a1 a2 a3 : Value} {x : Int32} {st : List Value} {hp : qzH} : qzV d 94 4 [.int x, a1, a2, a3] (st) hp = qzV d 94 5 [.int x, a1, a2, a3] (.int x :: st) hp := qv_iload (i := 0) mdc_94 dX3_firstOf_4 rfl rfl rfl
theorem eX3_firstOf_5 {d : Nat} {a0 a1 a2 a3 : Value} {st : List Value} {hp : qzH} : qzV d 94 5 [a0, a1, a2, a3] (st) hp = qzV d 94 13 [a0, a1, a2, a3] (st) hp := qv_goto mdc_94 dX3_firstOf_5 rfl
theorem eX3_firstOf_8 {d : Nat} {a1 a2 a3 : Value} {x : Int32} {st : List Value} {hp : qzH} : qzV d 94 8 [.int x, a1, a2, a3] (st) hp = qzV d 94 9 [.int x, a1, a2, a3] (.int x :: st) hp := qv_iload (i := 0) mdc_94 dX3_firstOf_8 rfl rfl rfl
theorem eX3_firstOf_9 {d : Nat} {a0 a2 a3 : Value} {x : Int32} {st : List Value} {hp : qzH} : qzV d 94 9 [a0, .int x, a2, a3] (st) hp = qzV d 94 10 [a0, .int x, a2, a3] (.int x :: st) hp := qv_iload (i := 1) mdc_94 dX3_firstOf_9 rfl rfl rfl
theorem eX3_firstOf_10 {d : Nat} {a0 a1 a2 a3 : Value} {x y : Int32} {st : List Value} {hp : qzH} : qzV d 94 10 [a0, a1, a2, a3] (.int y :: .int x :: st) hp = qzV d 94 11 [a0, a1, a2, a3] (.int (x + y) :: st) hp := qv_bin (f := fun x y => x + y) mdc_94 dX3_firstOf_10 rfl rfl
theorem eX3_firstOf_11 {d : Nat} {a0 a1 a3 : Value} {x : Int32} {st : List Value} {hp : qzH} : qzV d 94 11 [a0, a1, .int x, a3] (st) hp = qzV d 94 12 [a0, a1, .int x, a3] (.int x :: st) hp := qv_iload (i := 2) mdc_94 dX3_firstOf_11 rfl rfl rfl
theorem eX3_firstOf_12 {d : Nat} {a0 a1 a2 a3 : Value} {x y : Int32} {st : List Value} {hp : qzH} : qzV d 94 12 [a0, a1, a2, a3] (.int y :: .int x :: st) hp = qzV d 94 13 [a0, a1, a2, a3] (.int (x - y) :: st) hp := qv_bin (f := fun x y => x - y) mdc_94 dX3_firstOf_12 rfl rfl
theorem eX3_firstOf_13 {d : Nat} {a0 a1 a2 a3 : Value} {v : Int32} {hp : qzH} : qzV d 94 13 [a0, a1, a2, a3] [.int v] hp = some (some (.int v), hp) := qv_iret mdc_94 dX3_firstOf_13 mdr_94 rfl
theorem dX3_folds_0 : decode cX3_folds 0 = .ok (.iload_n 2, 1) := by decide +kernel
theorem dX3_folds_1 : decode cX3_folds 1 = .ok (.iconst 1, 1) := by decide +kernel
theorem dX3_folds_2 : decode cX3_folds 2 = .ok (.if_icmp .le 7, 3) := by decide +kernel
theorem dX3_folds_5 : decode cX3_folds 5 = .ok (.iconst 1, 1) := by decide +kernel
theorem dX3_folds_6 : decode cX3_folds 6 = .ok (.goto 4, 3) := by decide +kernel
theorem dX3_folds_9 : decode cX3_folds 9 = .ok (.iconst 0, 1) := by decide +kernel
theorem dX3_folds_10 : decode cX3_folds 10 = .ok (.istore_n 3, 1) := by decide +kernel
theorem dX3_folds_11 : decode cX3_folds 11 = .ok (.iconst 0, 1) := by decide +kernel
theorem dX3_folds_12 : decode cX3_folds 12 = .ok (.istore 4, 2) := by decide +kernel
theorem dX3_folds_14 : decode cX3_folds 14 = .ok (.iload 4, 2) := by decide +kernel
theorem dX3_folds_16 : decode cX3_folds 16 = .ok (.iload_n 2, 1) := by decide +kernel
theorem dX3_folds_17 : decode cX3_folds 17 = .ok (.if_icmp .ge 50, 3) := by decide +kernel
theorem dX3_folds_20 : decode cX3_folds 20 = .ok (.iload_n 3, 1) := by decide +kernel
theorem dX3_folds_21 : decode cX3_folds 21 = .ok (.ifCond .eq 38, 3) := by decide +kernel
theorem dX3_folds_24 : decode cX3_folds 24 = .ok (.aload_n 0, 1) := by decide +kernel
theorem dX3_folds_25 : decode cX3_folds 25 = .ok (.getfield 7, 3) := by decide +kernel
theorem dX3_folds_28 : decode cX3_folds 28 = .ok (.bipush 8, 2) := by decide +kernel
theorem dX3_folds_30 : decode cX3_folds 30 = .ok (.iload_n 1, 1) := by decide +kernel
theorem dX3_folds_31 : decode cX3_folds 31 = .ok (.iadd, 1) := by decide +kernel
theorem dX3_folds_32 : decode cX3_folds 32 = .ok (.iload 4, 2) := by decide +kernel
theorem dX3_folds_34 : decode cX3_folds 34 = .ok (.iadd, 1) := by decide +kernel
theorem dX3_folds_35 : decode cX3_folds 35 = .ok (.iaload, 1) := by decide +kernel
theorem dX3_folds_36 : decode cX3_folds 36 = .ok (.aload_n 0, 1) := by decide +kernel
theorem dX3_folds_37 : decode cX3_folds 37 = .ok (.getfield 7, 3) := by decide +kernel
theorem dX3_folds_40 : decode cX3_folds 40 = .ok (.bipush 8, 2) := by decide +kernel
theorem dX3_folds_42 : decode cX3_folds 42 = .ok (.iload_n 1, 1) := by decide +kernel
theorem dX3_folds_43 : decode cX3_folds 43 = .ok (.iadd, 1) := by decide +kernel
theorem dX3_folds_44 : decode cX3_folds 44 = .ok (.iload_n 2, 1) := by decide +kernel
theorem dX3_folds_45 : decode cX3_folds 45 = .ok (.iadd, 1) := by decide +kernel
theorem dX3_folds_46 : decode cX3_folds 46 = .ok (.iconst 1, 1) := by decide +kernel
theorem dX3_folds_47 : decode cX3_folds 47 = .ok (.isub, 1) := by decide +kernel
theorem dX3_folds_48 : decode cX3_folds 48 = .ok (.iload 4, 2) := by decide +kernel
theorem dX3_folds_50 : decode cX3_folds 50 = .ok (.isub, 1) := by decide +kernel
theorem dX3_folds_51 : decode cX3_folds 51 = .ok (.iaload, 1) := by decide +kernel
theorem dX3_folds_52 : decode cX3_folds 52 = .ok (.if_icmp .ne 7, 3) := by decide +kernel
theorem dX3_folds_55 : decode cX3_folds 55 = .ok (.iconst 1, 1) := by decide +kernel
theorem dX3_folds_56 : decode cX3_folds 56 = .ok (.goto 4, 3) := by decide +kernel
theorem dX3_folds_59 : decode cX3_folds 59 = .ok (.iconst 0, 1) := by decide +kernel
theorem dX3_folds_60 : decode cX3_folds 60 = .ok (.istore_n 3, 1) := by decide +kernel
theorem dX3_folds_61 : decode cX3_folds 61 = .ok (.iinc 4 1, 3) := by decide +kernel
theorem dX3_folds_64 : decode cX3_folds 64 = .ok (.goto (-50), 3) := by decide +kernel
theorem dX3_folds_67 : decode cX3_folds 67 = .ok (.iload_n 3, 1) := by decide +kernel
theorem dX3_folds_68 : decode cX3_folds 68 = .ok (.ireturn, 1) := by decide +kernel
theorem eX3_folds_0 {d : Nat} {a0 a1 a3 a4 : Value} {x : Int32} {st : List Value} {hp : qzH} : qzV d 95 0 [a0, a1, .int x, a3, a4] (st) hp = qzV d 95 1 [a0, a1, .int x, a3, a4] (.int x :: st) hp := qv_iload (i := 2) mdc_95 dX3_folds_0 rfl rfl rfl
theorem eX3_folds_1 {d : Nat} {a0 a1 a2 a3 a4 : Value} {st : List Value} {hp : qzH} : qzV d 95 1 [a0, a1, a2, a3, a4] (st) hp = qzV d 95 2 [a0, a1, a2, a3, a4] (.int 1 :: st) hp := qv_iconst mdc_95 dX3_folds_1 il_1 rfl
theorem eX3_folds_2 {d : Nat} {a0 a1 a2 a3 a4 : Value} {x y : Int32} {st : List Value} {hp : qzH} : qzV d 95 2 [a0, a1, a2, a3, a4] (.int y :: .int x :: st) hp = if x ≤ y then qzV d 95 9 [a0, a1, a2, a3, a4] (st) hp else qzV d 95 5 [a0, a1, a2, a3, a4] (st) hp := qv_if2 mdc_95 dX3_folds_2 rfl rfl rfl
theorem eX3_folds_5 {d : Nat} {a0 a1 a2 a3 a4 : Value} {st : List Value} {hp : qzH} : qzV d 95 5 [a0, a1, a2, a3, a4] (st) hp = qzV d 95 6 [a0, a1, a2, a3, a4] (.int 1 :: st) hp := qv_iconst mdc_95 dX3_folds_5 il_1 rfl
theorem eX3_folds_6 {d : Nat} {a0 a1 a2 a3 a4 : Value} {st : List Value} {hp : qzH} : qzV d 95 6 [a0, a1, a2, a3, a4] (st) hp = qzV d 95 10 [a0, a1, a2, a3, a4] (st) hp := qv_goto mdc_95 dX3_folds_6 rfl
theorem eX3_folds_9 {d : Nat} {a0 a1 a2 a3 a4 : Value} {st : List Value} {hp : qzH} : qzV d 95 9 [a0, a1, a2, a3, a4] (st) hp = qzV d 95 10 [a0, a1, a2, a3, a4] (.int 0 :: st) hp := qv_iconst mdc_95 dX3_folds_9 il_0 rfl
theorem eX3_folds_10 {d : Nat} {a0 a1 a2 a3 a4 : Value} {x : Int32} {st : List Value} {hp : qzH} : qzV d 95 10 [a0, a1, a2, a3, a4] (.int x :: st) hp = qzV d 95 11 [a0, a1, a2, .int x, a4] (st) hp := qv_istore (i := 3) mdc_95 dX3_folds_10 rfl (Nat.le_of_ble_eq_true rfl) rfl rfl
theorem eX3_folds_11 {d : Nat} {a0 a1 a2 a3 a4 : Value} {st : List Value} {hp : qzH} : qzV d 95 11 [a0, a1, a2, a3, a4] (st) hp = qzV d 95 12 [a0, a1, a2, a3, a4] (.int 0 :: st) hp := qv_iconst mdc_95 dX3_folds_11 il_0 rfl
theorem eX3_folds_12 {d : Nat} {a0 a1 a2 a3 a4 : Value} {x : Int32} {st : List Value} {hp : qzH} : qzV d 95 12 [a0, a1, a2, a3, a4] (.int x :: st) hp = qzV d 95 14 [a0, a1, a2, a3, .int x] (st) hp := qv_istore (i := 4) mdc_95 dX3_folds_12 rfl (Nat.le_of_ble_eq_true rfl) rfl rfl
theorem eX3_folds_14 {d : Nat} {a0 a1 a2 a3 : Value} {x : Int32} {st : List Value} {hp : qzH} : qzV d 95 14 [a0, a1, a2, a3, .int x] (st) hp = qzV d 95 16 [a0, a1, a2, a3, .int x] (.int x :: st) hp := qv_iload (i := 4) mdc_95 dX3_folds_14 rfl rfl rfl
theorem eX3_folds_16 {d : Nat} {a0 a1 a3 a4 : Value} {x : Int32} {st : List Value} {hp : qzH} : qzV d 95 16 [a0, a1, .int x, a3, a4] (st) hp = qzV d 95 17 [a0, a1, .int x, a3, a4] (.int x :: st) hp := qv_iload (i := 2) mdc_95 dX3_folds_16 rfl rfl rfl
theorem eX3_folds_17 {d : Nat} {a0 a1 a2 a3 a4 : Value} {x y : Int32} {st : List Value} {hp : qzH} : qzV d 95 17 [a0, a1, a2, a3, a4] (.int y :: .int x :: st) hp = if y ≤ x then qzV d 95 67 [a0, a1, a2, a3, a4] (st) hp else qzV d 95 20 [a0, a1, a2, a3, a4] (st) hp := qv_if2 mdc_95 dX3_folds_17 rfl rfl rfl
theorem eX3_folds_20 {d : Nat} {a0 a1 a2 a4 : Value} {x : Int32} {st : List Value} {hp : qzH} : qzV d 95 20 [a0, a1, a2, .int x, a4] (st) hp = qzV d 95 21 [a0, a1, a2, .int x, a4] (.int x :: st) hp := qv_iload (i := 3) mdc_95 dX3_folds_20 rfl rfl rfl
theorem eX3_folds_21 {d : Nat} {a0 a1 a2 a3 a4 : Value} {x : Int32} {st : List Value} {hp : qzH} : qzV d 95 21 [a0, a1, a2, a3, a4] (.int x :: st) hp = if x = 0 then qzV d 95 59 [a0, a1, a2, a3, a4] (st) hp else qzV d 95 24 [a0, a1, a2, a3, a4] (st) hp := qv_if1 mdc_95 dX3_folds_21 rfl rfl rfl
theorem eX3_folds_24 {d : Nat} {a1 a2 a3 a4 : Value} {x : Nat} {st : List Value} {hp : qzH} : qzV d 95 24 [.ref x, a1, a2, a3, a4] (st) hp = qzV d 95 25 [.ref x, a1, a2, a3, a4] (.ref x :: st) hp := qv_aload (i := 0) mdc_95 dX3_folds_24 rfl rfl rfl
theorem eX3_folds_25 {d : Nat} {a0 a1 a2 a3 a4 : Value} {a : Nat} {st : List Value} {hp : qzH} (ha : qzArr 3 a hp.1 = true) : qzV d 95 25 [a0, a1, a2, a3, a4] (.ref a :: st) hp = qzV d 95 28 [a0, a1, a2, a3, a4] (va_rf (hp.2.1 a 0) :: st) hp := qv_getR mdc_95 dX3_folds_25 mdo_95 qff_3_7 ⟨by decide, rfl⟩ rfl ha
theorem eX3_folds_28 {d : Nat} {a0 a1 a2 a3 a4 : Value} {st : List Value} {hp : qzH} : qzV d 95 28 [a0, a1, a2, a3, a4] (st) hp = qzV d 95 30 [a0, a1, a2, a3, a4] (.int 8 :: st) hp := qv_bipush mdc_95 dX3_folds_28 ib_8 rfl
theorem eX3_folds_30 {d : Nat} {a0 a2 a3 a4 : Value} {x : Int32} {st : List Value} {hp : qzH} : qzV d 95 30 [a0, .int x, a2, a3, a4] (st) hp = qzV d 95 31 [a0, .int x, a2, a3, a4] (.int x :: st) hp := qv_iload (i := 1) mdc_95 dX3_folds_30 rfl rfl rfl
theorem eX3_folds_31 {d : Nat} {a0 a1 a2 a3 a4 : Value} {x y : Int32} {st : List Value} {hp : qzH} : qzV d 95 31 [a0, a1, a2, a3, a4] (.int y :: .int x :: st) hp = qzV d 95 32 [a0, a1, a2, a3, a4] (.int (x + y) :: st) hp := qv_bin (f := fun x y => x + y) mdc_95 dX3_folds_31 rfl rfl
theorem eX3_folds_32 {d : Nat} {a0 a1 a2 a3 : Value} {x : Int32} {st : List Value} {hp : qzH} : qzV d 95 32 [a0, a1, a2, a3, .int x] (st) hp = qzV d 95 34 [a0, a1, a2, a3, .int x] (.int x :: st) hp := qv_iload (i := 4) mdc_95 dX3_folds_32 rfl rfl rfl
theorem eX3_folds_34 {d : Nat} {a0 a1 a2 a3 a4 : Value} {x y : Int32} {st : List Value} {hp : qzH} : qzV d 95 34 [a0, a1, a2, a3, a4] (.int y :: .int x :: st) hp = qzV d 95 35 [a0, a1, a2, a3, a4] (.int (x + y) :: st) hp := qv_bin (f := fun x y => x + y) mdc_95 dX3_folds_34 rfl rfl
theorem eX3_folds_35 {d : Nat} {a0 a1 a2 a3 a4 : Value} {i : Int32} {a : Nat} {st : List Value} {hp : qzH} (ha : qzArr 4 a hp.1 = true) (hi : qzIn i (qzk a).2 = true) : qzV d 95 35 [a0, a1, a2, a3, a4] (.int i :: .ref a :: st) hp = qzV d 95 36 [a0, a1, a2, a3, a4] (.int (hp.2.2 a i.toNatClampNeg) :: st) hp := qv_iald mdc_95 dX3_folds_35 rfl ha hi
theorem eX3_folds_36 {d : Nat} {a1 a2 a3 a4 : Value} {x : Nat} {st : List Value} {hp : qzH} : qzV d 95 36 [.ref x, a1, a2, a3, a4] (st) hp = qzV d 95 37 [.ref x, a1, a2, a3, a4] (.ref x :: st) hp := qv_aload (i := 0) mdc_95 dX3_folds_36 rfl rfl rfl
theorem eX3_folds_37 {d : Nat} {a0 a1 a2 a3 a4 : Value} {a : Nat} {st : List Value} {hp : qzH} (ha : qzArr 3 a hp.1 = true) : qzV d 95 37 [a0, a1, a2, a3, a4] (.ref a :: st) hp = qzV d 95 40 [a0, a1, a2, a3, a4] (va_rf (hp.2.1 a 0) :: st) hp := qv_getR mdc_95 dX3_folds_37 mdo_95 qff_3_7 ⟨by decide, rfl⟩ rfl ha
theorem eX3_folds_40 {d : Nat} {a0 a1 a2 a3 a4 : Value} {st : List Value} {hp : qzH} : qzV d 95 40 [a0, a1, a2, a3, a4] (st) hp = qzV d 95 42 [a0, a1, a2, a3, a4] (.int 8 :: st) hp := qv_bipush mdc_95 dX3_folds_40 ib_8 rfl
theorem eX3_folds_42 {d : Nat} {a0 a2 a3 a4 : Value} {x : Int32} {st : List Value} {hp : qzH} : qzV d 95 42 [a0, .int x, a2, a3, a4] (st) hp = qzV d 95 43 [a0, .int x, a2, a3, a4] (.int x :: st) hp := qv_iload (i := 1) mdc_95 dX3_folds_42 rfl rfl rfl
theorem eX3_folds_43 {d : Nat} {a0 a1 a2 a3 a4 : Value} {x y : Int32} {st : List Value} {hp : qzH} : qzV d 95 43 [a0, a1, a2, a3, a4] (.int y :: .int x :: st) hp = qzV d 95 44 [a0, a1, a2, a3, a4] (.int (x + y) :: st) hp := qv_bin (f := fun x y => x + y) mdc_95 dX3_folds_43 rfl rfl
theorem eX3_folds_44 {d : Nat} {a0 a1 a3 a4 : Value} {x : Int32} {st : List Value} {hp : qzH} : qzV d 95 44 [a0, a1, .int x, a3, a4] (st) hp = qzV d 95 45 [a0, a1, .int x, a3, a4] (.int x :: st) hp := qv_iload (i := 2) mdc_95 dX3_folds_44 rfl rfl rfl
theorem eX3_folds_45 {d : Nat} {a0 a1 a2 a3 a4 : Value} {x y : Int32} {st : List Value} {hp : qzH} : qzV d 95 45 [a0, a1, a2, a3, a4] (.int y :: .int x :: st) hp = qzV d 95 46 [a0, a1, a2, a3, a4] (.int (x + y) :: st) hp := qv_bin (f := fun x y => x + y) mdc_95 dX3_folds_45 rfl rfl
theorem eX3_folds_46 {d : Nat} {a0 a1 a2 a3 a4 : Value} {st : List Value} {hp : qzH} : qzV d 95 46 [a0, a1, a2, a3, a4] (st) hp = qzV d 95 47 [a0, a1, a2, a3, a4] (.int 1 :: st) hp := qv_iconst mdc_95 dX3_folds_46 il_1 rfl
theorem eX3_folds_47 {d : Nat} {a0 a1 a2 a3 a4 : Value} {x y : Int32} {st : List Value} {hp : qzH} : qzV d 95 47 [a0, a1, a2, a3, a4] (.int y :: .int x :: st) hp = qzV d 95 48 [a0, a1, a2, a3, a4] (.int (x - y) :: st) hp := qv_bin (f := fun x y => x - y) mdc_95 dX3_folds_47 rfl rfl
theorem eX3_folds_48 {d : Nat} {a0 a1 a2 a3 : Value} {x : Int32} {st : List Value} {hp : qzH} : qzV d 95 48 [a0, a1, a2, a3, .int x] (st) hp = qzV d 95 50 [a0, a1, a2, a3, .int x] (.int x :: st) hp := qv_iload (i := 4) mdc_95 dX3_folds_48 rfl rfl rfl
theorem eX3_folds_50 {d : Nat} {a0 a1 a2 a3 a4 : Value} {x y : Int32} {st : List Value} {hp : qzH} : qzV d 95 50 [a0, a1, a2, a3, a4] (.int y :: .int x :: st) hp = qzV d 95 51 [a0, a1, a2, a3, a4] (.int (x - y) :: st) hp := qv_bin (f := fun x y => x - y) mdc_95 dX3_folds_50 rfl rfl
theorem eX3_folds_51 {d : Nat} {a0 a1 a2 a3 a4 : Value} {i : Int32} {a : Nat} {st : List Value} {hp : qzH} (ha : qzArr 4 a hp.1 = true) (hi : qzIn i (qzk a).2 = true) : qzV d 95 51 [a0, a1, a2, a3, a4] (.int i :: .ref a :: st) hp = qzV d 95 52 [a0, a1, a2, a3, a4] (.int (hp.2.2 a i.toNatClampNeg) :: st) hp := qv_iald mdc_95 dX3_folds_51 rfl ha hi
theorem eX3_folds_52 {d : Nat} {a0 a1 a2 a3 a4 : Value} {x y : Int32} {st : List Value} {hp : qzH} : qzV d 95 52 [a0, a1, a2, a3, a4] (.int y :: .int x :: st) hp = if ¬ x = y then qzV d 95 59 [a0, a1, a2, a3, a4] (st) hp else qzV d 95 55 [a0, a1, a2, a3, a4] (st) hp := qv_if2 mdc_95 dX3_folds_52 rfl rfl rfl
theorem eX3_folds_55 {d : Nat} {a0 a1 a2 a3 a4 : Value} {st : List Value} {hp : qzH} : qzV d 95 55 [a0, a1, a2, a3, a4] (st) hp = qzV d 95 56 [a0, a1, a2, a3, a4] (.int 1 :: st) hp := qv_iconst mdc_95 dX3_folds_55 il_1 rfl
theorem eX3_folds_56 {d : Nat} {a0 a1 a2 a3 a4 : Value} {st : List Value} {hp : qzH} : qzV d 95 56 [a0, a1, a2, a3, a4] (st) hp = qzV d 95 60 [a0, a1, a2, a3, a4] (st) hp := qv_goto mdc_95 dX3_folds_56 rfl
theorem eX3_folds_59 {d : Nat} {a0 a1 a2 a3 a4 : Value} {st : List Value} {hp : qzH} : qzV d 95 59 [a0, a1, a2, a3, a4] (st) hp = qzV d 95 60 [a0, a1, a2, a3, a4] (.int 0 :: st) hp := qv_iconst mdc_95 dX3_folds_59 il_0 rfl
theorem eX3_folds_60 {d : Nat} {a0 a1 a2 a3 a4 : Value} {x : Int32} {st : List Value} {hp : qzH} : qzV d 95 60 [a0, a1, a2, a3, a4] (.int x :: st) hp = qzV d 95 61 [a0, a1, a2, .int x, a4] (st) hp := qv_istore (i := 3) mdc_95 dX3_folds_60 rfl (Nat.le_of_ble_eq_true rfl) rfl rfl
theorem eX3_folds_61 {d : Nat} {a0 a1 a2 a3 : Value} {x : Int32} {st : List Value} {hp : qzH} : qzV d 95 61 [a0, a1, a2, a3, .int x] (st) hp = qzV d 95 64 [a0, a1, a2, a3, .int (x + 1)] (st) hp := qv_iinc mdc_95 dX3_folds_61 rfl il_1 rfl rfl
theorem eX3_folds_64 {d : Nat} {a0 a1 a2 a3 a4 : Value} {st : List Value} {hp : qzH} : qzV d 95 64 [a0, a1, a2, a3, a4] (st) hp = qzV d 95 14 [a0, a1, a2, a3, a4] (st) hp := qv_goto mdc_95 dX3_folds_64 rfl
theorem eX3_folds_67 {d : Nat} {a0 a1 a2 a4 : Value} {x : Int32} {st : List Value} {hp : qzH} : qzV d 95 67 [a0, a1, a2, .int x, a4] (st) hp = qzV d 95 68 [a0, a1, a2, .int x, a4] (.int x :: st) hp := qv_iload (i := 3) mdc_95 dX3_folds_67 rfl rfl rfl
theorem eX3_folds_68 {d : Nat} {a0 a1 a2 a3 a4 : Value} {v : Int32} {hp : qzH} (hn : narrow .boolean (.int v) = .int v) : qzV d 95 68 [a0, a1, a2, a3, a4] [.int v] hp = some (some (.int v), hp) := qv_iret mdc_95 dX3_folds_68 mdr_95 hn
theorem dX3_matches_0 : decode cX3_matches 0 = .ok (.iload_n 2, 1) := by decide +kernel
theorem dX3_matches_1 : decode cX3_matches 1 = .ok (.aload_n 0, 1) := by decide +kernel
theorem dX3_matches_2 : decode cX3_matches 2 = .ok (.getfield 7, 3) := by decide +kernel
theorem dX3_matches_5 : decode cX3_matches 5 = .ok (.bipush 8, 2) := by decide +kernel
theorem dX3_matches_7 : decode cX3_matches 7 = .ok (.iload_n 1, 1) := by decide +kernel
theorem dX3_matches_8 : decode cX3_matches 8 = .ok (.iadd, 1) := by decide +kernel
theorem dX3_matches_9 : decode cX3_matches 9 = .ok (.iaload, 1) := by decide +kernel
theorem dX3_matches_10 : decode cX3_matches 10 = .ok (.iconst 1, 1) := by decide +kernel
theorem dX3_matches_11 : decode cX3_matches 11 = .ok (.iadd, 1) := by decide +kernel
theorem dX3_matches_12 : decode cX3_matches 12 = .ok (.if_icmp .ne 7, 3) := by decide +kernel
theorem dX3_matches_15 : decode cX3_matches 15 = .ok (.iconst 1, 1) := by decide +kernel
theorem dX3_matches_16 : decode cX3_matches 16 = .ok (.goto 4, 3) := by decide +kernel
theorem dX3_matches_19 : decode cX3_matches 19 = .ok (.iconst 0, 1) := by decide +kernel
theorem dX3_matches_20 : decode cX3_matches 20 = .ok (.ireturn, 1) := by decide +kernel
theorem eX3_matches_0 {d : Nat} {a0 a1 : Value} {x : Int32} {st : List Value} {hp : qzH} : qzV d 96 0 [a0, a1, .int x] (st) hp = qzV d 96 1 [a0, a1, .int x] (.int x :: st) hp := qv_iload (i := 2) mdc_96 dX3_matches_0 rfl rfl rfl
theorem eX3_matches_1 {d : Nat} {a1 a2 : Value} {x : Nat} {st : List Value} {hp : qzH} : qzV d 96 1 [.ref x, a1, a2] (st) hp = qzV d 96 2 [.ref x, a1, a2] (.ref x :: st) hp := qv_aload (i := 0) mdc_96 dX3_matches_1 rfl rfl rfl
theorem eX3_matches_2 {d : Nat} {a0 a1 a2 : Value} {a : Nat} {st : List Value} {hp : qzH} (ha : qzArr 3 a hp.1 = true) : qzV d 96 2 [a0, a1, a2] (.ref a :: st) hp = qzV d 96 5 [a0, a1, a2] (va_rf (hp.2.1 a 0) :: st) hp := qv_getR mdc_96 dX3_matches_2 mdo_96 qff_3_7 ⟨by decide, rfl⟩ rfl ha
theorem eX3_matches_5 {d : Nat} {a0 a1 a2 : Value} {st : List Value} {hp : qzH} : qzV d 96 5 [a0, a1, a2] (st) hp = qzV d 96 7 [a0, a1, a2] (.int 8 :: st) hp := qv_bipush mdc_96 dX3_matches_5 ib_8 rfl
theorem eX3_matches_7 {d : Nat} {a0 a2 : Value} {x : Int32} {st : List Value} {hp : qzH} : qzV d 96 7 [a0, .int x, a2] (st) hp = qzV d 96 8 [a0, .int x, a2] (.int x :: st) hp := qv_iload (i := 1) mdc_96 dX3_matches_7 rfl rfl rfl
theorem eX3_matches_8 {d : Nat} {a0 a1 a2 : Value} {x y : Int32} {st : List Value} {hp : qzH} : qzV d 96 8 [a0, a1, a2] (.int y :: .int x :: st) hp = qzV d 96 9 [a0, a1, a2] (.int (x + y) :: st) hp := qv_bin (f := fun x y => x + y) mdc_96 dX3_matches_8 rfl rfl
theorem eX3_matches_9 {d : Nat} {a0 a1 a2 : Value} {i : Int32} {a : Nat} {st : List Value} {hp : qzH} (ha : qzArr 4 a hp.1 = true) (hi : qzIn i (qzk a).2 = true) : qzV d 96 9 [a0, a1, a2] (.int i :: .ref a :: st) hp = qzV d 96 10 [a0, a1, a2] (.int (hp.2.2 a i.toNatClampNeg) :: st) hp := qv_iald mdc_96 dX3_matches_9 rfl ha hi
theorem eX3_matches_10 {d : Nat} {a0 a1 a2 : Value} {st : List Value} {hp : qzH} : qzV d 96 10 [a0, a1, a2] (st) hp = qzV d 96 11 [a0, a1, a2] (.int 1 :: st) hp := qv_iconst mdc_96 dX3_matches_10 il_1 rfl
theorem eX3_matches_11 {d : Nat} {a0 a1 a2 : Value} {x y : Int32} {st : List Value} {hp : qzH} : qzV d 96 11 [a0, a1, a2] (.int y :: .int x :: st) hp = qzV d 96 12 [a0, a1, a2] (.int (x + y) :: st) hp := qv_bin (f := fun x y => x + y) mdc_96 dX3_matches_11 rfl rfl
theorem eX3_matches_12 {d : Nat} {a0 a1 a2 : Value} {x y : Int32} {st : List Value} {hp : qzH} : qzV d 96 12 [a0, a1, a2] (.int y :: .int x :: st) hp = if ¬ x = y then qzV d 96 19 [a0, a1, a2] (st) hp else qzV d 96 15 [a0, a1, a2] (st) hp := qv_if2 mdc_96 dX3_matches_12 rfl rfl rfl
theorem eX3_matches_15 {d : Nat} {a0 a1 a2 : Value} {st : List Value} {hp : qzH} : qzV d 96 15 [a0, a1, a2] (st) hp = qzV d 96 16 [a0, a1, a2] (.int 1 :: st) hp := qv_iconst mdc_96 dX3_matches_15 il_1 rfl
theorem eX3_matches_16 {d : Nat} {a0 a1 a2 : Value} {st : List Value} {hp : qzH} : qzV d 96 16 [a0, a1, a2] (st) hp = qzV d 96 20 [a0, a1, a2] (st) hp := qv_goto mdc_96 dX3_matches_16 rfl
theorem eX3_matches_19 {d : Nat} {a0 a1 a2 : Value} {st : List Value} {hp : qzH} : qzV d 96 19 [a0, a1, a2] (st) hp = qzV d 96 20 [a0, a1, a2] (.int 0 :: st) hp := qv_iconst mdc_96 dX3_matches_19 il_0 rfl
theorem eX3_matches_20 {d : Nat} {a0 a1 a2 : Value} {v : Int32} {hp : qzH} (hn : narrow .boolean (.int v) = .int v) : qzV d 96 20 [a0, a1, a2] [.int v] hp = some (some (.int v), hp) := qv_iret mdc_96 dX3_matches_20 mdr_96 hn
theorem dX3_worthOf_0 : decode cX3_worthOf 0 = .ok (.iload_n 2, 1) := by decide +kernel
theorem dX3_worthOf_1 : decode cX3_worthOf 1 = .ok (.aload_n 0, 1) := by decide +kernel
theorem dX3_worthOf_2 : decode cX3_worthOf 2 = .ok (.iload_n 1, 1) := by decide +kernel
theorem dX3_worthOf_3 : decode cX3_worthOf 3 = .ok (.iload_n 2, 1) := by decide +kernel
theorem dX3_worthOf_4 : decode cX3_worthOf 4 = .ok (.invokevirtual 39, 3) := by decide +kernel
theorem dX3_worthOf_7 : decode cX3_worthOf 7 = .ok (.ifCond .eq 13, 3) := by decide +kernel
theorem dX3_worthOf_10 : decode cX3_worthOf 10 = .ok (.aload_n 0, 1) := by decide +kernel
theorem dX3_worthOf_11 : decode cX3_worthOf 11 = .ok (.getfield 7, 3) := by decide +kernel
theorem dX3_worthOf_14 : decode cX3_worthOf 14 = .ok (.bipush 6, 2) := by decide +kernel
theorem dX3_worthOf_16 : decode cX3_worthOf 16 = .ok (.iaload, 1) := by decide +kernel
theorem dX3_worthOf_17 : decode cX3_worthOf 17 = .ok (.goto 4, 3) := by decide +kernel
theorem dX3_worthOf_20 : decode cX3_worthOf 20 = .ok (.iconst 0, 1) := by decide +kernel
theorem dX3_worthOf_21 : decode cX3_worthOf 21 = .ok (.iadd, 1) := by decide +kernel
theorem dX3_worthOf_22 : decode cX3_worthOf 22 = .ok (.aload_n 0, 1) := by decide +kernel
theorem dX3_worthOf_23 : decode cX3_worthOf 23 = .ok (.iload_n 1, 1) := by decide +kernel
theorem dX3_worthOf_24 : decode cX3_worthOf 24 = .ok (.iload_n 3, 1) := by decide +kernel
theorem dX3_worthOf_25 : decode cX3_worthOf 25 = .ok (.invokevirtual 43, 3) := by decide +kernel
theorem dX3_worthOf_28 : decode cX3_worthOf 28 = .ok (.ifCond .eq 13, 3) := by decide +kernel
theorem dX3_worthOf_31 : decode cX3_worthOf 31 = .ok (.aload_n 0, 1) := by decide +kernel
theorem dX3_worthOf_32 : decode cX3_worthOf 32 = .ok (.getfield 7, 3) := by decide +kernel
theorem dX3_worthOf_35 : decode cX3_worthOf 35 = .ok (.bipush 7, 2) := by decide +kernel
theorem dX3_worthOf_37 : decode cX3_worthOf 37 = .ok (.iaload, 1) := by decide +kernel
theorem dX3_worthOf_38 : decode cX3_worthOf 38 = .ok (.goto 4, 3) := by decide +kernel
theorem dX3_worthOf_41 : decode cX3_worthOf 41 = .ok (.iconst 0, 1) := by decide +kernel
theorem dX3_worthOf_42 : decode cX3_worthOf 42 = .ok (.iadd, 1) := by decide +kernel
theorem dX3_worthOf_43 : decode cX3_worthOf 43 = .ok (.ireturn, 1) := by decide +kernel
theorem eX3_worthOf_0 {d : Nat} {a0 a1 a3 : Value} {x : Int32} {st : List Value} {hp : qzH} : qzV d 97 0 [a0, a1, .int x, a3] (st) hp = qzV d 97 1 [a0, a1, .int x, a3] (.int x :: st) hp := qv_iload (i := 2) mdc_97 dX3_worthOf_0 rfl rfl rfl
theorem eX3_worthOf_1 {d : Nat} {a1 a2 a3 : Value} {x : Nat} {st : List Value} {hp : qzH} : qzV d 97 1 [.ref x, a1, a2, a3] (st) hp = qzV d 97 2 [.ref x, a1, a2, a3] (.ref x :: st) hp := qv_aload (i := 0) mdc_97 dX3_worthOf_1 rfl rfl rfl
theorem eX3_worthOf_2 {d : Nat} {a0 a2 a3 : Value} {x : Int32} {st : List Value} {hp : qzH} : qzV d 97 2 [a0, .int x, a2, a3] (st) hp = qzV d 97 3 [a0, .int x, a2, a3] (.int x :: st) hp := qv_iload (i := 1) mdc_97 dX3_worthOf_2 rfl rfl rfl
theorem eX3_worthOf_3 {d : Nat} {a0 a1 a3 : Value} {x : Int32} {st : List Value} {hp : qzH} : qzV d 97 3 [a0, a1, .int x, a3] (st) hp = qzV d 97 4 [a0, a1, .int x, a3] (.int x :: st) hp := qv_iload (i := 2) mdc_97 dX3_worthOf_3 rfl rfl rfl
theorem eX3_worthOf_4 {d : Nat} {a0 a1 a2 a3 : Value} {w0 w1 : Value} {b : Nat} {st : List Value} {hp : qzH} (h8 : st.length ≤ 8) (hb : qzArr 3 b hp.1 = true) : qzV (d + 1) 97 4 [a0, a1, a2, a3] (w1 :: w0 :: .ref b :: st) hp = (qzC d 95 (.ref b :: [w0, w1]) hp).bind (fun r => qzV (d + 1) 97 7 [a0, a1, a2, a3] (r.1.toList ++ st) r.2) := qv_callv (n := 2) mdc_97 dX3_worthOf_4 mdo_97 (by decide) qfc_3_39 ⟨rfl, by decide, rfl⟩ rfl ⟨rfl, rfl, by simp only [List.length_cons]; omega⟩ h8 hb
theorem eX3_worthOf_7 {d : Nat} {a0 a1 a2 a3 : Value} {x : Int32} {st : List Value} {hp : qzH} : qzV d 97 7 [a0, a1, a2, a3] (.int x :: st) hp = if x = 0 then qzV d 97 20 [a0, a1, a2, a3] (st) hp else qzV d 97 10 [a0, a1, a2, a3] (st) hp := qv_if1 mdc_97 dX3_worthOf_7 rfl rfl rfl
theorem eX3_worthOf_10 {d : Nat} {a1 a2 a3 : Value} {x : Nat} {st : List Value} {hp : qzH} : qzV d 97 10 [.ref x, a1, a2, a3] (st) hp = qzV d 97 11 [.ref x, a1, a2, a3] (.ref x :: st) hp := qv_aload (i := 0) mdc_97 dX3_worthOf_10 rfl rfl rfl
theorem eX3_worthOf_11 {d : Nat} {a0 a1 a2 a3 : Value} {a : Nat} {st : List Value} {hp : qzH} (ha : qzArr 3 a hp.1 = true) : qzV d 97 11 [a0, a1, a2, a3] (.ref a :: st) hp = qzV d 97 14 [a0, a1, a2, a3] (va_rf (hp.2.1 a 0) :: st) hp := qv_getR mdc_97 dX3_worthOf_11 mdo_97 qff_3_7 ⟨by decide, rfl⟩ rfl ha
theorem eX3_worthOf_14 {d : Nat} {a0 a1 a2 a3 : Value} {st : List Value} {hp : qzH} : qzV d 97 14 [a0, a1, a2, a3] (st) hp = qzV d 97 16 [a0, a1, a2, a3] (.int 6 :: st) hp := qv_bipush mdc_97 dX3_worthOf_14 ib_6 rfl
theorem eX3_worthOf_16 {d : Nat} {a0 a1 a2 a3 : Value} {i : Int32} {a : Nat} {st : List Value} {hp : qzH} (ha : qzArr 4 a hp.1 = true) (hi : qzIn i (qzk a).2 = true) : qzV d 97 16 [a0, a1, a2, a3] (.int i :: .ref a :: st) hp = qzV d 97 17 [a0, a1, a2, a3] (.int (hp.2.2 a i.toNatClampNeg) :: st) hp := qv_iald mdc_97 dX3_worthOf_16 rfl ha hi
theorem eX3_worthOf_17 {d : Nat} {a0 a1 a2 a3 : Value} {st : List Value} {hp : qzH} : qzV d 97 17 [a0, a1, a2, a3] (st) hp = qzV d 97 21 [a0, a1, a2, a3] (st) hp := qv_goto mdc_97 dX3_worthOf_17 rfl
theorem eX3_worthOf_20 {d : Nat} {a0 a1 a2 a3 : Value} {st : List Value} {hp : qzH} : qzV d 97 20 [a0, a1, a2, a3] (st) hp = qzV d 97 21 [a0, a1, a2, a3] (.int 0 :: st) hp := qv_iconst mdc_97 dX3_worthOf_20 il_0 rfl
theorem eX3_worthOf_21 {d : Nat} {a0 a1 a2 a3 : Value} {x y : Int32} {st : List Value} {hp : qzH} : qzV d 97 21 [a0, a1, a2, a3] (.int y :: .int x :: st) hp = qzV d 97 22 [a0, a1, a2, a3] (.int (x + y) :: st) hp := qv_bin (f := fun x y => x + y) mdc_97 dX3_worthOf_21 rfl rfl
theorem eX3_worthOf_22 {d : Nat} {a1 a2 a3 : Value} {x : Nat} {st : List Value} {hp : qzH} : qzV d 97 22 [.ref x, a1, a2, a3] (st) hp = qzV d 97 23 [.ref x, a1, a2, a3] (.ref x :: st) hp := qv_aload (i := 0) mdc_97 dX3_worthOf_22 rfl rfl rfl
theorem eX3_worthOf_23 {d : Nat} {a0 a2 a3 : Value} {x : Int32} {st : List Value} {hp : qzH} : qzV d 97 23 [a0, .int x, a2, a3] (st) hp = qzV d 97 24 [a0, .int x, a2, a3] (.int x :: st) hp := qv_iload (i := 1) mdc_97 dX3_worthOf_23 rfl rfl rfl
theorem eX3_worthOf_24 {d : Nat} {a0 a1 a2 : Value} {x : Int32} {st : List Value} {hp : qzH} : qzV d 97 24 [a0, a1, a2, .int x] (st) hp = qzV d 97 25 [a0, a1, a2, .int x] (.int x :: st) hp := qv_iload (i := 3) mdc_97 dX3_worthOf_24 rfl rfl rfl
theorem eX3_worthOf_25 {d : Nat} {a0 a1 a2 a3 : Value} {w0 w1 : Value} {b : Nat} {st : List Value} {hp : qzH} (h8 : st.length ≤ 8) (hb : qzArr 3 b hp.1 = true) : qzV (d + 1) 97 25 [a0, a1, a2, a3] (w1 :: w0 :: .ref b :: st) hp = (qzC d 96 (.ref b :: [w0, w1]) hp).bind (fun r => qzV (d + 1) 97 28 [a0, a1, a2, a3] (r.1.toList ++ st) r.2) := qv_callv (n := 2) mdc_97 dX3_worthOf_25 mdo_97 (by decide) qfc_3_43 ⟨rfl, by decide, rfl⟩ rfl ⟨rfl, rfl, by simp only [List.length_cons]; omega⟩ h8 hb
theorem eX3_worthOf_28 {d : Nat} {a0 a1 a2 a3 : Value} {x : Int32} {st : List Value} {hp : qzH} : qzV d 97 28 [a0, a1, a2, a3] (.int x :: st) hp = if x = 0 then qzV d 97 41 [a0, a1, a2, a3] (st) hp else qzV d 97 31 [a0, a1, a2, a3] (st) hp := qv_if1 mdc_97 dX3_worthOf_28 rfl rfl rfl
theorem eX3_worthOf_31 {d : Nat} {a1 a2 a3 : Value} {x : Nat} {st : List Value} {hp : qzH} : qzV d 97 31 [.ref x, a1, a2, a3] (st) hp = qzV d 97 32 [.ref x, a1, a2, a3] (.ref x :: st) hp := qv_aload (i := 0) mdc_97 dX3_worthOf_31 rfl rfl rfl
theorem eX3_worthOf_32 {d : Nat} {a0 a1 a2 a3 : Value} {a : Nat} {st : List Value} {hp : qzH} (ha : qzArr 3 a hp.1 = true) : qzV d 97 32 [a0, a1, a2, a3] (.ref a :: st) hp = qzV d 97 35 [a0, a1, a2, a3] (va_rf (hp.2.1 a 0) :: st) hp := qv_getR mdc_97 dX3_worthOf_32 mdo_97 qff_3_7 ⟨by decide, rfl⟩ rfl ha
theorem eX3_worthOf_35 {d : Nat} {a0 a1 a2 a3 : Value} {st : List Value} {hp : qzH} : qzV d 97 35 [a0, a1, a2, a3] (st) hp = qzV d 97 37 [a0, a1, a2, a3] (.int 7 :: st) hp := qv_bipush mdc_97 dX3_worthOf_35 ib_7 rfl
theorem eX3_worthOf_37 {d : Nat} {a0 a1 a2 a3 : Value} {i : Int32} {a : Nat} {st : List Value} {hp : qzH} (ha : qzArr 4 a hp.1 = true) (hi : qzIn i (qzk a).2 = true) : qzV d 97 37 [a0, a1, a2, a3] (.int i :: .ref a :: st) hp = qzV d 97 38 [a0, a1, a2, a3] (.int (hp.2.2 a i.toNatClampNeg) :: st) hp := qv_iald mdc_97 dX3_worthOf_37 rfl ha hi
theorem eX3_worthOf_38 {d : Nat} {a0 a1 a2 a3 : Value} {st : List Value} {hp : qzH} : qzV d 97 38 [a0, a1, a2, a3] (st) hp = qzV d 97 42 [a0, a1, a2, a3] (st) hp := qv_goto mdc_97 dX3_worthOf_38 rfl
theorem eX3_worthOf_41 {d : Nat} {a0 a1 a2 a3 : Value} {st : List Value} {hp : qzH} : qzV d 97 41 [a0, a1, a2, a3] (st) hp = qzV d 97 42 [a0, a1, a2, a3] (.int 0 :: st) hp := qv_iconst mdc_97 dX3_worthOf_41 il_0 rfl
theorem eX3_worthOf_42 {d : Nat} {a0 a1 a2 a3 : Value} {x y : Int32} {st : List Value} {hp : qzH} : qzV d 97 42 [a0, a1, a2, a3] (.int y :: .int x :: st) hp = qzV d 97 43 [a0, a1, a2, a3] (.int (x + y) :: st) hp := qv_bin (f := fun x y => x + y) mdc_97 dX3_worthOf_42 rfl rfl
theorem eX3_worthOf_43 {d : Nat} {a0 a1 a2 a3 : Value} {v : Int32} {hp : qzH} : qzV d 97 43 [a0, a1, a2, a3] [.int v] hp = some (some (.int v), hp) := qv_iret mdc_97 dX3_worthOf_43 mdr_97 rfl
theorem dX3_goCut_0 : decode cX3_goCut 0 = .ok (.aload_n 0, 1) := by decide +kernel
theorem dX3_goCut_1 : decode cX3_goCut 1 = .ok (.getfield 7, 3) := by decide +kernel
theorem dX3_goCut_4 : decode cX3_goCut 4 = .ok (.iconst 3, 1) := by decide +kernel
theorem dX3_goCut_5 : decode cX3_goCut 5 = .ok (.iaload, 1) := by decide +kernel
theorem dX3_goCut_6 : decode cX3_goCut 6 = .ok (.istore_n 3, 1) := by decide +kernel
theorem dX3_goCut_7 : decode cX3_goCut 7 = .ok (.aload_n 0, 1) := by decide +kernel
theorem dX3_goCut_8 : decode cX3_goCut 8 = .ok (.getfield 7, 3) := by decide +kernel
theorem dX3_goCut_11 : decode cX3_goCut 11 = .ok (.iconst 1, 1) := by decide +kernel
theorem dX3_goCut_12 : decode cX3_goCut 12 = .ok (.iaload, 1) := by decide +kernel
theorem dX3_goCut_13 : decode cX3_goCut 13 = .ok (.aload_n 0, 1) := by decide +kernel
theorem dX3_goCut_14 : decode cX3_goCut 14 = .ok (.getfield 7, 3) := by decide +kernel
theorem dX3_goCut_17 : decode cX3_goCut 17 = .ok (.iconst 2, 1) := by decide +kernel
theorem dX3_goCut_18 : decode cX3_goCut 18 = .ok (.iaload, 1) := by decide +kernel
theorem dX3_goCut_19 : decode cX3_goCut 19 = .ok (.iload_n 1, 1) := by decide +kernel
theorem dX3_goCut_20 : decode cX3_goCut 20 = .ok (.iload_n 2, 1) := by decide +kernel
theorem dX3_goCut_21 : decode cX3_goCut 21 = .ok (.invokestatic 46, 3) := by decide +kernel
theorem dX3_goCut_24 : decode cX3_goCut 24 = .ok (.istore 4, 2) := by decide +kernel
theorem dX3_goCut_26 : decode cX3_goCut 26 = .ok (.aload_n 0, 1) := by decide +kernel
theorem dX3_goCut_27 : decode cX3_goCut 27 = .ok (.iload_n 3, 1) := by decide +kernel
theorem dX3_goCut_28 : decode cX3_goCut 28 = .ok (.iconst 3, 1) := by decide +kernel
theorem dX3_goCut_29 : decode cX3_goCut 29 = .ok (.invokevirtual 50, 3) := by decide +kernel
theorem dX3_goCut_32 : decode cX3_goCut 32 = .ok (.istore 5, 2) := by decide +kernel
theorem dX3_goCut_34 : decode cX3_goCut 34 = .ok (.aload_n 0, 1) := by decide +kernel
theorem dX3_goCut_35 : decode cX3_goCut 35 = .ok (.iload 4, 2) := by decide +kernel
theorem dX3_goCut_37 : decode cX3_goCut 37 = .ok (.iload_n 1, 1) := by decide +kernel
theorem dX3_goCut_38 : decode cX3_goCut 38 = .ok (.iload 5, 2) := by decide +kernel
theorem dX3_goCut_40 : decode cX3_goCut 40 = .ok (.invokevirtual 54, 3) := by decide +kernel
theorem dX3_goCut_43 : decode cX3_goCut 43 = .ok (.istore 6, 2) := by decide +kernel
theorem dX3_goCut_45 : decode cX3_goCut 45 = .ok (.bipush 40, 2) := by decide +kernel
theorem dX3_goCut_47 : decode cX3_goCut 47 = .ok (.bipush 40, 2) := by decide +kernel
theorem dX3_goCut_49 : decode cX3_goCut 49 = .ok (.iload_n 3, 1) := by decide +kernel
theorem dX3_goCut_50 : decode cX3_goCut 50 = .ok (.imul, 1) := by decide +kernel
theorem dX3_goCut_51 : decode cX3_goCut 51 = .ok (.iadd, 1) := by decide +kernel
theorem dX3_goCut_52 : decode cX3_goCut 52 = .ok (.iconst 4, 1) := by decide +kernel
theorem dX3_goCut_53 : decode cX3_goCut 53 = .ok (.aload_n 0, 1) := by decide +kernel
theorem dX3_goCut_54 : decode cX3_goCut 54 = .ok (.iload_n 3, 1) := by decide +kernel
theorem dX3_goCut_55 : decode cX3_goCut 55 = .ok (.iconst 1, 1) := by decide +kernel
theorem dX3_goCut_56 : decode cX3_goCut 56 = .ok (.invokevirtual 50, 3) := by decide +kernel
theorem dX3_goCut_59 : decode cX3_goCut 59 = .ok (.imul, 1) := by decide +kernel
theorem dX3_goCut_60 : decode cX3_goCut 60 = .ok (.iadd, 1) := by decide +kernel
theorem dX3_goCut_61 : decode cX3_goCut 61 = .ok (.istore 7, 2) := by decide +kernel
theorem dX3_goCut_63 : decode cX3_goCut 63 = .ok (.aload_n 0, 1) := by decide +kernel
theorem dX3_goCut_64 : decode cX3_goCut 64 = .ok (.getfield 7, 3) := by decide +kernel
theorem dX3_goCut_67 : decode cX3_goCut 67 = .ok (.iload 7, 2) := by decide +kernel
theorem dX3_goCut_69 : decode cX3_goCut 69 = .ok (.iload 4, 2) := by decide +kernel
theorem dX3_goCut_71 : decode cX3_goCut 71 = .ok (.iastore, 1) := by decide +kernel
theorem dX3_goCut_72 : decode cX3_goCut 72 = .ok (.aload_n 0, 1) := by decide +kernel
theorem dX3_goCut_73 : decode cX3_goCut 73 = .ok (.getfield 7, 3) := by decide +kernel
theorem dX3_goCut_76 : decode cX3_goCut 76 = .ok (.iload 7, 2) := by decide +kernel
theorem dX3_goCut_78 : decode cX3_goCut 78 = .ok (.iconst 1, 1) := by decide +kernel
theorem dX3_goCut_79 : decode cX3_goCut 79 = .ok (.iadd, 1) := by decide +kernel
theorem dX3_goCut_80 : decode cX3_goCut 80 = .ok (.iload_n 1, 1) := by decide +kernel
theorem dX3_goCut_81 : decode cX3_goCut 81 = .ok (.iastore, 1) := by decide +kernel
theorem dX3_goCut_82 : decode cX3_goCut 82 = .ok (.aload_n 0, 1) := by decide +kernel
theorem dX3_goCut_83 : decode cX3_goCut 83 = .ok (.getfield 7, 3) := by decide +kernel
theorem dX3_goCut_86 : decode cX3_goCut 86 = .ok (.iload 7, 2) := by decide +kernel
theorem dX3_goCut_88 : decode cX3_goCut 88 = .ok (.iconst 2, 1) := by decide +kernel
theorem dX3_goCut_89 : decode cX3_goCut 89 = .ok (.iadd, 1) := by decide +kernel
theorem dX3_goCut_90 : decode cX3_goCut 90 = .ok (.iload 6, 2) := by decide +kernel
theorem dX3_goCut_92 : decode cX3_goCut 92 = .ok (.iastore, 1) := by decide +kernel
theorem dX3_goCut_93 : decode cX3_goCut 93 = .ok (.aload_n 0, 1) := by decide +kernel
theorem dX3_goCut_94 : decode cX3_goCut 94 = .ok (.getfield 7, 3) := by decide +kernel
theorem dX3_goCut_97 : decode cX3_goCut 97 = .ok (.iload 7, 2) := by decide +kernel
theorem dX3_goCut_99 : decode cX3_goCut 99 = .ok (.iconst 3, 1) := by decide +kernel
theorem dX3_goCut_100 : decode cX3_goCut 100 = .ok (.iadd, 1) := by decide +kernel
theorem dX3_goCut_101 : decode cX3_goCut 101 = .ok (.iload_n 2, 1) := by decide +kernel
theorem dX3_goCut_102 : decode cX3_goCut 102 = .ok (.ifCond .eq 7, 3) := by decide +kernel
theorem dX3_goCut_105 : decode cX3_goCut 105 = .ok (.iconst 1, 1) := by decide +kernel
theorem dX3_goCut_106 : decode cX3_goCut 106 = .ok (.goto 4, 3) := by decide +kernel
theorem dX3_goCut_109 : decode cX3_goCut 109 = .ok (.iconst 0, 1) := by decide +kernel
theorem dX3_goCut_110 : decode cX3_goCut 110 = .ok (.iastore, 1) := by decide +kernel
theorem dX3_goCut_111 : decode cX3_goCut 111 = .ok (.aload_n 0, 1) := by decide +kernel
theorem dX3_goCut_112 : decode cX3_goCut 112 = .ok (.iload_n 3, 1) := by decide +kernel
theorem dX3_goCut_113 : decode cX3_goCut 113 = .ok (.iconst 0, 1) := by decide +kernel
theorem dX3_goCut_114 : decode cX3_goCut 114 = .ok (.iload 6, 2) := by decide +kernel
theorem dX3_goCut_116 : decode cX3_goCut 116 = .ok (.invokevirtual 58, 3) := by decide +kernel
theorem dX3_goCut_119 : decode cX3_goCut 119 = .ok (.aload_n 0, 1) := by decide +kernel
theorem dX3_goCut_120 : decode cX3_goCut 120 = .ok (.iload_n 3, 1) := by decide +kernel
theorem dX3_goCut_121 : decode cX3_goCut 121 = .ok (.iconst 1, 1) := by decide +kernel
theorem dX3_goCut_122 : decode cX3_goCut 122 = .ok (.iconst 1, 1) := by decide +kernel
theorem dX3_goCut_123 : decode cX3_goCut 123 = .ok (.invokevirtual 58, 3) := by decide +kernel
theorem dX3_goCut_126 : decode cX3_goCut 126 = .ok (.aload_n 0, 1) := by decide +kernel
theorem dX3_goCut_127 : decode cX3_goCut 127 = .ok (.iload_n 3, 1) := by decide +kernel
theorem dX3_goCut_128 : decode cX3_goCut 128 = .ok (.iconst 2, 1) := by decide +kernel
theorem dX3_goCut_129 : decode cX3_goCut 129 = .ok (.iload_n 1, 1) := by decide +kernel
theorem dX3_goCut_130 : decode cX3_goCut 130 = .ok (.invokevirtual 58, 3) := by decide +kernel
theorem dX3_goCut_133 : decode cX3_goCut 133 = .ok (.aload_n 0, 1) := by decide +kernel
theorem dX3_goCut_134 : decode cX3_goCut 134 = .ok (.iload_n 3, 1) := by decide +kernel
theorem dX3_goCut_135 : decode cX3_goCut 135 = .ok (.iconst 4, 1) := by decide +kernel
theorem dX3_goCut_136 : decode cX3_goCut 136 = .ok (.aload_n 0, 1) := by decide +kernel
theorem dX3_goCut_137 : decode cX3_goCut 137 = .ok (.iload 4, 2) := by decide +kernel
theorem dX3_goCut_139 : decode cX3_goCut 139 = .ok (.iload 5, 2) := by decide +kernel
theorem dX3_goCut_141 : decode cX3_goCut 141 = .ok (.invokevirtual 43, 3) := by decide +kernel
theorem dX3_goCut_144 : decode cX3_goCut 144 = .ok (.ifCond .eq 7, 3) := by decide +kernel
theorem dX3_goCut_147 : decode cX3_goCut 147 = .ok (.iconst 1, 1) := by decide +kernel
theorem dX3_goCut_148 : decode cX3_goCut 148 = .ok (.goto 4, 3) := by decide +kernel
theorem dX3_goCut_151 : decode cX3_goCut 151 = .ok (.iconst 0, 1) := by decide +kernel
theorem dX3_goCut_152 : decode cX3_goCut 152 = .ok (.invokevirtual 58, 3) := by decide +kernel
theorem dX3_goCut_155 : decode cX3_goCut 155 = .ok (.aload_n 0, 1) := by decide +kernel
theorem dX3_goCut_156 : decode cX3_goCut 156 = .ok (.iload_n 3, 1) := by decide +kernel
theorem dX3_goCut_157 : decode cX3_goCut 157 = .ok (.iconst 5, 1) := by decide +kernel
theorem dX3_goCut_158 : decode cX3_goCut 158 = .ok (.aload_n 0, 1) := by decide +kernel
theorem dX3_goCut_159 : decode cX3_goCut 159 = .ok (.iload 4, 2) := by decide +kernel
theorem dX3_goCut_161 : decode cX3_goCut 161 = .ok (.iload_n 1, 1) := by decide +kernel
theorem dX3_goCut_162 : decode cX3_goCut 162 = .ok (.invokevirtual 39, 3) := by decide +kernel
theorem dX3_goCut_165 : decode cX3_goCut 165 = .ok (.ifCond .eq 7, 3) := by decide +kernel
theorem dX3_goCut_168 : decode cX3_goCut 168 = .ok (.iconst 1, 1) := by decide +kernel
theorem dX3_goCut_169 : decode cX3_goCut 169 = .ok (.goto 4, 3) := by decide +kernel
theorem dX3_goCut_172 : decode cX3_goCut 172 = .ok (.iconst 0, 1) := by decide +kernel
theorem dX3_goCut_173 : decode cX3_goCut 173 = .ok (.invokevirtual 58, 3) := by decide +kernel
theorem dX3_goCut_176 : decode cX3_goCut 176 = .ok (.aload_n 0, 1) := by decide +kernel
theorem dX3_goCut_177 : decode cX3_goCut 177 = .ok (.getfield 7, 3) := by decide +kernel
theorem dX3_goCut_180 : decode cX3_goCut 180 = .ok (.bipush 28, 2) := by decide +kernel
theorem dX3_goCut_182 : decode cX3_goCut 182 = .ok (.bipush 6, 2) := by decide +kernel
theorem dX3_goCut_184 : decode cX3_goCut 184 = .ok (.iload_n 3, 1) := by decide +kernel
theorem dX3_goCut_185 : decode cX3_goCut 185 = .ok (.imul, 1) := by decide +kernel
theorem dX3_goCut_186 : decode cX3_goCut 186 = .ok (.iadd, 1) := by decide +kernel
theorem dX3_goCut_187 : decode cX3_goCut 187 = .ok (.iconst 3, 1) := by decide +kernel
theorem dX3_goCut_188 : decode cX3_goCut 188 = .ok (.iadd, 1) := by decide +kernel
theorem dX3_goCut_189 : decode cX3_goCut 189 = .ok (.aload_n 0, 1) := by decide +kernel
theorem dX3_goCut_190 : decode cX3_goCut 190 = .ok (.getfield 7, 3) := by decide +kernel
theorem dX3_goCut_193 : decode cX3_goCut 193 = .ok (.bipush 8, 2) := by decide +kernel
theorem dX3_goCut_195 : decode cX3_goCut 195 = .ok (.iload 4, 2) := by decide +kernel
theorem dX3_goCut_197 : decode cX3_goCut 197 = .ok (.iadd, 1) := by decide +kernel
theorem dX3_goCut_198 : decode cX3_goCut 198 = .ok (.iload_n 1, 1) := by decide +kernel
theorem dX3_goCut_199 : decode cX3_goCut 199 = .ok (.iadd, 1) := by decide +kernel
theorem dX3_goCut_200 : decode cX3_goCut 200 = .ok (.iconst 1, 1) := by decide +kernel
theorem dX3_goCut_201 : decode cX3_goCut 201 = .ok (.isub, 1) := by decide +kernel
theorem dX3_goCut_202 : decode cX3_goCut 202 = .ok (.iaload, 1) := by decide +kernel
theorem dX3_goCut_203 : decode cX3_goCut 203 = .ok (.iconst 1, 1) := by decide +kernel
theorem dX3_goCut_204 : decode cX3_goCut 204 = .ok (.iadd, 1) := by decide +kernel
theorem dX3_goCut_205 : decode cX3_goCut 205 = .ok (.iastore, 1) := by decide +kernel
theorem dX3_goCut_206 : decode cX3_goCut 206 = .ok (.aload_n 0, 1) := by decide +kernel
theorem dX3_goCut_207 : decode cX3_goCut 207 = .ok (.getfield 7, 3) := by decide +kernel
theorem dX3_goCut_210 : decode cX3_goCut 210 = .ok (.iconst 1, 1) := by decide +kernel
theorem dX3_goCut_211 : decode cX3_goCut 211 = .ok (.dup2, 1) := by decide +kernel
theorem dX3_goCut_212 : decode cX3_goCut 212 = .ok (.iaload, 1) := by decide +kernel
theorem dX3_goCut_213 : decode cX3_goCut 213 = .ok (.iload_n 2, 1) := by decide +kernel
theorem dX3_goCut_214 : decode cX3_goCut 214 = .ok (.ifCond .eq 7, 3) := by decide +kernel
theorem dX3_goCut_217 : decode cX3_goCut 217 = .ok (.iload_n 1, 1) := by decide +kernel
theorem dX3_goCut_218 : decode cX3_goCut 218 = .ok (.goto 4, 3) := by decide +kernel
theorem dX3_goCut_221 : decode cX3_goCut 221 = .ok (.iconst 0, 1) := by decide +kernel
theorem dX3_goCut_222 : decode cX3_goCut 222 = .ok (.iadd, 1) := by decide +kernel
theorem dX3_goCut_223 : decode cX3_goCut 223 = .ok (.iastore, 1) := by decide +kernel
theorem dX3_goCut_224 : decode cX3_goCut 224 = .ok (.aload_n 0, 1) := by decide +kernel
theorem dX3_goCut_225 : decode cX3_goCut 225 = .ok (.getfield 7, 3) := by decide +kernel
theorem dX3_goCut_228 : decode cX3_goCut 228 = .ok (.iconst 2, 1) := by decide +kernel
theorem dX3_goCut_229 : decode cX3_goCut 229 = .ok (.dup2, 1) := by decide +kernel
theorem dX3_goCut_230 : decode cX3_goCut 230 = .ok (.iaload, 1) := by decide +kernel
theorem dX3_goCut_231 : decode cX3_goCut 231 = .ok (.iload_n 1, 1) := by decide +kernel
theorem dX3_goCut_232 : decode cX3_goCut 232 = .ok (.isub, 1) := by decide +kernel
theorem dX3_goCut_233 : decode cX3_goCut 233 = .ok (.iastore, 1) := by decide +kernel
theorem dX3_goCut_234 : decode cX3_goCut 234 = .ok (.aload_n 0, 1) := by decide +kernel
theorem dX3_goCut_235 : decode cX3_goCut 235 = .ok (.getfield 7, 3) := by decide +kernel
theorem dX3_goCut_238 : decode cX3_goCut 238 = .ok (.iconst 3, 1) := by decide +kernel
theorem dX3_goCut_239 : decode cX3_goCut 239 = .ok (.iconst 1, 1) := by decide +kernel
theorem dX3_goCut_240 : decode cX3_goCut 240 = .ok (.iload_n 3, 1) := by decide +kernel
theorem dX3_goCut_241 : decode cX3_goCut 241 = .ok (.isub, 1) := by decide +kernel
theorem dX3_goCut_242 : decode cX3_goCut 242 = .ok (.iastore, 1) := by decide +kernel
theorem dX3_goCut_243 : decode cX3_goCut 243 = .ok (.aload_n 0, 1) := by decide +kernel
theorem dX3_goCut_244 : decode cX3_goCut 244 = .ok (.getfield 7, 3) := by decide +kernel
theorem dX3_goCut_247 : decode cX3_goCut 247 = .ok (.iconst 4, 1) := by decide +kernel
theorem dX3_goCut_248 : decode cX3_goCut 248 = .ok (.dup2, 1) := by decide +kernel
theorem dX3_goCut_249 : decode cX3_goCut 249 = .ok (.iaload, 1) := by decide +kernel
theorem dX3_goCut_250 : decode cX3_goCut 250 = .ok (.iconst 1, 1) := by decide +kernel
theorem dX3_goCut_251 : decode cX3_goCut 251 = .ok (.iadd, 1) := by decide +kernel
theorem dX3_goCut_252 : decode cX3_goCut 252 = .ok (.iastore, 1) := by decide +kernel
theorem dX3_goCut_253 : decode cX3_goCut 253 = .ok (.iload 6, 2) := by decide +kernel
theorem dX3_goCut_255 : decode cX3_goCut 255 = .ok (.ireturn, 1) := by decide +kernel
theorem eX3_goCut_0 {d : Nat} {a1 a2 a3 a4 a5 a6 a7 : Value} {x : Nat} {st : List Value} {hp : qzH} : qzV d 98 0 [.ref x, a1, a2, a3, a4, a5, a6, a7] (st) hp = qzV d 98 1 [.ref x, a1, a2, a3, a4, a5, a6, a7] (.ref x :: st) hp := qv_aload (i := 0) mdc_98 dX3_goCut_0 rfl rfl rfl
theorem eX3_goCut_1 {d : Nat} {a0 a1 a2 a3 a4 a5 a6 a7 : Value} {a : Nat} {st : List Value} {hp : qzH} (ha : qzArr 3 a hp.1 = true) : qzV d 98 1 [a0, a1, a2, a3, a4, a5, a6, a7] (.ref a :: st) hp = qzV d 98 4 [a0, a1, a2, a3, a4, a5, a6, a7] (va_rf (hp.2.1 a 0) :: st) hp := qv_getR mdc_98 dX3_goCut_1 mdo_98 qff_3_7 ⟨by decide, rfl⟩ rfl ha
theorem eX3_goCut_4 {d : Nat} {a0 a1 a2 a3 a4 a5 a6 a7 : Value} {st : List Value} {hp : qzH} : qzV d 98 4 [a0, a1, a2, a3, a4, a5, a6, a7] (st) hp = qzV d 98 5 [a0, a1, a2, a3, a4, a5, a6, a7] (.int 3 :: st) hp := qv_iconst mdc_98 dX3_goCut_4 il_3 rfl
theorem eX3_goCut_5 {d : Nat} {a0 a1 a2 a3 a4 a5 a6 a7 : Value} {i : Int32} {a : Nat} {st : List Value} {hp : qzH} (ha : qzArr 4 a hp.1 = true) (hi : qzIn i (qzk a).2 = true) : qzV d 98 5 [a0, a1, a2, a3, a4, a5, a6, a7] (.int i :: .ref a :: st) hp = qzV d 98 6 [a0, a1, a2, a3, a4, a5, a6, a7] (.int (hp.2.2 a i.toNatClampNeg) :: st) hp := qv_iald mdc_98 dX3_goCut_5 rfl ha hi
theorem eX3_goCut_6 {d : Nat} {a0 a1 a2 a3 a4 a5 a6 a7 : Value} {x : Int32} {st : List Value} {hp : qzH} : qzV d 98 6 [a0, a1, a2, a3, a4, a5, a6, a7] (.int x :: st) hp = qzV d 98 7 [a0, a1, a2, .int x, a4, a5, a6, a7] (st) hp := qv_istore (i := 3) mdc_98 dX3_goCut_6 rfl (Nat.le_of_ble_eq_true rfl) rfl rfl
theorem eX3_goCut_7 {d : Nat} {a1 a2 a3 a4 a5 a6 a7 : Value} {x : Nat} {st : List Value} {hp : qzH} : qzV d 98 7 [.ref x, a1, a2, a3, a4, a5, a6, a7] (st) hp = qzV d 98 8 [.ref x, a1, a2, a3, a4, a5, a6, a7] (.ref x :: st) hp := qv_aload (i := 0) mdc_98 dX3_goCut_7 rfl rfl rfl
theorem eX3_goCut_8 {d : Nat} {a0 a1 a2 a3 a4 a5 a6 a7 : Value} {a : Nat} {st : List Value} {hp : qzH} (ha : qzArr 3 a hp.1 = true) : qzV d 98 8 [a0, a1, a2, a3, a4, a5, a6, a7] (.ref a :: st) hp = qzV d 98 11 [a0, a1, a2, a3, a4, a5, a6, a7] (va_rf (hp.2.1 a 0) :: st) hp := qv_getR mdc_98 dX3_goCut_8 mdo_98 qff_3_7 ⟨by decide, rfl⟩ rfl ha
theorem eX3_goCut_11 {d : Nat} {a0 a1 a2 a3 a4 a5 a6 a7 : Value} {st : List Value} {hp : qzH} : qzV d 98 11 [a0, a1, a2, a3, a4, a5, a6, a7] (st) hp = qzV d 98 12 [a0, a1, a2, a3, a4, a5, a6, a7] (.int 1 :: st) hp := qv_iconst mdc_98 dX3_goCut_11 il_1 rfl
theorem eX3_goCut_12 {d : Nat} {a0 a1 a2 a3 a4 a5 a6 a7 : Value} {i : Int32} {a : Nat} {st : List Value} {hp : qzH} (ha : qzArr 4 a hp.1 = true) (hi : qzIn i (qzk a).2 = true) : qzV d 98 12 [a0, a1, a2, a3, a4, a5, a6, a7] (.int i :: .ref a :: st) hp = qzV d 98 13 [a0, a1, a2, a3, a4, a5, a6, a7] (.int (hp.2.2 a i.toNatClampNeg) :: st) hp := qv_iald mdc_98 dX3_goCut_12 rfl ha hi
theorem eX3_goCut_13 {d : Nat} {a1 a2 a3 a4 a5 a6 a7 : Value} {x : Nat} {st : List Value} {hp : qzH} : qzV d 98 13 [.ref x, a1, a2, a3, a4, a5, a6, a7] (st) hp = qzV d 98 14 [.ref x, a1, a2, a3, a4, a5, a6, a7] (.ref x :: st) hp := qv_aload (i := 0) mdc_98 dX3_goCut_13 rfl rfl rfl
theorem eX3_goCut_14 {d : Nat} {a0 a1 a2 a3 a4 a5 a6 a7 : Value} {a : Nat} {st : List Value} {hp : qzH} (ha : qzArr 3 a hp.1 = true) : qzV d 98 14 [a0, a1, a2, a3, a4, a5, a6, a7] (.ref a :: st) hp = qzV d 98 17 [a0, a1, a2, a3, a4, a5, a6, a7] (va_rf (hp.2.1 a 0) :: st) hp := qv_getR mdc_98 dX3_goCut_14 mdo_98 qff_3_7 ⟨by decide, rfl⟩ rfl ha
theorem eX3_goCut_17 {d : Nat} {a0 a1 a2 a3 a4 a5 a6 a7 : Value} {st : List Value} {hp : qzH} : qzV d 98 17 [a0, a1, a2, a3, a4, a5, a6, a7] (st) hp = qzV d 98 18 [a0, a1, a2, a3, a4, a5, a6, a7] (.int 2 :: st) hp := qv_iconst mdc_98 dX3_goCut_17 il_2 rfl
theorem eX3_goCut_18 {d : Nat} {a0 a1 a2 a3 a4 a5 a6 a7 : Value} {i : Int32} {a : Nat} {st : List Value} {hp : qzH} (ha : qzArr 4 a hp.1 = true) (hi : qzIn i (qzk a).2 = true) : qzV d 98 18 [a0, a1, a2, a3, a4, a5, a6, a7] (.int i :: .ref a :: st) hp = qzV d 98 19 [a0, a1, a2, a3, a4, a5, a6, a7] (.int (hp.2.2 a i.toNatClampNeg) :: st) hp := qv_iald mdc_98 dX3_goCut_18 rfl ha hi
theorem eX3_goCut_19 {d : Nat} {a0 a2 a3 a4 a5 a6 a7 : Value} {x : Int32} {st : List Value} {hp : qzH} : qzV d 98 19 [a0, .int x, a2, a3, a4, a5, a6, a7] (st) hp = qzV d 98 20 [a0, .int x, a2, a3, a4, a5, a6, a7] (.int x :: st) hp := qv_iload (i := 1) mdc_98 dX3_goCut_19 rfl rfl rfl
theorem eX3_goCut_20 {d : Nat} {a0 a1 a3 a4 a5 a6 a7 : Value} {x : Int32} {st : List Value} {hp : qzH} : qzV d 98 20 [a0, a1, .int x, a3, a4, a5, a6, a7] (st) hp = qzV d 98 21 [a0, a1, .int x, a3, a4, a5, a6, a7] (.int x :: st) hp := qv_iload (i := 2) mdc_98 dX3_goCut_20 rfl rfl rfl
theorem eX3_goCut_21 {d : Nat} {a0 a1 a2 a3 a4 a5 a6 a7 : Value} {w0 w1 w2 w3 : Value} {st : List Value} {hp : qzH} (h8 : st.length ≤ 8) : qzV (d + 1) 98 21 [a0, a1, a2, a3, a4, a5, a6, a7] (w3 :: w2 :: w1 :: w0 :: st) hp = (qzC d 94 [w0, w1, w2, w3] hp).bind (fun r => qzV (d + 1) 98 24 [a0, a1, a2, a3, a4, a5, a6, a7] (r.1.toList ++ st) r.2) := qv_calls (n := 4) mdc_98 dX3_goCut_21 mdo_98 (by decide) qfc_3_46 ⟨rfl, by decide, rfl⟩ rfl ⟨rfl, rfl, by simp only [List.length_cons]; omega⟩ h8
theorem eX3_goCut_24 {d : Nat} {a0 a1 a2 a3 a4 a5 a6 a7 : Value} {x : Int32} {st : List Value} {hp : qzH} : qzV d 98 24 [a0, a1, a2, a3, a4, a5, a6, a7] (.int x :: st) hp = qzV d 98 26 [a0, a1, a2, a3, .int x, a5, a6, a7] (st) hp := qv_istore (i := 4) mdc_98 dX3_goCut_24 rfl (Nat.le_of_ble_eq_true rfl) rfl rfl
theorem eX3_goCut_26 {d : Nat} {a1 a2 a3 a4 a5 a6 a7 : Value} {x : Nat} {st : List Value} {hp : qzH} : qzV d 98 26 [.ref x, a1, a2, a3, a4, a5, a6, a7] (st) hp = qzV d 98 27 [.ref x, a1, a2, a3, a4, a5, a6, a7] (.ref x :: st) hp := qv_aload (i := 0) mdc_98 dX3_goCut_26 rfl rfl rfl
theorem eX3_goCut_27 {d : Nat} {a0 a1 a2 a4 a5 a6 a7 : Value} {x : Int32} {st : List Value} {hp : qzH} : qzV d 98 27 [a0, a1, a2, .int x, a4, a5, a6, a7] (st) hp = qzV d 98 28 [a0, a1, a2, .int x, a4, a5, a6, a7] (.int x :: st) hp := qv_iload (i := 3) mdc_98 dX3_goCut_27 rfl rfl rfl
theorem eX3_goCut_28 {d : Nat} {a0 a1 a2 a3 a4 a5 a6 a7 : Value} {st : List Value} {hp : qzH} : qzV d 98 28 [a0, a1, a2, a3, a4, a5, a6, a7] (st) hp = qzV d 98 29 [a0, a1, a2, a3, a4, a5, a6, a7] (.int 3 :: st) hp := qv_iconst mdc_98 dX3_goCut_28 il_3 rfl
theorem eX3_goCut_29 {d : Nat} {a0 a1 a2 a3 a4 a5 a6 a7 : Value} {w0 w1 : Value} {b : Nat} {st : List Value} {hp : qzH} (h8 : st.length ≤ 8) (hb : qzArr 3 b hp.1 = true) : qzV (d + 1) 98 29 [a0, a1, a2, a3, a4, a5, a6, a7] (w1 :: w0 :: .ref b :: st) hp = (qzC d 91 (.ref b :: [w0, w1]) hp).bind (fun r => qzV (d + 1) 98 32 [a0, a1, a2, a3, a4, a5, a6, a7] (r.1.toList ++ st) r.2) := qv_callv (n := 2) mdc_98 dX3_goCut_29 mdo_98 (by decide) qfc_3_50 ⟨rfl, by decide, rfl⟩ rfl ⟨rfl, rfl, by simp only [List.length_cons]; omega⟩ h8 hb
theorem eX3_goCut_32 {d : Nat} {a0 a1 a2 a3 a4 a5 a6 a7 : Value} {x : Int32} {st : List Value} {hp : qzH} : qzV d 98 32 [a0, a1, a2, a3, a4, a5, a6, a7] (.int x :: st) hp = qzV d 98 34 [a0, a1, a2, a3, a4, .int x, a6, a7] (st) hp := qv_istore (i := 5) mdc_98 dX3_goCut_32 rfl (Nat.le_of_ble_eq_true rfl) rfl rfl
theorem eX3_goCut_34 {d : Nat} {a1 a2 a3 a4 a5 a6 a7 : Value} {x : Nat} {st : List Value} {hp : qzH} : qzV d 98 34 [.ref x, a1, a2, a3, a4, a5, a6, a7] (st) hp = qzV d 98 35 [.ref x, a1, a2, a3, a4, a5, a6, a7] (.ref x :: st) hp := qv_aload (i := 0) mdc_98 dX3_goCut_34 rfl rfl rfl
theorem eX3_goCut_35 {d : Nat} {a0 a1 a2 a3 a5 a6 a7 : Value} {x : Int32} {st : List Value} {hp : qzH} : qzV d 98 35 [a0, a1, a2, a3, .int x, a5, a6, a7] (st) hp = qzV d 98 37 [a0, a1, a2, a3, .int x, a5, a6, a7] (.int x :: st) hp := qv_iload (i := 4) mdc_98 dX3_goCut_35 rfl rfl rfl
theorem eX3_goCut_37 {d : Nat} {a0 a2 a3 a4 a5 a6 a7 : Value} {x : Int32} {st : List Value} {hp : qzH} : qzV d 98 37 [a0, .int x, a2, a3, a4, a5, a6, a7] (st) hp = qzV d 98 38 [a0, .int x, a2, a3, a4, a5, a6, a7] (.int x :: st) hp := qv_iload (i := 1) mdc_98 dX3_goCut_37 rfl rfl rfl
theorem eX3_goCut_38 {d : Nat} {a0 a1 a2 a3 a4 a6 a7 : Value} {x : Int32} {st : List Value} {hp : qzH} : qzV d 98 38 [a0, a1, a2, a3, a4, .int x, a6, a7] (st) hp = qzV d 98 40 [a0, a1, a2, a3, a4, .int x, a6, a7] (.int x :: st) hp := qv_iload (i := 5) mdc_98 dX3_goCut_38 rfl rfl rfl
theorem eX3_goCut_40 {d : Nat} {a0 a1 a2 a3 a4 a5 a6 a7 : Value} {w0 w1 w2 : Value} {b : Nat} {st : List Value} {hp : qzH} (h8 : st.length ≤ 8) (hb : qzArr 3 b hp.1 = true) : qzV (d + 1) 98 40 [a0, a1, a2, a3, a4, a5, a6, a7] (w2 :: w1 :: w0 :: .ref b :: st) hp = (qzC d 97 (.ref b :: [w0, w1, w2]) hp).bind (fun r => qzV (d + 1) 98 43 [a0, a1, a2, a3, a4, a5, a6, a7] (r.1.toList ++ st) r.2) := qv_callv (n := 3) mdc_98 dX3_goCut_40 mdo_98 (by decide) qfc_3_54 ⟨rfl, by decide, rfl⟩ rfl ⟨rfl, rfl, by simp only [List.length_cons]; omega⟩ h8 hb
theorem eX3_goCut_43 {d : Nat} {a0 a1 a2 a3 a4 a5 a6 a7 : Value} {x : Int32} {st : List Value} {hp : qzH} : qzV d 98 43 [a0, a1, a2, a3, a4, a5, a6, a7] (.int x :: st) hp = qzV d 98 45 [a0, a1, a2, a3, a4, a5, .int x, a7] (st) hp := qv_istore (i := 6) mdc_98 dX3_goCut_43 rfl (Nat.le_of_ble_eq_true rfl) rfl rfl
theorem eX3_goCut_45 {d : Nat} {a0 a1 a2 a3 a4 a5 a6 a7 : Value} {st : List Value} {hp : qzH} : qzV d 98 45 [a0, a1, a2, a3, a4, a5, a6, a7] (st) hp = qzV d 98 47 [a0, a1, a2, a3, a4, a5, a6, a7] (.int 40 :: st) hp := qv_bipush mdc_98 dX3_goCut_45 ib_40 rfl
theorem eX3_goCut_47 {d : Nat} {a0 a1 a2 a3 a4 a5 a6 a7 : Value} {st : List Value} {hp : qzH} : qzV d 98 47 [a0, a1, a2, a3, a4, a5, a6, a7] (st) hp = qzV d 98 49 [a0, a1, a2, a3, a4, a5, a6, a7] (.int 40 :: st) hp := qv_bipush mdc_98 dX3_goCut_47 ib_40 rfl
theorem eX3_goCut_49 {d : Nat} {a0 a1 a2 a4 a5 a6 a7 : Value} {x : Int32} {st : List Value} {hp : qzH} : qzV d 98 49 [a0, a1, a2, .int x, a4, a5, a6, a7] (st) hp = qzV d 98 50 [a0, a1, a2, .int x, a4, a5, a6, a7] (.int x :: st) hp := qv_iload (i := 3) mdc_98 dX3_goCut_49 rfl rfl rfl
theorem eX3_goCut_50 {d : Nat} {a0 a1 a2 a3 a4 a5 a6 a7 : Value} {x y : Int32} {st : List Value} {hp : qzH} : qzV d 98 50 [a0, a1, a2, a3, a4, a5, a6, a7] (.int y :: .int x :: st) hp = qzV d 98 51 [a0, a1, a2, a3, a4, a5, a6, a7] (.int (x * y) :: st) hp := qv_bin (f := fun x y => x * y) mdc_98 dX3_goCut_50 rfl rfl
theorem eX3_goCut_51 {d : Nat} {a0 a1 a2 a3 a4 a5 a6 a7 : Value} {x y : Int32} {st : List Value} {hp : qzH} : qzV d 98 51 [a0, a1, a2, a3, a4, a5, a6, a7] (.int y :: .int x :: st) hp = qzV d 98 52 [a0, a1, a2, a3, a4, a5, a6, a7] (.int (x + y) :: st) hp := qv_bin (f := fun x y => x + y) mdc_98 dX3_goCut_51 rfl rfl
theorem eX3_goCut_52 {d : Nat} {a0 a1 a2 a3 a4 a5 a6 a7 : Value} {st : List Value} {hp : qzH} : qzV d 98 52 [a0, a1, a2, a3, a4, a5, a6, a7] (st) hp = qzV d 98 53 [a0, a1, a2, a3, a4, a5, a6, a7] (.int 4 :: st) hp := qv_iconst mdc_98 dX3_goCut_52 il_4 rfl
theorem eX3_goCut_53 {d : Nat} {a1 a2 a3 a4 a5 a6 a7 : Value} {x : Nat} {st : List Value} {hp : qzH} : qzV d 98 53 [.ref x, a1, a2, a3, a4, a5, a6, a7] (st) hp = qzV d 98 54 [.ref x, a1, a2, a3, a4, a5, a6, a7] (.ref x :: st) hp := qv_aload (i := 0) mdc_98 dX3_goCut_53 rfl rfl rfl
theorem eX3_goCut_54 {d : Nat} {a0 a1 a2 a4 a5 a6 a7 : Value} {x : Int32} {st : List Value} {hp : qzH} : qzV d 98 54 [a0, a1, a2, .int x, a4, a5, a6, a7] (st) hp = qzV d 98 55 [a0, a1, a2, .int x, a4, a5, a6, a7] (.int x :: st) hp := qv_iload (i := 3) mdc_98 dX3_goCut_54 rfl rfl rfl
theorem eX3_goCut_55 {d : Nat} {a0 a1 a2 a3 a4 a5 a6 a7 : Value} {st : List Value} {hp : qzH} : qzV d 98 55 [a0, a1, a2, a3, a4, a5, a6, a7] (st) hp = qzV d 98 56 [a0, a1, a2, a3, a4, a5, a6, a7] (.int 1 :: st) hp := qv_iconst mdc_98 dX3_goCut_55 il_1 rfl
theorem eX3_goCut_56 {d : Nat} {a0 a1 a2 a3 a4 a5 a6 a7 : Value} {w0 w1 : Value} {b : Nat} {st : List Value} {hp : qzH} (h8 : st.length ≤ 8) (hb : qzArr 3 b hp.1 = true) : qzV (d + 1) 98 56 [a0, a1, a2, a3, a4, a5, a6, a7] (w1 :: w0 :: .ref b :: st) hp = (qzC d 91 (.ref b :: [w0, w1]) hp).bind (fun r => qzV (d + 1) 98 59 [a0, a1, a2, a3, a4, a5, a6, a7] (r.1.toList ++ st) r.2) := qv_callv (n := 2) mdc_98 dX3_goCut_56 mdo_98 (by decide) qfc_3_50 ⟨rfl, by decide, rfl⟩ rfl ⟨rfl, rfl, by simp only [List.length_cons]; omega⟩ h8 hb
theorem eX3_goCut_59 {d : Nat} {a0 a1 a2 a3 a4 a5 a6 a7 : Value} {x y : Int32} {st : List Value} {hp : qzH} : qzV d 98 59 [a0, a1, a2, a3, a4, a5, a6, a7] (.int y :: .int x :: st) hp = qzV d 98 60 [a0, a1, a2, a3, a4, a5, a6, a7] (.int (x * y) :: st) hp := qv_bin (f := fun x y => x * y) mdc_98 dX3_goCut_59 rfl rfl
theorem eX3_goCut_60 {d : Nat} {a0 a1 a2 a3 a4 a5 a6 a7 : Value} {x y : Int32} {st : List Value} {hp : qzH} : qzV d 98 60 [a0, a1, a2, a3, a4, a5, a6, a7] (.int y :: .int x :: st) hp = qzV d 98 61 [a0, a1, a2, a3, a4, a5, a6, a7] (.int (x + y) :: st) hp := qv_bin (f := fun x y => x + y) mdc_98 dX3_goCut_60 rfl rfl
theorem eX3_goCut_61 {d : Nat} {a0 a1 a2 a3 a4 a5 a6 a7 : Value} {x : Int32} {st : List Value} {hp : qzH} : qzV d 98 61 [a0, a1, a2, a3, a4, a5, a6, a7] (.int x :: st) hp = qzV d 98 63 [a0, a1, a2, a3, a4, a5, a6, .int x] (st) hp := qv_istore (i := 7) mdc_98 dX3_goCut_61 rfl (Nat.le_of_ble_eq_true rfl) rfl rfl
theorem eX3_goCut_63 {d : Nat} {a1 a2 a3 a4 a5 a6 a7 : Value} {x : Nat} {st : List Value} {hp : qzH} : qzV d 98 63 [.ref x, a1, a2, a3, a4, a5, a6, a7] (st) hp = qzV d 98 64 [.ref x, a1, a2, a3, a4, a5, a6, a7] (.ref x :: st) hp := qv_aload (i := 0) mdc_98 dX3_goCut_63 rfl rfl rfl
theorem eX3_goCut_64 {d : Nat} {a0 a1 a2 a3 a4 a5 a6 a7 : Value} {a : Nat} {st : List Value} {hp : qzH} (ha : qzArr 3 a hp.1 = true) : qzV d 98 64 [a0, a1, a2, a3, a4, a5, a6, a7] (.ref a :: st) hp = qzV d 98 67 [a0, a1, a2, a3, a4, a5, a6, a7] (va_rf (hp.2.1 a 0) :: st) hp := qv_getR mdc_98 dX3_goCut_64 mdo_98 qff_3_7 ⟨by decide, rfl⟩ rfl ha
theorem eX3_goCut_67 {d : Nat} {a0 a1 a2 a3 a4 a5 a6 : Value} {x : Int32} {st : List Value} {hp : qzH} : qzV d 98 67 [a0, a1, a2, a3, a4, a5, a6, .int x] (st) hp = qzV d 98 69 [a0, a1, a2, a3, a4, a5, a6, .int x] (.int x :: st) hp := qv_iload (i := 7) mdc_98 dX3_goCut_67 rfl rfl rfl
theorem eX3_goCut_69 {d : Nat} {a0 a1 a2 a3 a5 a6 a7 : Value} {x : Int32} {st : List Value} {hp : qzH} : qzV d 98 69 [a0, a1, a2, a3, .int x, a5, a6, a7] (st) hp = qzV d 98 71 [a0, a1, a2, a3, .int x, a5, a6, a7] (.int x :: st) hp := qv_iload (i := 4) mdc_98 dX3_goCut_69 rfl rfl rfl
theorem eX3_goCut_71 {d : Nat} {a0 a1 a2 a3 a4 a5 a6 a7 : Value} {i x : Int32} {a : Nat} {st : List Value} {hp : qzH} (ha : qzArr 4 a hp.1 = true) (hi : qzIn i (qzk a).2 = true) : qzV d 98 71 [a0, a1, a2, a3, a4, a5, a6, a7] (.int x :: .int i :: .ref a :: st) hp = qzV d 98 72 [a0, a1, a2, a3, a4, a5, a6, a7] st (hp.1, hp.2.1, qzUp hp.2.2 a i.toNatClampNeg x) := qv_iast mdc_98 dX3_goCut_71 rfl ha hi
theorem eX3_goCut_72 {d : Nat} {a1 a2 a3 a4 a5 a6 a7 : Value} {x : Nat} {st : List Value} {hp : qzH} : qzV d 98 72 [.ref x, a1, a2, a3, a4, a5, a6, a7] (st) hp = qzV d 98 73 [.ref x, a1, a2, a3, a4, a5, a6, a7] (.ref x :: st) hp := qv_aload (i := 0) mdc_98 dX3_goCut_72 rfl rfl rfl
theorem eX3_goCut_73 {d : Nat} {a0 a1 a2 a3 a4 a5 a6 a7 : Value} {a : Nat} {st : List Value} {hp : qzH} (ha : qzArr 3 a hp.1 = true) : qzV d 98 73 [a0, a1, a2, a3, a4, a5, a6, a7] (.ref a :: st) hp = qzV d 98 76 [a0, a1, a2, a3, a4, a5, a6, a7] (va_rf (hp.2.1 a 0) :: st) hp := qv_getR mdc_98 dX3_goCut_73 mdo_98 qff_3_7 ⟨by decide, rfl⟩ rfl ha
theorem eX3_goCut_76 {d : Nat} {a0 a1 a2 a3 a4 a5 a6 : Value} {x : Int32} {st : List Value} {hp : qzH} : qzV d 98 76 [a0, a1, a2, a3, a4, a5, a6, .int x] (st) hp = qzV d 98 78 [a0, a1, a2, a3, a4, a5, a6, .int x] (.int x :: st) hp := qv_iload (i := 7) mdc_98 dX3_goCut_76 rfl rfl rfl
theorem eX3_goCut_78 {d : Nat} {a0 a1 a2 a3 a4 a5 a6 a7 : Value} {st : List Value} {hp : qzH} : qzV d 98 78 [a0, a1, a2, a3, a4, a5, a6, a7] (st) hp = qzV d 98 79 [a0, a1, a2, a3, a4, a5, a6, a7] (.int 1 :: st) hp := qv_iconst mdc_98 dX3_goCut_78 il_1 rfl
theorem eX3_goCut_79 {d : Nat} {a0 a1 a2 a3 a4 a5 a6 a7 : Value} {x y : Int32} {st : List Value} {hp : qzH} : qzV d 98 79 [a0, a1, a2, a3, a4, a5, a6, a7] (.int y :: .int x :: st) hp = qzV d 98 80 [a0, a1, a2, a3, a4, a5, a6, a7] (.int (x + y) :: st) hp := qv_bin (f := fun x y => x + y) mdc_98 dX3_goCut_79 rfl rfl
theorem eX3_goCut_80 {d : Nat} {a0 a2 a3 a4 a5 a6 a7 : Value} {x : Int32} {st : List Value} {hp : qzH} : qzV d 98 80 [a0, .int x, a2, a3, a4, a5, a6, a7] (st) hp = qzV d 98 81 [a0, .int x, a2, a3, a4, a5, a6, a7] (.int x :: st) hp := qv_iload (i := 1) mdc_98 dX3_goCut_80 rfl rfl rfl
theorem eX3_goCut_81 {d : Nat} {a0 a1 a2 a3 a4 a5 a6 a7 : Value} {i x : Int32} {a : Nat} {st : List Value} {hp : qzH} (ha : qzArr 4 a hp.1 = true) (hi : qzIn i (qzk a).2 = true) : qzV d 98 81 [a0, a1, a2, a3, a4, a5, a6, a7] (.int x :: .int i :: .ref a :: st) hp = qzV d 98 82 [a0, a1, a2, a3, a4, a5, a6, a7] st (hp.1, hp.2.1, qzUp hp.2.2 a i.toNatClampNeg x) := qv_iast mdc_98 dX3_goCut_81 rfl ha hi
theorem eX3_goCut_82 {d : Nat} {a1 a2 a3 a4 a5 a6 a7 : Value} {x : Nat} {st : List Value} {hp : qzH} : qzV d 98 82 [.ref x, a1, a2, a3, a4, a5, a6, a7] (st) hp = qzV d 98 83 [.ref x, a1, a2, a3, a4, a5, a6, a7] (.ref x :: st) hp := qv_aload (i := 0) mdc_98 dX3_goCut_82 rfl rfl rfl
theorem eX3_goCut_83 {d : Nat} {a0 a1 a2 a3 a4 a5 a6 a7 : Value} {a : Nat} {st : List Value} {hp : qzH} (ha : qzArr 3 a hp.1 = true) : qzV d 98 83 [a0, a1, a2, a3, a4, a5, a6, a7] (.ref a :: st) hp = qzV d 98 86 [a0, a1, a2, a3, a4, a5, a6, a7] (va_rf (hp.2.1 a 0) :: st) hp := qv_getR mdc_98 dX3_goCut_83 mdo_98 qff_3_7 ⟨by decide, rfl⟩ rfl ha
theorem eX3_goCut_86 {d : Nat} {a0 a1 a2 a3 a4 a5 a6 : Value} {x : Int32} {st : List Value} {hp : qzH} : qzV d 98 86 [a0, a1, a2, a3, a4, a5, a6, .int x] (st) hp = qzV d 98 88 [a0, a1, a2, a3, a4, a5, a6, .int x] (.int x :: st) hp := qv_iload (i := 7) mdc_98 dX3_goCut_86 rfl rfl rfl
theorem eX3_goCut_88 {d : Nat} {a0 a1 a2 a3 a4 a5 a6 a7 : Value} {st : List Value} {hp : qzH} : qzV d 98 88 [a0, a1, a2, a3, a4, a5, a6, a7] (st) hp = qzV d 98 89 [a0, a1, a2, a3, a4, a5, a6, a7] (.int 2 :: st) hp := qv_iconst mdc_98 dX3_goCut_88 il_2 rfl
theorem eX3_goCut_89 {d : Nat} {a0 a1 a2 a3 a4 a5 a6 a7 : Value} {x y : Int32} {st : List Value} {hp : qzH} : qzV d 98 89 [a0, a1, a2, a3, a4, a5, a6, a7] (.int y :: .int x :: st) hp = qzV d 98 90 [a0, a1, a2, a3, a4, a5, a6, a7] (.int (x + y) :: st) hp := qv_bin (f := fun x y => x + y) mdc_98 dX3_goCut_89 rfl rfl
theorem eX3_goCut_90 {d : Nat} {a0 a1 a2 a3 a4 a5 a7 : Value} {x : Int32} {st : List Value} {hp : qzH} : qzV d 98 90 [a0, a1, a2, a3, a4, a5, .int x, a7] (st) hp = qzV d 98 92 [a0, a1, a2, a3, a4, a5, .int x, a7] (.int x :: st) hp := qv_iload (i := 6) mdc_98 dX3_goCut_90 rfl rfl rfl
theorem eX3_goCut_92 {d : Nat} {a0 a1 a2 a3 a4 a5 a6 a7 : Value} {i x : Int32} {a : Nat} {st : List Value} {hp : qzH} (ha : qzArr 4 a hp.1 = true) (hi : qzIn i (qzk a).2 = true) : qzV d 98 92 [a0, a1, a2, a3, a4, a5, a6, a7] (.int x :: .int i :: .ref a :: st) hp = qzV d 98 93 [a0, a1, a2, a3, a4, a5, a6, a7] st (hp.1, hp.2.1, qzUp hp.2.2 a i.toNatClampNeg x) := qv_iast mdc_98 dX3_goCut_92 rfl ha hi
theorem eX3_goCut_93 {d : Nat} {a1 a2 a3 a4 a5 a6 a7 : Value} {x : Nat} {st : List Value} {hp : qzH} : qzV d 98 93 [.ref x, a1, a2, a3, a4, a5, a6, a7] (st) hp = qzV d 98 94 [.ref x, a1, a2, a3, a4, a5, a6, a7] (.ref x :: st) hp := qv_aload (i := 0) mdc_98 dX3_goCut_93 rfl rfl rfl
theorem eX3_goCut_94 {d : Nat} {a0 a1 a2 a3 a4 a5 a6 a7 : Value} {a : Nat} {st : List Value} {hp : qzH} (ha : qzArr 3 a hp.1 = true) : qzV d 98 94 [a0, a1, a2, a3, a4, a5, a6, a7] (.ref a :: st) hp = qzV d 98 97 [a0, a1, a2, a3, a4, a5, a6, a7] (va_rf (hp.2.1 a 0) :: st) hp := qv_getR mdc_98 dX3_goCut_94 mdo_98 qff_3_7 ⟨by decide, rfl⟩ rfl ha
theorem eX3_goCut_97 {d : Nat} {a0 a1 a2 a3 a4 a5 a6 : Value} {x : Int32} {st : List Value} {hp : qzH} : qzV d 98 97 [a0, a1, a2, a3, a4, a5, a6, .int x] (st) hp = qzV d 98 99 [a0, a1, a2, a3, a4, a5, a6, .int x] (.int x :: st) hp := qv_iload (i := 7) mdc_98 dX3_goCut_97 rfl rfl rfl
theorem eX3_goCut_99 {d : Nat} {a0 a1 a2 a3 a4 a5 a6 a7 : Value} {st : List Value} {hp : qzH} : qzV d 98 99 [a0, a1, a2, a3, a4, a5, a6, a7] (st) hp = qzV d 98 100 [a0, a1, a2, a3, a4, a5, a6, a7] (.int 3 :: st) hp := qv_iconst mdc_98 dX3_goCut_99 il_3 rfl
theorem eX3_goCut_100 {d : Nat} {a0 a1 a2 a3 a4 a5 a6 a7 : Value} {x y : Int32} {st : List Value} {hp : qzH} : qzV d 98 100 [a0, a1, a2, a3, a4, a5, a6, a7] (.int y :: .int x :: st) hp = qzV d 98 101 [a0, a1, a2, a3, a4, a5, a6, a7] (.int (x + y) :: st) hp := qv_bin (f := fun x y => x + y) mdc_98 dX3_goCut_100 rfl rfl
theorem eX3_goCut_101 {d : Nat} {a0 a1 a3 a4 a5 a6 a7 : Value} {x : Int32} {st : List Value} {hp : qzH} : qzV d 98 101 [a0, a1, .int x, a3, a4, a5, a6, a7] (st) hp = qzV d 98 102 [a0, a1, .int x, a3, a4, a5, a6, a7] (.int x :: st) hp := qv_iload (i := 2) mdc_98 dX3_goCut_101 rfl rfl rfl
theorem eX3_goCut_102 {d : Nat} {a0 a1 a2 a3 a4 a5 a6 a7 : Value} {x : Int32} {st : List Value} {hp : qzH} : qzV d 98 102 [a0, a1, a2, a3, a4, a5, a6, a7] (.int x :: st) hp = if x = 0 then qzV d 98 109 [a0, a1, a2, a3, a4, a5, a6, a7] (st) hp else qzV d 98 105 [a0, a1, a2, a3, a4, a5, a6, a7] (st) hp := qv_if1 mdc_98 dX3_goCut_102 rfl rfl rfl
theorem eX3_goCut_105 {d : Nat} {a0 a1 a2 a3 a4 a5 a6 a7 : Value} {st : List Value} {hp : qzH} : qzV d 98 105 [a0, a1, a2, a3, a4, a5, a6, a7] (st) hp = qzV d 98 106 [a0, a1, a2, a3, a4, a5, a6, a7] (.int 1 :: st) hp := qv_iconst mdc_98 dX3_goCut_105 il_1 rfl
theorem eX3_goCut_106 {d : Nat} {a0 a1 a2 a3 a4 a5 a6 a7 : Value} {st : List Value} {hp : qzH} : qzV d 98 106 [a0, a1, a2, a3, a4, a5, a6, a7] (st) hp = qzV d 98 110 [a0, a1, a2, a3, a4, a5, a6, a7] (st) hp := qv_goto mdc_98 dX3_goCut_106 rfl
theorem eX3_goCut_109 {d : Nat} {a0 a1 a2 a3 a4 a5 a6 a7 : Value} {st : List Value} {hp : qzH} : qzV d 98 109 [a0, a1, a2, a3, a4, a5, a6, a7] (st) hp = qzV d 98 110 [a0, a1, a2, a3, a4, a5, a6, a7] (.int 0 :: st) hp := qv_iconst mdc_98 dX3_goCut_109 il_0 rfl
theorem eX3_goCut_110 {d : Nat} {a0 a1 a2 a3 a4 a5 a6 a7 : Value} {i x : Int32} {a : Nat} {st : List Value} {hp : qzH} (ha : qzArr 4 a hp.1 = true) (hi : qzIn i (qzk a).2 = true) : qzV d 98 110 [a0, a1, a2, a3, a4, a5, a6, a7] (.int x :: .int i :: .ref a :: st) hp = qzV d 98 111 [a0, a1, a2, a3, a4, a5, a6, a7] st (hp.1, hp.2.1, qzUp hp.2.2 a i.toNatClampNeg x) := qv_iast mdc_98 dX3_goCut_110 rfl ha hi
theorem eX3_goCut_111 {d : Nat} {a1 a2 a3 a4 a5 a6 a7 : Value} {x : Nat} {st : List Value} {hp : qzH} : qzV d 98 111 [.ref x, a1, a2, a3, a4, a5, a6, a7] (st) hp = qzV d 98 112 [.ref x, a1, a2, a3, a4, a5, a6, a7] (.ref x :: st) hp := qv_aload (i := 0) mdc_98 dX3_goCut_111 rfl rfl rfl
theorem eX3_goCut_112 {d : Nat} {a0 a1 a2 a4 a5 a6 a7 : Value} {x : Int32} {st : List Value} {hp : qzH} : qzV d 98 112 [a0, a1, a2, .int x, a4, a5, a6, a7] (st) hp = qzV d 98 113 [a0, a1, a2, .int x, a4, a5, a6, a7] (.int x :: st) hp := qv_iload (i := 3) mdc_98 dX3_goCut_112 rfl rfl rfl
theorem eX3_goCut_113 {d : Nat} {a0 a1 a2 a3 a4 a5 a6 a7 : Value} {st : List Value} {hp : qzH} : qzV d 98 113 [a0, a1, a2, a3, a4, a5, a6, a7] (st) hp = qzV d 98 114 [a0, a1, a2, a3, a4, a5, a6, a7] (.int 0 :: st) hp := qv_iconst mdc_98 dX3_goCut_113 il_0 rfl
theorem eX3_goCut_114 {d : Nat} {a0 a1 a2 a3 a4 a5 a7 : Value} {x : Int32} {st : List Value} {hp : qzH} : qzV d 98 114 [a0, a1, a2, a3, a4, a5, .int x, a7] (st) hp = qzV d 98 116 [a0, a1, a2, a3, a4, a5, .int x, a7] (.int x :: st) hp := qv_iload (i := 6) mdc_98 dX3_goCut_114 rfl rfl rfl
theorem eX3_goCut_116 {d : Nat} {a0 a1 a2 a3 a4 a5 a6 a7 : Value} {w0 w1 w2 : Value} {b : Nat} {st : List Value} {hp : qzH} (h8 : st.length ≤ 8) (hb : qzArr 3 b hp.1 = true) : qzV (d + 1) 98 116 [a0, a1, a2, a3, a4, a5, a6, a7] (w2 :: w1 :: w0 :: .ref b :: st) hp = (qzC d 92 (.ref b :: [w0, w1, w2]) hp).bind (fun r => qzV (d + 1) 98 119 [a0, a1, a2, a3, a4, a5, a6, a7] (r.1.toList ++ st) r.2) := qv_callv (n := 3) mdc_98 dX3_goCut_116 mdo_98 (by decide) qfc_3_58 ⟨rfl, by decide, rfl⟩ rfl ⟨rfl, rfl, by simp only [List.length_cons]; omega⟩ h8 hb
theorem eX3_goCut_119 {d : Nat} {a1 a2 a3 a4 a5 a6 a7 : Value} {x : Nat} {st : List Value} {hp : qzH} : qzV d 98 119 [.ref x, a1, a2, a3, a4, a5, a6, a7] (st) hp = qzV d 98 120 [.ref x, a1, a2, a3, a4, a5, a6, a7] (.ref x :: st) hp := qv_aload (i := 0) mdc_98 dX3_goCut_119 rfl rfl rfl
theorem eX3_goCut_120 {d : Nat} {a0 a1 a2 a4 a5 a6 a7 : Value} {x : Int32} {st : List Value} {hp : qzH} : qzV d 98 120 [a0, a1, a2, .int x, a4, a5, a6, a7] (st) hp = qzV d 98 121 [a0, a1, a2, .int x, a4, a5, a6, a7] (.int x :: st) hp := qv_iload (i := 3) mdc_98 dX3_goCut_120 rfl rfl rfl
theorem eX3_goCut_121 {d : Nat} {a0 a1 a2 a3 a4 a5 a6 a7 : Value} {st : List Value} {hp : qzH} : qzV d 98 121 [a0, a1, a2, a3, a4, a5, a6, a7] (st) hp = qzV d 98 122 [a0, a1, a2, a3, a4, a5, a6, a7] (.int 1 :: st) hp := qv_iconst mdc_98 dX3_goCut_121 il_1 rfl
theorem eX3_goCut_122 {d : Nat} {a0 a1 a2 a3 a4 a5 a6 a7 : Value} {st : List Value} {hp : qzH} : qzV d 98 122 [a0, a1, a2, a3, a4, a5, a6, a7] (st) hp = qzV d 98 123 [a0, a1, a2, a3, a4, a5, a6, a7] (.int 1 :: st) hp := qv_iconst mdc_98 dX3_goCut_122 il_1 rfl
theorem eX3_goCut_123 {d : Nat} {a0 a1 a2 a3 a4 a5 a6 a7 : Value} {w0 w1 w2 : Value} {b : Nat} {st : List Value} {hp : qzH} (h8 : st.length ≤ 8) (hb : qzArr 3 b hp.1 = true) : qzV (d + 1) 98 123 [a0, a1, a2, a3, a4, a5, a6, a7] (w2 :: w1 :: w0 :: .ref b :: st) hp = (qzC d 92 (.ref b :: [w0, w1, w2]) hp).bind (fun r => qzV (d + 1) 98 126 [a0, a1, a2, a3, a4, a5, a6, a7] (r.1.toList ++ st) r.2) := qv_callv (n := 3) mdc_98 dX3_goCut_123 mdo_98 (by decide) qfc_3_58 ⟨rfl, by decide, rfl⟩ rfl ⟨rfl, rfl, by simp only [List.length_cons]; omega⟩ h8 hb
theorem eX3_goCut_126 {d : Nat} {a1 a2 a3 a4 a5 a6 a7 : Value} {x : Nat} {st : List Value} {hp : qzH} : qzV d 98 126 [.ref x, a1, a2, a3, a4, a5, a6, a7] (st) hp = qzV d 98 127 [.ref x, a1, a2, a3, a4, a5, a6, a7] (.ref x :: st) hp := qv_aload (i := 0) mdc_98 dX3_goCut_126 rfl rfl rfl
theorem eX3_goCut_127 {d : Nat} {a0 a1 a2 a4 a5 a6 a7 : Value} {x : Int32} {st : List Value} {hp : qzH} : qzV d 98 127 [a0, a1, a2, .int x, a4, a5, a6, a7] (st) hp = qzV d 98 128 [a0, a1, a2, .int x, a4, a5, a6, a7] (.int x :: st) hp := qv_iload (i := 3) mdc_98 dX3_goCut_127 rfl rfl rfl
theorem eX3_goCut_128 {d : Nat} {a0 a1 a2 a3 a4 a5 a6 a7 : Value} {st : List Value} {hp : qzH} : qzV d 98 128 [a0, a1, a2, a3, a4, a5, a6, a7] (st) hp = qzV d 98 129 [a0, a1, a2, a3, a4, a5, a6, a7] (.int 2 :: st) hp := qv_iconst mdc_98 dX3_goCut_128 il_2 rfl
theorem eX3_goCut_129 {d : Nat} {a0 a2 a3 a4 a5 a6 a7 : Value} {x : Int32} {st : List Value} {hp : qzH} : qzV d 98 129 [a0, .int x, a2, a3, a4, a5, a6, a7] (st) hp = qzV d 98 130 [a0, .int x, a2, a3, a4, a5, a6, a7] (.int x :: st) hp := qv_iload (i := 1) mdc_98 dX3_goCut_129 rfl rfl rfl
theorem eX3_goCut_130 {d : Nat} {a0 a1 a2 a3 a4 a5 a6 a7 : Value} {w0 w1 w2 : Value} {b : Nat} {st : List Value} {hp : qzH} (h8 : st.length ≤ 8) (hb : qzArr 3 b hp.1 = true) : qzV (d + 1) 98 130 [a0, a1, a2, a3, a4, a5, a6, a7] (w2 :: w1 :: w0 :: .ref b :: st) hp = (qzC d 92 (.ref b :: [w0, w1, w2]) hp).bind (fun r => qzV (d + 1) 98 133 [a0, a1, a2, a3, a4, a5, a6, a7] (r.1.toList ++ st) r.2) := qv_callv (n := 3) mdc_98 dX3_goCut_130 mdo_98 (by decide) qfc_3_58 ⟨rfl, by decide, rfl⟩ rfl ⟨rfl, rfl, by simp only [List.length_cons]; omega⟩ h8 hb
theorem eX3_goCut_133 {d : Nat} {a1 a2 a3 a4 a5 a6 a7 : Value} {x : Nat} {st : List Value} {hp : qzH} : qzV d 98 133 [.ref x, a1, a2, a3, a4, a5, a6, a7] (st) hp = qzV d 98 134 [.ref x, a1, a2, a3, a4, a5, a6, a7] (.ref x :: st) hp := qv_aload (i := 0) mdc_98 dX3_goCut_133 rfl rfl rfl
theorem eX3_goCut_134 {d : Nat} {a0 a1 a2 a4 a5 a6 a7 : Value} {x : Int32} {st : List Value} {hp : qzH} : qzV d 98 134 [a0, a1, a2, .int x, a4, a5, a6, a7] (st) hp = qzV d 98 135 [a0, a1, a2, .int x, a4, a5, a6, a7] (.int x :: st) hp := qv_iload (i := 3) mdc_98 dX3_goCut_134 rfl rfl rfl
theorem eX3_goCut_135 {d : Nat} {a0 a1 a2 a3 a4 a5 a6 a7 : Value} {st : List Value} {hp : qzH} : qzV d 98 135 [a0, a1, a2, a3, a4, a5, a6, a7] (st) hp = qzV d 98 136 [a0, a1, a2, a3, a4, a5, a6, a7] (.int 4 :: st) hp := qv_iconst mdc_98 dX3_goCut_135 il_4 rfl
theorem eX3_goCut_136 {d : Nat} {a1 a2 a3 a4 a5 a6 a7 : Value} {x : Nat} {st : List Value} {hp : qzH} : qzV d 98 136 [.ref x, a1, a2, a3, a4, a5, a6, a7] (st) hp = qzV d 98 137 [.ref x, a1, a2, a3, a4, a5, a6, a7] (.ref x :: st) hp := qv_aload (i := 0) mdc_98 dX3_goCut_136 rfl rfl rfl
theorem eX3_goCut_137 {d : Nat} {a0 a1 a2 a3 a5 a6 a7 : Value} {x : Int32} {st : List Value} {hp : qzH} : qzV d 98 137 [a0, a1, a2, a3, .int x, a5, a6, a7] (st) hp = qzV d 98 139 [a0, a1, a2, a3, .int x, a5, a6, a7] (.int x :: st) hp := qv_iload (i := 4) mdc_98 dX3_goCut_137 rfl rfl rfl
theorem eX3_goCut_139 {d : Nat} {a0 a1 a2 a3 a4 a6 a7 : Value} {x : Int32} {st : List Value} {hp : qzH} : qzV d 98 139 [a0, a1, a2, a3, a4, .int x, a6, a7] (st) hp = qzV d 98 141 [a0, a1, a2, a3, a4, .int x, a6, a7] (.int x :: st) hp := qv_iload (i := 5) mdc_98 dX3_goCut_139 rfl rfl rfl
theorem eX3_goCut_141 {d : Nat} {a0 a1 a2 a3 a4 a5 a6 a7 : Value} {w0 w1 : Value} {b : Nat} {st : List Value} {hp : qzH} (h8 : st.length ≤ 8) (hb : qzArr 3 b hp.1 = true) : qzV (d + 1) 98 141 [a0, a1, a2, a3, a4, a5, a6, a7] (w1 :: w0 :: .ref b :: st) hp = (qzC d 96 (.ref b :: [w0, w1]) hp).bind (fun r => qzV (d + 1) 98 144 [a0, a1, a2, a3, a4, a5, a6, a7] (r.1.toList ++ st) r.2) := qv_callv (n := 2) mdc_98 dX3_goCut_141 mdo_98 (by decide) qfc_3_43 ⟨rfl, by decide, rfl⟩ rfl ⟨rfl, rfl, by simp only [List.length_cons]; omega⟩ h8 hb
theorem eX3_goCut_144 {d : Nat} {a0 a1 a2 a3 a4 a5 a6 a7 : Value} {x : Int32} {st : List Value} {hp : qzH} : qzV d 98 144 [a0, a1, a2, a3, a4, a5, a6, a7] (.int x :: st) hp = if x = 0 then qzV d 98 151 [a0, a1, a2, a3, a4, a5, a6, a7] (st) hp else qzV d 98 147 [a0, a1, a2, a3, a4, a5, a6, a7] (st) hp := qv_if1 mdc_98 dX3_goCut_144 rfl rfl rfl
theorem eX3_goCut_147 {d : Nat} {a0 a1 a2 a3 a4 a5 a6 a7 : Value} {st : List Value} {hp : qzH} : qzV d 98 147 [a0, a1, a2, a3, a4, a5, a6, a7] (st) hp = qzV d 98 148 [a0, a1, a2, a3, a4, a5, a6, a7] (.int 1 :: st) hp := qv_iconst mdc_98 dX3_goCut_147 il_1 rfl
theorem eX3_goCut_148 {d : Nat} {a0 a1 a2 a3 a4 a5 a6 a7 : Value} {st : List Value} {hp : qzH} : qzV d 98 148 [a0, a1, a2, a3, a4, a5, a6, a7] (st) hp = qzV d 98 152 [a0, a1, a2, a3, a4, a5, a6, a7] (st) hp := qv_goto mdc_98 dX3_goCut_148 rfl
theorem eX3_goCut_151 {d : Nat} {a0 a1 a2 a3 a4 a5 a6 a7 : Value} {st : List Value} {hp : qzH} : qzV d 98 151 [a0, a1, a2, a3, a4, a5, a6, a7] (st) hp = qzV d 98 152 [a0, a1, a2, a3, a4, a5, a6, a7] (.int 0 :: st) hp := qv_iconst mdc_98 dX3_goCut_151 il_0 rfl
theorem eX3_goCut_152 {d : Nat} {a0 a1 a2 a3 a4 a5 a6 a7 : Value} {w0 w1 w2 : Value} {b : Nat} {st : List Value} {hp : qzH} (h8 : st.length ≤ 8) (hb : qzArr 3 b hp.1 = true) : qzV (d + 1) 98 152 [a0, a1, a2, a3, a4, a5, a6, a7] (w2 :: w1 :: w0 :: .ref b :: st) hp = (qzC d 92 (.ref b :: [w0, w1, w2]) hp).bind (fun r => qzV (d + 1) 98 155 [a0, a1, a2, a3, a4, a5, a6, a7] (r.1.toList ++ st) r.2) := qv_callv (n := 3) mdc_98 dX3_goCut_152 mdo_98 (by decide) qfc_3_58 ⟨rfl, by decide, rfl⟩ rfl ⟨rfl, rfl, by simp only [List.length_cons]; omega⟩ h8 hb
theorem eX3_goCut_155 {d : Nat} {a1 a2 a3 a4 a5 a6 a7 : Value} {x : Nat} {st : List Value} {hp : qzH} : qzV d 98 155 [.ref x, a1, a2, a3, a4, a5, a6, a7] (st) hp = qzV d 98 156 [.ref x, a1, a2, a3, a4, a5, a6, a7] (.ref x :: st) hp := qv_aload (i := 0) mdc_98 dX3_goCut_155 rfl rfl rfl
theorem eX3_goCut_156 {d : Nat} {a0 a1 a2 a4 a5 a6 a7 : Value} {x : Int32} {st : List Value} {hp : qzH} : qzV d 98 156 [a0, a1, a2, .int x, a4, a5, a6, a7] (st) hp = qzV d 98 157 [a0, a1, a2, .int x, a4, a5, a6, a7] (.int x :: st) hp := qv_iload (i := 3) mdc_98 dX3_goCut_156 rfl rfl rfl
theorem eX3_goCut_157 {d : Nat} {a0 a1 a2 a3 a4 a5 a6 a7 : Value} {st : List Value} {hp : qzH} : qzV d 98 157 [a0, a1, a2, a3, a4, a5, a6, a7] (st) hp = qzV d 98 158 [a0, a1, a2, a3, a4, a5, a6, a7] (.int 5 :: st) hp := qv_iconst mdc_98 dX3_goCut_157 il_5 rfl
theorem eX3_goCut_158 {d : Nat} {a1 a2 a3 a4 a5 a6 a7 : Value} {x : Nat} {st : List Value} {hp : qzH} : qzV d 98 158 [.ref x, a1, a2, a3, a4, a5, a6, a7] (st) hp = qzV d 98 159 [.ref x, a1, a2, a3, a4, a5, a6, a7] (.ref x :: st) hp := qv_aload (i := 0) mdc_98 dX3_goCut_158 rfl rfl rfl
theorem eX3_goCut_159 {d : Nat} {a0 a1 a2 a3 a5 a6 a7 : Value} {x : Int32} {st : List Value} {hp : qzH} : qzV d 98 159 [a0, a1, a2, a3, .int x, a5, a6, a7] (st) hp = qzV d 98 161 [a0, a1, a2, a3, .int x, a5, a6, a7] (.int x :: st) hp := qv_iload (i := 4) mdc_98 dX3_goCut_159 rfl rfl rfl
theorem eX3_goCut_161 {d : Nat} {a0 a2 a3 a4 a5 a6 a7 : Value} {x : Int32} {st : List Value} {hp : qzH} : qzV d 98 161 [a0, .int x, a2, a3, a4, a5, a6, a7] (st) hp = qzV d 98 162 [a0, .int x, a2, a3, a4, a5, a6, a7] (.int x :: st) hp := qv_iload (i := 1) mdc_98 dX3_goCut_161 rfl rfl rfl
theorem eX3_goCut_162 {d : Nat} {a0 a1 a2 a3 a4 a5 a6 a7 : Value} {w0 w1 : Value} {b : Nat} {st : List Value} {hp : qzH} (h8 : st.length ≤ 8) (hb : qzArr 3 b hp.1 = true) : qzV (d + 1) 98 162 [a0, a1, a2, a3, a4, a5, a6, a7] (w1 :: w0 :: .ref b :: st) hp = (qzC d 95 (.ref b :: [w0, w1]) hp).bind (fun r => qzV (d + 1) 98 165 [a0, a1, a2, a3, a4, a5, a6, a7] (r.1.toList ++ st) r.2) := qv_callv (n := 2) mdc_98 dX3_goCut_162 mdo_98 (by decide) qfc_3_39 ⟨rfl, by decide, rfl⟩ rfl ⟨rfl, rfl, by simp only [List.length_cons]; omega⟩ h8 hb
theorem eX3_goCut_165 {d : Nat} {a0 a1 a2 a3 a4 a5 a6 a7 : Value} {x : Int32} {st : List Value} {hp : qzH} : qzV d 98 165 [a0, a1, a2, a3, a4, a5, a6, a7] (.int x :: st) hp = if x = 0 then qzV d 98 172 [a0, a1, a2, a3, a4, a5, a6, a7] (st) hp else qzV d 98 168 [a0, a1, a2, a3, a4, a5, a6, a7] (st) hp := qv_if1 mdc_98 dX3_goCut_165 rfl rfl rfl
theorem eX3_goCut_168 {d : Nat} {a0 a1 a2 a3 a4 a5 a6 a7 : Value} {st : List Value} {hp : qzH} : qzV d 98 168 [a0, a1, a2, a3, a4, a5, a6, a7] (st) hp = qzV d 98 169 [a0, a1, a2, a3, a4, a5, a6, a7] (.int 1 :: st) hp := qv_iconst mdc_98 dX3_goCut_168 il_1 rfl
theorem eX3_goCut_169 {d : Nat} {a0 a1 a2 a3 a4 a5 a6 a7 : Value} {st : List Value} {hp : qzH} : qzV d 98 169 [a0, a1, a2, a3, a4, a5, a6, a7] (st) hp = qzV d 98 173 [a0, a1, a2, a3, a4, a5, a6, a7] (st) hp := qv_goto mdc_98 dX3_goCut_169 rfl
theorem eX3_goCut_172 {d : Nat} {a0 a1 a2 a3 a4 a5 a6 a7 : Value} {st : List Value} {hp : qzH} : qzV d 98 172 [a0, a1, a2, a3, a4, a5, a6, a7] (st) hp = qzV d 98 173 [a0, a1, a2, a3, a4, a5, a6, a7] (.int 0 :: st) hp := qv_iconst mdc_98 dX3_goCut_172 il_0 rfl
theorem eX3_goCut_173 {d : Nat} {a0 a1 a2 a3 a4 a5 a6 a7 : Value} {w0 w1 w2 : Value} {b : Nat} {st : List Value} {hp : qzH} (h8 : st.length ≤ 8) (hb : qzArr 3 b hp.1 = true) : qzV (d + 1) 98 173 [a0, a1, a2, a3, a4, a5, a6, a7] (w2 :: w1 :: w0 :: .ref b :: st) hp = (qzC d 92 (.ref b :: [w0, w1, w2]) hp).bind (fun r => qzV (d + 1) 98 176 [a0, a1, a2, a3, a4, a5, a6, a7] (r.1.toList ++ st) r.2) := qv_callv (n := 3) mdc_98 dX3_goCut_173 mdo_98 (by decide) qfc_3_58 ⟨rfl, by decide, rfl⟩ rfl ⟨rfl, rfl, by simp only [List.length_cons]; omega⟩ h8 hb
theorem eX3_goCut_176 {d : Nat} {a1 a2 a3 a4 a5 a6 a7 : Value} {x : Nat} {st : List Value} {hp : qzH} : qzV d 98 176 [.ref x, a1, a2, a3, a4, a5, a6, a7] (st) hp = qzV d 98 177 [.ref x, a1, a2, a3, a4, a5, a6, a7] (.ref x :: st) hp := qv_aload (i := 0) mdc_98 dX3_goCut_176 rfl rfl rfl
theorem eX3_goCut_177 {d : Nat} {a0 a1 a2 a3 a4 a5 a6 a7 : Value} {a : Nat} {st : List Value} {hp : qzH} (ha : qzArr 3 a hp.1 = true) : qzV d 98 177 [a0, a1, a2, a3, a4, a5, a6, a7] (.ref a :: st) hp = qzV d 98 180 [a0, a1, a2, a3, a4, a5, a6, a7] (va_rf (hp.2.1 a 0) :: st) hp := qv_getR mdc_98 dX3_goCut_177 mdo_98 qff_3_7 ⟨by decide, rfl⟩ rfl ha
theorem eX3_goCut_180 {d : Nat} {a0 a1 a2 a3 a4 a5 a6 a7 : Value} {st : List Value} {hp : qzH} : qzV d 98 180 [a0, a1, a2, a3, a4, a5, a6, a7] (st) hp = qzV d 98 182 [a0, a1, a2, a3, a4, a5, a6, a7] (.int 28 :: st) hp := qv_bipush mdc_98 dX3_goCut_180 ib_28 rfl
theorem eX3_goCut_182 {d : Nat} {a0 a1 a2 a3 a4 a5 a6 a7 : Value} {st : List Value} {hp : qzH} : qzV d 98 182 [a0, a1, a2, a3, a4, a5, a6, a7] (st) hp = qzV d 98 184 [a0, a1, a2, a3, a4, a5, a6, a7] (.int 6 :: st) hp := qv_bipush mdc_98 dX3_goCut_182 ib_6 rfl
theorem eX3_goCut_184 {d : Nat} {a0 a1 a2 a4 a5 a6 a7 : Value} {x : Int32} {st : List Value} {hp : qzH} : qzV d 98 184 [a0, a1, a2, .int x, a4, a5, a6, a7] (st) hp = qzV d 98 185 [a0, a1, a2, .int x, a4, a5, a6, a7] (.int x :: st) hp := qv_iload (i := 3) mdc_98 dX3_goCut_184 rfl rfl rfl
theorem eX3_goCut_185 {d : Nat} {a0 a1 a2 a3 a4 a5 a6 a7 : Value} {x y : Int32} {st : List Value} {hp : qzH} : qzV d 98 185 [a0, a1, a2, a3, a4, a5, a6, a7] (.int y :: .int x :: st) hp = qzV d 98 186 [a0, a1, a2, a3, a4, a5, a6, a7] (.int (x * y) :: st) hp := qv_bin (f := fun x y => x * y) mdc_98 dX3_goCut_185 rfl rfl
theorem eX3_goCut_186 {d : Nat} {a0 a1 a2 a3 a4 a5 a6 a7 : Value} {x y : Int32} {st : List Value} {hp : qzH} : qzV d 98 186 [a0, a1, a2, a3, a4, a5, a6, a7] (.int y :: .int x :: st) hp = qzV d 98 187 [a0, a1, a2, a3, a4, a5, a6, a7] (.int (x + y) :: st) hp := qv_bin (f := fun x y => x + y) mdc_98 dX3_goCut_186 rfl rfl
theorem eX3_goCut_187 {d : Nat} {a0 a1 a2 a3 a4 a5 a6 a7 : Value} {st : List Value} {hp : qzH} : qzV d 98 187 [a0, a1, a2, a3, a4, a5, a6, a7] (st) hp = qzV d 98 188 [a0, a1, a2, a3, a4, a5, a6, a7] (.int 3 :: st) hp := qv_iconst mdc_98 dX3_goCut_187 il_3 rfl
theorem eX3_goCut_188 {d : Nat} {a0 a1 a2 a3 a4 a5 a6 a7 : Value} {x y : Int32} {st : List Value} {hp : qzH} : qzV d 98 188 [a0, a1, a2, a3, a4, a5, a6, a7] (.int y :: .int x :: st) hp = qzV d 98 189 [a0, a1, a2, a3, a4, a5, a6, a7] (.int (x + y) :: st) hp := qv_bin (f := fun x y => x + y) mdc_98 dX3_goCut_188 rfl rfl
theorem eX3_goCut_189 {d : Nat} {a1 a2 a3 a4 a5 a6 a7 : Value} {x : Nat} {st : List Value} {hp : qzH} : qzV d 98 189 [.ref x, a1, a2, a3, a4, a5, a6, a7] (st) hp = qzV d 98 190 [.ref x, a1, a2, a3, a4, a5, a6, a7] (.ref x :: st) hp := qv_aload (i := 0) mdc_98 dX3_goCut_189 rfl rfl rfl
theorem eX3_goCut_190 {d : Nat} {a0 a1 a2 a3 a4 a5 a6 a7 : Value} {a : Nat} {st : List Value} {hp : qzH} (ha : qzArr 3 a hp.1 = true) : qzV d 98 190 [a0, a1, a2, a3, a4, a5, a6, a7] (.ref a :: st) hp = qzV d 98 193 [a0, a1, a2, a3, a4, a5, a6, a7] (va_rf (hp.2.1 a 0) :: st) hp := qv_getR mdc_98 dX3_goCut_190 mdo_98 qff_3_7 ⟨by decide, rfl⟩ rfl ha
theorem eX3_goCut_193 {d : Nat} {a0 a1 a2 a3 a4 a5 a6 a7 : Value} {st : List Value} {hp : qzH} : qzV d 98 193 [a0, a1, a2, a3, a4, a5, a6, a7] (st) hp = qzV d 98 195 [a0, a1, a2, a3, a4, a5, a6, a7] (.int 8 :: st) hp := qv_bipush mdc_98 dX3_goCut_193 ib_8 rfl
theorem eX3_goCut_195 {d : Nat} {a0 a1 a2 a3 a5 a6 a7 : Value} {x : Int32} {st : List Value} {hp : qzH} : qzV d 98 195 [a0, a1, a2, a3, .int x, a5, a6, a7] (st) hp = qzV d 98 197 [a0, a1, a2, a3, .int x, a5, a6, a7] (.int x :: st) hp := qv_iload (i := 4) mdc_98 dX3_goCut_195 rfl rfl rfl
theorem eX3_goCut_197 {d : Nat} {a0 a1 a2 a3 a4 a5 a6 a7 : Value} {x y : Int32} {st : List Value} {hp : qzH} : qzV d 98 197 [a0, a1, a2, a3, a4, a5, a6, a7] (.int y :: .int x :: st) hp = qzV d 98 198 [a0, a1, a2, a3, a4, a5, a6, a7] (.int (x + y) :: st) hp := qv_bin (f := fun x y => x + y) mdc_98 dX3_goCut_197 rfl rfl
theorem eX3_goCut_198 {d : Nat} {a0 a2 a3 a4 a5 a6 a7 : Value} {x : Int32} {st : List Value} {hp : qzH} : qzV d 98 198 [a0, .int x, a2, a3, a4, a5, a6, a7] (st) hp = qzV d 98 199 [a0, .int x, a2, a3, a4, a5, a6, a7] (.int x :: st) hp := qv_iload (i := 1) mdc_98 dX3_goCut_198 rfl rfl rfl
theorem eX3_goCut_199 {d : Nat} {a0 a1 a2 a3 a4 a5 a6 a7 : Value} {x y : Int32} {st : List Value} {hp : qzH} : qzV d 98 199 [a0, a1, a2, a3, a4, a5, a6, a7] (.int y :: .int x :: st) hp = qzV d 98 200 [a0, a1, a2, a3, a4, a5, a6, a7] (.int (x + y) :: st) hp := qv_bin (f := fun x y => x + y) mdc_98 dX3_goCut_199 rfl rfl
theorem eX3_goCut_200 {d : Nat} {a0 a1 a2 a3 a4 a5 a6 a7 : Value} {st : List Value} {hp : qzH} : qzV d 98 200 [a0, a1, a2, a3, a4, a5, a6, a7] (st) hp = qzV d 98 201 [a0, a1, a2, a3, a4, a5, a6, a7] (.int 1 :: st) hp := qv_iconst mdc_98 dX3_goCut_200 il_1 rfl
theorem eX3_goCut_201 {d : Nat} {a0 a1 a2 a3 a4 a5 a6 a7 : Value} {x y : Int32} {st : List Value} {hp : qzH} : qzV d 98 201 [a0, a1, a2, a3, a4, a5, a6, a7] (.int y :: .int x :: st) hp = qzV d 98 202 [a0, a1, a2, a3, a4, a5, a6, a7] (.int (x - y) :: st) hp := qv_bin (f := fun x y => x - y) mdc_98 dX3_goCut_201 rfl rfl
theorem eX3_goCut_202 {d : Nat} {a0 a1 a2 a3 a4 a5 a6 a7 : Value} {i : Int32} {a : Nat} {st : List Value} {hp : qzH} (ha : qzArr 4 a hp.1 = true) (hi : qzIn i (qzk a).2 = true) : qzV d 98 202 [a0, a1, a2, a3, a4, a5, a6, a7] (.int i :: .ref a :: st) hp = qzV d 98 203 [a0, a1, a2, a3, a4, a5, a6, a7] (.int (hp.2.2 a i.toNatClampNeg) :: st) hp := qv_iald mdc_98 dX3_goCut_202 rfl ha hi
theorem eX3_goCut_203 {d : Nat} {a0 a1 a2 a3 a4 a5 a6 a7 : Value} {st : List Value} {hp : qzH} : qzV d 98 203 [a0, a1, a2, a3, a4, a5, a6, a7] (st) hp = qzV d 98 204 [a0, a1, a2, a3, a4, a5, a6, a7] (.int 1 :: st) hp := qv_iconst mdc_98 dX3_goCut_203 il_1 rfl
theorem eX3_goCut_204 {d : Nat} {a0 a1 a2 a3 a4 a5 a6 a7 : Value} {x y : Int32} {st : List Value} {hp : qzH} : qzV d 98 204 [a0, a1, a2, a3, a4, a5, a6, a7] (.int y :: .int x :: st) hp = qzV d 98 205 [a0, a1, a2, a3, a4, a5, a6, a7] (.int (x + y) :: st) hp := qv_bin (f := fun x y => x + y) mdc_98 dX3_goCut_204 rfl rfl
theorem eX3_goCut_205 {d : Nat} {a0 a1 a2 a3 a4 a5 a6 a7 : Value} {i x : Int32} {a : Nat} {st : List Value} {hp : qzH} (ha : qzArr 4 a hp.1 = true) (hi : qzIn i (qzk a).2 = true) : qzV d 98 205 [a0, a1, a2, a3, a4, a5, a6, a7] (.int x :: .int i :: .ref a :: st) hp = qzV d 98 206 [a0, a1, a2, a3, a4, a5, a6, a7] st (hp.1, hp.2.1, qzUp hp.2.2 a i.toNatClampNeg x) := qv_iast mdc_98 dX3_goCut_205 rfl ha hi
theorem eX3_goCut_206 {d : Nat} {a1 a2 a3 a4 a5 a6 a7 : Value} {x : Nat} {st : List Value} {hp : qzH} : qzV d 98 206 [.ref x, a1, a2, a3, a4, a5, a6, a7] (st) hp = qzV d 98 207 [.ref x, a1, a2, a3, a4, a5, a6, a7] (.ref x :: st) hp := qv_aload (i := 0) mdc_98 dX3_goCut_206 rfl rfl rfl
theorem eX3_goCut_207 {d : Nat} {a0 a1 a2 a3 a4 a5 a6 a7 : Value} {a : Nat} {st : List Value} {hp : qzH} (ha : qzArr 3 a hp.1 = true) : qzV d 98 207 [a0, a1, a2, a3, a4, a5, a6, a7] (.ref a :: st) hp = qzV d 98 210 [a0, a1, a2, a3, a4, a5, a6, a7] (va_rf (hp.2.1 a 0) :: st) hp := qv_getR mdc_98 dX3_goCut_207 mdo_98 qff_3_7 ⟨by decide, rfl⟩ rfl ha
theorem eX3_goCut_210 {d : Nat} {a0 a1 a2 a3 a4 a5 a6 a7 : Value} {st : List Value} {hp : qzH} : qzV d 98 210 [a0, a1, a2, a3, a4, a5, a6, a7] (st) hp = qzV d 98 211 [a0, a1, a2, a3, a4, a5, a6, a7] (.int 1 :: st) hp := qv_iconst mdc_98 dX3_goCut_210 il_1 rfl
theorem eX3_goCut_211 {d : Nat} {a0 a1 a2 a3 a4 a5 a6 a7 : Value} {v w : Value} {st : List Value} {hp : qzH} : qzV d 98 211 [a0, a1, a2, a3, a4, a5, a6, a7] (v :: w :: st) hp = qzV d 98 212 [a0, a1, a2, a3, a4, a5, a6, a7] (v :: w :: v :: w :: st) hp := qv_dup2 mdc_98 dX3_goCut_211 rfl
theorem eX3_goCut_212 {d : Nat} {a0 a1 a2 a3 a4 a5 a6 a7 : Value} {i : Int32} {a : Nat} {st : List Value} {hp : qzH} (ha : qzArr 4 a hp.1 = true) (hi : qzIn i (qzk a).2 = true) : qzV d 98 212 [a0, a1, a2, a3, a4, a5, a6, a7] (.int i :: .ref a :: st) hp = qzV d 98 213 [a0, a1, a2, a3, a4, a5, a6, a7] (.int (hp.2.2 a i.toNatClampNeg) :: st) hp := qv_iald mdc_98 dX3_goCut_212 rfl ha hi
theorem eX3_goCut_213 {d : Nat} {a0 a1 a3 a4 a5 a6 a7 : Value} {x : Int32} {st : List Value} {hp : qzH} : qzV d 98 213 [a0, a1, .int x, a3, a4, a5, a6, a7] (st) hp = qzV d 98 214 [a0, a1, .int x, a3, a4, a5, a6, a7] (.int x :: st) hp := qv_iload (i := 2) mdc_98 dX3_goCut_213 rfl rfl rfl
theorem eX3_goCut_214 {d : Nat} {a0 a1 a2 a3 a4 a5 a6 a7 : Value} {x : Int32} {st : List Value} {hp : qzH} : qzV d 98 214 [a0, a1, a2, a3, a4, a5, a6, a7] (.int x :: st) hp = if x = 0 then qzV d 98 221 [a0, a1, a2, a3, a4, a5, a6, a7] (st) hp else qzV d 98 217 [a0, a1, a2, a3, a4, a5, a6, a7] (st) hp := qv_if1 mdc_98 dX3_goCut_214 rfl rfl rfl
theorem eX3_goCut_217 {d : Nat} {a0 a2 a3 a4 a5 a6 a7 : Value} {x : Int32} {st : List Value} {hp : qzH} : qzV d 98 217 [a0, .int x, a2, a3, a4, a5, a6, a7] (st) hp = qzV d 98 218 [a0, .int x, a2, a3, a4, a5, a6, a7] (.int x :: st) hp := qv_iload (i := 1) mdc_98 dX3_goCut_217 rfl rfl rfl
theorem eX3_goCut_218 {d : Nat} {a0 a1 a2 a3 a4 a5 a6 a7 : Value} {st : List Value} {hp : qzH} : qzV d 98 218 [a0, a1, a2, a3, a4, a5, a6, a7] (st) hp = qzV d 98 222 [a0, a1, a2, a3, a4, a5, a6, a7] (st) hp := qv_goto mdc_98 dX3_goCut_218 rfl
theorem eX3_goCut_221 {d : Nat} {a0 a1 a2 a3 a4 a5 a6 a7 : Value} {st : List Value} {hp : qzH} : qzV d 98 221 [a0, a1, a2, a3, a4, a5, a6, a7] (st) hp = qzV d 98 222 [a0, a1, a2, a3, a4, a5, a6, a7] (.int 0 :: st) hp := qv_iconst mdc_98 dX3_goCut_221 il_0 rfl
theorem eX3_goCut_222 {d : Nat} {a0 a1 a2 a3 a4 a5 a6 a7 : Value} {x y : Int32} {st : List Value} {hp : qzH} : qzV d 98 222 [a0, a1, a2, a3, a4, a5, a6, a7] (.int y :: .int x :: st) hp = qzV d 98 223 [a0, a1, a2, a3, a4, a5, a6, a7] (.int (x + y) :: st) hp := qv_bin (f := fun x y => x + y) mdc_98 dX3_goCut_222 rfl rfl
theorem eX3_goCut_223 {d : Nat} {a0 a1 a2 a3 a4 a5 a6 a7 : Value} {i x : Int32} {a : Nat} {st : List Value} {hp : qzH} (ha : qzArr 4 a hp.1 = true) (hi : qzIn i (qzk a).2 = true) : qzV d 98 223 [a0, a1, a2, a3, a4, a5, a6, a7] (.int x :: .int i :: .ref a :: st) hp = qzV d 98 224 [a0, a1, a2, a3, a4, a5, a6, a7] st (hp.1, hp.2.1, qzUp hp.2.2 a i.toNatClampNeg x) := qv_iast mdc_98 dX3_goCut_223 rfl ha hi
theorem eX3_goCut_224 {d : Nat} {a1 a2 a3 a4 a5 a6 a7 : Value} {x : Nat} {st : List Value} {hp : qzH} : qzV d 98 224 [.ref x, a1, a2, a3, a4, a5, a6, a7] (st) hp = qzV d 98 225 [.ref x, a1, a2, a3, a4, a5, a6, a7] (.ref x :: st) hp := qv_aload (i := 0) mdc_98 dX3_goCut_224 rfl rfl rfl
theorem eX3_goCut_225 {d : Nat} {a0 a1 a2 a3 a4 a5 a6 a7 : Value} {a : Nat} {st : List Value} {hp : qzH} (ha : qzArr 3 a hp.1 = true) : qzV d 98 225 [a0, a1, a2, a3, a4, a5, a6, a7] (.ref a :: st) hp = qzV d 98 228 [a0, a1, a2, a3, a4, a5, a6, a7] (va_rf (hp.2.1 a 0) :: st) hp := qv_getR mdc_98 dX3_goCut_225 mdo_98 qff_3_7 ⟨by decide, rfl⟩ rfl ha
theorem eX3_goCut_228 {d : Nat} {a0 a1 a2 a3 a4 a5 a6 a7 : Value} {st : List Value} {hp : qzH} : qzV d 98 228 [a0, a1, a2, a3, a4, a5, a6, a7] (st) hp = qzV d 98 229 [a0, a1, a2, a3, a4, a5, a6, a7] (.int 2 :: st) hp := qv_iconst mdc_98 dX3_goCut_228 il_2 rfl
theorem eX3_goCut_229 {d : Nat} {a0 a1 a2 a3 a4 a5 a6 a7 : Value} {v w : Value} {st : List Value} {hp : qzH} : qzV d 98 229 [a0, a1, a2, a3, a4, a5, a6, a7] (v :: w :: st) hp = qzV d 98 230 [a0, a1, a2, a3, a4, a5, a6, a7] (v :: w :: v :: w :: st) hp := qv_dup2 mdc_98 dX3_goCut_229 rfl
theorem eX3_goCut_230 {d : Nat} {a0 a1 a2 a3 a4 a5 a6 a7 : Value} {i : Int32} {a : Nat} {st : List Value} {hp : qzH} (ha : qzArr 4 a hp.1 = true) (hi : qzIn i (qzk a).2 = true) : qzV d 98 230 [a0, a1, a2, a3, a4, a5, a6, a7] (.int i :: .ref a :: st) hp = qzV d 98 231 [a0, a1, a2, a3, a4, a5, a6, a7] (.int (hp.2.2 a i.toNatClampNeg) :: st) hp := qv_iald mdc_98 dX3_goCut_230 rfl ha hi
theorem eX3_goCut_231 {d : Nat} {a0 a2 a3 a4 a5 a6 a7 : Value} {x : Int32} {st : List Value} {hp : qzH} : qzV d 98 231 [a0, .int x, a2, a3, a4, a5, a6, a7] (st) hp = qzV d 98 232 [a0, .int x, a2, a3, a4, a5, a6, a7] (.int x :: st) hp := qv_iload (i := 1) mdc_98 dX3_goCut_231 rfl rfl rfl
theorem eX3_goCut_232 {d : Nat} {a0 a1 a2 a3 a4 a5 a6 a7 : Value} {x y : Int32} {st : List Value} {hp : qzH} : qzV d 98 232 [a0, a1, a2, a3, a4, a5, a6, a7] (.int y :: .int x :: st) hp = qzV d 98 233 [a0, a1, a2, a3, a4, a5, a6, a7] (.int (x - y) :: st) hp := qv_bin (f := fun x y => x - y) mdc_98 dX3_goCut_232 rfl rfl
theorem eX3_goCut_233 {d : Nat} {a0 a1 a2 a3 a4 a5 a6 a7 : Value} {i x : Int32} {a : Nat} {st : List Value} {hp : qzH} (ha : qzArr 4 a hp.1 = true) (hi : qzIn i (qzk a).2 = true) : qzV d 98 233 [a0, a1, a2, a3, a4, a5, a6, a7] (.int x :: .int i :: .ref a :: st) hp = qzV d 98 234 [a0, a1, a2, a3, a4, a5, a6, a7] st (hp.1, hp.2.1, qzUp hp.2.2 a i.toNatClampNeg x) := qv_iast mdc_98 dX3_goCut_233 rfl ha hi
theorem eX3_goCut_234 {d : Nat} {a1 a2 a3 a4 a5 a6 a7 : Value} {x : Nat} {st : List Value} {hp : qzH} : qzV d 98 234 [.ref x, a1, a2, a3, a4, a5, a6, a7] (st) hp = qzV d 98 235 [.ref x, a1, a2, a3, a4, a5, a6, a7] (.ref x :: st) hp := qv_aload (i := 0) mdc_98 dX3_goCut_234 rfl rfl rfl
theorem eX3_goCut_235 {d : Nat} {a0 a1 a2 a3 a4 a5 a6 a7 : Value} {a : Nat} {st : List Value} {hp : qzH} (ha : qzArr 3 a hp.1 = true) : qzV d 98 235 [a0, a1, a2, a3, a4, a5, a6, a7] (.ref a :: st) hp = qzV d 98 238 [a0, a1, a2, a3, a4, a5, a6, a7] (va_rf (hp.2.1 a 0) :: st) hp := qv_getR mdc_98 dX3_goCut_235 mdo_98 qff_3_7 ⟨by decide, rfl⟩ rfl ha
theorem eX3_goCut_238 {d : Nat} {a0 a1 a2 a3 a4 a5 a6 a7 : Value} {st : List Value} {hp : qzH} : qzV d 98 238 [a0, a1, a2, a3, a4, a5, a6, a7] (st) hp = qzV d 98 239 [a0, a1, a2, a3, a4, a5, a6, a7] (.int 3 :: st) hp := qv_iconst mdc_98 dX3_goCut_238 il_3 rfl
theorem eX3_goCut_239 {d : Nat} {a0 a1 a2 a3 a4 a5 a6 a7 : Value} {st : List Value} {hp : qzH} : qzV d 98 239 [a0, a1, a2, a3, a4, a5, a6, a7] (st) hp = qzV d 98 240 [a0, a1, a2, a3, a4, a5, a6, a7] (.int 1 :: st) hp := qv_iconst mdc_98 dX3_goCut_239 il_1 rfl
theorem eX3_goCut_240 {d : Nat} {a0 a1 a2 a4 a5 a6 a7 : Value} {x : Int32} {st : List Value} {hp : qzH} : qzV d 98 240 [a0, a1, a2, .int x, a4, a5, a6, a7] (st) hp = qzV d 98 241 [a0, a1, a2, .int x, a4, a5, a6, a7] (.int x :: st) hp := qv_iload (i := 3) mdc_98 dX3_goCut_240 rfl rfl rfl
theorem eX3_goCut_241 {d : Nat} {a0 a1 a2 a3 a4 a5 a6 a7 : Value} {x y : Int32} {st : List Value} {hp : qzH} : qzV d 98 241 [a0, a1, a2, a3, a4, a5, a6, a7] (.int y :: .int x :: st) hp = qzV d 98 242 [a0, a1, a2, a3, a4, a5, a6, a7] (.int (x - y) :: st) hp := qv_bin (f := fun x y => x - y) mdc_98 dX3_goCut_241 rfl rfl
theorem eX3_goCut_242 {d : Nat} {a0 a1 a2 a3 a4 a5 a6 a7 : Value} {i x : Int32} {a : Nat} {st : List Value} {hp : qzH} (ha : qzArr 4 a hp.1 = true) (hi : qzIn i (qzk a).2 = true) : qzV d 98 242 [a0, a1, a2, a3, a4, a5, a6, a7] (.int x :: .int i :: .ref a :: st) hp = qzV d 98 243 [a0, a1, a2, a3, a4, a5, a6, a7] st (hp.1, hp.2.1, qzUp hp.2.2 a i.toNatClampNeg x) := qv_iast mdc_98 dX3_goCut_242 rfl ha hi
theorem eX3_goCut_243 {d : Nat} {a1 a2 a3 a4 a5 a6 a7 : Value} {x : Nat} {st : List Value} {hp : qzH} : qzV d 98 243 [.ref x, a1, a2, a3, a4, a5, a6, a7] (st) hp = qzV d 98 244 [.ref x, a1, a2, a3, a4, a5, a6, a7] (.ref x :: st) hp := qv_aload (i := 0) mdc_98 dX3_goCut_243 rfl rfl rfl
theorem eX3_goCut_244 {d : Nat} {a0 a1 a2 a3 a4 a5 a6 a7 : Value} {a : Nat} {st : List Value} {hp : qzH} (ha : qzArr 3 a hp.1 = true) : qzV d 98 244 [a0, a1, a2, a3, a4, a5, a6, a7] (.ref a :: st) hp = qzV d 98 247 [a0, a1, a2, a3, a4, a5, a6, a7] (va_rf (hp.2.1 a 0) :: st) hp := qv_getR mdc_98 dX3_goCut_244 mdo_98 qff_3_7 ⟨by decide, rfl⟩ rfl ha
theorem eX3_goCut_247 {d : Nat} {a0 a1 a2 a3 a4 a5 a6 a7 : Value} {st : List Value} {hp : qzH} : qzV d 98 247 [a0, a1, a2, a3, a4, a5, a6, a7] (st) hp = qzV d 98 248 [a0, a1, a2, a3, a4, a5, a6, a7] (.int 4 :: st) hp := qv_iconst mdc_98 dX3_goCut_247 il_4 rfl
theorem eX3_goCut_248 {d : Nat} {a0 a1 a2 a3 a4 a5 a6 a7 : Value} {v w : Value} {st : List Value} {hp : qzH} : qzV d 98 248 [a0, a1, a2, a3, a4, a5, a6, a7] (v :: w :: st) hp = qzV d 98 249 [a0, a1, a2, a3, a4, a5, a6, a7] (v :: w :: v :: w :: st) hp := qv_dup2 mdc_98 dX3_goCut_248 rfl
theorem eX3_goCut_249 {d : Nat} {a0 a1 a2 a3 a4 a5 a6 a7 : Value} {i : Int32} {a : Nat} {st : List Value} {hp : qzH} (ha : qzArr 4 a hp.1 = true) (hi : qzIn i (qzk a).2 = true) : qzV d 98 249 [a0, a1, a2, a3, a4, a5, a6, a7] (.int i :: .ref a :: st) hp = qzV d 98 250 [a0, a1, a2, a3, a4, a5, a6, a7] (.int (hp.2.2 a i.toNatClampNeg) :: st) hp := qv_iald mdc_98 dX3_goCut_249 rfl ha hi
theorem eX3_goCut_250 {d : Nat} {a0 a1 a2 a3 a4 a5 a6 a7 : Value} {st : List Value} {hp : qzH} : qzV d 98 250 [a0, a1, a2, a3, a4, a5, a6, a7] (st) hp = qzV d 98 251 [a0, a1, a2, a3, a4, a5, a6, a7] (.int 1 :: st) hp := qv_iconst mdc_98 dX3_goCut_250 il_1 rfl
theorem eX3_goCut_251 {d : Nat} {a0 a1 a2 a3 a4 a5 a6 a7 : Value} {x y : Int32} {st : List Value} {hp : qzH} : qzV d 98 251 [a0, a1, a2, a3, a4, a5, a6, a7] (.int y :: .int x :: st) hp = qzV d 98 252 [a0, a1, a2, a3, a4, a5, a6, a7] (.int (x + y) :: st) hp := qv_bin (f := fun x y => x + y) mdc_98 dX3_goCut_251 rfl rfl
theorem eX3_goCut_252 {d : Nat} {a0 a1 a2 a3 a4 a5 a6 a7 : Value} {i x : Int32} {a : Nat} {st : List Value} {hp : qzH} (ha : qzArr 4 a hp.1 = true) (hi : qzIn i (qzk a).2 = true) : qzV d 98 252 [a0, a1, a2, a3, a4, a5, a6, a7] (.int x :: .int i :: .ref a :: st) hp = qzV d 98 253 [a0, a1, a2, a3, a4, a5, a6, a7] st (hp.1, hp.2.1, qzUp hp.2.2 a i.toNatClampNeg x) := qv_iast mdc_98 dX3_goCut_252 rfl ha hi
theorem eX3_goCut_253 {d : Nat} {a0 a1 a2 a3 a4 a5 a7 : Value} {x : Int32} {st : List Value} {hp : qzH} : qzV d 98 253 [a0, a1, a2, a3, a4, a5, .int x, a7] (st) hp = qzV d 98 255 [a0, a1, a2, a3, a4, a5, .int x, a7] (.int x :: st) hp := qv_iload (i := 6) mdc_98 dX3_goCut_253 rfl rfl rfl
theorem eX3_goCut_255 {d : Nat} {a0 a1 a2 a3 a4 a5 a6 a7 : Value} {v : Int32} {hp : qzH} : qzV d 98 255 [a0, a1, a2, a3, a4, a5, a6, a7] [.int v] hp = some (some (.int v), hp) := qv_iret mdc_98 dX3_goCut_255 mdr_98 rfl
theorem dX3_errorCut_0 : decode cX3_errorCut 0 = .ok (.iload_n 1, 1) := by decide +kernel
theorem dX3_errorCut_1 : decode cX3_errorCut 1 = .ok (.iconst 1, 1) := by decide +kernel
theorem dX3_errorCut_2 : decode cX3_errorCut 2 = .ok (.iconst 5, 1) := by decide +kernel
theorem dX3_errorCut_3 : decode cX3_errorCut 3 = .ok (.invokestatic 62, 3) := by decide +kernel
theorem dX3_errorCut_6 : decode cX3_errorCut 6 = .ok (.ifCond .ne 7, 3) := by decide +kernel
theorem dX3_errorCut_9 : decode cX3_errorCut 9 = .ok (.iconst (-1), 1) := by decide +kernel
theorem dX3_errorCut_10 : decode cX3_errorCut 10 = .ok (.goto 29, 3) := by decide +kernel
theorem dX3_errorCut_13 : decode cX3_errorCut 13 = .ok (.iload_n 1, 1) := by decide +kernel
theorem dX3_errorCut_14 : decode cX3_errorCut 14 = .ok (.aload_n 0, 1) := by decide +kernel
theorem dX3_errorCut_15 : decode cX3_errorCut 15 = .ok (.getfield 7, 3) := by decide +kernel
theorem dX3_errorCut_18 : decode cX3_errorCut 18 = .ok (.iconst 2, 1) := by decide +kernel
theorem dX3_errorCut_19 : decode cX3_errorCut 19 = .ok (.iaload, 1) := by decide +kernel
theorem dX3_errorCut_20 : decode cX3_errorCut 20 = .ok (.if_icmp .gt 13, 3) := by decide +kernel
theorem dX3_errorCut_23 : decode cX3_errorCut 23 = .ok (.iload_n 1, 1) := by decide +kernel
theorem dX3_errorCut_24 : decode cX3_errorCut 24 = .ok (.aload_n 0, 1) := by decide +kernel
theorem dX3_errorCut_25 : decode cX3_errorCut 25 = .ok (.getfield 7, 3) := by decide +kernel
theorem dX3_errorCut_28 : decode cX3_errorCut 28 = .ok (.iconst 5, 1) := by decide +kernel
theorem dX3_errorCut_29 : decode cX3_errorCut 29 = .ok (.iaload, 1) := by decide +kernel
theorem dX3_errorCut_30 : decode cX3_errorCut 30 = .ok (.if_icmp .le 8, 3) := by decide +kernel
theorem dX3_errorCut_33 : decode cX3_errorCut 33 = .ok (.bipush (-2), 2) := by decide +kernel
theorem dX3_errorCut_35 : decode cX3_errorCut 35 = .ok (.goto 4, 3) := by decide +kernel
theorem dX3_errorCut_38 : decode cX3_errorCut 38 = .ok (.iconst 0, 1) := by decide +kernel
theorem dX3_errorCut_39 : decode cX3_errorCut 39 = .ok (.ireturn, 1) := by decide +kernel
theorem eX3_errorCut_0 {d : Nat} {a0 : Value} {x : Int32} {st : List Value} {hp : qzH} : qzV d 99 0 [a0, .int x] (st) hp = qzV d 99 1 [a0, .int x] (.int x :: st) hp := qv_iload (i := 1) mdc_99 dX3_errorCut_0 rfl rfl rfl
theorem eX3_errorCut_1 {d : Nat} {a0 a1 : Value} {st : List Value} {hp : qzH} : qzV d 99 1 [a0, a1] (st) hp = qzV d 99 2 [a0, a1] (.int 1 :: st) hp := qv_iconst mdc_99 dX3_errorCut_1 il_1 rfl
theorem eX3_errorCut_2 {d : Nat} {a0 a1 : Value} {st : List Value} {hp : qzH} : qzV d 99 2 [a0, a1] (st) hp = qzV d 99 3 [a0, a1] (.int 5 :: st) hp := qv_iconst mdc_99 dX3_errorCut_2 il_5 rfl
theorem eX3_errorCut_3 {d : Nat} {a0 a1 : Value} {w0 w1 w2 : Value} {st : List Value} {hp : qzH} (h8 : st.length ≤ 8) : qzV (d + 1) 99 3 [a0, a1] (w2 :: w1 :: w0 :: st) hp = (qzC d 87 [w0, w1, w2] hp).bind (fun r => qzV (d + 1) 99 6 [a0, a1] (r.1.toList ++ st) r.2) := qv_calls (n := 3) mdc_99 dX3_errorCut_3 mdo_99 (by decide) qfc_3_62 ⟨rfl, by decide, rfl⟩ rfl ⟨rfl, rfl, by simp only [List.length_cons]; omega⟩ h8
theorem eX3_errorCut_6 {d : Nat} {a0 a1 : Value} {x : Int32} {st : List Value} {hp : qzH} : qzV d 99 6 [a0, a1] (.int x :: st) hp = if ¬ x = 0 then qzV d 99 13 [a0, a1] (st) hp else qzV d 99 9 [a0, a1] (st) hp := qv_if1 mdc_99 dX3_errorCut_6 rfl rfl rfl
theorem eX3_errorCut_9 {d : Nat} {a0 a1 : Value} {st : List Value} {hp : qzH} : qzV d 99 9 [a0, a1] (st) hp = qzV d 99 10 [a0, a1] (.int (-1) :: st) hp := qv_iconst mdc_99 dX3_errorCut_9 il_m1 rfl
theorem eX3_errorCut_10 {d : Nat} {a0 a1 : Value} {st : List Value} {hp : qzH} : qzV d 99 10 [a0, a1] (st) hp = qzV d 99 39 [a0, a1] (st) hp := qv_goto mdc_99 dX3_errorCut_10 rfl
theorem eX3_errorCut_13 {d : Nat} {a0 : Value} {x : Int32} {st : List Value} {hp : qzH} : qzV d 99 13 [a0, .int x] (st) hp = qzV d 99 14 [a0, .int x] (.int x :: st) hp := qv_iload (i := 1) mdc_99 dX3_errorCut_13 rfl rfl rfl
theorem eX3_errorCut_14 {d : Nat} {a1 : Value} {x : Nat} {st : List Value} {hp : qzH} : qzV d 99 14 [.ref x, a1] (st) hp = qzV d 99 15 [.ref x, a1] (.ref x :: st) hp := qv_aload (i := 0) mdc_99 dX3_errorCut_14 rfl rfl rfl
theorem eX3_errorCut_15 {d : Nat} {a0 a1 : Value} {a : Nat} {st : List Value} {hp : qzH} (ha : qzArr 3 a hp.1 = true) : qzV d 99 15 [a0, a1] (.ref a :: st) hp = qzV d 99 18 [a0, a1] (va_rf (hp.2.1 a 0) :: st) hp := qv_getR mdc_99 dX3_errorCut_15 mdo_99 qff_3_7 ⟨by decide, rfl⟩ rfl ha
theorem eX3_errorCut_18 {d : Nat} {a0 a1 : Value} {st : List Value} {hp : qzH} : qzV d 99 18 [a0, a1] (st) hp = qzV d 99 19 [a0, a1] (.int 2 :: st) hp := qv_iconst mdc_99 dX3_errorCut_18 il_2 rfl
theorem eX3_errorCut_19 {d : Nat} {a0 a1 : Value} {i : Int32} {a : Nat} {st : List Value} {hp : qzH} (ha : qzArr 4 a hp.1 = true) (hi : qzIn i (qzk a).2 = true) : qzV d 99 19 [a0, a1] (.int i :: .ref a :: st) hp = qzV d 99 20 [a0, a1] (.int (hp.2.2 a i.toNatClampNeg) :: st) hp := qv_iald mdc_99 dX3_errorCut_19 rfl ha hi
theorem eX3_errorCut_20 {d : Nat} {a0 a1 : Value} {x y : Int32} {st : List Value} {hp : qzH} : qzV d 99 20 [a0, a1] (.int y :: .int x :: st) hp = if y < x then qzV d 99 33 [a0, a1] (st) hp else qzV d 99 23 [a0, a1] (st) hp := qv_if2 mdc_99 dX3_errorCut_20 rfl rfl rfl
theorem eX3_errorCut_23 {d : Nat} {a0 : Value} {x : Int32} {st : List Value} {hp : qzH} : qzV d 99 23 [a0, .int x] (st) hp = qzV d 99 24 [a0, .int x] (.int x :: st) hp := qv_iload (i := 1) mdc_99 dX3_errorCut_23 rfl rfl rfl
theorem eX3_errorCut_24 {d : Nat} {a1 : Value} {x : Nat} {st : List Value} {hp : qzH} : qzV d 99 24 [.ref x, a1] (st) hp = qzV d 99 25 [.ref x, a1] (.ref x :: st) hp := qv_aload (i := 0) mdc_99 dX3_errorCut_24 rfl rfl rfl
theorem eX3_errorCut_25 {d : Nat} {a0 a1 : Value} {a : Nat} {st : List Value} {hp : qzH} (ha : qzArr 3 a hp.1 = true) : qzV d 99 25 [a0, a1] (.ref a :: st) hp = qzV d 99 28 [a0, a1] (va_rf (hp.2.1 a 0) :: st) hp := qv_getR mdc_99 dX3_errorCut_25 mdo_99 qff_3_7 ⟨by decide, rfl⟩ rfl ha
theorem eX3_errorCut_28 {d : Nat} {a0 a1 : Value} {st : List Value} {hp : qzH} : qzV d 99 28 [a0, a1] (st) hp = qzV d 99 29 [a0, a1] (.int 5 :: st) hp := qv_iconst mdc_99 dX3_errorCut_28 il_5 rfl
theorem eX3_errorCut_29 {d : Nat} {a0 a1 : Value} {i : Int32} {a : Nat} {st : List Value} {hp : qzH} (ha : qzArr 4 a hp.1 = true) (hi : qzIn i (qzk a).2 = true) : qzV d 99 29 [a0, a1] (.int i :: .ref a :: st) hp = qzV d 99 30 [a0, a1] (.int (hp.2.2 a i.toNatClampNeg) :: st) hp := qv_iald mdc_99 dX3_errorCut_29 rfl ha hi
theorem eX3_errorCut_30 {d : Nat} {a0 a1 : Value} {x y : Int32} {st : List Value} {hp : qzH} : qzV d 99 30 [a0, a1] (.int y :: .int x :: st) hp = if x ≤ y then qzV d 99 38 [a0, a1] (st) hp else qzV d 99 33 [a0, a1] (st) hp := qv_if2 mdc_99 dX3_errorCut_30 rfl rfl rfl
theorem eX3_errorCut_33 {d : Nat} {a0 a1 : Value} {st : List Value} {hp : qzH} : qzV d 99 33 [a0, a1] (st) hp = qzV d 99 35 [a0, a1] (.int (-2) :: st) hp := qv_bipush mdc_99 dX3_errorCut_33 ib_m2 rfl
theorem eX3_errorCut_35 {d : Nat} {a0 a1 : Value} {st : List Value} {hp : qzH} : qzV d 99 35 [a0, a1] (st) hp = qzV d 99 39 [a0, a1] (st) hp := qv_goto mdc_99 dX3_errorCut_35 rfl
theorem eX3_errorCut_38 {d : Nat} {a0 a1 : Value} {st : List Value} {hp : qzH} : qzV d 99 38 [a0, a1] (st) hp = qzV d 99 39 [a0, a1] (.int 0 :: st) hp := qv_iconst mdc_99 dX3_errorCut_38 il_0 rfl
theorem eX3_errorCut_39 {d : Nat} {a0 a1 : Value} {v : Int32} {hp : qzH} : qzV d 99 39 [a0, a1] [.int v] hp = some (some (.int v), hp) := qv_iret mdc_99 dX3_errorCut_39 mdr_99 rfl
theorem dX3_rowOf_0 : decode cX3_rowOf 0 = .ok (.iload_n 1, 1) := by decide +kernel
theorem dX3_rowOf_1 : decode cX3_rowOf 1 = .ok (.iconst 1, 1) := by decide +kernel
theorem dX3_rowOf_2 : decode cX3_rowOf 2 = .ok (.isub, 1) := by decide +kernel
theorem dX3_rowOf_3 : decode cX3_rowOf 3 = .ok (.bipush 20, 2) := by decide +kernel
theorem dX3_rowOf_5 : decode cX3_rowOf 5 = .ok (.imul, 1) := by decide +kernel
theorem dX3_rowOf_6 : decode cX3_rowOf 6 = .ok (.iload_n 1, 1) := by decide +kernel
theorem dX3_rowOf_7 : decode cX3_rowOf 7 = .ok (.iconst 1, 1) := by decide +kernel
theorem dX3_rowOf_8 : decode cX3_rowOf 8 = .ok (.isub, 1) := by decide +kernel
theorem dX3_rowOf_9 : decode cX3_rowOf 9 = .ok (.iload_n 1, 1) := by decide +kernel
theorem dX3_rowOf_10 : decode cX3_rowOf 10 = .ok (.iconst 2, 1) := by decide +kernel
theorem dX3_rowOf_11 : decode cX3_rowOf 11 = .ok (.isub, 1) := by decide +kernel
theorem dX3_rowOf_12 : decode cX3_rowOf 12 = .ok (.imul, 1) := by decide +kernel
theorem dX3_rowOf_13 : decode cX3_rowOf 13 = .ok (.iconst 2, 1) := by decide +kernel
theorem dX3_rowOf_14 : decode cX3_rowOf 14 = .ok (.idiv, 1) := by decide +kernel
theorem dX3_rowOf_15 : decode cX3_rowOf 15 = .ok (.isub, 1) := by decide +kernel
theorem dX3_rowOf_16 : decode cX3_rowOf 16 = .ok (.iload_n 0, 1) := by decide +kernel
theorem dX3_rowOf_17 : decode cX3_rowOf 17 = .ok (.iadd, 1) := by decide +kernel
theorem dX3_rowOf_18 : decode cX3_rowOf 18 = .ok (.ireturn, 1) := by decide +kernel
theorem eX3_rowOf_0 {d : Nat} {a0 : Value} {x : Int32} {st : List Value} {hp : qzH} : qzV d 100 0 [a0, .int x] (st) hp = qzV d 100 1 [a0, .int x] (.int x :: st) hp := qv_iload (i := 1) mdc_100 dX3_rowOf_0 rfl rfl rfl
theorem eX3_rowOf_1 {d : Nat} {a0 a1 : Value} {st : List Value} {hp : qzH} : qzV d 100 1 [a0, a1] (st) hp = qzV d 100 2 [a0, a1] (.int 1 :: st) hp := qv_iconst mdc_100 dX3_rowOf_1 il_1 rfl
theorem eX3_rowOf_2 {d : Nat} {a0 a1 : Value} {x y : Int32} {st : List Value} {hp : qzH} : qzV d 100 2 [a0, a1] (.int y :: .int x :: st) hp = qzV d 100 3 [a0, a1] (.int (x - y) :: st) hp := qv_bin (f := fun x y => x - y) mdc_100 dX3_rowOf_2 rfl rfl
theorem eX3_rowOf_3 {d : Nat} {a0 a1 : Value} {st : List Value} {hp : qzH} : qzV d 100 3 [a0, a1] (st) hp = qzV d 100 5 [a0, a1] (.int 20 :: st) hp := qv_bipush mdc_100 dX3_rowOf_3 ib_20 rfl
theorem eX3_rowOf_5 {d : Nat} {a0 a1 : Value} {x y : Int32} {st : List Value} {hp : qzH} : qzV d 100 5 [a0, a1] (.int y :: .int x :: st) hp = qzV d 100 6 [a0, a1] (.int (x * y) :: st) hp := qv_bin (f := fun x y => x * y) mdc_100 dX3_rowOf_5 rfl rfl
theorem eX3_rowOf_6 {d : Nat} {a0 : Value} {x : Int32} {st : List Value} {hp : qzH} : qzV d 100 6 [a0, .int x] (st) hp = qzV d 100 7 [a0, .int x] (.int x :: st) hp := qv_iload (i := 1) mdc_100 dX3_rowOf_6 rfl rfl rfl
theorem eX3_rowOf_7 {d : Nat} {a0 a1 : Value} {st : List Value} {hp : qzH} : qzV d 100 7 [a0, a1] (st) hp = qzV d 100 8 [a0, a1] (.int 1 :: st) hp := qv_iconst mdc_100 dX3_rowOf_7 il_1 rfl
theorem eX3_rowOf_8 {d : Nat} {a0 a1 : Value} {x y : Int32} {st : List Value} {hp : qzH} : qzV d 100 8 [a0, a1] (.int y :: .int x :: st) hp = qzV d 100 9 [a0, a1] (.int (x - y) :: st) hp := qv_bin (f := fun x y => x - y) mdc_100 dX3_rowOf_8 rfl rfl
theorem eX3_rowOf_9 {d : Nat} {a0 : Value} {x : Int32} {st : List Value} {hp : qzH} : qzV d 100 9 [a0, .int x] (st) hp = qzV d 100 10 [a0, .int x] (.int x :: st) hp := qv_iload (i := 1) mdc_100 dX3_rowOf_9 rfl rfl rfl
theorem eX3_rowOf_10 {d : Nat} {a0 a1 : Value} {st : List Value} {hp : qzH} : qzV d 100 10 [a0, a1] (st) hp = qzV d 100 11 [a0, a1] (.int 2 :: st) hp := qv_iconst mdc_100 dX3_rowOf_10 il_2 rfl
theorem eX3_rowOf_11 {d : Nat} {a0 a1 : Value} {x y : Int32} {st : List Value} {hp : qzH} : qzV d 100 11 [a0, a1] (.int y :: .int x :: st) hp = qzV d 100 12 [a0, a1] (.int (x - y) :: st) hp := qv_bin (f := fun x y => x - y) mdc_100 dX3_rowOf_11 rfl rfl
theorem eX3_rowOf_12 {d : Nat} {a0 a1 : Value} {x y : Int32} {st : List Value} {hp : qzH} : qzV d 100 12 [a0, a1] (.int y :: .int x :: st) hp = qzV d 100 13 [a0, a1] (.int (x * y) :: st) hp := qv_bin (f := fun x y => x * y) mdc_100 dX3_rowOf_12 rfl rfl
theorem eX3_rowOf_13 {d : Nat} {a0 a1 : Value} {st : List Value} {hp : qzH} : qzV d 100 13 [a0, a1] (st) hp = qzV d 100 14 [a0, a1] (.int 2 :: st) hp := qv_iconst mdc_100 dX3_rowOf_13 il_2 rfl
theorem eX3_rowOf_14 {d : Nat} {a0 a1 : Value} {x y : Int32} {st : List Value} {hp : qzH} (hy : ¬ y = 0) : qzV d 100 14 [a0, a1] (.int y :: .int x :: st) hp = qzV d 100 15 [a0, a1] (.int (x / y) :: st) hp := qv_binD (f := fun x y => x / y) mdc_100 dX3_rowOf_14 rfl rfl hy
theorem eX3_rowOf_15 {d : Nat} {a0 a1 : Value} {x y : Int32} {st : List Value} {hp : qzH} : qzV d 100 15 [a0, a1] (.int y :: .int x :: st) hp = qzV d 100 16 [a0, a1] (.int (x - y) :: st) hp := qv_bin (f := fun x y => x - y) mdc_100 dX3_rowOf_15 rfl rfl
theorem eX3_rowOf_16 {d : Nat} {a1 : Value} {x : Int32} {st : List Value} {hp : qzH} : qzV d 100 16 [.int x, a1] (st) hp = qzV d 100 17 [.int x, a1] (.int x :: st) hp := qv_iload (i := 0) mdc_100 dX3_rowOf_16 rfl rfl rfl
theorem eX3_rowOf_17 {d : Nat} {a0 a1 : Value} {x y : Int32} {st : List Value} {hp : qzH} : qzV d 100 17 [a0, a1] (.int y :: .int x :: st) hp = qzV d 100 18 [a0, a1] (.int (x + y) :: st) hp := qv_bin (f := fun x y => x + y) mdc_100 dX3_rowOf_17 rfl rfl
theorem eX3_rowOf_18 {d : Nat} {a0 a1 : Value} {v : Int32} {hp : qzH} : qzV d 100 18 [a0, a1] [.int v] hp = some (some (.int v), hp) := qv_iret mdc_100 dX3_rowOf_18 mdr_100 rfl
theorem dX3_leadAt_0 : decode cX3_leadAt 0 = .ok (.iload_n 2, 1) := by decide +kernel
theorem dX3_leadAt_1 : decode cX3_leadAt 1 = .ok (.ifCond .ne 7, 3) := by decide +kernel
theorem dX3_leadAt_4 : decode cX3_leadAt 4 = .ok (.iconst 0, 1) := by decide +kernel
theorem dX3_leadAt_5 : decode cX3_leadAt 5 = .ok (.goto 24, 3) := by decide +kernel
theorem dX3_leadAt_8 : decode cX3_leadAt 8 = .ok (.aload_n 0, 1) := by decide +kernel
theorem dX3_leadAt_9 : decode cX3_leadAt 9 = .ok (.getfield 25, 3) := by decide +kernel
theorem dX3_leadAt_12 : decode cX3_leadAt 12 = .ok (.bipush 49, 2) := by decide +kernel
theorem dX3_leadAt_14 : decode cX3_leadAt 14 = .ok (.iload_n 1, 1) := by decide +kernel
theorem dX3_leadAt_15 : decode cX3_leadAt 15 = .ok (.iload_n 2, 1) := by decide +kernel
theorem dX3_leadAt_16 : decode cX3_leadAt 16 = .ok (.invokestatic 66, 3) := by decide +kernel
theorem dX3_leadAt_19 : decode cX3_leadAt 19 = .ok (.imul, 1) := by decide +kernel
theorem dX3_leadAt_20 : decode cX3_leadAt 20 = .ok (.bipush 7, 2) := by decide +kernel
theorem dX3_leadAt_22 : decode cX3_leadAt 22 = .ok (.iload_n 3, 1) := by decide +kernel
theorem dX3_leadAt_23 : decode cX3_leadAt 23 = .ok (.imul, 1) := by decide +kernel
theorem dX3_leadAt_24 : decode cX3_leadAt 24 = .ok (.iadd, 1) := by decide +kernel
theorem dX3_leadAt_25 : decode cX3_leadAt 25 = .ok (.iload 4, 2) := by decide +kernel
theorem dX3_leadAt_27 : decode cX3_leadAt 27 = .ok (.iadd, 1) := by decide +kernel
theorem dX3_leadAt_28 : decode cX3_leadAt 28 = .ok (.iaload, 1) := by decide +kernel
theorem dX3_leadAt_29 : decode cX3_leadAt 29 = .ok (.ireturn, 1) := by decide +kernel
theorem eX3_leadAt_0 {d : Nat} {a0 a1 a3 a4 : Value} {x : Int32} {st : List Value} {hp : qzH} : qzV d 101 0 [a0, a1, .int x, a3, a4] (st) hp = qzV d 101 1 [a0, a1, .int x, a3, a4] (.int x :: st) hp := qv_iload (i := 2) mdc_101 dX3_leadAt_0 rfl rfl rfl
theorem eX3_leadAt_1 {d : Nat} {a0 a1 a2 a3 a4 : Value} {x : Int32} {st : List Value} {hp : qzH} : qzV d 101 1 [a0, a1, a2, a3, a4] (.int x :: st) hp = if ¬ x = 0 then qzV d 101 8 [a0, a1, a2, a3, a4] (st) hp else qzV d 101 4 [a0, a1, a2, a3, a4] (st) hp := qv_if1 mdc_101 dX3_leadAt_1 rfl rfl rfl
theorem eX3_leadAt_4 {d : Nat} {a0 a1 a2 a3 a4 : Value} {st : List Value} {hp : qzH} : qzV d 101 4 [a0, a1, a2, a3, a4] (st) hp = qzV d 101 5 [a0, a1, a2, a3, a4] (.int 0 :: st) hp := qv_iconst mdc_101 dX3_leadAt_4 il_0 rfl
theorem eX3_leadAt_5 {d : Nat} {a0 a1 a2 a3 a4 : Value} {st : List Value} {hp : qzH} : qzV d 101 5 [a0, a1, a2, a3, a4] (st) hp = qzV d 101 29 [a0, a1, a2, a3, a4] (st) hp := qv_goto mdc_101 dX3_leadAt_5 rfl
theorem eX3_leadAt_8 {d : Nat} {a1 a2 a3 a4 : Value} {x : Nat} {st : List Value} {hp : qzH} : qzV d 101 8 [.ref x, a1, a2, a3, a4] (st) hp = qzV d 101 9 [.ref x, a1, a2, a3, a4] (.ref x :: st) hp := qv_aload (i := 0) mdc_101 dX3_leadAt_8 rfl rfl rfl
theorem eX3_leadAt_9 {d : Nat} {a0 a1 a2 a3 a4 : Value} {a : Nat} {st : List Value} {hp : qzH} (ha : qzArr 3 a hp.1 = true) : qzV d 101 9 [a0, a1, a2, a3, a4] (.ref a :: st) hp = qzV d 101 12 [a0, a1, a2, a3, a4] (va_rf (hp.2.1 a 8) :: st) hp := qv_getR mdc_101 dX3_leadAt_9 mdo_101 qff_3_25 ⟨by decide, rfl⟩ rfl ha
theorem eX3_leadAt_12 {d : Nat} {a0 a1 a2 a3 a4 : Value} {st : List Value} {hp : qzH} : qzV d 101 12 [a0, a1, a2, a3, a4] (st) hp = qzV d 101 14 [a0, a1, a2, a3, a4] (.int 49 :: st) hp := qv_bipush mdc_101 dX3_leadAt_12 ib_49 rfl
theorem eX3_leadAt_14 {d : Nat} {a0 a2 a3 a4 : Value} {x : Int32} {st : List Value} {hp : qzH} : qzV d 101 14 [a0, .int x, a2, a3, a4] (st) hp = qzV d 101 15 [a0, .int x, a2, a3, a4] (.int x :: st) hp := qv_iload (i := 1) mdc_101 dX3_leadAt_14 rfl rfl rfl
theorem eX3_leadAt_15 {d : Nat} {a0 a1 a3 a4 : Value} {x : Int32} {st : List Value} {hp : qzH} : qzV d 101 15 [a0, a1, .int x, a3, a4] (st) hp = qzV d 101 16 [a0, a1, .int x, a3, a4] (.int x :: st) hp := qv_iload (i := 2) mdc_101 dX3_leadAt_15 rfl rfl rfl
theorem eX3_leadAt_16 {d : Nat} {a0 a1 a2 a3 a4 : Value} {w0 w1 : Value} {st : List Value} {hp : qzH} (h8 : st.length ≤ 8) : qzV (d + 1) 101 16 [a0, a1, a2, a3, a4] (w1 :: w0 :: st) hp = (qzC d 100 [w0, w1] hp).bind (fun r => qzV (d + 1) 101 19 [a0, a1, a2, a3, a4] (r.1.toList ++ st) r.2) := qv_calls (n := 2) mdc_101 dX3_leadAt_16 mdo_101 (by decide) qfc_3_66 ⟨rfl, by decide, rfl⟩ rfl ⟨rfl, rfl, by simp only [List.length_cons]; omega⟩ h8
theorem eX3_leadAt_19 {d : Nat} {a0 a1 a2 a3 a4 : Value} {x y : Int32} {st : List Value} {hp : qzH} : qzV d 101 19 [a0, a1, a2, a3, a4] (.int y :: .int x :: st) hp = qzV d 101 20 [a0, a1, a2, a3, a4] (.int (x * y) :: st) hp := qv_bin (f := fun x y => x * y) mdc_101 dX3_leadAt_19 rfl rfl
theorem eX3_leadAt_20 {d : Nat} {a0 a1 a2 a3 a4 : Value} {st : List Value} {hp : qzH} : qzV d 101 20 [a0, a1, a2, a3, a4] (st) hp = qzV d 101 22 [a0, a1, a2, a3, a4] (.int 7 :: st) hp := qv_bipush mdc_101 dX3_leadAt_20 ib_7 rfl
theorem eX3_leadAt_22 {d : Nat} {a0 a1 a2 a4 : Value} {x : Int32} {st : List Value} {hp : qzH} : qzV d 101 22 [a0, a1, a2, .int x, a4] (st) hp = qzV d 101 23 [a0, a1, a2, .int x, a4] (.int x :: st) hp := qv_iload (i := 3) mdc_101 dX3_leadAt_22 rfl rfl rfl
theorem eX3_leadAt_23 {d : Nat} {a0 a1 a2 a3 a4 : Value} {x y : Int32} {st : List Value} {hp : qzH} : qzV d 101 23 [a0, a1, a2, a3, a4] (.int y :: .int x :: st) hp = qzV d 101 24 [a0, a1, a2, a3, a4] (.int (x * y) :: st) hp := qv_bin (f := fun x y => x * y) mdc_101 dX3_leadAt_23 rfl rfl
theorem eX3_leadAt_24 {d : Nat} {a0 a1 a2 a3 a4 : Value} {x y : Int32} {st : List Value} {hp : qzH} : qzV d 101 24 [a0, a1, a2, a3, a4] (.int y :: .int x :: st) hp = qzV d 101 25 [a0, a1, a2, a3, a4] (.int (x + y) :: st) hp := qv_bin (f := fun x y => x + y) mdc_101 dX3_leadAt_24 rfl rfl
theorem eX3_leadAt_25 {d : Nat} {a0 a1 a2 a3 : Value} {x : Int32} {st : List Value} {hp : qzH} : qzV d 101 25 [a0, a1, a2, a3, .int x] (st) hp = qzV d 101 27 [a0, a1, a2, a3, .int x] (.int x :: st) hp := qv_iload (i := 4) mdc_101 dX3_leadAt_25 rfl rfl rfl
theorem eX3_leadAt_27 {d : Nat} {a0 a1 a2 a3 a4 : Value} {x y : Int32} {st : List Value} {hp : qzH} : qzV d 101 27 [a0, a1, a2, a3, a4] (.int y :: .int x :: st) hp = qzV d 101 28 [a0, a1, a2, a3, a4] (.int (x + y) :: st) hp := qv_bin (f := fun x y => x + y) mdc_101 dX3_leadAt_27 rfl rfl
theorem eX3_leadAt_28 {d : Nat} {a0 a1 a2 a3 a4 : Value} {i : Int32} {a : Nat} {st : List Value} {hp : qzH} (ha : qzArr 4 a hp.1 = true) (hi : qzIn i (qzk a).2 = true) : qzV d 101 28 [a0, a1, a2, a3, a4] (.int i :: .ref a :: st) hp = qzV d 101 29 [a0, a1, a2, a3, a4] (.int (hp.2.2 a i.toNatClampNeg) :: st) hp := qv_iald mdc_101 dX3_leadAt_28 rfl ha hi
theorem eX3_leadAt_29 {d : Nat} {a0 a1 a2 a3 a4 : Value} {v : Int32} {hp : qzH} : qzV d 101 29 [a0, a1, a2, a3, a4] [.int v] hp = some (some (.int v), hp) := qv_iret mdc_101 dX3_leadAt_29 mdr_101 rfl
theorem dX3_most_0 : decode cX3_most 0 = .ok (.iload_n 1, 1) := by decide +kernel
theorem dX3_most_1 : decode cX3_most 1 = .ok (.aload_n 0, 1) := by decide +kernel
theorem dX3_most_2 : decode cX3_most 2 = .ok (.getfield 7, 3) := by decide +kernel
theorem dX3_most_5 : decode cX3_most 5 = .ok (.iconst 5, 1) := by decide +kernel
theorem dX3_most_6 : decode cX3_most 6 = .ok (.iaload, 1) := by decide +kernel
theorem dX3_most_7 : decode cX3_most 7 = .ok (.if_icmp .ge 7, 3) := by decide +kernel
theorem dX3_most_10 : decode cX3_most 10 = .ok (.iload_n 1, 1) := by decide +kernel
theorem dX3_most_11 : decode cX3_most 11 = .ok (.goto 9, 3) := by decide +kernel
theorem dX3_most_14 : decode cX3_most 14 = .ok (.aload_n 0, 1) := by decide +kernel
theorem dX3_most_15 : decode cX3_most 15 = .ok (.getfield 7, 3) := by decide +kernel
theorem dX3_most_18 : decode cX3_most 18 = .ok (.iconst 5, 1) := by decide +kernel
theorem dX3_most_19 : decode cX3_most 19 = .ok (.iaload, 1) := by decide +kernel
theorem dX3_most_20 : decode cX3_most 20 = .ok (.ireturn, 1) := by decide +kernel
theorem eX3_most_0 {d : Nat} {a0 : Value} {x : Int32} {st : List Value} {hp : qzH} : qzV d 102 0 [a0, .int x] (st) hp = qzV d 102 1 [a0, .int x] (.int x :: st) hp := qv_iload (i := 1) mdc_102 dX3_most_0 rfl rfl rfl
theorem eX3_most_1 {d : Nat} {a1 : Value} {x : Nat} {st : List Value} {hp : qzH} : qzV d 102 1 [.ref x, a1] (st) hp = qzV d 102 2 [.ref x, a1] (.ref x :: st) hp := qv_aload (i := 0) mdc_102 dX3_most_1 rfl rfl rfl
theorem eX3_most_2 {d : Nat} {a0 a1 : Value} {a : Nat} {st : List Value} {hp : qzH} (ha : qzArr 3 a hp.1 = true) : qzV d 102 2 [a0, a1] (.ref a :: st) hp = qzV d 102 5 [a0, a1] (va_rf (hp.2.1 a 0) :: st) hp := qv_getR mdc_102 dX3_most_2 mdo_102 qff_3_7 ⟨by decide, rfl⟩ rfl ha
theorem eX3_most_5 {d : Nat} {a0 a1 : Value} {st : List Value} {hp : qzH} : qzV d 102 5 [a0, a1] (st) hp = qzV d 102 6 [a0, a1] (.int 5 :: st) hp := qv_iconst mdc_102 dX3_most_5 il_5 rfl
theorem eX3_most_6 {d : Nat} {a0 a1 : Value} {i : Int32} {a : Nat} {st : List Value} {hp : qzH} (ha : qzArr 4 a hp.1 = true) (hi : qzIn i (qzk a).2 = true) : qzV d 102 6 [a0, a1] (.int i :: .ref a :: st) hp = qzV d 102 7 [a0, a1] (.int (hp.2.2 a i.toNatClampNeg) :: st) hp := qv_iald mdc_102 dX3_most_6 rfl ha hi
theorem eX3_most_7 {d : Nat} {a0 a1 : Value} {x y : Int32} {st : List Value} {hp : qzH} : qzV d 102 7 [a0, a1] (.int y :: .int x :: st) hp = if y ≤ x then qzV d 102 14 [a0, a1] (st) hp else qzV d 102 10 [a0, a1] (st) hp := qv_if2 mdc_102 dX3_most_7 rfl rfl rfl
theorem eX3_most_10 {d : Nat} {a0 : Value} {x : Int32} {st : List Value} {hp : qzH} : qzV d 102 10 [a0, .int x] (st) hp = qzV d 102 11 [a0, .int x] (.int x :: st) hp := qv_iload (i := 1) mdc_102 dX3_most_10 rfl rfl rfl
theorem eX3_most_11 {d : Nat} {a0 a1 : Value} {st : List Value} {hp : qzH} : qzV d 102 11 [a0, a1] (st) hp = qzV d 102 20 [a0, a1] (st) hp := qv_goto mdc_102 dX3_most_11 rfl
theorem eX3_most_14 {d : Nat} {a1 : Value} {x : Nat} {st : List Value} {hp : qzH} : qzV d 102 14 [.ref x, a1] (st) hp = qzV d 102 15 [.ref x, a1] (.ref x :: st) hp := qv_aload (i := 0) mdc_102 dX3_most_14 rfl rfl rfl
theorem eX3_most_15 {d : Nat} {a0 a1 : Value} {a : Nat} {st : List Value} {hp : qzH} (ha : qzArr 3 a hp.1 = true) : qzV d 102 15 [a0, a1] (.ref a :: st) hp = qzV d 102 18 [a0, a1] (va_rf (hp.2.1 a 0) :: st) hp := qv_getR mdc_102 dX3_most_15 mdo_102 qff_3_7 ⟨by decide, rfl⟩ rfl ha
theorem eX3_most_18 {d : Nat} {a0 a1 : Value} {st : List Value} {hp : qzH} : qzV d 102 18 [a0, a1] (st) hp = qzV d 102 19 [a0, a1] (.int 5 :: st) hp := qv_iconst mdc_102 dX3_most_18 il_5 rfl
theorem eX3_most_19 {d : Nat} {a0 a1 : Value} {i : Int32} {a : Nat} {st : List Value} {hp : qzH} (ha : qzArr 4 a hp.1 = true) (hi : qzIn i (qzk a).2 = true) : qzV d 102 19 [a0, a1] (.int i :: .ref a :: st) hp = qzV d 102 20 [a0, a1] (.int (hp.2.2 a i.toNatClampNeg) :: st) hp := qv_iald mdc_102 dX3_most_19 rfl ha hi
theorem eX3_most_20 {d : Nat} {a0 a1 : Value} {v : Int32} {hp : qzH} : qzV d 102 20 [a0, a1] [.int v] hp = some (some (.int v), hp) := qv_iret mdc_102 dX3_most_20 mdr_102 rfl
theorem dX3_leadBy_0 : decode cX3_leadBy 0 = .ok (.iload_n 1, 1) := by decide +kernel
theorem dX3_leadBy_1 : decode cX3_leadBy 1 = .ok (.iload_n 2, 1) := by decide +kernel
theorem dX3_leadBy_2 : decode cX3_leadBy 2 = .ok (.iload 5, 2) := by decide +kernel
theorem dX3_leadBy_4 : decode cX3_leadBy 4 = .ok (.iload 6, 2) := by decide +kernel
theorem dX3_leadBy_6 : decode cX3_leadBy 6 = .ok (.invokestatic 46, 3) := by decide +kernel
theorem dX3_leadBy_9 : decode cX3_leadBy 9 = .ok (.istore 7, 2) := by decide +kernel
theorem dX3_leadBy_11 : decode cX3_leadBy 11 = .ok (.aload_n 0, 1) := by decide +kernel
theorem dX3_leadBy_12 : decode cX3_leadBy 12 = .ok (.getfield 7, 3) := by decide +kernel
theorem dX3_leadBy_15 : decode cX3_leadBy 15 = .ok (.bipush 8, 2) := by decide +kernel
theorem dX3_leadBy_17 : decode cX3_leadBy 17 = .ok (.iload 7, 2) := by decide +kernel
theorem dX3_leadBy_19 : decode cX3_leadBy 19 = .ok (.iadd, 1) := by decide +kernel
theorem dX3_leadBy_20 : decode cX3_leadBy 20 = .ok (.iload 5, 2) := by decide +kernel
theorem dX3_leadBy_22 : decode cX3_leadBy 22 = .ok (.iadd, 1) := by decide +kernel
theorem dX3_leadBy_23 : decode cX3_leadBy 23 = .ok (.iconst 1, 1) := by decide +kernel
theorem dX3_leadBy_24 : decode cX3_leadBy 24 = .ok (.isub, 1) := by decide +kernel
theorem dX3_leadBy_25 : decode cX3_leadBy 25 = .ok (.iaload, 1) := by decide +kernel
theorem dX3_leadBy_26 : decode cX3_leadBy 26 = .ok (.iconst 1, 1) := by decide +kernel
theorem dX3_leadBy_27 : decode cX3_leadBy 27 = .ok (.iadd, 1) := by decide +kernel
theorem dX3_leadBy_28 : decode cX3_leadBy 28 = .ok (.istore 8, 2) := by decide +kernel
theorem dX3_leadBy_30 : decode cX3_leadBy 30 = .ok (.aload_n 0, 1) := by decide +kernel
theorem dX3_leadBy_31 : decode cX3_leadBy 31 = .ok (.iload 7, 2) := by decide +kernel
theorem dX3_leadBy_33 : decode cX3_leadBy 33 = .ok (.iload 5, 2) := by decide +kernel
theorem dX3_leadBy_35 : decode cX3_leadBy 35 = .ok (.iload_n 3, 1) := by decide +kernel
theorem dX3_leadBy_36 : decode cX3_leadBy 36 = .ok (.invokevirtual 54, 3) := by decide +kernel
theorem dX3_leadBy_39 : decode cX3_leadBy 39 = .ok (.aload_n 0, 1) := by decide +kernel
theorem dX3_leadBy_40 : decode cX3_leadBy 40 = .ok (.iload 6, 2) := by decide +kernel
theorem dX3_leadBy_42 : decode cX3_leadBy 42 = .ok (.ifCond .eq 10, 3) := by decide +kernel
theorem dX3_leadBy_45 : decode cX3_leadBy 45 = .ok (.iload_n 1, 1) := by decide +kernel
theorem dX3_leadBy_46 : decode cX3_leadBy 46 = .ok (.iload 5, 2) := by decide +kernel
theorem dX3_leadBy_48 : decode cX3_leadBy 48 = .ok (.iadd, 1) := by decide +kernel
theorem dX3_leadBy_49 : decode cX3_leadBy 49 = .ok (.goto 4, 3) := by decide +kernel
theorem dX3_leadBy_52 : decode cX3_leadBy 52 = .ok (.iload_n 1, 1) := by decide +kernel
theorem dX3_leadBy_53 : decode cX3_leadBy 53 = .ok (.iload_n 2, 1) := by decide +kernel
theorem dX3_leadBy_54 : decode cX3_leadBy 54 = .ok (.iload 5, 2) := by decide +kernel
theorem dX3_leadBy_56 : decode cX3_leadBy 56 = .ok (.isub, 1) := by decide +kernel
theorem dX3_leadBy_57 : decode cX3_leadBy 57 = .ok (.iload 4, 2) := by decide +kernel
theorem dX3_leadBy_59 : decode cX3_leadBy 59 = .ok (.iload 8, 2) := by decide +kernel
theorem dX3_leadBy_61 : decode cX3_leadBy 61 = .ok (.invokevirtual 69, 3) := by decide +kernel
theorem dX3_leadBy_64 : decode cX3_leadBy 64 = .ok (.isub, 1) := by decide +kernel
theorem dX3_leadBy_65 : decode cX3_leadBy 65 = .ok (.ireturn, 1) := by decide +kernel
theorem eX3_leadBy_0 {d : Nat} {a0 a2 a3 a4 a5 a6 a7 a8 : Value} {x : Int32} {st : List Value} {hp : qzH} : qzV d 103 0 [a0, .int x, a2, a3, a4, a5, a6, a7, a8] (st) hp = qzV d 103 1 [a0, .int x, a2, a3, a4, a5, a6, a7, a8] (.int x :: st) hp := qv_iload (i := 1) mdc_103 dX3_leadBy_0 rfl rfl rfl
theorem eX3_leadBy_1 {d : Nat} {a0 a1 a3 a4 a5 a6 a7 a8 : Value} {x : Int32} {st : List Value} {hp : qzH} : qzV d 103 1 [a0, a1, .int x, a3, a4, a5, a6, a7, a8] (st) hp = qzV d 103 2 [a0, a1, .int x, a3, a4, a5, a6, a7, a8] (.int x :: st) hp := qv_iload (i := 2) mdc_103 dX3_leadBy_1 rfl rfl rfl
theorem eX3_leadBy_2 {d : Nat} {a0 a1 a2 a3 a4 a6 a7 a8 : Value} {x : Int32} {st : List Value} {hp : qzH} : qzV d 103 2 [a0, a1, a2, a3, a4, .int x, a6, a7, a8] (st) hp = qzV d 103 4 [a0, a1, a2, a3, a4, .int x, a6, a7, a8] (.int x :: st) hp := qv_iload (i := 5) mdc_103 dX3_leadBy_2 rfl rfl rfl
theorem eX3_leadBy_4 {d : Nat} {a0 a1 a2 a3 a4 a5 a7 a8 : Value} {x : Int32} {st : List Value} {hp : qzH} : qzV d 103 4 [a0, a1, a2, a3, a4, a5, .int x, a7, a8] (st) hp = qzV d 103 6 [a0, a1, a2, a3, a4, a5, .int x, a7, a8] (.int x :: st) hp := qv_iload (i := 6) mdc_103 dX3_leadBy_4 rfl rfl rfl
theorem eX3_leadBy_6 {d : Nat} {a0 a1 a2 a3 a4 a5 a6 a7 a8 : Value} {w0 w1 w2 w3 : Value} {st : List Value} {hp : qzH} (h8 : st.length ≤ 8) : qzV (d + 1) 103 6 [a0, a1, a2, a3, a4, a5, a6, a7, a8] (w3 :: w2 :: w1 :: w0 :: st) hp = (qzC d 94 [w0, w1, w2, w3] hp).bind (fun r => qzV (d + 1) 103 9 [a0, a1, a2, a3, a4, a5, a6, a7, a8] (r.1.toList ++ st) r.2) := qv_calls (n := 4) mdc_103 dX3_leadBy_6 mdo_103 (by decide) qfc_3_46 ⟨rfl, by decide, rfl⟩ rfl ⟨rfl, rfl, by simp only [List.length_cons]; omega⟩ h8
theorem eX3_leadBy_9 {d : Nat} {a0 a1 a2 a3 a4 a5 a6 a7 a8 : Value} {x : Int32} {st : List Value} {hp : qzH} : qzV d 103 9 [a0, a1, a2, a3, a4, a5, a6, a7, a8] (.int x :: st) hp = qzV d 103 11 [a0, a1, a2, a3, a4, a5, a6, .int x, a8] (st) hp := qv_istore (i := 7) mdc_103 dX3_leadBy_9 rfl (Nat.le_of_ble_eq_true rfl) rfl rfl
theorem eX3_leadBy_11 {d : Nat} {a1 a2 a3 a4 a5 a6 a7 a8 : Value} {x : Nat} {st : List Value} {hp : qzH} : qzV d 103 11 [.ref x, a1, a2, a3, a4, a5, a6, a7, a8] (st) hp = qzV d 103 12 [.ref x, a1, a2, a3, a4, a5, a6, a7, a8] (.ref x :: st) hp := qv_aload (i := 0) mdc_103 dX3_leadBy_11 rfl rfl rfl
theorem eX3_leadBy_12 {d : Nat} {a0 a1 a2 a3 a4 a5 a6 a7 a8 : Value} {a : Nat} {st : List Value} {hp : qzH} (ha : qzArr 3 a hp.1 = true) : qzV d 103 12 [a0, a1, a2, a3, a4, a5, a6, a7, a8] (.ref a :: st) hp = qzV d 103 15 [a0, a1, a2, a3, a4, a5, a6, a7, a8] (va_rf (hp.2.1 a 0) :: st) hp := qv_getR mdc_103 dX3_leadBy_12 mdo_103 qff_3_7 ⟨by decide, rfl⟩ rfl ha
theorem eX3_leadBy_15 {d : Nat} {a0 a1 a2 a3 a4 a5 a6 a7 a8 : Value} {st : List Value} {hp : qzH} : qzV d 103 15 [a0, a1, a2, a3, a4, a5, a6, a7, a8] (st) hp = qzV d 103 17 [a0, a1, a2, a3, a4, a5, a6, a7, a8] (.int 8 :: st) hp := qv_bipush mdc_103 dX3_leadBy_15 ib_8 rfl
theorem eX3_leadBy_17 {d : Nat} {a0 a1 a2 a3 a4 a5 a6 a8 : Value} {x : Int32} {st : List Value} {hp : qzH} : qzV d 103 17 [a0, a1, a2, a3, a4, a5, a6, .int x, a8] (st) hp = qzV d 103 19 [a0, a1, a2, a3, a4, a5, a6, .int x, a8] (.int x :: st) hp := qv_iload (i := 7) mdc_103 dX3_leadBy_17 rfl rfl rfl
theorem eX3_leadBy_19 {d : Nat} {a0 a1 a2 a3 a4 a5 a6 a7 a8 : Value} {x y : Int32} {st : List Value} {hp : qzH} : qzV d 103 19 [a0, a1, a2, a3, a4, a5, a6, a7, a8] (.int y :: .int x :: st) hp = qzV d 103 20 [a0, a1, a2, a3, a4, a5, a6, a7, a8] (.int (x + y) :: st) hp := qv_bin (f := fun x y => x + y) mdc_103 dX3_leadBy_19 rfl rfl
theorem eX3_leadBy_20 {d : Nat} {a0 a1 a2 a3 a4 a6 a7 a8 : Value} {x : Int32} {st : List Value} {hp : qzH} : qzV d 103 20 [a0, a1, a2, a3, a4, .int x, a6, a7, a8] (st) hp = qzV d 103 22 [a0, a1, a2, a3, a4, .int x, a6, a7, a8] (.int x :: st) hp := qv_iload (i := 5) mdc_103 dX3_leadBy_20 rfl rfl rfl
theorem eX3_leadBy_22 {d : Nat} {a0 a1 a2 a3 a4 a5 a6 a7 a8 : Value} {x y : Int32} {st : List Value} {hp : qzH} : qzV d 103 22 [a0, a1, a2, a3, a4, a5, a6, a7, a8] (.int y :: .int x :: st) hp = qzV d 103 23 [a0, a1, a2, a3, a4, a5, a6, a7, a8] (.int (x + y) :: st) hp := qv_bin (f := fun x y => x + y) mdc_103 dX3_leadBy_22 rfl rfl
theorem eX3_leadBy_23 {d : Nat} {a0 a1 a2 a3 a4 a5 a6 a7 a8 : Value} {st : List Value} {hp : qzH} : qzV d 103 23 [a0, a1, a2, a3, a4, a5, a6, a7, a8] (st) hp = qzV d 103 24 [a0, a1, a2, a3, a4, a5, a6, a7, a8] (.int 1 :: st) hp := qv_iconst mdc_103 dX3_leadBy_23 il_1 rfl
theorem eX3_leadBy_24 {d : Nat} {a0 a1 a2 a3 a4 a5 a6 a7 a8 : Value} {x y : Int32} {st : List Value} {hp : qzH} : qzV d 103 24 [a0, a1, a2, a3, a4, a5, a6, a7, a8] (.int y :: .int x :: st) hp = qzV d 103 25 [a0, a1, a2, a3, a4, a5, a6, a7, a8] (.int (x - y) :: st) hp := qv_bin (f := fun x y => x - y) mdc_103 dX3_leadBy_24 rfl rfl
theorem eX3_leadBy_25 {d : Nat} {a0 a1 a2 a3 a4 a5 a6 a7 a8 : Value} {i : Int32} {a : Nat} {st : List Value} {hp : qzH} (ha : qzArr 4 a hp.1 = true) (hi : qzIn i (qzk a).2 = true) : qzV d 103 25 [a0, a1, a2, a3, a4, a5, a6, a7, a8] (.int i :: .ref a :: st) hp = qzV d 103 26 [a0, a1, a2, a3, a4, a5, a6, a7, a8] (.int (hp.2.2 a i.toNatClampNeg) :: st) hp := qv_iald mdc_103 dX3_leadBy_25 rfl ha hi
theorem eX3_leadBy_26 {d : Nat} {a0 a1 a2 a3 a4 a5 a6 a7 a8 : Value} {st : List Value} {hp : qzH} : qzV d 103 26 [a0, a1, a2, a3, a4, a5, a6, a7, a8] (st) hp = qzV d 103 27 [a0, a1, a2, a3, a4, a5, a6, a7, a8] (.int 1 :: st) hp := qv_iconst mdc_103 dX3_leadBy_26 il_1 rfl
theorem eX3_leadBy_27 {d : Nat} {a0 a1 a2 a3 a4 a5 a6 a7 a8 : Value} {x y : Int32} {st : List Value} {hp : qzH} : qzV d 103 27 [a0, a1, a2, a3, a4, a5, a6, a7, a8] (.int y :: .int x :: st) hp = qzV d 103 28 [a0, a1, a2, a3, a4, a5, a6, a7, a8] (.int (x + y) :: st) hp := qv_bin (f := fun x y => x + y) mdc_103 dX3_leadBy_27 rfl rfl
theorem eX3_leadBy_28 {d : Nat} {a0 a1 a2 a3 a4 a5 a6 a7 a8 : Value} {x : Int32} {st : List Value} {hp : qzH} : qzV d 103 28 [a0, a1, a2, a3, a4, a5, a6, a7, a8] (.int x :: st) hp = qzV d 103 30 [a0, a1, a2, a3, a4, a5, a6, a7, .int x] (st) hp := qv_istore (i := 8) mdc_103 dX3_leadBy_28 rfl (Nat.le_of_ble_eq_true rfl) rfl rfl
theorem eX3_leadBy_30 {d : Nat} {a1 a2 a3 a4 a5 a6 a7 a8 : Value} {x : Nat} {st : List Value} {hp : qzH} : qzV d 103 30 [.ref x, a1, a2, a3, a4, a5, a6, a7, a8] (st) hp = qzV d 103 31 [.ref x, a1, a2, a3, a4, a5, a6, a7, a8] (.ref x :: st) hp := qv_aload (i := 0) mdc_103 dX3_leadBy_30 rfl rfl rfl
theorem eX3_leadBy_31 {d : Nat} {a0 a1 a2 a3 a4 a5 a6 a8 : Value} {x : Int32} {st : List Value} {hp : qzH} : qzV d 103 31 [a0, a1, a2, a3, a4, a5, a6, .int x, a8] (st) hp = qzV d 103 33 [a0, a1, a2, a3, a4, a5, a6, .int x, a8] (.int x :: st) hp := qv_iload (i := 7) mdc_103 dX3_leadBy_31 rfl rfl rfl
theorem eX3_leadBy_33 {d : Nat} {a0 a1 a2 a3 a4 a6 a7 a8 : Value} {x : Int32} {st : List Value} {hp : qzH} : qzV d 103 33 [a0, a1, a2, a3, a4, .int x, a6, a7, a8] (st) hp = qzV d 103 35 [a0, a1, a2, a3, a4, .int x, a6, a7, a8] (.int x :: st) hp := qv_iload (i := 5) mdc_103 dX3_leadBy_33 rfl rfl rfl
theorem eX3_leadBy_35 {d : Nat} {a0 a1 a2 a4 a5 a6 a7 a8 : Value} {x : Int32} {st : List Value} {hp : qzH} : qzV d 103 35 [a0, a1, a2, .int x, a4, a5, a6, a7, a8] (st) hp = qzV d 103 36 [a0, a1, a2, .int x, a4, a5, a6, a7, a8] (.int x :: st) hp := qv_iload (i := 3) mdc_103 dX3_leadBy_35 rfl rfl rfl
theorem eX3_leadBy_36 {d : Nat} {a0 a1 a2 a3 a4 a5 a6 a7 a8 : Value} {w0 w1 w2 : Value} {b : Nat} {st : List Value} {hp : qzH} (h8 : st.length ≤ 8) (hb : qzArr 3 b hp.1 = true) : qzV (d + 1) 103 36 [a0, a1, a2, a3, a4, a5, a6, a7, a8] (w2 :: w1 :: w0 :: .ref b :: st) hp = (qzC d 97 (.ref b :: [w0, w1, w2]) hp).bind (fun r => qzV (d + 1) 103 39 [a0, a1, a2, a3, a4, a5, a6, a7, a8] (r.1.toList ++ st) r.2) := qv_callv (n := 3) mdc_103 dX3_leadBy_36 mdo_103 (by decide) qfc_3_54 ⟨rfl, by decide, rfl⟩ rfl ⟨rfl, rfl, by simp only [List.length_cons]; omega⟩ h8 hb
theorem eX3_leadBy_39 {d : Nat} {a1 a2 a3 a4 a5 a6 a7 a8 : Value} {x : Nat} {st : List Value} {hp : qzH} : qzV d 103 39 [.ref x, a1, a2, a3, a4, a5, a6, a7, a8] (st) hp = qzV d 103 40 [.ref x, a1, a2, a3, a4, a5, a6, a7, a8] (.ref x :: st) hp := qv_aload (i := 0) mdc_103 dX3_leadBy_39 rfl rfl rfl
theorem eX3_leadBy_40 {d : Nat} {a0 a1 a2 a3 a4 a5 a7 a8 : Value} {x : Int32} {st : List Value} {hp : qzH} : qzV d 103 40 [a0, a1, a2, a3, a4, a5, .int x, a7, a8] (st) hp = qzV d 103 42 [a0, a1, a2, a3, a4, a5, .int x, a7, a8] (.int x :: st) hp := qv_iload (i := 6) mdc_103 dX3_leadBy_40 rfl rfl rfl
theorem eX3_leadBy_42 {d : Nat} {a0 a1 a2 a3 a4 a5 a6 a7 a8 : Value} {x : Int32} {st : List Value} {hp : qzH} : qzV d 103 42 [a0, a1, a2, a3, a4, a5, a6, a7, a8] (.int x :: st) hp = if x = 0 then qzV d 103 52 [a0, a1, a2, a3, a4, a5, a6, a7, a8] (st) hp else qzV d 103 45 [a0, a1, a2, a3, a4, a5, a6, a7, a8] (st) hp := qv_if1 mdc_103 dX3_leadBy_42 rfl rfl rfl
theorem eX3_leadBy_45 {d : Nat} {a0 a2 a3 a4 a5 a6 a7 a8 : Value} {x : Int32} {st : List Value} {hp : qzH} : qzV d 103 45 [a0, .int x, a2, a3, a4, a5, a6, a7, a8] (st) hp = qzV d 103 46 [a0, .int x, a2, a3, a4, a5, a6, a7, a8] (.int x :: st) hp := qv_iload (i := 1) mdc_103 dX3_leadBy_45 rfl rfl rfl
theorem eX3_leadBy_46 {d : Nat} {a0 a1 a2 a3 a4 a6 a7 a8 : Value} {x : Int32} {st : List Value} {hp : qzH} : qzV d 103 46 [a0, a1, a2, a3, a4, .int x, a6, a7, a8] (st) hp = qzV d 103 48 [a0, a1, a2, a3, a4, .int x, a6, a7, a8] (.int x :: st) hp := qv_iload (i := 5) mdc_103 dX3_leadBy_46 rfl rfl rfl
theorem eX3_leadBy_48 {d : Nat} {a0 a1 a2 a3 a4 a5 a6 a7 a8 : Value} {x y : Int32} {st : List Value} {hp : qzH} : qzV d 103 48 [a0, a1, a2, a3, a4, a5, a6, a7, a8] (.int y :: .int x :: st) hp = qzV d 103 49 [a0, a1, a2, a3, a4, a5, a6, a7, a8] (.int (x + y) :: st) hp := qv_bin (f := fun x y => x + y) mdc_103 dX3_leadBy_48 rfl rfl
theorem eX3_leadBy_49 {d : Nat} {a0 a1 a2 a3 a4 a5 a6 a7 a8 : Value} {st : List Value} {hp : qzH} : qzV d 103 49 [a0, a1, a2, a3, a4, a5, a6, a7, a8] (st) hp = qzV d 103 53 [a0, a1, a2, a3, a4, a5, a6, a7, a8] (st) hp := qv_goto mdc_103 dX3_leadBy_49 rfl
theorem eX3_leadBy_52 {d : Nat} {a0 a2 a3 a4 a5 a6 a7 a8 : Value} {x : Int32} {st : List Value} {hp : qzH} : qzV d 103 52 [a0, .int x, a2, a3, a4, a5, a6, a7, a8] (st) hp = qzV d 103 53 [a0, .int x, a2, a3, a4, a5, a6, a7, a8] (.int x :: st) hp := qv_iload (i := 1) mdc_103 dX3_leadBy_52 rfl rfl rfl
theorem eX3_leadBy_53 {d : Nat} {a0 a1 a3 a4 a5 a6 a7 a8 : Value} {x : Int32} {st : List Value} {hp : qzH} : qzV d 103 53 [a0, a1, .int x, a3, a4, a5, a6, a7, a8] (st) hp = qzV d 103 54 [a0, a1, .int x, a3, a4, a5, a6, a7, a8] (.int x :: st) hp := qv_iload (i := 2) mdc_103 dX3_leadBy_53 rfl rfl rfl
theorem eX3_leadBy_54 {d : Nat} {a0 a1 a2 a3 a4 a6 a7 a8 : Value} {x : Int32} {st : List Value} {hp : qzH} : qzV d 103 54 [a0, a1, a2, a3, a4, .int x, a6, a7, a8] (st) hp = qzV d 103 56 [a0, a1, a2, a3, a4, .int x, a6, a7, a8] (.int x :: st) hp := qv_iload (i := 5) mdc_103 dX3_leadBy_54 rfl rfl rfl
theorem eX3_leadBy_56 {d : Nat} {a0 a1 a2 a3 a4 a5 a6 a7 a8 : Value} {x y : Int32} {st : List Value} {hp : qzH} : qzV d 103 56 [a0, a1, a2, a3, a4, a5, a6, a7, a8] (.int y :: .int x :: st) hp = qzV d 103 57 [a0, a1, a2, a3, a4, a5, a6, a7, a8] (.int (x - y) :: st) hp := qv_bin (f := fun x y => x - y) mdc_103 dX3_leadBy_56 rfl rfl
theorem eX3_leadBy_57 {d : Nat} {a0 a1 a2 a3 a5 a6 a7 a8 : Value} {x : Int32} {st : List Value} {hp : qzH} : qzV d 103 57 [a0, a1, a2, a3, .int x, a5, a6, a7, a8] (st) hp = qzV d 103 59 [a0, a1, a2, a3, .int x, a5, a6, a7, a8] (.int x :: st) hp := qv_iload (i := 4) mdc_103 dX3_leadBy_57 rfl rfl rfl
theorem eX3_leadBy_59 {d : Nat} {a0 a1 a2 a3 a4 a5 a6 a7 : Value} {x : Int32} {st : List Value} {hp : qzH} : qzV d 103 59 [a0, a1, a2, a3, a4, a5, a6, a7, .int x] (st) hp = qzV d 103 61 [a0, a1, a2, a3, a4, a5, a6, a7, .int x] (.int x :: st) hp := qv_iload (i := 8) mdc_103 dX3_leadBy_59 rfl rfl rfl
theorem eX3_leadBy_61 {d : Nat} {a0 a1 a2 a3 a4 a5 a6 a7 a8 : Value} {w0 w1 w2 w3 : Value} {b : Nat} {st : List Value} {hp : qzH} (h8 : st.length ≤ 8) (hb : qzArr 3 b hp.1 = true) : qzV (d + 1) 103 61 [a0, a1, a2, a3, a4, a5, a6, a7, a8] (w3 :: w2 :: w1 :: w0 :: .ref b :: st) hp = (qzC d 101 (.ref b :: [w0, w1, w2, w3]) hp).bind (fun r => qzV (d + 1) 103 64 [a0, a1, a2, a3, a4, a5, a6, a7, a8] (r.1.toList ++ st) r.2) := qv_callv (n := 4) mdc_103 dX3_leadBy_61 mdo_103 (by decide) qfc_3_69 ⟨rfl, by decide, rfl⟩ rfl ⟨rfl, rfl, by simp only [List.length_cons]; omega⟩ h8 hb
theorem eX3_leadBy_64 {d : Nat} {a0 a1 a2 a3 a4 a5 a6 a7 a8 : Value} {x y : Int32} {st : List Value} {hp : qzH} : qzV d 103 64 [a0, a1, a2, a3, a4, a5, a6, a7, a8] (.int y :: .int x :: st) hp = qzV d 103 65 [a0, a1, a2, a3, a4, a5, a6, a7, a8] (.int (x - y) :: st) hp := qv_bin (f := fun x y => x - y) mdc_103 dX3_leadBy_64 rfl rfl
theorem eX3_leadBy_65 {d : Nat} {a0 a1 a2 a3 a4 a5 a6 a7 a8 : Value} {v : Int32} {hp : qzH} : qzV d 103 65 [a0, a1, a2, a3, a4, a5, a6, a7, a8] [.int v] hp = some (some (.int v), hp) := qv_iret mdc_103 dX3_leadBy_65 mdr_103 rfl
theorem dX3_laysLead_0 : decode cX3_laysLead 0 = .ok (.sipush (-10000), 3) := by decide +kernel
theorem dX3_laysLead_3 : decode cX3_laysLead 3 = .ok (.istore 5, 2) := by decide +kernel
theorem dX3_laysLead_5 : decode cX3_laysLead 5 = .ok (.iconst 1, 1) := by decide +kernel
theorem dX3_laysLead_6 : decode cX3_laysLead 6 = .ok (.istore 6, 2) := by decide +kernel
theorem dX3_laysLead_8 : decode cX3_laysLead 8 = .ok (.iload 6, 2) := by decide +kernel
theorem dX3_laysLead_10 : decode cX3_laysLead 10 = .ok (.aload_n 0, 1) := by decide +kernel
theorem dX3_laysLead_11 : decode cX3_laysLead 11 = .ok (.iload_n 2, 1) := by decide +kernel
theorem dX3_laysLead_12 : decode cX3_laysLead 12 = .ok (.invokevirtual 73, 3) := by decide +kernel
theorem dX3_laysLead_15 : decode cX3_laysLead 15 = .ok (.if_icmp .gt 69, 3) := by decide +kernel
theorem dX3_laysLead_18 : decode cX3_laysLead 18 = .ok (.aload_n 0, 1) := by decide +kernel
theorem dX3_laysLead_19 : decode cX3_laysLead 19 = .ok (.iload_n 1, 1) := by decide +kernel
theorem dX3_laysLead_20 : decode cX3_laysLead 20 = .ok (.iload_n 2, 1) := by decide +kernel
theorem dX3_laysLead_21 : decode cX3_laysLead 21 = .ok (.iload_n 3, 1) := by decide +kernel
theorem dX3_laysLead_22 : decode cX3_laysLead 22 = .ok (.iload 4, 2) := by decide +kernel
theorem dX3_laysLead_24 : decode cX3_laysLead 24 = .ok (.iload 6, 2) := by decide +kernel
theorem dX3_laysLead_26 : decode cX3_laysLead 26 = .ok (.iconst 1, 1) := by decide +kernel
theorem dX3_laysLead_27 : decode cX3_laysLead 27 = .ok (.invokevirtual 77, 3) := by decide +kernel
theorem dX3_laysLead_30 : decode cX3_laysLead 30 = .ok (.istore 7, 2) := by decide +kernel
theorem dX3_laysLead_32 : decode cX3_laysLead 32 = .ok (.aload_n 0, 1) := by decide +kernel
theorem dX3_laysLead_33 : decode cX3_laysLead 33 = .ok (.iload_n 1, 1) := by decide +kernel
theorem dX3_laysLead_34 : decode cX3_laysLead 34 = .ok (.iload_n 2, 1) := by decide +kernel
theorem dX3_laysLead_35 : decode cX3_laysLead 35 = .ok (.iload_n 3, 1) := by decide +kernel
theorem dX3_laysLead_36 : decode cX3_laysLead 36 = .ok (.iload 4, 2) := by decide +kernel
theorem dX3_laysLead_38 : decode cX3_laysLead 38 = .ok (.iload 6, 2) := by decide +kernel
theorem dX3_laysLead_40 : decode cX3_laysLead 40 = .ok (.iconst 0, 1) := by decide +kernel
theorem dX3_laysLead_41 : decode cX3_laysLead 41 = .ok (.invokevirtual 77, 3) := by decide +kernel
theorem dX3_laysLead_44 : decode cX3_laysLead 44 = .ok (.istore 8, 2) := by decide +kernel
theorem dX3_laysLead_46 : decode cX3_laysLead 46 = .ok (.iload 7, 2) := by decide +kernel
theorem dX3_laysLead_48 : decode cX3_laysLead 48 = .ok (.iload 5, 2) := by decide +kernel
theorem dX3_laysLead_50 : decode cX3_laysLead 50 = .ok (.if_icmp .le 8, 3) := by decide +kernel
theorem dX3_laysLead_53 : decode cX3_laysLead 53 = .ok (.iload 7, 2) := by decide +kernel
theorem dX3_laysLead_55 : decode cX3_laysLead 55 = .ok (.goto 5, 3) := by decide +kernel
theorem dX3_laysLead_58 : decode cX3_laysLead 58 = .ok (.iload 5, 2) := by decide +kernel
theorem dX3_laysLead_60 : decode cX3_laysLead 60 = .ok (.istore 5, 2) := by decide +kernel
theorem dX3_laysLead_62 : decode cX3_laysLead 62 = .ok (.iload 8, 2) := by decide +kernel
theorem dX3_laysLead_64 : decode cX3_laysLead 64 = .ok (.iload 5, 2) := by decide +kernel
theorem dX3_laysLead_66 : decode cX3_laysLead 66 = .ok (.if_icmp .le 8, 3) := by decide +kernel
theorem dX3_laysLead_69 : decode cX3_laysLead 69 = .ok (.iload 8, 2) := by decide +kernel
theorem dX3_laysLead_71 : decode cX3_laysLead 71 = .ok (.goto 5, 3) := by decide +kernel
theorem dX3_laysLead_74 : decode cX3_laysLead 74 = .ok (.iload 5, 2) := by decide +kernel
theorem dX3_laysLead_76 : decode cX3_laysLead 76 = .ok (.istore 5, 2) := by decide +kernel
theorem dX3_laysLead_78 : decode cX3_laysLead 78 = .ok (.iinc 6 1, 3) := by decide +kernel
theorem dX3_laysLead_81 : decode cX3_laysLead 81 = .ok (.goto (-73), 3) := by decide +kernel
theorem dX3_laysLead_84 : decode cX3_laysLead 84 = .ok (.aload_n 0, 1) := by decide +kernel
theorem dX3_laysLead_85 : decode cX3_laysLead 85 = .ok (.getfield 25, 3) := by decide +kernel
theorem dX3_laysLead_88 : decode cX3_laysLead 88 = .ok (.bipush 49, 2) := by decide +kernel
theorem dX3_laysLead_90 : decode cX3_laysLead 90 = .ok (.iload_n 1, 1) := by decide +kernel
theorem dX3_laysLead_91 : decode cX3_laysLead 91 = .ok (.iload_n 2, 1) := by decide +kernel
theorem dX3_laysLead_92 : decode cX3_laysLead 92 = .ok (.invokestatic 66, 3) := by decide +kernel
theorem dX3_laysLead_95 : decode cX3_laysLead 95 = .ok (.imul, 1) := by decide +kernel
theorem dX3_laysLead_96 : decode cX3_laysLead 96 = .ok (.bipush 7, 2) := by decide +kernel
theorem dX3_laysLead_98 : decode cX3_laysLead 98 = .ok (.iload_n 3, 1) := by decide +kernel
theorem dX3_laysLead_99 : decode cX3_laysLead 99 = .ok (.imul, 1) := by decide +kernel
theorem dX3_laysLead_100 : decode cX3_laysLead 100 = .ok (.iadd, 1) := by decide +kernel
theorem dX3_laysLead_101 : decode cX3_laysLead 101 = .ok (.iload 4, 2) := by decide +kernel
theorem dX3_laysLead_103 : decode cX3_laysLead 103 = .ok (.iadd, 1) := by decide +kernel
theorem dX3_laysLead_104 : decode cX3_laysLead 104 = .ok (.iload 5, 2) := by decide +kernel
theorem dX3_laysLead_106 : decode cX3_laysLead 106 = .ok (.iastore, 1) := by decide +kernel
theorem dX3_laysLead_107 : decode cX3_laysLead 107 = .ok (.return_, 1) := by decide +kernel
theorem eX3_laysLead_0 {d : Nat} {a0 a1 a2 a3 a4 a5 a6 a7 a8 : Value} {st : List Value} {hp : qzH} : qzV d 104 0 [a0, a1, a2, a3, a4, a5, a6, a7, a8] (st) hp = qzV d 104 3 [a0, a1, a2, a3, a4, a5, a6, a7, a8] (.int (-10000) :: st) hp := qv_sipush mdc_104 dX3_laysLead_0 is_m10000 rfl
theorem eX3_laysLead_3 {d : Nat} {a0 a1 a2 a3 a4 a5 a6 a7 a8 : Value} {x : Int32} {st : List Value} {hp : qzH} : qzV d 104 3 [a0, a1, a2, a3, a4, a5, a6, a7, a8] (.int x :: st) hp = qzV d 104 5 [a0, a1, a2, a3, a4, .int x, a6, a7, a8] (st) hp := qv_istore (i := 5) mdc_104 dX3_laysLead_3 rfl (Nat.le_of_ble_eq_true rfl) rfl rfl
theorem eX3_laysLead_5 {d : Nat} {a0 a1 a2 a3 a4 a5 a6 a7 a8 : Value} {st : List Value} {hp : qzH} : qzV d 104 5 [a0, a1, a2, a3, a4, a5, a6, a7, a8] (st) hp = qzV d 104 6 [a0, a1, a2, a3, a4, a5, a6, a7, a8] (.int 1 :: st) hp := qv_iconst mdc_104 dX3_laysLead_5 il_1 rfl
theorem eX3_laysLead_6 {d : Nat} {a0 a1 a2 a3 a4 a5 a6 a7 a8 : Value} {x : Int32} {st : List Value} {hp : qzH} : qzV d 104 6 [a0, a1, a2, a3, a4, a5, a6, a7, a8] (.int x :: st) hp = qzV d 104 8 [a0, a1, a2, a3, a4, a5, .int x, a7, a8] (st) hp := qv_istore (i := 6) mdc_104 dX3_laysLead_6 rfl (Nat.le_of_ble_eq_true rfl) rfl rfl
theorem eX3_laysLead_8 {d : Nat} {a0 a1 a2 a3 a4 a5 a7 a8 : Value} {x : Int32} {st : List Value} {hp : qzH} : qzV d 104 8 [a0, a1, a2, a3, a4, a5, .int x, a7, a8] (st) hp = qzV d 104 10 [a0, a1, a2, a3, a4, a5, .int x, a7, a8] (.int x :: st) hp := qv_iload (i := 6) mdc_104 dX3_laysLead_8 rfl rfl rfl
theorem eX3_laysLead_10 {d : Nat} {a1 a2 a3 a4 a5 a6 a7 a8 : Value} {x : Nat} {st : List Value} {hp : qzH} : qzV d 104 10 [.ref x, a1, a2, a3, a4, a5, a6, a7, a8] (st) hp = qzV d 104 11 [.ref x, a1, a2, a3, a4, a5, a6, a7, a8] (.ref x :: st) hp := qv_aload (i := 0) mdc_104 dX3_laysLead_10 rfl rfl rfl
theorem eX3_laysLead_11 {d : Nat} {a0 a1 a3 a4 a5 a6 a7 a8 : Value} {x : Int32} {st : List Value} {hp : qzH} : qzV d 104 11 [a0, a1, .int x, a3, a4, a5, a6, a7, a8] (st) hp = qzV d 104 12 [a0, a1, .int x, a3, a4, a5, a6, a7, a8] (.int x :: st) hp := qv_iload (i := 2) mdc_104 dX3_laysLead_11 rfl rfl rfl
theorem eX3_laysLead_12 {d : Nat} {a0 a1 a2 a3 a4 a5 a6 a7 a8 : Value} {w0 : Value} {b : Nat} {st : List Value} {hp : qzH} (h8 : st.length ≤ 8) (hb : qzArr 3 b hp.1 = true) : qzV (d + 1) 104 12 [a0, a1, a2, a3, a4, a5, a6, a7, a8] (w0 :: .ref b :: st) hp = (qzC d 102 (.ref b :: [w0]) hp).bind (fun r => qzV (d + 1) 104 15 [a0, a1, a2, a3, a4, a5, a6, a7, a8] (r.1.toList ++ st) r.2) := qv_callv (n := 1) mdc_104 dX3_laysLead_12 mdo_104 (by decide) qfc_3_73 ⟨rfl, by decide, rfl⟩ rfl ⟨rfl, rfl, by simp only [List.length_cons]; omega⟩ h8 hb
theorem eX3_laysLead_15 {d : Nat} {a0 a1 a2 a3 a4 a5 a6 a7 a8 : Value} {x y : Int32} {st : List Value} {hp : qzH} : qzV d 104 15 [a0, a1, a2, a3, a4, a5, a6, a7, a8] (.int y :: .int x :: st) hp = if y < x then qzV d 104 84 [a0, a1, a2, a3, a4, a5, a6, a7, a8] (st) hp else qzV d 104 18 [a0, a1, a2, a3, a4, a5, a6, a7, a8] (st) hp := qv_if2 mdc_104 dX3_laysLead_15 rfl rfl rfl
theorem eX3_laysLead_18 {d : Nat} {a1 a2 a3 a4 a5 a6 a7 a8 : Value} {x : Nat} {st : List Value} {hp : qzH} : qzV d 104 18 [.ref x, a1, a2, a3, a4, a5, a6, a7, a8] (st) hp = qzV d 104 19 [.ref x, a1, a2, a3, a4, a5, a6, a7, a8] (.ref x :: st) hp := qv_aload (i := 0) mdc_104 dX3_laysLead_18 rfl rfl rfl
theorem eX3_laysLead_19 {d : Nat} {a0 a2 a3 a4 a5 a6 a7 a8 : Value} {x : Int32} {st : List Value} {hp : qzH} : qzV d 104 19 [a0, .int x, a2, a3, a4, a5, a6, a7, a8] (st) hp = qzV d 104 20 [a0, .int x, a2, a3, a4, a5, a6, a7, a8] (.int x :: st) hp := qv_iload (i := 1) mdc_104 dX3_laysLead_19 rfl rfl rfl
theorem eX3_laysLead_20 {d : Nat} {a0 a1 a3 a4 a5 a6 a7 a8 : Value} {x : Int32} {st : List Value} {hp : qzH} : qzV d 104 20 [a0, a1, .int x, a3, a4, a5, a6, a7, a8] (st) hp = qzV d 104 21 [a0, a1, .int x, a3, a4, a5, a6, a7, a8] (.int x :: st) hp := qv_iload (i := 2) mdc_104 dX3_laysLead_20 rfl rfl rfl
theorem eX3_laysLead_21 {d : Nat} {a0 a1 a2 a4 a5 a6 a7 a8 : Value} {x : Int32} {st : List Value} {hp : qzH} : qzV d 104 21 [a0, a1, a2, .int x, a4, a5, a6, a7, a8] (st) hp = qzV d 104 22 [a0, a1, a2, .int x, a4, a5, a6, a7, a8] (.int x :: st) hp := qv_iload (i := 3) mdc_104 dX3_laysLead_21 rfl rfl rfl
theorem eX3_laysLead_22 {d : Nat} {a0 a1 a2 a3 a5 a6 a7 a8 : Value} {x : Int32} {st : List Value} {hp : qzH} : qzV d 104 22 [a0, a1, a2, a3, .int x, a5, a6, a7, a8] (st) hp = qzV d 104 24 [a0, a1, a2, a3, .int x, a5, a6, a7, a8] (.int x :: st) hp := qv_iload (i := 4) mdc_104 dX3_laysLead_22 rfl rfl rfl
theorem eX3_laysLead_24 {d : Nat} {a0 a1 a2 a3 a4 a5 a7 a8 : Value} {x : Int32} {st : List Value} {hp : qzH} : qzV d 104 24 [a0, a1, a2, a3, a4, a5, .int x, a7, a8] (st) hp = qzV d 104 26 [a0, a1, a2, a3, a4, a5, .int x, a7, a8] (.int x :: st) hp := qv_iload (i := 6) mdc_104 dX3_laysLead_24 rfl rfl rfl
theorem eX3_laysLead_26 {d : Nat} {a0 a1 a2 a3 a4 a5 a6 a7 a8 : Value} {st : List Value} {hp : qzH} : qzV d 104 26 [a0, a1, a2, a3, a4, a5, a6, a7, a8] (st) hp = qzV d 104 27 [a0, a1, a2, a3, a4, a5, a6, a7, a8] (.int 1 :: st) hp := qv_iconst mdc_104 dX3_laysLead_26 il_1 rfl
theorem eX3_laysLead_27 {d : Nat} {a0 a1 a2 a3 a4 a5 a6 a7 a8 : Value} {w0 w1 w2 w3 w4 w5 : Value} {b : Nat} {st : List Value} {hp : qzH} (h8 : st.length ≤ 8) (hb : qzArr 3 b hp.1 = true) : qzV (d + 1) 104 27 [a0, a1, a2, a3, a4, a5, a6, a7, a8] (w5 :: w4 :: w3 :: w2 :: w1 :: w0 :: .ref b :: st) hp = (qzC d 103 (.ref b :: [w0, w1, w2, w3, w4, w5]) hp).bind (fun r => qzV (d + 1) 104 30 [a0, a1, a2, a3, a4, a5, a6, a7, a8] (r.1.toList ++ st) r.2) := qv_callv (n := 6) mdc_104 dX3_laysLead_27 mdo_104 (by decide) qfc_3_77 ⟨rfl, by decide, rfl⟩ rfl ⟨rfl, rfl, by simp only [List.length_cons]; omega⟩ h8 hb
theorem eX3_laysLead_30 {d : Nat} {a0 a1 a2 a3 a4 a5 a6 a7 a8 : Value} {x : Int32} {st : List Value} {hp : qzH} : qzV d 104 30 [a0, a1, a2, a3, a4, a5, a6, a7, a8] (.int x :: st) hp = qzV d 104 32 [a0, a1, a2, a3, a4, a5, a6, .int x, a8] (st) hp := qv_istore (i := 7) mdc_104 dX3_laysLead_30 rfl (Nat.le_of_ble_eq_true rfl) rfl rfl
theorem eX3_laysLead_32 {d : Nat} {a1 a2 a3 a4 a5 a6 a7 a8 : Value} {x : Nat} {st : List Value} {hp : qzH} : qzV d 104 32 [.ref x, a1, a2, a3, a4, a5, a6, a7, a8] (st) hp = qzV d 104 33 [.ref x, a1, a2, a3, a4, a5, a6, a7, a8] (.ref x :: st) hp := qv_aload (i := 0) mdc_104 dX3_laysLead_32 rfl rfl rfl
theorem eX3_laysLead_33 {d : Nat} {a0 a2 a3 a4 a5 a6 a7 a8 : Value} {x : Int32} {st : List Value} {hp : qzH} : qzV d 104 33 [a0, .int x, a2, a3, a4, a5, a6, a7, a8] (st) hp = qzV d 104 34 [a0, .int x, a2, a3, a4, a5, a6, a7, a8] (.int x :: st) hp := qv_iload (i := 1) mdc_104 dX3_laysLead_33 rfl rfl rfl
theorem eX3_laysLead_34 {d : Nat} {a0 a1 a3 a4 a5 a6 a7 a8 : Value} {x : Int32} {st : List Value} {hp : qzH} : qzV d 104 34 [a0, a1, .int x, a3, a4, a5, a6, a7, a8] (st) hp = qzV d 104 35 [a0, a1, .int x, a3, a4, a5, a6, a7, a8] (.int x :: st) hp := qv_iload (i := 2) mdc_104 dX3_laysLead_34 rfl rfl rfl
theorem eX3_laysLead_35 {d : Nat} {a0 a1 a2 a4 a5 a6 a7 a8 : Value} {x : Int32} {st : List Value} {hp : qzH} : qzV d 104 35 [a0, a1, a2, .int x, a4, a5, a6, a7, a8] (st) hp = qzV d 104 36 [a0, a1, a2, .int x, a4, a5, a6, a7, a8] (.int x :: st) hp := qv_iload (i := 3) mdc_104 dX3_laysLead_35 rfl rfl rfl
theorem eX3_laysLead_36 {d : Nat} {a0 a1 a2 a3 a5 a6 a7 a8 : Value} {x : Int32} {st : List Value} {hp : qzH} : qzV d 104 36 [a0, a1, a2, a3, .int x, a5, a6, a7, a8] (st) hp = qzV d 104 38 [a0, a1, a2, a3, .int x, a5, a6, a7, a8] (.int x :: st) hp := qv_iload (i := 4) mdc_104 dX3_laysLead_36 rfl rfl rfl
theorem eX3_laysLead_38 {d : Nat} {a0 a1 a2 a3 a4 a5 a7 a8 : Value} {x : Int32} {st : List Value} {hp : qzH} : qzV d 104 38 [a0, a1, a2, a3, a4, a5, .int x, a7, a8] (st) hp = qzV d 104 40 [a0, a1, a2, a3, a4, a5, .int x, a7, a8] (.int x :: st) hp := qv_iload (i := 6) mdc_104 dX3_laysLead_38 rfl rfl rfl
theorem eX3_laysLead_40 {d : Nat} {a0 a1 a2 a3 a4 a5 a6 a7 a8 : Value} {st : List Value} {hp : qzH} : qzV d 104 40 [a0, a1, a2, a3, a4, a5, a6, a7, a8] (st) hp = qzV d 104 41 [a0, a1, a2, a3, a4, a5, a6, a7, a8] (.int 0 :: st) hp := qv_iconst mdc_104 dX3_laysLead_40 il_0 rfl
theorem eX3_laysLead_41 {d : Nat} {a0 a1 a2 a3 a4 a5 a6 a7 a8 : Value} {w0 w1 w2 w3 w4 w5 : Value} {b : Nat} {st : List Value} {hp : qzH} (h8 : st.length ≤ 8) (hb : qzArr 3 b hp.1 = true) : qzV (d + 1) 104 41 [a0, a1, a2, a3, a4, a5, a6, a7, a8] (w5 :: w4 :: w3 :: w2 :: w1 :: w0 :: .ref b :: st) hp = (qzC d 103 (.ref b :: [w0, w1, w2, w3, w4, w5]) hp).bind (fun r => qzV (d + 1) 104 44 [a0, a1, a2, a3, a4, a5, a6, a7, a8] (r.1.toList ++ st) r.2) := qv_callv (n := 6) mdc_104 dX3_laysLead_41 mdo_104 (by decide) qfc_3_77 ⟨rfl, by decide, rfl⟩ rfl ⟨rfl, rfl, by simp only [List.length_cons]; omega⟩ h8 hb
theorem eX3_laysLead_44 {d : Nat} {a0 a1 a2 a3 a4 a5 a6 a7 a8 : Value} {x : Int32} {st : List Value} {hp : qzH} : qzV d 104 44 [a0, a1, a2, a3, a4, a5, a6, a7, a8] (.int x :: st) hp = qzV d 104 46 [a0, a1, a2, a3, a4, a5, a6, a7, .int x] (st) hp := qv_istore (i := 8) mdc_104 dX3_laysLead_44 rfl (Nat.le_of_ble_eq_true rfl) rfl rfl
theorem eX3_laysLead_46 {d : Nat} {a0 a1 a2 a3 a4 a5 a6 a8 : Value} {x : Int32} {st : List Value} {hp : qzH} : qzV d 104 46 [a0, a1, a2, a3, a4, a5, a6, .int x, a8] (st) hp = qzV d 104 48 [a0, a1, a2, a3, a4, a5, a6, .int x, a8] (.int x :: st) hp := qv_iload (i := 7) mdc_104 dX3_laysLead_46 rfl rfl rfl
theorem eX3_laysLead_48 {d : Nat} {a0 a1 a2 a3 a4 a6 a7 a8 : Value} {x : Int32} {st : List Value} {hp : qzH} : qzV d 104 48 [a0, a1, a2, a3, a4, .int x, a6, a7, a8] (st) hp = qzV d 104 50 [a0, a1, a2, a3, a4, .int x, a6, a7, a8] (.int x :: st) hp := qv_iload (i := 5) mdc_104 dX3_laysLead_48 rfl rfl rfl
theorem eX3_laysLead_50 {d : Nat} {a0 a1 a2 a3 a4 a5 a6 a7 a8 : Value} {x y : Int32} {st : List Value} {hp : qzH} : qzV d 104 50 [a0, a1, a2, a3, a4, a5, a6, a7, a8] (.int y :: .int x :: st) hp = if x ≤ y then qzV d 104 58 [a0, a1, a2, a3, a4, a5, a6, a7, a8] (st) hp else qzV d 104 53 [a0, a1, a2, a3, a4, a5, a6, a7, a8] (st) hp := qv_if2 mdc_104 dX3_laysLead_50 rfl rfl rfl
theorem eX3_laysLead_53 {d : Nat} {a0 a1 a2 a3 a4 a5 a6 a8 : Value} {x : Int32} {st : List Value} {hp : qzH} : qzV d 104 53 [a0, a1, a2, a3, a4, a5, a6, .int x, a8] (st) hp = qzV d 104 55 [a0, a1, a2, a3, a4, a5, a6, .int x, a8] (.int x :: st) hp := qv_iload (i := 7) mdc_104 dX3_laysLead_53 rfl rfl rfl
theorem eX3_laysLead_55 {d : Nat} {a0 a1 a2 a3 a4 a5 a6 a7 a8 : Value} {st : List Value} {hp : qzH} : qzV d 104 55 [a0, a1, a2, a3, a4, a5, a6, a7, a8] (st) hp = qzV d 104 60 [a0, a1, a2, a3, a4, a5, a6, a7, a8] (st) hp := qv_goto mdc_104 dX3_laysLead_55 rfl
theorem eX3_laysLead_58 {d : Nat} {a0 a1 a2 a3 a4 a6 a7 a8 : Value} {x : Int32} {st : List Value} {hp : qzH} : qzV d 104 58 [a0, a1, a2, a3, a4, .int x, a6, a7, a8] (st) hp = qzV d 104 60 [a0, a1, a2, a3, a4, .int x, a6, a7, a8] (.int x :: st) hp := qv_iload (i := 5) mdc_104 dX3_laysLead_58 rfl rfl rfl
theorem eX3_laysLead_60 {d : Nat} {a0 a1 a2 a3 a4 a5 a6 a7 a8 : Value} {x : Int32} {st : List Value} {hp : qzH} : qzV d 104 60 [a0, a1, a2, a3, a4, a5, a6, a7, a8] (.int x :: st) hp = qzV d 104 62 [a0, a1, a2, a3, a4, .int x, a6, a7, a8] (st) hp := qv_istore (i := 5) mdc_104 dX3_laysLead_60 rfl (Nat.le_of_ble_eq_true rfl) rfl rfl
theorem eX3_laysLead_62 {d : Nat} {a0 a1 a2 a3 a4 a5 a6 a7 : Value} {x : Int32} {st : List Value} {hp : qzH} : qzV d 104 62 [a0, a1, a2, a3, a4, a5, a6, a7, .int x] (st) hp = qzV d 104 64 [a0, a1, a2, a3, a4, a5, a6, a7, .int x] (.int x :: st) hp := qv_iload (i := 8) mdc_104 dX3_laysLead_62 rfl rfl rfl
theorem eX3_laysLead_64 {d : Nat} {a0 a1 a2 a3 a4 a6 a7 a8 : Value} {x : Int32} {st : List Value} {hp : qzH} : qzV d 104 64 [a0, a1, a2, a3, a4, .int x, a6, a7, a8] (st) hp = qzV d 104 66 [a0, a1, a2, a3, a4, .int x, a6, a7, a8] (.int x :: st) hp := qv_iload (i := 5) mdc_104 dX3_laysLead_64 rfl rfl rfl
theorem eX3_laysLead_66 {d : Nat} {a0 a1 a2 a3 a4 a5 a6 a7 a8 : Value} {x y : Int32} {st : List Value} {hp : qzH} : qzV d 104 66 [a0, a1, a2, a3, a4, a5, a6, a7, a8] (.int y :: .int x :: st) hp = if x ≤ y then qzV d 104 74 [a0, a1, a2, a3, a4, a5, a6, a7, a8] (st) hp else qzV d 104 69 [a0, a1, a2, a3, a4, a5, a6, a7, a8] (st) hp := qv_if2 mdc_104 dX3_laysLead_66 rfl rfl rfl
theorem eX3_laysLead_69 {d : Nat} {a0 a1 a2 a3 a4 a5 a6 a7 : Value} {x : Int32} {st : List Value} {hp : qzH} : qzV d 104 69 [a0, a1, a2, a3, a4, a5, a6, a7, .int x] (st) hp = qzV d 104 71 [a0, a1, a2, a3, a4, a5, a6, a7, .int x] (.int x :: st) hp := qv_iload (i := 8) mdc_104 dX3_laysLead_69 rfl rfl rfl
theorem eX3_laysLead_71 {d : Nat} {a0 a1 a2 a3 a4 a5 a6 a7 a8 : Value} {st : List Value} {hp : qzH} : qzV d 104 71 [a0, a1, a2, a3, a4, a5, a6, a7, a8] (st) hp = qzV d 104 76 [a0, a1, a2, a3, a4, a5, a6, a7, a8] (st) hp := qv_goto mdc_104 dX3_laysLead_71 rfl
theorem eX3_laysLead_74 {d : Nat} {a0 a1 a2 a3 a4 a6 a7 a8 : Value} {x : Int32} {st : List Value} {hp : qzH} : qzV d 104 74 [a0, a1, a2, a3, a4, .int x, a6, a7, a8] (st) hp = qzV d 104 76 [a0, a1, a2, a3, a4, .int x, a6, a7, a8] (.int x :: st) hp := qv_iload (i := 5) mdc_104 dX3_laysLead_74 rfl rfl rfl
theorem eX3_laysLead_76 {d : Nat} {a0 a1 a2 a3 a4 a5 a6 a7 a8 : Value} {x : Int32} {st : List Value} {hp : qzH} : qzV d 104 76 [a0, a1, a2, a3, a4, a5, a6, a7, a8] (.int x :: st) hp = qzV d 104 78 [a0, a1, a2, a3, a4, .int x, a6, a7, a8] (st) hp := qv_istore (i := 5) mdc_104 dX3_laysLead_76 rfl (Nat.le_of_ble_eq_true rfl) rfl rfl
theorem eX3_laysLead_78 {d : Nat} {a0 a1 a2 a3 a4 a5 a7 a8 : Value} {x : Int32} {st : List Value} {hp : qzH} : qzV d 104 78 [a0, a1, a2, a3, a4, a5, .int x, a7, a8] (st) hp = qzV d 104 81 [a0, a1, a2, a3, a4, a5, .int (x + 1), a7, a8] (st) hp := qv_iinc mdc_104 dX3_laysLead_78 rfl il_1 rfl rfl
theorem eX3_laysLead_81 {d : Nat} {a0 a1 a2 a3 a4 a5 a6 a7 a8 : Value} {st : List Value} {hp : qzH} : qzV d 104 81 [a0, a1, a2, a3, a4, a5, a6, a7, a8] (st) hp = qzV d 104 8 [a0, a1, a2, a3, a4, a5, a6, a7, a8] (st) hp := qv_goto mdc_104 dX3_laysLead_81 rfl
theorem eX3_laysLead_84 {d : Nat} {a1 a2 a3 a4 a5 a6 a7 a8 : Value} {x : Nat} {st : List Value} {hp : qzH} : qzV d 104 84 [.ref x, a1, a2, a3, a4, a5, a6, a7, a8] (st) hp = qzV d 104 85 [.ref x, a1, a2, a3, a4, a5, a6, a7, a8] (.ref x :: st) hp := qv_aload (i := 0) mdc_104 dX3_laysLead_84 rfl rfl rfl
theorem eX3_laysLead_85 {d : Nat} {a0 a1 a2 a3 a4 a5 a6 a7 a8 : Value} {a : Nat} {st : List Value} {hp : qzH} (ha : qzArr 3 a hp.1 = true) : qzV d 104 85 [a0, a1, a2, a3, a4, a5, a6, a7, a8] (.ref a :: st) hp = qzV d 104 88 [a0, a1, a2, a3, a4, a5, a6, a7, a8] (va_rf (hp.2.1 a 8) :: st) hp := qv_getR mdc_104 dX3_laysLead_85 mdo_104 qff_3_25 ⟨by decide, rfl⟩ rfl ha
theorem eX3_laysLead_88 {d : Nat} {a0 a1 a2 a3 a4 a5 a6 a7 a8 : Value} {st : List Value} {hp : qzH} : qzV d 104 88 [a0, a1, a2, a3, a4, a5, a6, a7, a8] (st) hp = qzV d 104 90 [a0, a1, a2, a3, a4, a5, a6, a7, a8] (.int 49 :: st) hp := qv_bipush mdc_104 dX3_laysLead_88 ib_49 rfl
theorem eX3_laysLead_90 {d : Nat} {a0 a2 a3 a4 a5 a6 a7 a8 : Value} {x : Int32} {st : List Value} {hp : qzH} : qzV d 104 90 [a0, .int x, a2, a3, a4, a5, a6, a7, a8] (st) hp = qzV d 104 91 [a0, .int x, a2, a3, a4, a5, a6, a7, a8] (.int x :: st) hp := qv_iload (i := 1) mdc_104 dX3_laysLead_90 rfl rfl rfl
theorem eX3_laysLead_91 {d : Nat} {a0 a1 a3 a4 a5 a6 a7 a8 : Value} {x : Int32} {st : List Value} {hp : qzH} : qzV d 104 91 [a0, a1, .int x, a3, a4, a5, a6, a7, a8] (st) hp = qzV d 104 92 [a0, a1, .int x, a3, a4, a5, a6, a7, a8] (.int x :: st) hp := qv_iload (i := 2) mdc_104 dX3_laysLead_91 rfl rfl rfl
theorem eX3_laysLead_92 {d : Nat} {a0 a1 a2 a3 a4 a5 a6 a7 a8 : Value} {w0 w1 : Value} {st : List Value} {hp : qzH} (h8 : st.length ≤ 8) : qzV (d + 1) 104 92 [a0, a1, a2, a3, a4, a5, a6, a7, a8] (w1 :: w0 :: st) hp = (qzC d 100 [w0, w1] hp).bind (fun r => qzV (d + 1) 104 95 [a0, a1, a2, a3, a4, a5, a6, a7, a8] (r.1.toList ++ st) r.2) := qv_calls (n := 2) mdc_104 dX3_laysLead_92 mdo_104 (by decide) qfc_3_66 ⟨rfl, by decide, rfl⟩ rfl ⟨rfl, rfl, by simp only [List.length_cons]; omega⟩ h8
theorem eX3_laysLead_95 {d : Nat} {a0 a1 a2 a3 a4 a5 a6 a7 a8 : Value} {x y : Int32} {st : List Value} {hp : qzH} : qzV d 104 95 [a0, a1, a2, a3, a4, a5, a6, a7, a8] (.int y :: .int x :: st) hp = qzV d 104 96 [a0, a1, a2, a3, a4, a5, a6, a7, a8] (.int (x * y) :: st) hp := qv_bin (f := fun x y => x * y) mdc_104 dX3_laysLead_95 rfl rfl
theorem eX3_laysLead_96 {d : Nat} {a0 a1 a2 a3 a4 a5 a6 a7 a8 : Value} {st : List Value} {hp : qzH} : qzV d 104 96 [a0, a1, a2, a3, a4, a5, a6, a7, a8] (st) hp = qzV d 104 98 [a0, a1, a2, a3, a4, a5, a6, a7, a8] (.int 7 :: st) hp := qv_bipush mdc_104 dX3_laysLead_96 ib_7 rfl
theorem eX3_laysLead_98 {d : Nat} {a0 a1 a2 a4 a5 a6 a7 a8 : Value} {x : Int32} {st : List Value} {hp : qzH} : qzV d 104 98 [a0, a1, a2, .int x, a4, a5, a6, a7, a8] (st) hp = qzV d 104 99 [a0, a1, a2, .int x, a4, a5, a6, a7, a8] (.int x :: st) hp := qv_iload (i := 3) mdc_104 dX3_laysLead_98 rfl rfl rfl
theorem eX3_laysLead_99 {d : Nat} {a0 a1 a2 a3 a4 a5 a6 a7 a8 : Value} {x y : Int32} {st : List Value} {hp : qzH} : qzV d 104 99 [a0, a1, a2, a3, a4, a5, a6, a7, a8] (.int y :: .int x :: st) hp = qzV d 104 100 [a0, a1, a2, a3, a4, a5, a6, a7, a8] (.int (x * y) :: st) hp := qv_bin (f := fun x y => x * y) mdc_104 dX3_laysLead_99 rfl rfl
theorem eX3_laysLead_100 {d : Nat} {a0 a1 a2 a3 a4 a5 a6 a7 a8 : Value} {x y : Int32} {st : List Value} {hp : qzH} : qzV d 104 100 [a0, a1, a2, a3, a4, a5, a6, a7, a8] (.int y :: .int x :: st) hp = qzV d 104 101 [a0, a1, a2, a3, a4, a5, a6, a7, a8] (.int (x + y) :: st) hp := qv_bin (f := fun x y => x + y) mdc_104 dX3_laysLead_100 rfl rfl
theorem eX3_laysLead_101 {d : Nat} {a0 a1 a2 a3 a5 a6 a7 a8 : Value} {x : Int32} {st : List Value} {hp : qzH} : qzV d 104 101 [a0, a1, a2, a3, .int x, a5, a6, a7, a8] (st) hp = qzV d 104 103 [a0, a1, a2, a3, .int x, a5, a6, a7, a8] (.int x :: st) hp := qv_iload (i := 4) mdc_104 dX3_laysLead_101 rfl rfl rfl
theorem eX3_laysLead_103 {d : Nat} {a0 a1 a2 a3 a4 a5 a6 a7 a8 : Value} {x y : Int32} {st : List Value} {hp : qzH} : qzV d 104 103 [a0, a1, a2, a3, a4, a5, a6, a7, a8] (.int y :: .int x :: st) hp = qzV d 104 104 [a0, a1, a2, a3, a4, a5, a6, a7, a8] (.int (x + y) :: st) hp := qv_bin (f := fun x y => x + y) mdc_104 dX3_laysLead_103 rfl rfl
theorem eX3_laysLead_104 {d : Nat} {a0 a1 a2 a3 a4 a6 a7 a8 : Value} {x : Int32} {st : List Value} {hp : qzH} : qzV d 104 104 [a0, a1, a2, a3, a4, .int x, a6, a7, a8] (st) hp = qzV d 104 106 [a0, a1, a2, a3, a4, .int x, a6, a7, a8] (.int x :: st) hp := qv_iload (i := 5) mdc_104 dX3_laysLead_104 rfl rfl rfl
theorem eX3_laysLead_106 {d : Nat} {a0 a1 a2 a3 a4 a5 a6 a7 a8 : Value} {i x : Int32} {a : Nat} {st : List Value} {hp : qzH} (ha : qzArr 4 a hp.1 = true) (hi : qzIn i (qzk a).2 = true) : qzV d 104 106 [a0, a1, a2, a3, a4, a5, a6, a7, a8] (.int x :: .int i :: .ref a :: st) hp = qzV d 104 107 [a0, a1, a2, a3, a4, a5, a6, a7, a8] st (hp.1, hp.2.1, qzUp hp.2.2 a i.toNatClampNeg x) := qv_iast mdc_104 dX3_laysLead_106 rfl ha hi
theorem eX3_laysLead_107 {d : Nat} {a0 a1 a2 a3 a4 a5 a6 a7 a8 : Value} {hp : qzH} : qzV d 104 107 [a0, a1, a2, a3, a4, a5, a6, a7, a8] [] hp = some (none, hp) := qv_vret mdc_104 dX3_laysLead_107 mdr_104
theorem dX3_laysLeads_0 : decode cX3_laysLeads 0 = .ok (.iconst 1, 1) := by decide +kernel
theorem dX3_laysLeads_1 : decode cX3_laysLeads 1 = .ok (.istore_n 1, 1) := by decide +kernel
theorem dX3_laysLeads_2 : decode cX3_laysLeads 2 = .ok (.iload_n 1, 1) := by decide +kernel
theorem dX3_laysLeads_3 : decode cX3_laysLeads 3 = .ok (.aload_n 0, 1) := by decide +kernel
theorem dX3_laysLeads_4 : decode cX3_laysLeads 4 = .ok (.getfield 7, 3) := by decide +kernel
theorem dX3_laysLeads_7 : decode cX3_laysLeads 7 = .ok (.iconst 0, 1) := by decide +kernel
theorem dX3_laysLeads_8 : decode cX3_laysLeads 8 = .ok (.iaload, 1) := by decide +kernel
theorem dX3_laysLeads_9 : decode cX3_laysLeads 9 = .ok (.if_icmp .gt 57, 3) := by decide +kernel
theorem dX3_laysLeads_12 : decode cX3_laysLeads 12 = .ok (.iconst 0, 1) := by decide +kernel
theorem dX3_laysLeads_13 : decode cX3_laysLeads 13 = .ok (.istore_n 2, 1) := by decide +kernel
theorem dX3_laysLeads_14 : decode cX3_laysLeads 14 = .ok (.iload_n 2, 1) := by decide +kernel
theorem dX3_laysLeads_15 : decode cX3_laysLeads 15 = .ok (.iload_n 1, 1) := by decide +kernel
theorem dX3_laysLeads_16 : decode cX3_laysLeads 16 = .ok (.iadd, 1) := by decide +kernel
theorem dX3_laysLeads_17 : decode cX3_laysLeads 17 = .ok (.aload_n 0, 1) := by decide +kernel
theorem dX3_laysLeads_18 : decode cX3_laysLeads 18 = .ok (.getfield 7, 3) := by decide +kernel
theorem dX3_laysLeads_21 : decode cX3_laysLeads 21 = .ok (.iconst 0, 1) := by decide +kernel
theorem dX3_laysLeads_22 : decode cX3_laysLeads 22 = .ok (.iaload, 1) := by decide +kernel
theorem dX3_laysLeads_23 : decode cX3_laysLeads 23 = .ok (.if_icmp .gt 37, 3) := by decide +kernel
theorem dX3_laysLeads_26 : decode cX3_laysLeads 26 = .ok (.iconst 0, 1) := by decide +kernel
theorem dX3_laysLeads_27 : decode cX3_laysLeads 27 = .ok (.istore_n 3, 1) := by decide +kernel
theorem dX3_laysLeads_28 : decode cX3_laysLeads 28 = .ok (.iload_n 3, 1) := by decide +kernel
theorem dX3_laysLeads_29 : decode cX3_laysLeads 29 = .ok (.bipush 49, 2) := by decide +kernel
theorem dX3_laysLeads_31 : decode cX3_laysLeads 31 = .ok (.if_icmp .ge 23, 3) := by decide +kernel
theorem dX3_laysLeads_34 : decode cX3_laysLeads 34 = .ok (.aload_n 0, 1) := by decide +kernel
theorem dX3_laysLeads_35 : decode cX3_laysLeads 35 = .ok (.iload_n 2, 1) := by decide +kernel
theorem dX3_laysLeads_36 : decode cX3_laysLeads 36 = .ok (.iload_n 1, 1) := by decide +kernel
theorem dX3_laysLeads_37 : decode cX3_laysLeads 37 = .ok (.iload_n 3, 1) := by decide +kernel
theorem dX3_laysLeads_38 : decode cX3_laysLeads 38 = .ok (.bipush 7, 2) := by decide +kernel
theorem dX3_laysLeads_40 : decode cX3_laysLeads 40 = .ok (.idiv, 1) := by decide +kernel
theorem dX3_laysLeads_41 : decode cX3_laysLeads 41 = .ok (.iload_n 3, 1) := by decide +kernel
theorem dX3_laysLeads_42 : decode cX3_laysLeads 42 = .ok (.bipush 7, 2) := by decide +kernel
theorem dX3_laysLeads_44 : decode cX3_laysLeads 44 = .ok (.irem, 1) := by decide +kernel
theorem dX3_laysLeads_45 : decode cX3_laysLeads 45 = .ok (.invokevirtual 81, 3) := by decide +kernel
theorem dX3_laysLeads_48 : decode cX3_laysLeads 48 = .ok (.iinc 3 1, 3) := by decide +kernel
theorem dX3_laysLeads_51 : decode cX3_laysLeads 51 = .ok (.goto (-23), 3) := by decide +kernel
theorem dX3_laysLeads_54 : decode cX3_laysLeads 54 = .ok (.iinc 2 1, 3) := by decide +kernel
theorem dX3_laysLeads_57 : decode cX3_laysLeads 57 = .ok (.goto (-43), 3) := by decide +kernel
theorem dX3_laysLeads_60 : decode cX3_laysLeads 60 = .ok (.iinc 1 1, 3) := by decide +kernel
theorem dX3_laysLeads_63 : decode cX3_laysLeads 63 = .ok (.goto (-61), 3) := by decide +kernel
theorem dX3_laysLeads_66 : decode cX3_laysLeads 66 = .ok (.return_, 1) := by decide +kernel
theorem eX3_laysLeads_0 {d : Nat} {a0 a1 a2 a3 : Value} {st : List Value} {hp : qzH} : qzV d 105 0 [a0, a1, a2, a3] (st) hp = qzV d 105 1 [a0, a1, a2, a3] (.int 1 :: st) hp := qv_iconst mdc_105 dX3_laysLeads_0 il_1 rfl
theorem eX3_laysLeads_1 {d : Nat} {a0 a1 a2 a3 : Value} {x : Int32} {st : List Value} {hp : qzH} : qzV d 105 1 [a0, a1, a2, a3] (.int x :: st) hp = qzV d 105 2 [a0, .int x, a2, a3] (st) hp := qv_istore (i := 1) mdc_105 dX3_laysLeads_1 rfl (Nat.le_of_ble_eq_true rfl) rfl rfl
theorem eX3_laysLeads_2 {d : Nat} {a0 a2 a3 : Value} {x : Int32} {st : List Value} {hp : qzH} : qzV d 105 2 [a0, .int x, a2, a3] (st) hp = qzV d 105 3 [a0, .int x, a2, a3] (.int x :: st) hp := qv_iload (i := 1) mdc_105 dX3_laysLeads_2 rfl rfl rfl
theorem eX3_laysLeads_3 {d : Nat} {a1 a2 a3 : Value} {x : Nat} {st : List Value} {hp : qzH} : qzV d 105 3 [.ref x, a1, a2, a3] (st) hp = qzV d 105 4 [.ref x, a1, a2, a3] (.ref x :: st) hp := qv_aload (i := 0) mdc_105 dX3_laysLeads_3 rfl rfl rfl
theorem eX3_laysLeads_4 {d : Nat} {a0 a1 a2 a3 : Value} {a : Nat} {st : List Value} {hp : qzH} (ha : qzArr 3 a hp.1 = true) : qzV d 105 4 [a0, a1, a2, a3] (.ref a :: st) hp = qzV d 105 7 [a0, a1, a2, a3] (va_rf (hp.2.1 a 0) :: st) hp := qv_getR mdc_105 dX3_laysLeads_4 mdo_105 qff_3_7 ⟨by decide, rfl⟩ rfl ha
theorem eX3_laysLeads_7 {d : Nat} {a0 a1 a2 a3 : Value} {st : List Value} {hp : qzH} : qzV d 105 7 [a0, a1, a2, a3] (st) hp = qzV d 105 8 [a0, a1, a2, a3] (.int 0 :: st) hp := qv_iconst mdc_105 dX3_laysLeads_7 il_0 rfl
theorem eX3_laysLeads_8 {d : Nat} {a0 a1 a2 a3 : Value} {i : Int32} {a : Nat} {st : List Value} {hp : qzH} (ha : qzArr 4 a hp.1 = true) (hi : qzIn i (qzk a).2 = true) : qzV d 105 8 [a0, a1, a2, a3] (.int i :: .ref a :: st) hp = qzV d 105 9 [a0, a1, a2, a3] (.int (hp.2.2 a i.toNatClampNeg) :: st) hp := qv_iald mdc_105 dX3_laysLeads_8 rfl ha hi
theorem eX3_laysLeads_9 {d : Nat} {a0 a1 a2 a3 : Value} {x y : Int32} {st : List Value} {hp : qzH} : qzV d 105 9 [a0, a1, a2, a3] (.int y :: .int x :: st) hp = if y < x then qzV d 105 66 [a0, a1, a2, a3] (st) hp else qzV d 105 12 [a0, a1, a2, a3] (st) hp := qv_if2 mdc_105 dX3_laysLeads_9 rfl rfl rfl
theorem eX3_laysLeads_12 {d : Nat} {a0 a1 a2 a3 : Value} {st : List Value} {hp : qzH} : qzV d 105 12 [a0, a1, a2, a3] (st) hp = qzV d 105 13 [a0, a1, a2, a3] (.int 0 :: st) hp := qv_iconst mdc_105 dX3_laysLeads_12 il_0 rfl
theorem eX3_laysLeads_13 {d : Nat} {a0 a1 a2 a3 : Value} {x : Int32} {st : List Value} {hp : qzH} : qzV d 105 13 [a0, a1, a2, a3] (.int x :: st) hp = qzV d 105 14 [a0, a1, .int x, a3] (st) hp := qv_istore (i := 2) mdc_105 dX3_laysLeads_13 rfl (Nat.le_of_ble_eq_true rfl) rfl rfl
theorem eX3_laysLeads_14 {d : Nat} {a0 a1 a3 : Value} {x : Int32} {st : List Value} {hp : qzH} : qzV d 105 14 [a0, a1, .int x, a3] (st) hp = qzV d 105 15 [a0, a1, .int x, a3] (.int x :: st) hp := qv_iload (i := 2) mdc_105 dX3_laysLeads_14 rfl rfl rfl
theorem eX3_laysLeads_15 {d : Nat} {a0 a2 a3 : Value} {x : Int32} {st : List Value} {hp : qzH} : qzV d 105 15 [a0, .int x, a2, a3] (st) hp = qzV d 105 16 [a0, .int x, a2, a3] (.int x :: st) hp := qv_iload (i := 1) mdc_105 dX3_laysLeads_15 rfl rfl rfl
theorem eX3_laysLeads_16 {d : Nat} {a0 a1 a2 a3 : Value} {x y : Int32} {st : List Value} {hp : qzH} : qzV d 105 16 [a0, a1, a2, a3] (.int y :: .int x :: st) hp = qzV d 105 17 [a0, a1, a2, a3] (.int (x + y) :: st) hp := qv_bin (f := fun x y => x + y) mdc_105 dX3_laysLeads_16 rfl rfl
theorem eX3_laysLeads_17 {d : Nat} {a1 a2 a3 : Value} {x : Nat} {st : List Value} {hp : qzH} : qzV d 105 17 [.ref x, a1, a2, a3] (st) hp = qzV d 105 18 [.ref x, a1, a2, a3] (.ref x :: st) hp := qv_aload (i := 0) mdc_105 dX3_laysLeads_17 rfl rfl rfl
theorem eX3_laysLeads_18 {d : Nat} {a0 a1 a2 a3 : Value} {a : Nat} {st : List Value} {hp : qzH} (ha : qzArr 3 a hp.1 = true) : qzV d 105 18 [a0, a1, a2, a3] (.ref a :: st) hp = qzV d 105 21 [a0, a1, a2, a3] (va_rf (hp.2.1 a 0) :: st) hp := qv_getR mdc_105 dX3_laysLeads_18 mdo_105 qff_3_7 ⟨by decide, rfl⟩ rfl ha
theorem eX3_laysLeads_21 {d : Nat} {a0 a1 a2 a3 : Value} {st : List Value} {hp : qzH} : qzV d 105 21 [a0, a1, a2, a3] (st) hp = qzV d 105 22 [a0, a1, a2, a3] (.int 0 :: st) hp := qv_iconst mdc_105 dX3_laysLeads_21 il_0 rfl
theorem eX3_laysLeads_22 {d : Nat} {a0 a1 a2 a3 : Value} {i : Int32} {a : Nat} {st : List Value} {hp : qzH} (ha : qzArr 4 a hp.1 = true) (hi : qzIn i (qzk a).2 = true) : qzV d 105 22 [a0, a1, a2, a3] (.int i :: .ref a :: st) hp = qzV d 105 23 [a0, a1, a2, a3] (.int (hp.2.2 a i.toNatClampNeg) :: st) hp := qv_iald mdc_105 dX3_laysLeads_22 rfl ha hi
theorem eX3_laysLeads_23 {d : Nat} {a0 a1 a2 a3 : Value} {x y : Int32} {st : List Value} {hp : qzH} : qzV d 105 23 [a0, a1, a2, a3] (.int y :: .int x :: st) hp = if y < x then qzV d 105 60 [a0, a1, a2, a3] (st) hp else qzV d 105 26 [a0, a1, a2, a3] (st) hp := qv_if2 mdc_105 dX3_laysLeads_23 rfl rfl rfl
theorem eX3_laysLeads_26 {d : Nat} {a0 a1 a2 a3 : Value} {st : List Value} {hp : qzH} : qzV d 105 26 [a0, a1, a2, a3] (st) hp = qzV d 105 27 [a0, a1, a2, a3] (.int 0 :: st) hp := qv_iconst mdc_105 dX3_laysLeads_26 il_0 rfl
theorem eX3_laysLeads_27 {d : Nat} {a0 a1 a2 a3 : Value} {x : Int32} {st : List Value} {hp : qzH} : qzV d 105 27 [a0, a1, a2, a3] (.int x :: st) hp = qzV d 105 28 [a0, a1, a2, .int x] (st) hp := qv_istore (i := 3) mdc_105 dX3_laysLeads_27 rfl (Nat.le_of_ble_eq_true rfl) rfl rfl
theorem eX3_laysLeads_28 {d : Nat} {a0 a1 a2 : Value} {x : Int32} {st : List Value} {hp : qzH} : qzV d 105 28 [a0, a1, a2, .int x] (st) hp = qzV d 105 29 [a0, a1, a2, .int x] (.int x :: st) hp := qv_iload (i := 3) mdc_105 dX3_laysLeads_28 rfl rfl rfl
theorem eX3_laysLeads_29 {d : Nat} {a0 a1 a2 a3 : Value} {st : List Value} {hp : qzH} : qzV d 105 29 [a0, a1, a2, a3] (st) hp = qzV d 105 31 [a0, a1, a2, a3] (.int 49 :: st) hp := qv_bipush mdc_105 dX3_laysLeads_29 ib_49 rfl
theorem eX3_laysLeads_31 {d : Nat} {a0 a1 a2 a3 : Value} {x y : Int32} {st : List Value} {hp : qzH} : qzV d 105 31 [a0, a1, a2, a3] (.int y :: .int x :: st) hp = if y ≤ x then qzV d 105 54 [a0, a1, a2, a3] (st) hp else qzV d 105 34 [a0, a1, a2, a3] (st) hp := qv_if2 mdc_105 dX3_laysLeads_31 rfl rfl rfl
theorem eX3_laysLeads_34 {d : Nat} {a1 a2 a3 : Value} {x : Nat} {st : List Value} {hp : qzH} : qzV d 105 34 [.ref x, a1, a2, a3] (st) hp = qzV d 105 35 [.ref x, a1, a2, a3] (.ref x :: st) hp := qv_aload (i := 0) mdc_105 dX3_laysLeads_34 rfl rfl rfl
theorem eX3_laysLeads_35 {d : Nat} {a0 a1 a3 : Value} {x : Int32} {st : List Value} {hp : qzH} : qzV d 105 35 [a0, a1, .int x, a3] (st) hp = qzV d 105 36 [a0, a1, .int x, a3] (.int x :: st) hp := qv_iload (i := 2) mdc_105 dX3_laysLeads_35 rfl rfl rfl
theorem eX3_laysLeads_36 {d : Nat} {a0 a2 a3 : Value} {x : Int32} {st : List Value} {hp : qzH} : qzV d 105 36 [a0, .int x, a2, a3] (st) hp = qzV d 105 37 [a0, .int x, a2, a3] (.int x :: st) hp := qv_iload (i := 1) mdc_105 dX3_laysLeads_36 rfl rfl rfl
theorem eX3_laysLeads_37 {d : Nat} {a0 a1 a2 : Value} {x : Int32} {st : List Value} {hp : qzH} : qzV d 105 37 [a0, a1, a2, .int x] (st) hp = qzV d 105 38 [a0, a1, a2, .int x] (.int x :: st) hp := qv_iload (i := 3) mdc_105 dX3_laysLeads_37 rfl rfl rfl
theorem eX3_laysLeads_38 {d : Nat} {a0 a1 a2 a3 : Value} {st : List Value} {hp : qzH} : qzV d 105 38 [a0, a1, a2, a3] (st) hp = qzV d 105 40 [a0, a1, a2, a3] (.int 7 :: st) hp := qv_bipush mdc_105 dX3_laysLeads_38 ib_7 rfl
theorem eX3_laysLeads_40 {d : Nat} {a0 a1 a2 a3 : Value} {x y : Int32} {st : List Value} {hp : qzH} (hy : ¬ y = 0) : qzV d 105 40 [a0, a1, a2, a3] (.int y :: .int x :: st) hp = qzV d 105 41 [a0, a1, a2, a3] (.int (x / y) :: st) hp := qv_binD (f := fun x y => x / y) mdc_105 dX3_laysLeads_40 rfl rfl hy
theorem eX3_laysLeads_41 {d : Nat} {a0 a1 a2 : Value} {x : Int32} {st : List Value} {hp : qzH} : qzV d 105 41 [a0, a1, a2, .int x] (st) hp = qzV d 105 42 [a0, a1, a2, .int x] (.int x :: st) hp := qv_iload (i := 3) mdc_105 dX3_laysLeads_41 rfl rfl rfl
theorem eX3_laysLeads_42 {d : Nat} {a0 a1 a2 a3 : Value} {st : List Value} {hp : qzH} : qzV d 105 42 [a0, a1, a2, a3] (st) hp = qzV d 105 44 [a0, a1, a2, a3] (.int 7 :: st) hp := qv_bipush mdc_105 dX3_laysLeads_42 ib_7 rfl
theorem eX3_laysLeads_44 {d : Nat} {a0 a1 a2 a3 : Value} {x y : Int32} {st : List Value} {hp : qzH} (hy : ¬ y = 0) : qzV d 105 44 [a0, a1, a2, a3] (.int y :: .int x :: st) hp = qzV d 105 45 [a0, a1, a2, a3] (.int (x - x / y * y) :: st) hp := qv_binD (f := fun x y => x - x / y * y) mdc_105 dX3_laysLeads_44 rfl rfl hy
theorem eX3_laysLeads_45 {d : Nat} {a0 a1 a2 a3 : Value} {w0 w1 w2 w3 : Value} {b : Nat} {st : List Value} {hp : qzH} (h8 : st.length ≤ 8) (hb : qzArr 3 b hp.1 = true) : qzV (d + 1) 105 45 [a0, a1, a2, a3] (w3 :: w2 :: w1 :: w0 :: .ref b :: st) hp = (qzC d 104 (.ref b :: [w0, w1, w2, w3]) hp).bind (fun r => qzV (d + 1) 105 48 [a0, a1, a2, a3] (r.1.toList ++ st) r.2) := qv_callv (n := 4) mdc_105 dX3_laysLeads_45 mdo_105 (by decide) qfc_3_81 ⟨rfl, by decide, rfl⟩ rfl ⟨rfl, rfl, by simp only [List.length_cons]; omega⟩ h8 hb
theorem eX3_laysLeads_48 {d : Nat} {a0 a1 a2 : Value} {x : Int32} {st : List Value} {hp : qzH} : qzV d 105 48 [a0, a1, a2, .int x] (st) hp = qzV d 105 51 [a0, a1, a2, .int (x + 1)] (st) hp := qv_iinc mdc_105 dX3_laysLeads_48 rfl il_1 rfl rfl
theorem eX3_laysLeads_51 {d : Nat} {a0 a1 a2 a3 : Value} {st : List Value} {hp : qzH} : qzV d 105 51 [a0, a1, a2, a3] (st) hp = qzV d 105 28 [a0, a1, a2, a3] (st) hp := qv_goto mdc_105 dX3_laysLeads_51 rfl
theorem eX3_laysLeads_54 {d : Nat} {a0 a1 a3 : Value} {x : Int32} {st : List Value} {hp : qzH} : qzV d 105 54 [a0, a1, .int x, a3] (st) hp = qzV d 105 57 [a0, a1, .int (x + 1), a3] (st) hp := qv_iinc mdc_105 dX3_laysLeads_54 rfl il_1 rfl rfl
theorem eX3_laysLeads_57 {d : Nat} {a0 a1 a2 a3 : Value} {st : List Value} {hp : qzH} : qzV d 105 57 [a0, a1, a2, a3] (st) hp = qzV d 105 14 [a0, a1, a2, a3] (st) hp := qv_goto mdc_105 dX3_laysLeads_57 rfl
theorem eX3_laysLeads_60 {d : Nat} {a0 a2 a3 : Value} {x : Int32} {st : List Value} {hp : qzH} : qzV d 105 60 [a0, .int x, a2, a3] (st) hp = qzV d 105 63 [a0, .int (x + 1), a2, a3] (st) hp := qv_iinc mdc_105 dX3_laysLeads_60 rfl il_1 rfl rfl
theorem eX3_laysLeads_63 {d : Nat} {a0 a1 a2 a3 : Value} {st : List Value} {hp : qzH} : qzV d 105 63 [a0, a1, a2, a3] (st) hp = qzV d 105 2 [a0, a1, a2, a3] (st) hp := qv_goto mdc_105 dX3_laysLeads_63 rfl
theorem eX3_laysLeads_66 {d : Nat} {a0 a1 a2 a3 : Value} {hp : qzH} : qzV d 105 66 [a0, a1, a2, a3] [] hp = some (none, hp) := qv_vret mdc_105 dX3_laysLeads_66 mdr_105
theorem dX3_own_0 : decode cX3_own 0 = .ok (.aload_n 0, 1) := by decide +kernel
theorem dX3_own_1 : decode cX3_own 1 = .ok (.aload_n 0, 1) := by decide +kernel
theorem dX3_own_2 : decode cX3_own 2 = .ok (.getfield 7, 3) := by decide +kernel
theorem dX3_own_5 : decode cX3_own 5 = .ok (.iconst 3, 1) := by decide +kernel
theorem dX3_own_6 : decode cX3_own 6 = .ok (.iaload, 1) := by decide +kernel
theorem dX3_own_7 : decode cX3_own 7 = .ok (.iconst 3, 1) := by decide +kernel
theorem dX3_own_8 : decode cX3_own 8 = .ok (.invokevirtual 50, 3) := by decide +kernel
theorem dX3_own_11 : decode cX3_own 11 = .ok (.ireturn, 1) := by decide +kernel
theorem eX3_own_0 {d : Nat} {x : Nat} {st : List Value} {hp : qzH} : qzV d 106 0 [.ref x] (st) hp = qzV d 106 1 [.ref x] (.ref x :: st) hp := qv_aload (i := 0) mdc_106 dX3_own_0 rfl rfl rfl
theorem eX3_own_1 {d : Nat} {x : Nat} {st : List Value} {hp : qzH} : qzV d 106 1 [.ref x] (st) hp = qzV d 106 2 [.ref x] (.ref x :: st) hp := qv_aload (i := 0) mdc_106 dX3_own_1 rfl rfl rfl
theorem eX3_own_2 {d : Nat} {a0 : Value} {a : Nat} {st : List Value} {hp : qzH} (ha : qzArr 3 a hp.1 = true) : qzV d 106 2 [a0] (.ref a :: st) hp = qzV d 106 5 [a0] (va_rf (hp.2.1 a 0) :: st) hp := qv_getR mdc_106 dX3_own_2 mdo_106 qff_3_7 ⟨by decide, rfl⟩ rfl ha
theorem eX3_own_5 {d : Nat} {a0 : Value} {st : List Value} {hp : qzH} : qzV d 106 5 [a0] (st) hp = qzV d 106 6 [a0] (.int 3 :: st) hp := qv_iconst mdc_106 dX3_own_5 il_3 rfl
theorem eX3_own_6 {d : Nat} {a0 : Value} {i : Int32} {a : Nat} {st : List Value} {hp : qzH} (ha : qzArr 4 a hp.1 = true) (hi : qzIn i (qzk a).2 = true) : qzV d 106 6 [a0] (.int i :: .ref a :: st) hp = qzV d 106 7 [a0] (.int (hp.2.2 a i.toNatClampNeg) :: st) hp := qv_iald mdc_106 dX3_own_6 rfl ha hi
theorem eX3_own_7 {d : Nat} {a0 : Value} {st : List Value} {hp : qzH} : qzV d 106 7 [a0] (st) hp = qzV d 106 8 [a0] (.int 3 :: st) hp := qv_iconst mdc_106 dX3_own_7 il_3 rfl
theorem eX3_own_8 {d : Nat} {a0 : Value} {w0 w1 : Value} {b : Nat} {st : List Value} {hp : qzH} (h8 : st.length ≤ 8) (hb : qzArr 3 b hp.1 = true) : qzV (d + 1) 106 8 [a0] (w1 :: w0 :: .ref b :: st) hp = (qzC d 91 (.ref b :: [w0, w1]) hp).bind (fun r => qzV (d + 1) 106 11 [a0] (r.1.toList ++ st) r.2) := qv_callv (n := 2) mdc_106 dX3_own_8 mdo_106 (by decide) qfc_3_50 ⟨rfl, by decide, rfl⟩ rfl ⟨rfl, rfl, by simp only [List.length_cons]; omega⟩ h8 hb
theorem eX3_own_11 {d : Nat} {a0 : Value} {v : Int32} {hp : qzH} : qzV d 106 11 [a0] [.int v] hp = some (some (.int v), hp) := qv_iret mdc_106 dX3_own_11 mdr_106 rfl
theorem dX3_others_0 : decode cX3_others 0 = .ok (.aload_n 0, 1) := by decide +kernel
theorem dX3_others_1 : decode cX3_others 1 = .ok (.iconst 1, 1) := by decide +kernel
theorem dX3_others_2 : decode cX3_others 2 = .ok (.aload_n 0, 1) := by decide +kernel
theorem dX3_others_3 : decode cX3_others 3 = .ok (.getfield 7, 3) := by decide +kernel
theorem dX3_others_6 : decode cX3_others 6 = .ok (.iconst 3, 1) := by decide +kernel
theorem dX3_others_7 : decode cX3_others 7 = .ok (.iaload, 1) := by decide +kernel
theorem dX3_others_8 : decode cX3_others 8 = .ok (.isub, 1) := by decide +kernel
theorem dX3_others_9 : decode cX3_others 9 = .ok (.iconst 3, 1) := by decide +kernel
theorem dX3_others_10 : decode cX3_others 10 = .ok (.invokevirtual 50, 3) := by decide +kernel
theorem dX3_others_13 : decode cX3_others 13 = .ok (.ireturn, 1) := by decide +kernel
theorem eX3_others_0 {d : Nat} {x : Nat} {st : List Value} {hp : qzH} : qzV d 107 0 [.ref x] (st) hp = qzV d 107 1 [.ref x] (.ref x :: st) hp := qv_aload (i := 0) mdc_107 dX3_others_0 rfl rfl rfl
theorem eX3_others_1 {d : Nat} {a0 : Value} {st : List Value} {hp : qzH} : qzV d 107 1 [a0] (st) hp = qzV d 107 2 [a0] (.int 1 :: st) hp := qv_iconst mdc_107 dX3_others_1 il_1 rfl
theorem eX3_others_2 {d : Nat} {x : Nat} {st : List Value} {hp : qzH} : qzV d 107 2 [.ref x] (st) hp = qzV d 107 3 [.ref x] (.ref x :: st) hp := qv_aload (i := 0) mdc_107 dX3_others_2 rfl rfl rfl
theorem eX3_others_3 {d : Nat} {a0 : Value} {a : Nat} {st : List Value} {hp : qzH} (ha : qzArr 3 a hp.1 = true) : qzV d 107 3 [a0] (.ref a :: st) hp = qzV d 107 6 [a0] (va_rf (hp.2.1 a 0) :: st) hp := qv_getR mdc_107 dX3_others_3 mdo_107 qff_3_7 ⟨by decide, rfl⟩ rfl ha
theorem eX3_others_6 {d : Nat} {a0 : Value} {st : List Value} {hp : qzH} : qzV d 107 6 [a0] (st) hp = qzV d 107 7 [a0] (.int 3 :: st) hp := qv_iconst mdc_107 dX3_others_6 il_3 rfl
theorem eX3_others_7 {d : Nat} {a0 : Value} {i : Int32} {a : Nat} {st : List Value} {hp : qzH} (ha : qzArr 4 a hp.1 = true) (hi : qzIn i (qzk a).2 = true) : qzV d 107 7 [a0] (.int i :: .ref a :: st) hp = qzV d 107 8 [a0] (.int (hp.2.2 a i.toNatClampNeg) :: st) hp := qv_iald mdc_107 dX3_others_7 rfl ha hi
theorem eX3_others_8 {d : Nat} {a0 : Value} {x y : Int32} {st : List Value} {hp : qzH} : qzV d 107 8 [a0] (.int y :: .int x :: st) hp = qzV d 107 9 [a0] (.int (x - y) :: st) hp := qv_bin (f := fun x y => x - y) mdc_107 dX3_others_8 rfl rfl
theorem eX3_others_9 {d : Nat} {a0 : Value} {st : List Value} {hp : qzH} : qzV d 107 9 [a0] (st) hp = qzV d 107 10 [a0] (.int 3 :: st) hp := qv_iconst mdc_107 dX3_others_9 il_3 rfl
theorem eX3_others_10 {d : Nat} {a0 : Value} {w0 w1 : Value} {b : Nat} {st : List Value} {hp : qzH} (h8 : st.length ≤ 8) (hb : qzArr 3 b hp.1 = true) : qzV (d + 1) 107 10 [a0] (w1 :: w0 :: .ref b :: st) hp = (qzC d 91 (.ref b :: [w0, w1]) hp).bind (fun r => qzV (d + 1) 107 13 [a0] (r.1.toList ++ st) r.2) := qv_callv (n := 2) mdc_107 dX3_others_10 mdo_107 (by decide) qfc_3_50 ⟨rfl, by decide, rfl⟩ rfl ⟨rfl, rfl, by simp only [List.length_cons]; omega⟩ h8 hb
theorem eX3_others_13 {d : Nat} {a0 : Value} {v : Int32} {hp : qzH} : qzV d 107 13 [a0] [.int v] hp = some (some (.int v), hp) := qv_iret mdc_107 dX3_others_13 mdr_107 rfl
theorem dX3_choice_0 : decode cX3_choice 0 = .ok (.bipush (-4), 2) := by decide +kernel
theorem dX3_choice_2 : decode cX3_choice 2 = .ok (.istore_n 2, 1) := by decide +kernel
theorem dX3_choice_3 : decode cX3_choice 3 = .ok (.iconst 0, 1) := by decide +kernel
theorem dX3_choice_4 : decode cX3_choice 4 = .ok (.istore_n 3, 1) := by decide +kernel
theorem dX3_choice_5 : decode cX3_choice 5 = .ok (.iconst 0, 1) := by decide +kernel
theorem dX3_choice_6 : decode cX3_choice 6 = .ok (.istore 4, 2) := by decide +kernel
theorem dX3_choice_8 : decode cX3_choice 8 = .ok (.iload 4, 2) := by decide +kernel
theorem dX3_choice_10 : decode cX3_choice 10 = .ok (.iconst 2, 1) := by decide +kernel
theorem dX3_choice_11 : decode cX3_choice 11 = .ok (.aload_n 0, 1) := by decide +kernel
theorem dX3_choice_12 : decode cX3_choice 12 = .ok (.aload_n 0, 1) := by decide +kernel
theorem dX3_choice_13 : decode cX3_choice 13 = .ok (.getfield 7, 3) := by decide +kernel
theorem dX3_choice_16 : decode cX3_choice 16 = .ok (.iconst 2, 1) := by decide +kernel
theorem dX3_choice_17 : decode cX3_choice 17 = .ok (.iaload, 1) := by decide +kernel
theorem dX3_choice_18 : decode cX3_choice 18 = .ok (.invokevirtual 73, 3) := by decide +kernel
theorem dX3_choice_21 : decode cX3_choice 21 = .ok (.imul, 1) := by decide +kernel
theorem dX3_choice_22 : decode cX3_choice 22 = .ok (.if_icmp .ge 173, 3) := by decide +kernel
theorem dX3_choice_25 : decode cX3_choice 25 = .ok (.iload 4, 2) := by decide +kernel
theorem dX3_choice_27 : decode cX3_choice 27 = .ok (.aload_n 0, 1) := by decide +kernel
theorem dX3_choice_28 : decode cX3_choice 28 = .ok (.aload_n 0, 1) := by decide +kernel
theorem dX3_choice_29 : decode cX3_choice 29 = .ok (.getfield 7, 3) := by decide +kernel
theorem dX3_choice_32 : decode cX3_choice 32 = .ok (.iconst 2, 1) := by decide +kernel
theorem dX3_choice_33 : decode cX3_choice 33 = .ok (.iaload, 1) := by decide +kernel
theorem dX3_choice_34 : decode cX3_choice 34 = .ok (.invokevirtual 73, 3) := by decide +kernel
theorem dX3_choice_37 : decode cX3_choice 37 = .ok (.if_icmp .ge 7, 3) := by decide +kernel
theorem dX3_choice_40 : decode cX3_choice 40 = .ok (.iconst 1, 1) := by decide +kernel
theorem dX3_choice_41 : decode cX3_choice 41 = .ok (.goto 4, 3) := by decide +kernel
theorem dX3_choice_44 : decode cX3_choice 44 = .ok (.iconst 0, 1) := by decide +kernel
theorem dX3_choice_45 : decode cX3_choice 45 = .ok (.istore 5, 2) := by decide +kernel
theorem dX3_choice_47 : decode cX3_choice 47 = .ok (.iload 4, 2) := by decide +kernel
theorem dX3_choice_49 : decode cX3_choice 49 = .ok (.aload_n 0, 1) := by decide +kernel
theorem dX3_choice_50 : decode cX3_choice 50 = .ok (.aload_n 0, 1) := by decide +kernel
theorem dX3_choice_51 : decode cX3_choice 51 = .ok (.getfield 7, 3) := by decide +kernel
theorem dX3_choice_54 : decode cX3_choice 54 = .ok (.iconst 2, 1) := by decide +kernel
theorem dX3_choice_55 : decode cX3_choice 55 = .ok (.iaload, 1) := by decide +kernel
theorem dX3_choice_56 : decode cX3_choice 56 = .ok (.invokevirtual 73, 3) := by decide +kernel
theorem dX3_choice_59 : decode cX3_choice 59 = .ok (.irem, 1) := by decide +kernel
theorem dX3_choice_60 : decode cX3_choice 60 = .ok (.iconst 1, 1) := by decide +kernel
theorem dX3_choice_61 : decode cX3_choice 61 = .ok (.iadd, 1) := by decide +kernel
theorem dX3_choice_62 : decode cX3_choice 62 = .ok (.istore 6, 2) := by decide +kernel
theorem dX3_choice_64 : decode cX3_choice 64 = .ok (.aload_n 0, 1) := by decide +kernel
theorem dX3_choice_65 : decode cX3_choice 65 = .ok (.getfield 7, 3) := by decide +kernel
theorem dX3_choice_68 : decode cX3_choice 68 = .ok (.iconst 1, 1) := by decide +kernel
theorem dX3_choice_69 : decode cX3_choice 69 = .ok (.iaload, 1) := by decide +kernel
theorem dX3_choice_70 : decode cX3_choice 70 = .ok (.aload_n 0, 1) := by decide +kernel
theorem dX3_choice_71 : decode cX3_choice 71 = .ok (.getfield 7, 3) := by decide +kernel
theorem dX3_choice_74 : decode cX3_choice 74 = .ok (.iconst 2, 1) := by decide +kernel
theorem dX3_choice_75 : decode cX3_choice 75 = .ok (.iaload, 1) := by decide +kernel
theorem dX3_choice_76 : decode cX3_choice 76 = .ok (.iload 6, 2) := by decide +kernel
theorem dX3_choice_78 : decode cX3_choice 78 = .ok (.iload 5, 2) := by decide +kernel
theorem dX3_choice_80 : decode cX3_choice 80 = .ok (.invokestatic 46, 3) := by decide +kernel
theorem dX3_choice_83 : decode cX3_choice 83 = .ok (.istore 7, 2) := by decide +kernel
theorem dX3_choice_85 : decode cX3_choice 85 = .ok (.iload_n 1, 1) := by decide +kernel
theorem dX3_choice_86 : decode cX3_choice 86 = .ok (.ifCond .eq 18, 3) := by decide +kernel
theorem dX3_choice_89 : decode cX3_choice 89 = .ok (.aload_n 0, 1) := by decide +kernel
theorem dX3_choice_90 : decode cX3_choice 90 = .ok (.iload 7, 2) := by decide +kernel
theorem dX3_choice_92 : decode cX3_choice 92 = .ok (.iload 6, 2) := by decide +kernel
theorem dX3_choice_94 : decode cX3_choice 94 = .ok (.aload_n 0, 1) := by decide +kernel
theorem dX3_choice_95 : decode cX3_choice 95 = .ok (.invokevirtual 85, 3) := by decide +kernel
theorem dX3_choice_98 : decode cX3_choice 98 = .ok (.invokevirtual 54, 3) := by decide +kernel
theorem dX3_choice_101 : decode cX3_choice 101 = .ok (.goto 31, 3) := by decide +kernel
theorem dX3_choice_104 : decode cX3_choice 104 = .ok (.aload_n 0, 1) := by decide +kernel
theorem dX3_choice_105 : decode cX3_choice 105 = .ok (.aload_n 0, 1) := by decide +kernel
theorem dX3_choice_106 : decode cX3_choice 106 = .ok (.getfield 7, 3) := by decide +kernel
theorem dX3_choice_109 : decode cX3_choice 109 = .ok (.iconst 1, 1) := by decide +kernel
theorem dX3_choice_110 : decode cX3_choice 110 = .ok (.iaload, 1) := by decide +kernel
theorem dX3_choice_111 : decode cX3_choice 111 = .ok (.aload_n 0, 1) := by decide +kernel
theorem dX3_choice_112 : decode cX3_choice 112 = .ok (.getfield 7, 3) := by decide +kernel
theorem dX3_choice_115 : decode cX3_choice 115 = .ok (.iconst 2, 1) := by decide +kernel
theorem dX3_choice_116 : decode cX3_choice 116 = .ok (.iaload, 1) := by decide +kernel
theorem dX3_choice_117 : decode cX3_choice 117 = .ok (.aload_n 0, 1) := by decide +kernel
theorem dX3_choice_118 : decode cX3_choice 118 = .ok (.invokevirtual 85, 3) := by decide +kernel
theorem dX3_choice_121 : decode cX3_choice 121 = .ok (.aload_n 0, 1) := by decide +kernel
theorem dX3_choice_122 : decode cX3_choice 122 = .ok (.invokevirtual 89, 3) := by decide +kernel
theorem dX3_choice_125 : decode cX3_choice 125 = .ok (.iload 6, 2) := by decide +kernel
theorem dX3_choice_127 : decode cX3_choice 127 = .ok (.iload 5, 2) := by decide +kernel
theorem dX3_choice_129 : decode cX3_choice 129 = .ok (.invokevirtual 77, 3) := by decide +kernel
theorem dX3_choice_132 : decode cX3_choice 132 = .ok (.istore 8, 2) := by decide +kernel
theorem dX3_choice_134 : decode cX3_choice 134 = .ok (.iload_n 2, 1) := by decide +kernel
theorem dX3_choice_135 : decode cX3_choice 135 = .ok (.bipush (-4), 2) := by decide +kernel
theorem dX3_choice_137 : decode cX3_choice 137 = .ok (.if_icmp .eq 9, 3) := by decide +kernel
theorem dX3_choice_140 : decode cX3_choice 140 = .ok (.iload 8, 2) := by decide +kernel
theorem dX3_choice_142 : decode cX3_choice 142 = .ok (.iload_n 3, 1) := by decide +kernel
theorem dX3_choice_143 : decode cX3_choice 143 = .ok (.if_icmp .le 7, 3) := by decide +kernel
theorem dX3_choice_146 : decode cX3_choice 146 = .ok (.iconst 1, 1) := by decide +kernel
theorem dX3_choice_147 : decode cX3_choice 147 = .ok (.goto 4, 3) := by decide +kernel
theorem dX3_choice_150 : decode cX3_choice 150 = .ok (.iconst 0, 1) := by decide +kernel
theorem dX3_choice_151 : decode cX3_choice 151 = .ok (.istore 9, 2) := by decide +kernel
theorem dX3_choice_153 : decode cX3_choice 153 = .ok (.iload 9, 2) := by decide +kernel
theorem dX3_choice_155 : decode cX3_choice 155 = .ok (.ifCond .eq 20, 3) := by decide +kernel
theorem dX3_choice_158 : decode cX3_choice 158 = .ok (.iload 6, 2) := by decide +kernel
theorem dX3_choice_160 : decode cX3_choice 160 = .ok (.iload 5, 2) := by decide +kernel
theorem dX3_choice_162 : decode cX3_choice 162 = .ok (.ifCond .eq 7, 3) := by decide +kernel
theorem dX3_choice_165 : decode cX3_choice 165 = .ok (.iconst 0, 1) := by decide +kernel
theorem dX3_choice_166 : decode cX3_choice 166 = .ok (.goto 5, 3) := by decide +kernel
theorem dX3_choice_169 : decode cX3_choice 169 = .ok (.bipush 10, 2) := by decide +kernel
theorem dX3_choice_171 : decode cX3_choice 171 = .ok (.iadd, 1) := by decide +kernel
theorem dX3_choice_172 : decode cX3_choice 172 = .ok (.goto 4, 3) := by decide +kernel
theorem dX3_choice_175 : decode cX3_choice 175 = .ok (.iload_n 2, 1) := by decide +kernel
theorem dX3_choice_176 : decode cX3_choice 176 = .ok (.istore_n 2, 1) := by decide +kernel
theorem dX3_choice_177 : decode cX3_choice 177 = .ok (.iload 9, 2) := by decide +kernel
theorem dX3_choice_179 : decode cX3_choice 179 = .ok (.ifCond .eq 8, 3) := by decide +kernel
theorem dX3_choice_182 : decode cX3_choice 182 = .ok (.iload 8, 2) := by decide +kernel
theorem dX3_choice_184 : decode cX3_choice 184 = .ok (.goto 4, 3) := by decide +kernel
theorem dX3_choice_187 : decode cX3_choice 187 = .ok (.iload_n 3, 1) := by decide +kernel
theorem dX3_choice_188 : decode cX3_choice 188 = .ok (.istore_n 3, 1) := by decide +kernel
theorem dX3_choice_189 : decode cX3_choice 189 = .ok (.iinc 4 1, 3) := by decide +kernel
theorem dX3_choice_192 : decode cX3_choice 192 = .ok (.goto (-184), 3) := by decide +kernel
theorem dX3_choice_195 : decode cX3_choice 195 = .ok (.iload_n 2, 1) := by decide +kernel
theorem dX3_choice_196 : decode cX3_choice 196 = .ok (.ireturn, 1) := by decide +kernel
theorem eX3_choice_0 {d : Nat} {a0 a1 a2 a3 a4 a5 a6 a7 a8 a9 : Value} {st : List Value} {hp : qzH} : qzV d 108 0 [a0, a1, a2, a3, a4, a5, a6, a7, a8, a9] (st) hp = qzV d 108 2 [a0, a1, a2, a3, a4, a5, a6, a7, a8, a9] (.int (-4) :: st) hp := qv_bipush mdc_108 dX3_choice_0 ib_m4 rfl
theorem eX3_choice_2 {d : Nat} {a0 a1 a2 a3 a4 a5 a6 a7 a8 a9 : Value} {x : Int32} {st : List Value} {hp : qzH} : qzV d 108 2 [a0, a1, a2, a3, a4, a5, a6, a7, a8, a9] (.int x :: st) hp = qzV d 108 3 [a0, a1, .int x, a3, a4, a5, a6, a7, a8, a9] (st) hp := qv_istore (i := 2) mdc_108 dX3_choice_2 rfl (Nat.le_of_ble_eq_true rfl) rfl rfl
theorem eX3_choice_3 {d : Nat} {a0 a1 a2 a3 a4 a5 a6 a7 a8 a9 : Value} {st : List Value} {hp : qzH} : qzV d 108 3 [a0, a1, a2, a3, a4, a5, a6, a7, a8, a9] (st) hp = qzV d 108 4 [a0, a1, a2, a3, a4, a5, a6, a7, a8, a9] (.int 0 :: st) hp := qv_iconst mdc_108 dX3_choice_3 il_0 rfl
theorem eX3_choice_4 {d : Nat} {a0 a1 a2 a3 a4 a5 a6 a7 a8 a9 : Value} {x : Int32} {st : List Value} {hp : qzH} : qzV d 108 4 [a0, a1, a2, a3, a4, a5, a6, a7, a8, a9] (.int x :: st) hp = qzV d 108 5 [a0, a1, a2, .int x, a4, a5, a6, a7, a8, a9] (st) hp := qv_istore (i := 3) mdc_108 dX3_choice_4 rfl (Nat.le_of_ble_eq_true rfl) rfl rfl
theorem eX3_choice_5 {d : Nat} {a0 a1 a2 a3 a4 a5 a6 a7 a8 a9 : Value} {st : List Value} {hp : qzH} : qzV d 108 5 [a0, a1, a2, a3, a4, a5, a6, a7, a8, a9] (st) hp = qzV d 108 6 [a0, a1, a2, a3, a4, a5, a6, a7, a8, a9] (.int 0 :: st) hp := qv_iconst mdc_108 dX3_choice_5 il_0 rfl
theorem eX3_choice_6 {d : Nat} {a0 a1 a2 a3 a4 a5 a6 a7 a8 a9 : Value} {x : Int32} {st : List Value} {hp : qzH} : qzV d 108 6 [a0, a1, a2, a3, a4, a5, a6, a7, a8, a9] (.int x :: st) hp = qzV d 108 8 [a0, a1, a2, a3, .int x, a5, a6, a7, a8, a9] (st) hp := qv_istore (i := 4) mdc_108 dX3_choice_6 rfl (Nat.le_of_ble_eq_true rfl) rfl rfl
theorem eX3_choice_8 {d : Nat} {a0 a1 a2 a3 a5 a6 a7 a8 a9 : Value} {x : Int32} {st : List Value} {hp : qzH} : qzV d 108 8 [a0, a1, a2, a3, .int x, a5, a6, a7, a8, a9] (st) hp = qzV d 108 10 [a0, a1, a2, a3, .int x, a5, a6, a7, a8, a9] (.int x :: st) hp := qv_iload (i := 4) mdc_108 dX3_choice_8 rfl rfl rfl
theorem eX3_choice_10 {d : Nat} {a0 a1 a2 a3 a4 a5 a6 a7 a8 a9 : Value} {st : List Value} {hp : qzH} : qzV d 108 10 [a0, a1, a2, a3, a4, a5, a6, a7, a8, a9] (st) hp = qzV d 108 11 [a0, a1, a2, a3, a4, a5, a6, a7, a8, a9] (.int 2 :: st) hp := qv_iconst mdc_108 dX3_choice_10 il_2 rfl
theorem eX3_choice_11 {d : Nat} {a1 a2 a3 a4 a5 a6 a7 a8 a9 : Value} {x : Nat} {st : List Value} {hp : qzH} : qzV d 108 11 [.ref x, a1, a2, a3, a4, a5, a6, a7, a8, a9] (st) hp = qzV d 108 12 [.ref x, a1, a2, a3, a4, a5, a6, a7, a8, a9] (.ref x :: st) hp := qv_aload (i := 0) mdc_108 dX3_choice_11 rfl rfl rfl
theorem eX3_choice_12 {d : Nat} {a1 a2 a3 a4 a5 a6 a7 a8 a9 : Value} {x : Nat} {st : List Value} {hp : qzH} : qzV d 108 12 [.ref x, a1, a2, a3, a4, a5, a6, a7, a8, a9] (st) hp = qzV d 108 13 [.ref x, a1, a2, a3, a4, a5, a6, a7, a8, a9] (.ref x :: st) hp := qv_aload (i := 0) mdc_108 dX3_choice_12 rfl rfl rfl
theorem eX3_choice_13 {d : Nat} {a0 a1 a2 a3 a4 a5 a6 a7 a8 a9 : Value} {a : Nat} {st : List Value} {hp : qzH} (ha : qzArr 3 a hp.1 = true) : qzV d 108 13 [a0, a1, a2, a3, a4, a5, a6, a7, a8, a9] (.ref a :: st) hp = qzV d 108 16 [a0, a1, a2, a3, a4, a5, a6, a7, a8, a9] (va_rf (hp.2.1 a 0) :: st) hp := qv_getR mdc_108 dX3_choice_13 mdo_108 qff_3_7 ⟨by decide, rfl⟩ rfl ha
theorem eX3_choice_16 {d : Nat} {a0 a1 a2 a3 a4 a5 a6 a7 a8 a9 : Value} {st : List Value} {hp : qzH} : qzV d 108 16 [a0, a1, a2, a3, a4, a5, a6, a7, a8, a9] (st) hp = qzV d 108 17 [a0, a1, a2, a3, a4, a5, a6, a7, a8, a9] (.int 2 :: st) hp := qv_iconst mdc_108 dX3_choice_16 il_2 rfl
theorem eX3_choice_17 {d : Nat} {a0 a1 a2 a3 a4 a5 a6 a7 a8 a9 : Value} {i : Int32} {a : Nat} {st : List Value} {hp : qzH} (ha : qzArr 4 a hp.1 = true) (hi : qzIn i (qzk a).2 = true) : qzV d 108 17 [a0, a1, a2, a3, a4, a5, a6, a7, a8, a9] (.int i :: .ref a :: st) hp = qzV d 108 18 [a0, a1, a2, a3, a4, a5, a6, a7, a8, a9] (.int (hp.2.2 a i.toNatClampNeg) :: st) hp := qv_iald mdc_108 dX3_choice_17 rfl ha hi
theorem eX3_choice_18 {d : Nat} {a0 a1 a2 a3 a4 a5 a6 a7 a8 a9 : Value} {w0 : Value} {b : Nat} {st : List Value} {hp : qzH} (h8 : st.length ≤ 8) (hb : qzArr 3 b hp.1 = true) : qzV (d + 1) 108 18 [a0, a1, a2, a3, a4, a5, a6, a7, a8, a9] (w0 :: .ref b :: st) hp = (qzC d 102 (.ref b :: [w0]) hp).bind (fun r => qzV (d + 1) 108 21 [a0, a1, a2, a3, a4, a5, a6, a7, a8, a9] (r.1.toList ++ st) r.2) := qv_callv (n := 1) mdc_108 dX3_choice_18 mdo_108 (by decide) qfc_3_73 ⟨rfl, by decide, rfl⟩ rfl ⟨rfl, rfl, by simp only [List.length_cons]; omega⟩ h8 hb
theorem eX3_choice_21 {d : Nat} {a0 a1 a2 a3 a4 a5 a6 a7 a8 a9 : Value} {x y : Int32} {st : List Value} {hp : qzH} : qzV d 108 21 [a0, a1, a2, a3, a4, a5, a6, a7, a8, a9] (.int y :: .int x :: st) hp = qzV d 108 22 [a0, a1, a2, a3, a4, a5, a6, a7, a8, a9] (.int (x * y) :: st) hp := qv_bin (f := fun x y => x * y) mdc_108 dX3_choice_21 rfl rfl
theorem eX3_choice_22 {d : Nat} {a0 a1 a2 a3 a4 a5 a6 a7 a8 a9 : Value} {x y : Int32} {st : List Value} {hp : qzH} : qzV d 108 22 [a0, a1, a2, a3, a4, a5, a6, a7, a8, a9] (.int y :: .int x :: st) hp = if y ≤ x then qzV d 108 195 [a0, a1, a2, a3, a4, a5, a6, a7, a8, a9] (st) hp else qzV d 108 25 [a0, a1, a2, a3, a4, a5, a6, a7, a8, a9] (st) hp := qv_if2 mdc_108 dX3_choice_22 rfl rfl rfl
theorem eX3_choice_25 {d : Nat} {a0 a1 a2 a3 a5 a6 a7 a8 a9 : Value} {x : Int32} {st : List Value} {hp : qzH} : qzV d 108 25 [a0, a1, a2, a3, .int x, a5, a6, a7, a8, a9] (st) hp = qzV d 108 27 [a0, a1, a2, a3, .int x, a5, a6, a7, a8, a9] (.int x :: st) hp := qv_iload (i := 4) mdc_108 dX3_choice_25 rfl rfl rfl
theorem eX3_choice_27 {d : Nat} {a1 a2 a3 a4 a5 a6 a7 a8 a9 : Value} {x : Nat} {st : List Value} {hp : qzH} : qzV d 108 27 [.ref x, a1, a2, a3, a4, a5, a6, a7, a8, a9] (st) hp = qzV d 108 28 [.ref x, a1, a2, a3, a4, a5, a6, a7, a8, a9] (.ref x :: st) hp := qv_aload (i := 0) mdc_108 dX3_choice_27 rfl rfl rfl
theorem eX3_choice_28 {d : Nat} {a1 a2 a3 a4 a5 a6 a7 a8 a9 : Value} {x : Nat} {st : List Value} {hp : qzH} : qzV d 108 28 [.ref x, a1, a2, a3, a4, a5, a6, a7, a8, a9] (st) hp = qzV d 108 29 [.ref x, a1, a2, a3, a4, a5, a6, a7, a8, a9] (.ref x :: st) hp := qv_aload (i := 0) mdc_108 dX3_choice_28 rfl rfl rfl
theorem eX3_choice_29 {d : Nat} {a0 a1 a2 a3 a4 a5 a6 a7 a8 a9 : Value} {a : Nat} {st : List Value} {hp : qzH} (ha : qzArr 3 a hp.1 = true) : qzV d 108 29 [a0, a1, a2, a3, a4, a5, a6, a7, a8, a9] (.ref a :: st) hp = qzV d 108 32 [a0, a1, a2, a3, a4, a5, a6, a7, a8, a9] (va_rf (hp.2.1 a 0) :: st) hp := qv_getR mdc_108 dX3_choice_29 mdo_108 qff_3_7 ⟨by decide, rfl⟩ rfl ha
theorem eX3_choice_32 {d : Nat} {a0 a1 a2 a3 a4 a5 a6 a7 a8 a9 : Value} {st : List Value} {hp : qzH} : qzV d 108 32 [a0, a1, a2, a3, a4, a5, a6, a7, a8, a9] (st) hp = qzV d 108 33 [a0, a1, a2, a3, a4, a5, a6, a7, a8, a9] (.int 2 :: st) hp := qv_iconst mdc_108 dX3_choice_32 il_2 rfl
theorem eX3_choice_33 {d : Nat} {a0 a1 a2 a3 a4 a5 a6 a7 a8 a9 : Value} {i : Int32} {a : Nat} {st : List Value} {hp : qzH} (ha : qzArr 4 a hp.1 = true) (hi : qzIn i (qzk a).2 = true) : qzV d 108 33 [a0, a1, a2, a3, a4, a5, a6, a7, a8, a9] (.int i :: .ref a :: st) hp = qzV d 108 34 [a0, a1, a2, a3, a4, a5, a6, a7, a8, a9] (.int (hp.2.2 a i.toNatClampNeg) :: st) hp := qv_iald mdc_108 dX3_choice_33 rfl ha hi
theorem eX3_choice_34 {d : Nat} {a0 a1 a2 a3 a4 a5 a6 a7 a8 a9 : Value} {w0 : Value} {b : Nat} {st : List Value} {hp : qzH} (h8 : st.length ≤ 8) (hb : qzArr 3 b hp.1 = true) : qzV (d + 1) 108 34 [a0, a1, a2, a3, a4, a5, a6, a7, a8, a9] (w0 :: .ref b :: st) hp = (qzC d 102 (.ref b :: [w0]) hp).bind (fun r => qzV (d + 1) 108 37 [a0, a1, a2, a3, a4, a5, a6, a7, a8, a9] (r.1.toList ++ st) r.2) := qv_callv (n := 1) mdc_108 dX3_choice_34 mdo_108 (by decide) qfc_3_73 ⟨rfl, by decide, rfl⟩ rfl ⟨rfl, rfl, by simp only [List.length_cons]; omega⟩ h8 hb
theorem eX3_choice_37 {d : Nat} {a0 a1 a2 a3 a4 a5 a6 a7 a8 a9 : Value} {x y : Int32} {st : List Value} {hp : qzH} : qzV d 108 37 [a0, a1, a2, a3, a4, a5, a6, a7, a8, a9] (.int y :: .int x :: st) hp = if y ≤ x then qzV d 108 44 [a0, a1, a2, a3, a4, a5, a6, a7, a8, a9] (st) hp else qzV d 108 40 [a0, a1, a2, a3, a4, a5, a6, a7, a8, a9] (st) hp := qv_if2 mdc_108 dX3_choice_37 rfl rfl rfl
theorem eX3_choice_40 {d : Nat} {a0 a1 a2 a3 a4 a5 a6 a7 a8 a9 : Value} {st : List Value} {hp : qzH} : qzV d 108 40 [a0, a1, a2, a3, a4, a5, a6, a7, a8, a9] (st) hp = qzV d 108 41 [a0, a1, a2, a3, a4, a5, a6, a7, a8, a9] (.int 1 :: st) hp := qv_iconst mdc_108 dX3_choice_40 il_1 rfl
theorem eX3_choice_41 {d : Nat} {a0 a1 a2 a3 a4 a5 a6 a7 a8 a9 : Value} {st : List Value} {hp : qzH} : qzV d 108 41 [a0, a1, a2, a3, a4, a5, a6, a7, a8, a9] (st) hp = qzV d 108 45 [a0, a1, a2, a3, a4, a5, a6, a7, a8, a9] (st) hp := qv_goto mdc_108 dX3_choice_41 rfl
theorem eX3_choice_44 {d : Nat} {a0 a1 a2 a3 a4 a5 a6 a7 a8 a9 : Value} {st : List Value} {hp : qzH} : qzV d 108 44 [a0, a1, a2, a3, a4, a5, a6, a7, a8, a9] (st) hp = qzV d 108 45 [a0, a1, a2, a3, a4, a5, a6, a7, a8, a9] (.int 0 :: st) hp := qv_iconst mdc_108 dX3_choice_44 il_0 rfl
theorem eX3_choice_45 {d : Nat} {a0 a1 a2 a3 a4 a5 a6 a7 a8 a9 : Value} {x : Int32} {st : List Value} {hp : qzH} : qzV d 108 45 [a0, a1, a2, a3, a4, a5, a6, a7, a8, a9] (.int x :: st) hp = qzV d 108 47 [a0, a1, a2, a3, a4, .int x, a6, a7, a8, a9] (st) hp := qv_istore (i := 5) mdc_108 dX3_choice_45 rfl (Nat.le_of_ble_eq_true rfl) rfl rfl
theorem eX3_choice_47 {d : Nat} {a0 a1 a2 a3 a5 a6 a7 a8 a9 : Value} {x : Int32} {st : List Value} {hp : qzH} : qzV d 108 47 [a0, a1, a2, a3, .int x, a5, a6, a7, a8, a9] (st) hp = qzV d 108 49 [a0, a1, a2, a3, .int x, a5, a6, a7, a8, a9] (.int x :: st) hp := qv_iload (i := 4) mdc_108 dX3_choice_47 rfl rfl rfl
theorem eX3_choice_49 {d : Nat} {a1 a2 a3 a4 a5 a6 a7 a8 a9 : Value} {x : Nat} {st : List Value} {hp : qzH} : qzV d 108 49 [.ref x, a1, a2, a3, a4, a5, a6, a7, a8, a9] (st) hp = qzV d 108 50 [.ref x, a1, a2, a3, a4, a5, a6, a7, a8, a9] (.ref x :: st) hp := qv_aload (i := 0) mdc_108 dX3_choice_49 rfl rfl rfl
theorem eX3_choice_50 {d : Nat} {a1 a2 a3 a4 a5 a6 a7 a8 a9 : Value} {x : Nat} {st : List Value} {hp : qzH} : qzV d 108 50 [.ref x, a1, a2, a3, a4, a5, a6, a7, a8, a9] (st) hp = qzV d 108 51 [.ref x, a1, a2, a3, a4, a5, a6, a7, a8, a9] (.ref x :: st) hp := qv_aload (i := 0) mdc_108 dX3_choice_50 rfl rfl rfl
theorem eX3_choice_51 {d : Nat} {a0 a1 a2 a3 a4 a5 a6 a7 a8 a9 : Value} {a : Nat} {st : List Value} {hp : qzH} (ha : qzArr 3 a hp.1 = true) : qzV d 108 51 [a0, a1, a2, a3, a4, a5, a6, a7, a8, a9] (.ref a :: st) hp = qzV d 108 54 [a0, a1, a2, a3, a4, a5, a6, a7, a8, a9] (va_rf (hp.2.1 a 0) :: st) hp := qv_getR mdc_108 dX3_choice_51 mdo_108 qff_3_7 ⟨by decide, rfl⟩ rfl ha
theorem eX3_choice_54 {d : Nat} {a0 a1 a2 a3 a4 a5 a6 a7 a8 a9 : Value} {st : List Value} {hp : qzH} : qzV d 108 54 [a0, a1, a2, a3, a4, a5, a6, a7, a8, a9] (st) hp = qzV d 108 55 [a0, a1, a2, a3, a4, a5, a6, a7, a8, a9] (.int 2 :: st) hp := qv_iconst mdc_108 dX3_choice_54 il_2 rfl
theorem eX3_choice_55 {d : Nat} {a0 a1 a2 a3 a4 a5 a6 a7 a8 a9 : Value} {i : Int32} {a : Nat} {st : List Value} {hp : qzH} (ha : qzArr 4 a hp.1 = true) (hi : qzIn i (qzk a).2 = true) : qzV d 108 55 [a0, a1, a2, a3, a4, a5, a6, a7, a8, a9] (.int i :: .ref a :: st) hp = qzV d 108 56 [a0, a1, a2, a3, a4, a5, a6, a7, a8, a9] (.int (hp.2.2 a i.toNatClampNeg) :: st) hp := qv_iald mdc_108 dX3_choice_55 rfl ha hi
theorem eX3_choice_56 {d : Nat} {a0 a1 a2 a3 a4 a5 a6 a7 a8 a9 : Value} {w0 : Value} {b : Nat} {st : List Value} {hp : qzH} (h8 : st.length ≤ 8) (hb : qzArr 3 b hp.1 = true) : qzV (d + 1) 108 56 [a0, a1, a2, a3, a4, a5, a6, a7, a8, a9] (w0 :: .ref b :: st) hp = (qzC d 102 (.ref b :: [w0]) hp).bind (fun r => qzV (d + 1) 108 59 [a0, a1, a2, a3, a4, a5, a6, a7, a8, a9] (r.1.toList ++ st) r.2) := qv_callv (n := 1) mdc_108 dX3_choice_56 mdo_108 (by decide) qfc_3_73 ⟨rfl, by decide, rfl⟩ rfl ⟨rfl, rfl, by simp only [List.length_cons]; omega⟩ h8 hb
theorem eX3_choice_59 {d : Nat} {a0 a1 a2 a3 a4 a5 a6 a7 a8 a9 : Value} {x y : Int32} {st : List Value} {hp : qzH} (hy : ¬ y = 0) : qzV d 108 59 [a0, a1, a2, a3, a4, a5, a6, a7, a8, a9] (.int y :: .int x :: st) hp = qzV d 108 60 [a0, a1, a2, a3, a4, a5, a6, a7, a8, a9] (.int (x - x / y * y) :: st) hp := qv_binD (f := fun x y => x - x / y * y) mdc_108 dX3_choice_59 rfl rfl hy
theorem eX3_choice_60 {d : Nat} {a0 a1 a2 a3 a4 a5 a6 a7 a8 a9 : Value} {st : List Value} {hp : qzH} : qzV d 108 60 [a0, a1, a2, a3, a4, a5, a6, a7, a8, a9] (st) hp = qzV d 108 61 [a0, a1, a2, a3, a4, a5, a6, a7, a8, a9] (.int 1 :: st) hp := qv_iconst mdc_108 dX3_choice_60 il_1 rfl
theorem eX3_choice_61 {d : Nat} {a0 a1 a2 a3 a4 a5 a6 a7 a8 a9 : Value} {x y : Int32} {st : List Value} {hp : qzH} : qzV d 108 61 [a0, a1, a2, a3, a4, a5, a6, a7, a8, a9] (.int y :: .int x :: st) hp = qzV d 108 62 [a0, a1, a2, a3, a4, a5, a6, a7, a8, a9] (.int (x + y) :: st) hp := qv_bin (f := fun x y => x + y) mdc_108 dX3_choice_61 rfl rfl
theorem eX3_choice_62 {d : Nat} {a0 a1 a2 a3 a4 a5 a6 a7 a8 a9 : Value} {x : Int32} {st : List Value} {hp : qzH} : qzV d 108 62 [a0, a1, a2, a3, a4, a5, a6, a7, a8, a9] (.int x :: st) hp = qzV d 108 64 [a0, a1, a2, a3, a4, a5, .int x, a7, a8, a9] (st) hp := qv_istore (i := 6) mdc_108 dX3_choice_62 rfl (Nat.le_of_ble_eq_true rfl) rfl rfl
theorem eX3_choice_64 {d : Nat} {a1 a2 a3 a4 a5 a6 a7 a8 a9 : Value} {x : Nat} {st : List Value} {hp : qzH} : qzV d 108 64 [.ref x, a1, a2, a3, a4, a5, a6, a7, a8, a9] (st) hp = qzV d 108 65 [.ref x, a1, a2, a3, a4, a5, a6, a7, a8, a9] (.ref x :: st) hp := qv_aload (i := 0) mdc_108 dX3_choice_64 rfl rfl rfl
theorem eX3_choice_65 {d : Nat} {a0 a1 a2 a3 a4 a5 a6 a7 a8 a9 : Value} {a : Nat} {st : List Value} {hp : qzH} (ha : qzArr 3 a hp.1 = true) : qzV d 108 65 [a0, a1, a2, a3, a4, a5, a6, a7, a8, a9] (.ref a :: st) hp = qzV d 108 68 [a0, a1, a2, a3, a4, a5, a6, a7, a8, a9] (va_rf (hp.2.1 a 0) :: st) hp := qv_getR mdc_108 dX3_choice_65 mdo_108 qff_3_7 ⟨by decide, rfl⟩ rfl ha
theorem eX3_choice_68 {d : Nat} {a0 a1 a2 a3 a4 a5 a6 a7 a8 a9 : Value} {st : List Value} {hp : qzH} : qzV d 108 68 [a0, a1, a2, a3, a4, a5, a6, a7, a8, a9] (st) hp = qzV d 108 69 [a0, a1, a2, a3, a4, a5, a6, a7, a8, a9] (.int 1 :: st) hp := qv_iconst mdc_108 dX3_choice_68 il_1 rfl
theorem eX3_choice_69 {d : Nat} {a0 a1 a2 a3 a4 a5 a6 a7 a8 a9 : Value} {i : Int32} {a : Nat} {st : List Value} {hp : qzH} (ha : qzArr 4 a hp.1 = true) (hi : qzIn i (qzk a).2 = true) : qzV d 108 69 [a0, a1, a2, a3, a4, a5, a6, a7, a8, a9] (.int i :: .ref a :: st) hp = qzV d 108 70 [a0, a1, a2, a3, a4, a5, a6, a7, a8, a9] (.int (hp.2.2 a i.toNatClampNeg) :: st) hp := qv_iald mdc_108 dX3_choice_69 rfl ha hi
theorem eX3_choice_70 {d : Nat} {a1 a2 a3 a4 a5 a6 a7 a8 a9 : Value} {x : Nat} {st : List Value} {hp : qzH} : qzV d 108 70 [.ref x, a1, a2, a3, a4, a5, a6, a7, a8, a9] (st) hp = qzV d 108 71 [.ref x, a1, a2, a3, a4, a5, a6, a7, a8, a9] (.ref x :: st) hp := qv_aload (i := 0) mdc_108 dX3_choice_70 rfl rfl rfl
theorem eX3_choice_71 {d : Nat} {a0 a1 a2 a3 a4 a5 a6 a7 a8 a9 : Value} {a : Nat} {st : List Value} {hp : qzH} (ha : qzArr 3 a hp.1 = true) : qzV d 108 71 [a0, a1, a2, a3, a4, a5, a6, a7, a8, a9] (.ref a :: st) hp = qzV d 108 74 [a0, a1, a2, a3, a4, a5, a6, a7, a8, a9] (va_rf (hp.2.1 a 0) :: st) hp := qv_getR mdc_108 dX3_choice_71 mdo_108 qff_3_7 ⟨by decide, rfl⟩ rfl ha
theorem eX3_choice_74 {d : Nat} {a0 a1 a2 a3 a4 a5 a6 a7 a8 a9 : Value} {st : List Value} {hp : qzH} : qzV d 108 74 [a0, a1, a2, a3, a4, a5, a6, a7, a8, a9] (st) hp = qzV d 108 75 [a0, a1, a2, a3, a4, a5, a6, a7, a8, a9] (.int 2 :: st) hp := qv_iconst mdc_108 dX3_choice_74 il_2 rfl
theorem eX3_choice_75 {d : Nat} {a0 a1 a2 a3 a4 a5 a6 a7 a8 a9 : Value} {i : Int32} {a : Nat} {st : List Value} {hp : qzH} (ha : qzArr 4 a hp.1 = true) (hi : qzIn i (qzk a).2 = true) : qzV d 108 75 [a0, a1, a2, a3, a4, a5, a6, a7, a8, a9] (.int i :: .ref a :: st) hp = qzV d 108 76 [a0, a1, a2, a3, a4, a5, a6, a7, a8, a9] (.int (hp.2.2 a i.toNatClampNeg) :: st) hp := qv_iald mdc_108 dX3_choice_75 rfl ha hi
theorem eX3_choice_76 {d : Nat} {a0 a1 a2 a3 a4 a5 a7 a8 a9 : Value} {x : Int32} {st : List Value} {hp : qzH} : qzV d 108 76 [a0, a1, a2, a3, a4, a5, .int x, a7, a8, a9] (st) hp = qzV d 108 78 [a0, a1, a2, a3, a4, a5, .int x, a7, a8, a9] (.int x :: st) hp := qv_iload (i := 6) mdc_108 dX3_choice_76 rfl rfl rfl
theorem eX3_choice_78 {d : Nat} {a0 a1 a2 a3 a4 a6 a7 a8 a9 : Value} {x : Int32} {st : List Value} {hp : qzH} : qzV d 108 78 [a0, a1, a2, a3, a4, .int x, a6, a7, a8, a9] (st) hp = qzV d 108 80 [a0, a1, a2, a3, a4, .int x, a6, a7, a8, a9] (.int x :: st) hp := qv_iload (i := 5) mdc_108 dX3_choice_78 rfl rfl rfl
theorem eX3_choice_80 {d : Nat} {a0 a1 a2 a3 a4 a5 a6 a7 a8 a9 : Value} {w0 w1 w2 w3 : Value} {st : List Value} {hp : qzH} (h8 : st.length ≤ 8) : qzV (d + 1) 108 80 [a0, a1, a2, a3, a4, a5, a6, a7, a8, a9] (w3 :: w2 :: w1 :: w0 :: st) hp = (qzC d 94 [w0, w1, w2, w3] hp).bind (fun r => qzV (d + 1) 108 83 [a0, a1, a2, a3, a4, a5, a6, a7, a8, a9] (r.1.toList ++ st) r.2) := qv_calls (n := 4) mdc_108 dX3_choice_80 mdo_108 (by decide) qfc_3_46 ⟨rfl, by decide, rfl⟩ rfl ⟨rfl, rfl, by simp only [List.length_cons]; omega⟩ h8
theorem eX3_choice_83 {d : Nat} {a0 a1 a2 a3 a4 a5 a6 a7 a8 a9 : Value} {x : Int32} {st : List Value} {hp : qzH} : qzV d 108 83 [a0, a1, a2, a3, a4, a5, a6, a7, a8, a9] (.int x :: st) hp = qzV d 108 85 [a0, a1, a2, a3, a4, a5, a6, .int x, a8, a9] (st) hp := qv_istore (i := 7) mdc_108 dX3_choice_83 rfl (Nat.le_of_ble_eq_true rfl) rfl rfl
theorem eX3_choice_85 {d : Nat} {a0 a2 a3 a4 a5 a6 a7 a8 a9 : Value} {x : Int32} {st : List Value} {hp : qzH} : qzV d 108 85 [a0, .int x, a2, a3, a4, a5, a6, a7, a8, a9] (st) hp = qzV d 108 86 [a0, .int x, a2, a3, a4, a5, a6, a7, a8, a9] (.int x :: st) hp := qv_iload (i := 1) mdc_108 dX3_choice_85 rfl rfl rfl
theorem eX3_choice_86 {d : Nat} {a0 a1 a2 a3 a4 a5 a6 a7 a8 a9 : Value} {x : Int32} {st : List Value} {hp : qzH} : qzV d 108 86 [a0, a1, a2, a3, a4, a5, a6, a7, a8, a9] (.int x :: st) hp = if x = 0 then qzV d 108 104 [a0, a1, a2, a3, a4, a5, a6, a7, a8, a9] (st) hp else qzV d 108 89 [a0, a1, a2, a3, a4, a5, a6, a7, a8, a9] (st) hp := qv_if1 mdc_108 dX3_choice_86 rfl rfl rfl
theorem eX3_choice_89 {d : Nat} {a1 a2 a3 a4 a5 a6 a7 a8 a9 : Value} {x : Nat} {st : List Value} {hp : qzH} : qzV d 108 89 [.ref x, a1, a2, a3, a4, a5, a6, a7, a8, a9] (st) hp = qzV d 108 90 [.ref x, a1, a2, a3, a4, a5, a6, a7, a8, a9] (.ref x :: st) hp := qv_aload (i := 0) mdc_108 dX3_choice_89 rfl rfl rfl
theorem eX3_choice_90 {d : Nat} {a0 a1 a2 a3 a4 a5 a6 a8 a9 : Value} {x : Int32} {st : List Value} {hp : qzH} : qzV d 108 90 [a0, a1, a2, a3, a4, a5, a6, .int x, a8, a9] (st) hp = qzV d 108 92 [a0, a1, a2, a3, a4, a5, a6, .int x, a8, a9] (.int x :: st) hp := qv_iload (i := 7) mdc_108 dX3_choice_90 rfl rfl rfl
theorem eX3_choice_92 {d : Nat} {a0 a1 a2 a3 a4 a5 a7 a8 a9 : Value} {x : Int32} {st : List Value} {hp : qzH} : qzV d 108 92 [a0, a1, a2, a3, a4, a5, .int x, a7, a8, a9] (st) hp = qzV d 108 94 [a0, a1, a2, a3, a4, a5, .int x, a7, a8, a9] (.int x :: st) hp := qv_iload (i := 6) mdc_108 dX3_choice_92 rfl rfl rfl
theorem eX3_choice_94 {d : Nat} {a1 a2 a3 a4 a5 a6 a7 a8 a9 : Value} {x : Nat} {st : List Value} {hp : qzH} : qzV d 108 94 [.ref x, a1, a2, a3, a4, a5, a6, a7, a8, a9] (st) hp = qzV d 108 95 [.ref x, a1, a2, a3, a4, a5, a6, a7, a8, a9] (.ref x :: st) hp := qv_aload (i := 0) mdc_108 dX3_choice_94 rfl rfl rfl
theorem eX3_choice_95 {d : Nat} {a0 a1 a2 a3 a4 a5 a6 a7 a8 a9 : Value} {b : Nat} {st : List Value} {hp : qzH} (h8 : st.length ≤ 8) (hb : qzArr 3 b hp.1 = true) : qzV (d + 1) 108 95 [a0, a1, a2, a3, a4, a5, a6, a7, a8, a9] (.ref b :: st) hp = (qzC d 106 (.ref b :: []) hp).bind (fun r => qzV (d + 1) 108 98 [a0, a1, a2, a3, a4, a5, a6, a7, a8, a9] (r.1.toList ++ st) r.2) := qv_callv (n := 0) mdc_108 dX3_choice_95 mdo_108 (by decide) qfc_3_85 ⟨rfl, by decide, rfl⟩ rfl ⟨rfl, rfl, by simp only [List.length_cons]; omega⟩ h8 hb
theorem eX3_choice_98 {d : Nat} {a0 a1 a2 a3 a4 a5 a6 a7 a8 a9 : Value} {w0 w1 w2 : Value} {b : Nat} {st : List Value} {hp : qzH} (h8 : st.length ≤ 8) (hb : qzArr 3 b hp.1 = true) : qzV (d + 1) 108 98 [a0, a1, a2, a3, a4, a5, a6, a7, a8, a9] (w2 :: w1 :: w0 :: .ref b :: st) hp = (qzC d 97 (.ref b :: [w0, w1, w2]) hp).bind (fun r => qzV (d + 1) 108 101 [a0, a1, a2, a3, a4, a5, a6, a7, a8, a9] (r.1.toList ++ st) r.2) := qv_callv (n := 3) mdc_108 dX3_choice_98 mdo_108 (by decide) qfc_3_54 ⟨rfl, by decide, rfl⟩ rfl ⟨rfl, rfl, by simp only [List.length_cons]; omega⟩ h8 hb
theorem eX3_choice_101 {d : Nat} {a0 a1 a2 a3 a4 a5 a6 a7 a8 a9 : Value} {st : List Value} {hp : qzH} : qzV d 108 101 [a0, a1, a2, a3, a4, a5, a6, a7, a8, a9] (st) hp = qzV d 108 132 [a0, a1, a2, a3, a4, a5, a6, a7, a8, a9] (st) hp := qv_goto mdc_108 dX3_choice_101 rfl
theorem eX3_choice_104 {d : Nat} {a1 a2 a3 a4 a5 a6 a7 a8 a9 : Value} {x : Nat} {st : List Value} {hp : qzH} : qzV d 108 104 [.ref x, a1, a2, a3, a4, a5, a6, a7, a8, a9] (st) hp = qzV d 108 105 [.ref x, a1, a2, a3, a4, a5, a6, a7, a8, a9] (.ref x :: st) hp := qv_aload (i := 0) mdc_108 dX3_choice_104 rfl rfl rfl
theorem eX3_choice_105 {d : Nat} {a1 a2 a3 a4 a5 a6 a7 a8 a9 : Value} {x : Nat} {st : List Value} {hp : qzH} : qzV d 108 105 [.ref x, a1, a2, a3, a4, a5, a6, a7, a8, a9] (st) hp = qzV d 108 106 [.ref x, a1, a2, a3, a4, a5, a6, a7, a8, a9] (.ref x :: st) hp := qv_aload (i := 0) mdc_108 dX3_choice_105 rfl rfl rfl
theorem eX3_choice_106 {d : Nat} {a0 a1 a2 a3 a4 a5 a6 a7 a8 a9 : Value} {a : Nat} {st : List Value} {hp : qzH} (ha : qzArr 3 a hp.1 = true) : qzV d 108 106 [a0, a1, a2, a3, a4, a5, a6, a7, a8, a9] (.ref a :: st) hp = qzV d 108 109 [a0, a1, a2, a3, a4, a5, a6, a7, a8, a9] (va_rf (hp.2.1 a 0) :: st) hp := qv_getR mdc_108 dX3_choice_106 mdo_108 qff_3_7 ⟨by decide, rfl⟩ rfl ha
theorem eX3_choice_109 {d : Nat} {a0 a1 a2 a3 a4 a5 a6 a7 a8 a9 : Value} {st : List Value} {hp : qzH} : qzV d 108 109 [a0, a1, a2, a3, a4, a5, a6, a7, a8, a9] (st) hp = qzV d 108 110 [a0, a1, a2, a3, a4, a5, a6, a7, a8, a9] (.int 1 :: st) hp := qv_iconst mdc_108 dX3_choice_109 il_1 rfl
theorem eX3_choice_110 {d : Nat} {a0 a1 a2 a3 a4 a5 a6 a7 a8 a9 : Value} {i : Int32} {a : Nat} {st : List Value} {hp : qzH} (ha : qzArr 4 a hp.1 = true) (hi : qzIn i (qzk a).2 = true) : qzV d 108 110 [a0, a1, a2, a3, a4, a5, a6, a7, a8, a9] (.int i :: .ref a :: st) hp = qzV d 108 111 [a0, a1, a2, a3, a4, a5, a6, a7, a8, a9] (.int (hp.2.2 a i.toNatClampNeg) :: st) hp := qv_iald mdc_108 dX3_choice_110 rfl ha hi
theorem eX3_choice_111 {d : Nat} {a1 a2 a3 a4 a5 a6 a7 a8 a9 : Value} {x : Nat} {st : List Value} {hp : qzH} : qzV d 108 111 [.ref x, a1, a2, a3, a4, a5, a6, a7, a8, a9] (st) hp = qzV d 108 112 [.ref x, a1, a2, a3, a4, a5, a6, a7, a8, a9] (.ref x :: st) hp := qv_aload (i := 0) mdc_108 dX3_choice_111 rfl rfl rfl
theorem eX3_choice_112 {d : Nat} {a0 a1 a2 a3 a4 a5 a6 a7 a8 a9 : Value} {a : Nat} {st : List Value} {hp : qzH} (ha : qzArr 3 a hp.1 = true) : qzV d 108 112 [a0, a1, a2, a3, a4, a5, a6, a7, a8, a9] (.ref a :: st) hp = qzV d 108 115 [a0, a1, a2, a3, a4, a5, a6, a7, a8, a9] (va_rf (hp.2.1 a 0) :: st) hp := qv_getR mdc_108 dX3_choice_112 mdo_108 qff_3_7 ⟨by decide, rfl⟩ rfl ha
theorem eX3_choice_115 {d : Nat} {a0 a1 a2 a3 a4 a5 a6 a7 a8 a9 : Value} {st : List Value} {hp : qzH} : qzV d 108 115 [a0, a1, a2, a3, a4, a5, a6, a7, a8, a9] (st) hp = qzV d 108 116 [a0, a1, a2, a3, a4, a5, a6, a7, a8, a9] (.int 2 :: st) hp := qv_iconst mdc_108 dX3_choice_115 il_2 rfl
theorem eX3_choice_116 {d : Nat} {a0 a1 a2 a3 a4 a5 a6 a7 a8 a9 : Value} {i : Int32} {a : Nat} {st : List Value} {hp : qzH} (ha : qzArr 4 a hp.1 = true) (hi : qzIn i (qzk a).2 = true) : qzV d 108 116 [a0, a1, a2, a3, a4, a5, a6, a7, a8, a9] (.int i :: .ref a :: st) hp = qzV d 108 117 [a0, a1, a2, a3, a4, a5, a6, a7, a8, a9] (.int (hp.2.2 a i.toNatClampNeg) :: st) hp := qv_iald mdc_108 dX3_choice_116 rfl ha hi
theorem eX3_choice_117 {d : Nat} {a1 a2 a3 a4 a5 a6 a7 a8 a9 : Value} {x : Nat} {st : List Value} {hp : qzH} : qzV d 108 117 [.ref x, a1, a2, a3, a4, a5, a6, a7, a8, a9] (st) hp = qzV d 108 118 [.ref x, a1, a2, a3, a4, a5, a6, a7, a8, a9] (.ref x :: st) hp := qv_aload (i := 0) mdc_108 dX3_choice_117 rfl rfl rfl
theorem eX3_choice_118 {d : Nat} {a0 a1 a2 a3 a4 a5 a6 a7 a8 a9 : Value} {b : Nat} {st : List Value} {hp : qzH} (h8 : st.length ≤ 8) (hb : qzArr 3 b hp.1 = true) : qzV (d + 1) 108 118 [a0, a1, a2, a3, a4, a5, a6, a7, a8, a9] (.ref b :: st) hp = (qzC d 106 (.ref b :: []) hp).bind (fun r => qzV (d + 1) 108 121 [a0, a1, a2, a3, a4, a5, a6, a7, a8, a9] (r.1.toList ++ st) r.2) := qv_callv (n := 0) mdc_108 dX3_choice_118 mdo_108 (by decide) qfc_3_85 ⟨rfl, by decide, rfl⟩ rfl ⟨rfl, rfl, by simp only [List.length_cons]; omega⟩ h8 hb
theorem eX3_choice_121 {d : Nat} {a1 a2 a3 a4 a5 a6 a7 a8 a9 : Value} {x : Nat} {st : List Value} {hp : qzH} : qzV d 108 121 [.ref x, a1, a2, a3, a4, a5, a6, a7, a8, a9] (st) hp = qzV d 108 122 [.ref x, a1, a2, a3, a4, a5, a6, a7, a8, a9] (.ref x :: st) hp := qv_aload (i := 0) mdc_108 dX3_choice_121 rfl rfl rfl
theorem eX3_choice_122 {d : Nat} {a0 a1 a2 a3 a4 a5 a6 a7 a8 a9 : Value} {b : Nat} {st : List Value} {hp : qzH} (h8 : st.length ≤ 8) (hb : qzArr 3 b hp.1 = true) : qzV (d + 1) 108 122 [a0, a1, a2, a3, a4, a5, a6, a7, a8, a9] (.ref b :: st) hp = (qzC d 107 (.ref b :: []) hp).bind (fun r => qzV (d + 1) 108 125 [a0, a1, a2, a3, a4, a5, a6, a7, a8, a9] (r.1.toList ++ st) r.2) := qv_callv (n := 0) mdc_108 dX3_choice_122 mdo_108 (by decide) qfc_3_89 ⟨rfl, by decide, rfl⟩ rfl ⟨rfl, rfl, by simp only [List.length_cons]; omega⟩ h8 hb
theorem eX3_choice_125 {d : Nat} {a0 a1 a2 a3 a4 a5 a7 a8 a9 : Value} {x : Int32} {st : List Value} {hp : qzH} : qzV d 108 125 [a0, a1, a2, a3, a4, a5, .int x, a7, a8, a9] (st) hp = qzV d 108 127 [a0, a1, a2, a3, a4, a5, .int x, a7, a8, a9] (.int x :: st) hp := qv_iload (i := 6) mdc_108 dX3_choice_125 rfl rfl rfl
theorem eX3_choice_127 {d : Nat} {a0 a1 a2 a3 a4 a6 a7 a8 a9 : Value} {x : Int32} {st : List Value} {hp : qzH} : qzV d 108 127 [a0, a1, a2, a3, a4, .int x, a6, a7, a8, a9] (st) hp = qzV d 108 129 [a0, a1, a2, a3, a4, .int x, a6, a7, a8, a9] (.int x :: st) hp := qv_iload (i := 5) mdc_108 dX3_choice_127 rfl rfl rfl
theorem eX3_choice_129 {d : Nat} {a0 a1 a2 a3 a4 a5 a6 a7 a8 a9 : Value} {w0 w1 w2 w3 w4 w5 : Value} {b : Nat} {st : List Value} {hp : qzH} (h8 : st.length ≤ 8) (hb : qzArr 3 b hp.1 = true) : qzV (d + 1) 108 129 [a0, a1, a2, a3, a4, a5, a6, a7, a8, a9] (w5 :: w4 :: w3 :: w2 :: w1 :: w0 :: .ref b :: st) hp = (qzC d 103 (.ref b :: [w0, w1, w2, w3, w4, w5]) hp).bind (fun r => qzV (d + 1) 108 132 [a0, a1, a2, a3, a4, a5, a6, a7, a8, a9] (r.1.toList ++ st) r.2) := qv_callv (n := 6) mdc_108 dX3_choice_129 mdo_108 (by decide) qfc_3_77 ⟨rfl, by decide, rfl⟩ rfl ⟨rfl, rfl, by simp only [List.length_cons]; omega⟩ h8 hb
theorem eX3_choice_132 {d : Nat} {a0 a1 a2 a3 a4 a5 a6 a7 a8 a9 : Value} {x : Int32} {st : List Value} {hp : qzH} : qzV d 108 132 [a0, a1, a2, a3, a4, a5, a6, a7, a8, a9] (.int x :: st) hp = qzV d 108 134 [a0, a1, a2, a3, a4, a5, a6, a7, .int x, a9] (st) hp := qv_istore (i := 8) mdc_108 dX3_choice_132 rfl (Nat.le_of_ble_eq_true rfl) rfl rfl
theorem eX3_choice_134 {d : Nat} {a0 a1 a3 a4 a5 a6 a7 a8 a9 : Value} {x : Int32} {st : List Value} {hp : qzH} : qzV d 108 134 [a0, a1, .int x, a3, a4, a5, a6, a7, a8, a9] (st) hp = qzV d 108 135 [a0, a1, .int x, a3, a4, a5, a6, a7, a8, a9] (.int x :: st) hp := qv_iload (i := 2) mdc_108 dX3_choice_134 rfl rfl rfl
theorem eX3_choice_135 {d : Nat} {a0 a1 a2 a3 a4 a5 a6 a7 a8 a9 : Value} {st : List Value} {hp : qzH} : qzV d 108 135 [a0, a1, a2, a3, a4, a5, a6, a7, a8, a9] (st) hp = qzV d 108 137 [a0, a1, a2, a3, a4, a5, a6, a7, a8, a9] (.int (-4) :: st) hp := qv_bipush mdc_108 dX3_choice_135 ib_m4 rfl
theorem eX3_choice_137 {d : Nat} {a0 a1 a2 a3 a4 a5 a6 a7 a8 a9 : Value} {x y : Int32} {st : List Value} {hp : qzH} : qzV d 108 137 [a0, a1, a2, a3, a4, a5, a6, a7, a8, a9] (.int y :: .int x :: st) hp = if x = y then qzV d 108 146 [a0, a1, a2, a3, a4, a5, a6, a7, a8, a9] (st) hp else qzV d 108 140 [a0, a1, a2, a3, a4, a5, a6, a7, a8, a9] (st) hp := qv_if2 mdc_108 dX3_choice_137 rfl rfl rfl
theorem eX3_choice_140 {d : Nat} {a0 a1 a2 a3 a4 a5 a6 a7 a9 : Value} {x : Int32} {st : List Value} {hp : qzH} : qzV d 108 140 [a0, a1, a2, a3, a4, a5, a6, a7, .int x, a9] (st) hp = qzV d 108 142 [a0, a1, a2, a3, a4, a5, a6, a7, .int x, a9] (.int x :: st) hp := qv_iload (i := 8) mdc_108 dX3_choice_140 rfl rfl rfl
theorem eX3_choice_142 {d : Nat} {a0 a1 a2 a4 a5 a6 a7 a8 a9 : Value} {x : Int32} {st : List Value} {hp : qzH} : qzV d 108 142 [a0, a1, a2, .int x, a4, a5, a6, a7, a8, a9] (st) hp = qzV d 108 143 [a0, a1, a2, .int x, a4, a5, a6, a7, a8, a9] (.int x :: st) hp := qv_iload (i := 3) mdc_108 dX3_choice_142 rfl rfl rfl
theorem eX3_choice_143 {d : Nat} {a0 a1 a2 a3 a4 a5 a6 a7 a8 a9 : Value} {x y : Int32} {st : List Value} {hp : qzH} : qzV d 108 143 [a0, a1, a2, a3, a4, a5, a6, a7, a8, a9] (.int y :: .int x :: st) hp = if x ≤ y then qzV d 108 150 [a0, a1, a2, a3, a4, a5, a6, a7, a8, a9] (st) hp else qzV d 108 146 [a0, a1, a2, a3, a4, a5, a6, a7, a8, a9] (st) hp := qv_if2 mdc_108 dX3_choice_143 rfl rfl rfl
theorem eX3_choice_146 {d : Nat} {a0 a1 a2 a3 a4 a5 a6 a7 a8 a9 : Value} {st : List Value} {hp : qzH} : qzV d 108 146 [a0, a1, a2, a3, a4, a5, a6, a7, a8, a9] (st) hp = qzV d 108 147 [a0, a1, a2, a3, a4, a5, a6, a7, a8, a9] (.int 1 :: st) hp := qv_iconst mdc_108 dX3_choice_146 il_1 rfl
theorem eX3_choice_147 {d : Nat} {a0 a1 a2 a3 a4 a5 a6 a7 a8 a9 : Value} {st : List Value} {hp : qzH} : qzV d 108 147 [a0, a1, a2, a3, a4, a5, a6, a7, a8, a9] (st) hp = qzV d 108 151 [a0, a1, a2, a3, a4, a5, a6, a7, a8, a9] (st) hp := qv_goto mdc_108 dX3_choice_147 rfl
theorem eX3_choice_150 {d : Nat} {a0 a1 a2 a3 a4 a5 a6 a7 a8 a9 : Value} {st : List Value} {hp : qzH} : qzV d 108 150 [a0, a1, a2, a3, a4, a5, a6, a7, a8, a9] (st) hp = qzV d 108 151 [a0, a1, a2, a3, a4, a5, a6, a7, a8, a9] (.int 0 :: st) hp := qv_iconst mdc_108 dX3_choice_150 il_0 rfl
theorem eX3_choice_151 {d : Nat} {a0 a1 a2 a3 a4 a5 a6 a7 a8 a9 : Value} {x : Int32} {st : List Value} {hp : qzH} : qzV d 108 151 [a0, a1, a2, a3, a4, a5, a6, a7, a8, a9] (.int x :: st) hp = qzV d 108 153 [a0, a1, a2, a3, a4, a5, a6, a7, a8, .int x] (st) hp := qv_istore (i := 9) mdc_108 dX3_choice_151 rfl (Nat.le_of_ble_eq_true rfl) rfl rfl
theorem eX3_choice_153 {d : Nat} {a0 a1 a2 a3 a4 a5 a6 a7 a8 : Value} {x : Int32} {st : List Value} {hp : qzH} : qzV d 108 153 [a0, a1, a2, a3, a4, a5, a6, a7, a8, .int x] (st) hp = qzV d 108 155 [a0, a1, a2, a3, a4, a5, a6, a7, a8, .int x] (.int x :: st) hp := qv_iload (i := 9) mdc_108 dX3_choice_153 rfl rfl rfl
theorem eX3_choice_155 {d : Nat} {a0 a1 a2 a3 a4 a5 a6 a7 a8 a9 : Value} {x : Int32} {st : List Value} {hp : qzH} : qzV d 108 155 [a0, a1, a2, a3, a4, a5, a6, a7, a8, a9] (.int x :: st) hp = if x = 0 then qzV d 108 175 [a0, a1, a2, a3, a4, a5, a6, a7, a8, a9] (st) hp else qzV d 108 158 [a0, a1, a2, a3, a4, a5, a6, a7, a8, a9] (st) hp := qv_if1 mdc_108 dX3_choice_155 rfl rfl rfl
theorem eX3_choice_158 {d : Nat} {a0 a1 a2 a3 a4 a5 a7 a8 a9 : Value} {x : Int32} {st : List Value} {hp : qzH} : qzV d 108 158 [a0, a1, a2, a3, a4, a5, .int x, a7, a8, a9] (st) hp = qzV d 108 160 [a0, a1, a2, a3, a4, a5, .int x, a7, a8, a9] (.int x :: st) hp := qv_iload (i := 6) mdc_108 dX3_choice_158 rfl rfl rfl
theorem eX3_choice_160 {d : Nat} {a0 a1 a2 a3 a4 a6 a7 a8 a9 : Value} {x : Int32} {st : List Value} {hp : qzH} : qzV d 108 160 [a0, a1, a2, a3, a4, .int x, a6, a7, a8, a9] (st) hp = qzV d 108 162 [a0, a1, a2, a3, a4, .int x, a6, a7, a8, a9] (.int x :: st) hp := qv_iload (i := 5) mdc_108 dX3_choice_160 rfl rfl rfl
theorem eX3_choice_162 {d : Nat} {a0 a1 a2 a3 a4 a5 a6 a7 a8 a9 : Value} {x : Int32} {st : List Value} {hp : qzH} : qzV d 108 162 [a0, a1, a2, a3, a4, a5, a6, a7, a8, a9] (.int x :: st) hp = if x = 0 then qzV d 108 169 [a0, a1, a2, a3, a4, a5, a6, a7, a8, a9] (st) hp else qzV d 108 165 [a0, a1, a2, a3, a4, a5, a6, a7, a8, a9] (st) hp := qv_if1 mdc_108 dX3_choice_162 rfl rfl rfl
theorem eX3_choice_165 {d : Nat} {a0 a1 a2 a3 a4 a5 a6 a7 a8 a9 : Value} {st : List Value} {hp : qzH} : qzV d 108 165 [a0, a1, a2, a3, a4, a5, a6, a7, a8, a9] (st) hp = qzV d 108 166 [a0, a1, a2, a3, a4, a5, a6, a7, a8, a9] (.int 0 :: st) hp := qv_iconst mdc_108 dX3_choice_165 il_0 rfl
theorem eX3_choice_166 {d : Nat} {a0 a1 a2 a3 a4 a5 a6 a7 a8 a9 : Value} {st : List Value} {hp : qzH} : qzV d 108 166 [a0, a1, a2, a3, a4, a5, a6, a7, a8, a9] (st) hp = qzV d 108 171 [a0, a1, a2, a3, a4, a5, a6, a7, a8, a9] (st) hp := qv_goto mdc_108 dX3_choice_166 rfl
theorem eX3_choice_169 {d : Nat} {a0 a1 a2 a3 a4 a5 a6 a7 a8 a9 : Value} {st : List Value} {hp : qzH} : qzV d 108 169 [a0, a1, a2, a3, a4, a5, a6, a7, a8, a9] (st) hp = qzV d 108 171 [a0, a1, a2, a3, a4, a5, a6, a7, a8, a9] (.int 10 :: st) hp := qv_bipush mdc_108 dX3_choice_169 ib_10 rfl
theorem eX3_choice_171 {d : Nat} {a0 a1 a2 a3 a4 a5 a6 a7 a8 a9 : Value} {x y : Int32} {st : List Value} {hp : qzH} : qzV d 108 171 [a0, a1, a2, a3, a4, a5, a6, a7, a8, a9] (.int y :: .int x :: st) hp = qzV d 108 172 [a0, a1, a2, a3, a4, a5, a6, a7, a8, a9] (.int (x + y) :: st) hp := qv_bin (f := fun x y => x + y) mdc_108 dX3_choice_171 rfl rfl
theorem eX3_choice_172 {d : Nat} {a0 a1 a2 a3 a4 a5 a6 a7 a8 a9 : Value} {st : List Value} {hp : qzH} : qzV d 108 172 [a0, a1, a2, a3, a4, a5, a6, a7, a8, a9] (st) hp = qzV d 108 176 [a0, a1, a2, a3, a4, a5, a6, a7, a8, a9] (st) hp := qv_goto mdc_108 dX3_choice_172 rfl
theorem eX3_choice_175 {d : Nat} {a0 a1 a3 a4 a5 a6 a7 a8 a9 : Value} {x : Int32} {st : List Value} {hp : qzH} : qzV d 108 175 [a0, a1, .int x, a3, a4, a5, a6, a7, a8, a9] (st) hp = qzV d 108 176 [a0, a1, .int x, a3, a4, a5, a6, a7, a8, a9] (.int x :: st) hp := qv_iload (i := 2) mdc_108 dX3_choice_175 rfl rfl rfl
theorem eX3_choice_176 {d : Nat} {a0 a1 a2 a3 a4 a5 a6 a7 a8 a9 : Value} {x : Int32} {st : List Value} {hp : qzH} : qzV d 108 176 [a0, a1, a2, a3, a4, a5, a6, a7, a8, a9] (.int x :: st) hp = qzV d 108 177 [a0, a1, .int x, a3, a4, a5, a6, a7, a8, a9] (st) hp := qv_istore (i := 2) mdc_108 dX3_choice_176 rfl (Nat.le_of_ble_eq_true rfl) rfl rfl
theorem eX3_choice_177 {d : Nat} {a0 a1 a2 a3 a4 a5 a6 a7 a8 : Value} {x : Int32} {st : List Value} {hp : qzH} : qzV d 108 177 [a0, a1, a2, a3, a4, a5, a6, a7, a8, .int x] (st) hp = qzV d 108 179 [a0, a1, a2, a3, a4, a5, a6, a7, a8, .int x] (.int x :: st) hp := qv_iload (i := 9) mdc_108 dX3_choice_177 rfl rfl rfl
theorem eX3_choice_179 {d : Nat} {a0 a1 a2 a3 a4 a5 a6 a7 a8 a9 : Value} {x : Int32} {st : List Value} {hp : qzH} : qzV d 108 179 [a0, a1, a2, a3, a4, a5, a6, a7, a8, a9] (.int x :: st) hp = if x = 0 then qzV d 108 187 [a0, a1, a2, a3, a4, a5, a6, a7, a8, a9] (st) hp else qzV d 108 182 [a0, a1, a2, a3, a4, a5, a6, a7, a8, a9] (st) hp := qv_if1 mdc_108 dX3_choice_179 rfl rfl rfl
theorem eX3_choice_182 {d : Nat} {a0 a1 a2 a3 a4 a5 a6 a7 a9 : Value} {x : Int32} {st : List Value} {hp : qzH} : qzV d 108 182 [a0, a1, a2, a3, a4, a5, a6, a7, .int x, a9] (st) hp = qzV d 108 184 [a0, a1, a2, a3, a4, a5, a6, a7, .int x, a9] (.int x :: st) hp := qv_iload (i := 8) mdc_108 dX3_choice_182 rfl rfl rfl
theorem eX3_choice_184 {d : Nat} {a0 a1 a2 a3 a4 a5 a6 a7 a8 a9 : Value} {st : List Value} {hp : qzH} : qzV d 108 184 [a0, a1, a2, a3, a4, a5, a6, a7, a8, a9] (st) hp = qzV d 108 188 [a0, a1, a2, a3, a4, a5, a6, a7, a8, a9] (st) hp := qv_goto mdc_108 dX3_choice_184 rfl
theorem eX3_choice_187 {d : Nat} {a0 a1 a2 a4 a5 a6 a7 a8 a9 : Value} {x : Int32} {st : List Value} {hp : qzH} : qzV d 108 187 [a0, a1, a2, .int x, a4, a5, a6, a7, a8, a9] (st) hp = qzV d 108 188 [a0, a1, a2, .int x, a4, a5, a6, a7, a8, a9] (.int x :: st) hp := qv_iload (i := 3) mdc_108 dX3_choice_187 rfl rfl rfl
theorem eX3_choice_188 {d : Nat} {a0 a1 a2 a3 a4 a5 a6 a7 a8 a9 : Value} {x : Int32} {st : List Value} {hp : qzH} : qzV d 108 188 [a0, a1, a2, a3, a4, a5, a6, a7, a8, a9] (.int x :: st) hp = qzV d 108 189 [a0, a1, a2, .int x, a4, a5, a6, a7, a8, a9] (st) hp := qv_istore (i := 3) mdc_108 dX3_choice_188 rfl (Nat.le_of_ble_eq_true rfl) rfl rfl
theorem eX3_choice_189 {d : Nat} {a0 a1 a2 a3 a5 a6 a7 a8 a9 : Value} {x : Int32} {st : List Value} {hp : qzH} : qzV d 108 189 [a0, a1, a2, a3, .int x, a5, a6, a7, a8, a9] (st) hp = qzV d 108 192 [a0, a1, a2, a3, .int (x + 1), a5, a6, a7, a8, a9] (st) hp := qv_iinc mdc_108 dX3_choice_189 rfl il_1 rfl rfl
theorem eX3_choice_192 {d : Nat} {a0 a1 a2 a3 a4 a5 a6 a7 a8 a9 : Value} {st : List Value} {hp : qzH} : qzV d 108 192 [a0, a1, a2, a3, a4, a5, a6, a7, a8, a9] (st) hp = qzV d 108 8 [a0, a1, a2, a3, a4, a5, a6, a7, a8, a9] (st) hp := qv_goto mdc_108 dX3_choice_192 rfl
theorem eX3_choice_195 {d : Nat} {a0 a1 a3 a4 a5 a6 a7 a8 a9 : Value} {x : Int32} {st : List Value} {hp : qzH} : qzV d 108 195 [a0, a1, .int x, a3, a4, a5, a6, a7, a8, a9] (st) hp = qzV d 108 196 [a0, a1, .int x, a3, a4, a5, a6, a7, a8, a9] (.int x :: st) hp := qv_iload (i := 2) mdc_108 dX3_choice_195 rfl rfl rfl
theorem eX3_choice_196 {d : Nat} {a0 a1 a2 a3 a4 a5 a6 a7 a8 a9 : Value} {v : Int32} {hp : qzH} : qzV d 108 196 [a0, a1, a2, a3, a4, a5, a6, a7, a8, a9] [.int v] hp = some (some (.int v), hp) := qv_iret mdc_108 dX3_choice_196 mdr_108 rfl
theorem dX3_cutsBy_0 : decode cX3_cutsBy 0 = .ok (.aload_n 0, 1) := by decide +kernel
theorem dX3_cutsBy_1 : decode cX3_cutsBy 1 = .ok (.iload_n 1, 1) := by decide +kernel
theorem dX3_cutsBy_2 : decode cX3_cutsBy 2 = .ok (.invokevirtual 92, 3) := by decide +kernel
theorem dX3_cutsBy_5 : decode cX3_cutsBy 5 = .ok (.istore_n 2, 1) := by decide +kernel
theorem dX3_cutsBy_6 : decode cX3_cutsBy 6 = .ok (.aload_n 0, 1) := by decide +kernel
theorem dX3_cutsBy_7 : decode cX3_cutsBy 7 = .ok (.iload_n 2, 1) := by decide +kernel
theorem dX3_cutsBy_8 : decode cX3_cutsBy 8 = .ok (.bipush 10, 2) := by decide +kernel
theorem dX3_cutsBy_10 : decode cX3_cutsBy 10 = .ok (.irem, 1) := by decide +kernel
theorem dX3_cutsBy_11 : decode cX3_cutsBy 11 = .ok (.iload_n 2, 1) := by decide +kernel
theorem dX3_cutsBy_12 : decode cX3_cutsBy 12 = .ok (.bipush 10, 2) := by decide +kernel
theorem dX3_cutsBy_14 : decode cX3_cutsBy 14 = .ok (.if_icmp .ge 7, 3) := by decide +kernel
theorem dX3_cutsBy_17 : decode cX3_cutsBy 17 = .ok (.iconst 1, 1) := by decide +kernel
theorem dX3_cutsBy_18 : decode cX3_cutsBy 18 = .ok (.goto 4, 3) := by decide +kernel
theorem dX3_cutsBy_21 : decode cX3_cutsBy 21 = .ok (.iconst 0, 1) := by decide +kernel
theorem dX3_cutsBy_22 : decode cX3_cutsBy 22 = .ok (.invokevirtual 96, 3) := by decide +kernel
theorem dX3_cutsBy_25 : decode cX3_cutsBy 25 = .ok (.ireturn, 1) := by decide +kernel
theorem eX3_cutsBy_0 {d : Nat} {a1 a2 : Value} {x : Nat} {st : List Value} {hp : qzH} : qzV d 109 0 [.ref x, a1, a2] (st) hp = qzV d 109 1 [.ref x, a1, a2] (.ref x :: st) hp := qv_aload (i := 0) mdc_109 dX3_cutsBy_0 rfl rfl rfl
theorem eX3_cutsBy_1 {d : Nat} {a0 a2 : Value} {x : Int32} {st : List Value} {hp : qzH} : qzV d 109 1 [a0, .int x, a2] (st) hp = qzV d 109 2 [a0, .int x, a2] (.int x :: st) hp := qv_iload (i := 1) mdc_109 dX3_cutsBy_1 rfl rfl rfl
theorem eX3_cutsBy_2 {d : Nat} {a0 a1 a2 : Value} {w0 : Value} {b : Nat} {st : List Value} {hp : qzH} (h8 : st.length ≤ 8) (hb : qzArr 3 b hp.1 = true) : qzV (d + 1) 109 2 [a0, a1, a2] (w0 :: .ref b :: st) hp = (qzC d 108 (.ref b :: [w0]) hp).bind (fun r => qzV (d + 1) 109 5 [a0, a1, a2] (r.1.toList ++ st) r.2) := qv_callv (n := 1) mdc_109 dX3_cutsBy_2 mdo_109 (by decide) qfc_3_92 ⟨rfl, by decide, rfl⟩ rfl ⟨rfl, rfl, by simp only [List.length_cons]; omega⟩ h8 hb
theorem eX3_cutsBy_5 {d : Nat} {a0 a1 a2 : Value} {x : Int32} {st : List Value} {hp : qzH} : qzV d 109 5 [a0, a1, a2] (.int x :: st) hp = qzV d 109 6 [a0, a1, .int x] (st) hp := qv_istore (i := 2) mdc_109 dX3_cutsBy_5 rfl (Nat.le_of_ble_eq_true rfl) rfl rfl
theorem eX3_cutsBy_6 {d : Nat} {a1 a2 : Value} {x : Nat} {st : List Value} {hp : qzH} : qzV d 109 6 [.ref x, a1, a2] (st) hp = qzV d 109 7 [.ref x, a1, a2] (.ref x :: st) hp := qv_aload (i := 0) mdc_109 dX3_cutsBy_6 rfl rfl rfl
theorem eX3_cutsBy_7 {d : Nat} {a0 a1 : Value} {x : Int32} {st : List Value} {hp : qzH} : qzV d 109 7 [a0, a1, .int x] (st) hp = qzV d 109 8 [a0, a1, .int x] (.int x :: st) hp := qv_iload (i := 2) mdc_109 dX3_cutsBy_7 rfl rfl rfl
theorem eX3_cutsBy_8 {d : Nat} {a0 a1 a2 : Value} {st : List Value} {hp : qzH} : qzV d 109 8 [a0, a1, a2] (st) hp = qzV d 109 10 [a0, a1, a2] (.int 10 :: st) hp := qv_bipush mdc_109 dX3_cutsBy_8 ib_10 rfl
theorem eX3_cutsBy_10 {d : Nat} {a0 a1 a2 : Value} {x y : Int32} {st : List Value} {hp : qzH} (hy : ¬ y = 0) : qzV d 109 10 [a0, a1, a2] (.int y :: .int x :: st) hp = qzV d 109 11 [a0, a1, a2] (.int (x - x / y * y) :: st) hp := qv_binD (f := fun x y => x - x / y * y) mdc_109 dX3_cutsBy_10 rfl rfl hy
theorem eX3_cutsBy_11 {d : Nat} {a0 a1 : Value} {x : Int32} {st : List Value} {hp : qzH} : qzV d 109 11 [a0, a1, .int x] (st) hp = qzV d 109 12 [a0, a1, .int x] (.int x :: st) hp := qv_iload (i := 2) mdc_109 dX3_cutsBy_11 rfl rfl rfl
theorem eX3_cutsBy_12 {d : Nat} {a0 a1 a2 : Value} {st : List Value} {hp : qzH} : qzV d 109 12 [a0, a1, a2] (st) hp = qzV d 109 14 [a0, a1, a2] (.int 10 :: st) hp := qv_bipush mdc_109 dX3_cutsBy_12 ib_10 rfl
theorem eX3_cutsBy_14 {d : Nat} {a0 a1 a2 : Value} {x y : Int32} {st : List Value} {hp : qzH} : qzV d 109 14 [a0, a1, a2] (.int y :: .int x :: st) hp = if y ≤ x then qzV d 109 21 [a0, a1, a2] (st) hp else qzV d 109 17 [a0, a1, a2] (st) hp := qv_if2 mdc_109 dX3_cutsBy_14 rfl rfl rfl
theorem eX3_cutsBy_17 {d : Nat} {a0 a1 a2 : Value} {st : List Value} {hp : qzH} : qzV d 109 17 [a0, a1, a2] (st) hp = qzV d 109 18 [a0, a1, a2] (.int 1 :: st) hp := qv_iconst mdc_109 dX3_cutsBy_17 il_1 rfl
theorem eX3_cutsBy_18 {d : Nat} {a0 a1 a2 : Value} {st : List Value} {hp : qzH} : qzV d 109 18 [a0, a1, a2] (st) hp = qzV d 109 22 [a0, a1, a2] (st) hp := qv_goto mdc_109 dX3_cutsBy_18 rfl
theorem eX3_cutsBy_21 {d : Nat} {a0 a1 a2 : Value} {st : List Value} {hp : qzH} : qzV d 109 21 [a0, a1, a2] (st) hp = qzV d 109 22 [a0, a1, a2] (.int 0 :: st) hp := qv_iconst mdc_109 dX3_cutsBy_21 il_0 rfl
theorem eX3_cutsBy_22 {d : Nat} {a0 a1 a2 : Value} {w0 w1 : Value} {b : Nat} {st : List Value} {hp : qzH} (h8 : st.length ≤ 8) (hb : qzArr 3 b hp.1 = true) : qzV (d + 1) 109 22 [a0, a1, a2] (w1 :: w0 :: .ref b :: st) hp = (qzC d 98 (.ref b :: [w0, w1]) hp).bind (fun r => qzV (d + 1) 109 25 [a0, a1, a2] (r.1.toList ++ st) r.2) := qv_callv (n := 2) mdc_109 dX3_cutsBy_22 mdo_109 (by decide) qfc_3_96 ⟨rfl, by decide, rfl⟩ rfl ⟨rfl, rfl, by simp only [List.length_cons]; omega⟩ h8 hb
theorem eX3_cutsBy_25 {d : Nat} {a0 a1 a2 : Value} {v : Int32} {hp : qzH} : qzV d 109 25 [a0, a1, a2] [.int v] hp = some (some (.int v), hp) := qv_iret mdc_109 dX3_cutsBy_25 mdr_109 rfl
theorem dX3_cut_0 : decode cX3_cut 0 = .ok (.aload_n 0, 1) := by decide +kernel
theorem dX3_cut_1 : decode cX3_cut 1 = .ok (.iload_n 1, 1) := by decide +kernel
theorem dX3_cut_2 : decode cX3_cut 2 = .ok (.invokevirtual 100, 3) := by decide +kernel
theorem dX3_cut_5 : decode cX3_cut 5 = .ok (.istore_n 3, 1) := by decide +kernel
theorem dX3_cut_6 : decode cX3_cut 6 = .ok (.iload_n 3, 1) := by decide +kernel
theorem dX3_cut_7 : decode cX3_cut 7 = .ok (.ifCond .ge 5, 3) := by decide +kernel
theorem dX3_cut_10 : decode cX3_cut 10 = .ok (.iload_n 3, 1) := by decide +kernel
theorem dX3_cut_11 : decode cX3_cut 11 = .ok (.ireturn, 1) := by decide +kernel
theorem dX3_cut_12 : decode cX3_cut 12 = .ok (.aload_n 0, 1) := by decide +kernel
theorem dX3_cut_13 : decode cX3_cut 13 = .ok (.invokevirtual 103, 3) := by decide +kernel
theorem dX3_cut_16 : decode cX3_cut 16 = .ok (.aload_n 0, 1) := by decide +kernel
theorem dX3_cut_17 : decode cX3_cut 17 = .ok (.iload_n 1, 1) := by decide +kernel
theorem dX3_cut_18 : decode cX3_cut 18 = .ok (.iload_n 2, 1) := by decide +kernel
theorem dX3_cut_19 : decode cX3_cut 19 = .ok (.invokevirtual 96, 3) := by decide +kernel
theorem dX3_cut_22 : decode cX3_cut 22 = .ok (.ireturn, 1) := by decide +kernel
theorem eX3_cut_0 {d : Nat} {a1 a2 a3 : Value} {x : Nat} {st : List Value} {hp : qzH} : qzV d 110 0 [.ref x, a1, a2, a3] (st) hp = qzV d 110 1 [.ref x, a1, a2, a3] (.ref x :: st) hp := qv_aload (i := 0) mdc_110 dX3_cut_0 rfl rfl rfl
theorem eX3_cut_1 {d : Nat} {a0 a2 a3 : Value} {x : Int32} {st : List Value} {hp : qzH} : qzV d 110 1 [a0, .int x, a2, a3] (st) hp = qzV d 110 2 [a0, .int x, a2, a3] (.int x :: st) hp := qv_iload (i := 1) mdc_110 dX3_cut_1 rfl rfl rfl
theorem eX3_cut_2 {d : Nat} {a0 a1 a2 a3 : Value} {w0 : Value} {b : Nat} {st : List Value} {hp : qzH} (h8 : st.length ≤ 8) (hb : qzArr 3 b hp.1 = true) : qzV (d + 1) 110 2 [a0, a1, a2, a3] (w0 :: .ref b :: st) hp = (qzC d 99 (.ref b :: [w0]) hp).bind (fun r => qzV (d + 1) 110 5 [a0, a1, a2, a3] (r.1.toList ++ st) r.2) := qv_callv (n := 1) mdc_110 dX3_cut_2 mdo_110 (by decide) qfc_3_100 ⟨rfl, by decide, rfl⟩ rfl ⟨rfl, rfl, by simp only [List.length_cons]; omega⟩ h8 hb
theorem eX3_cut_5 {d : Nat} {a0 a1 a2 a3 : Value} {x : Int32} {st : List Value} {hp : qzH} : qzV d 110 5 [a0, a1, a2, a3] (.int x :: st) hp = qzV d 110 6 [a0, a1, a2, .int x] (st) hp := qv_istore (i := 3) mdc_110 dX3_cut_5 rfl (Nat.le_of_ble_eq_true rfl) rfl rfl
theorem eX3_cut_6 {d : Nat} {a0 a1 a2 : Value} {x : Int32} {st : List Value} {hp : qzH} : qzV d 110 6 [a0, a1, a2, .int x] (st) hp = qzV d 110 7 [a0, a1, a2, .int x] (.int x :: st) hp := qv_iload (i := 3) mdc_110 dX3_cut_6 rfl rfl rfl
theorem eX3_cut_7 {d : Nat} {a0 a1 a2 a3 : Value} {x : Int32} {st : List Value} {hp : qzH} : qzV d 110 7 [a0, a1, a2, a3] (.int x :: st) hp = if 0 ≤ x then qzV d 110 12 [a0, a1, a2, a3] (st) hp else qzV d 110 10 [a0, a1, a2, a3] (st) hp := qv_if1 mdc_110 dX3_cut_7 rfl rfl rfl
theorem eX3_cut_10 {d : Nat} {a0 a1 a2 : Value} {x : Int32} {st : List Value} {hp : qzH} : qzV d 110 10 [a0, a1, a2, .int x] (st) hp = qzV d 110 11 [a0, a1, a2, .int x] (.int x :: st) hp := qv_iload (i := 3) mdc_110 dX3_cut_10 rfl rfl rfl
theorem eX3_cut_11 {d : Nat} {a0 a1 a2 a3 : Value} {v : Int32} {hp : qzH} : qzV d 110 11 [a0, a1, a2, a3] [.int v] hp = some (some (.int v), hp) := qv_iret mdc_110 dX3_cut_11 mdr_110 rfl
theorem eX3_cut_12 {d : Nat} {a1 a2 a3 : Value} {x : Nat} {st : List Value} {hp : qzH} : qzV d 110 12 [.ref x, a1, a2, a3] (st) hp = qzV d 110 13 [.ref x, a1, a2, a3] (.ref x :: st) hp := qv_aload (i := 0) mdc_110 dX3_cut_12 rfl rfl rfl
theorem eX3_cut_13 {d : Nat} {a0 a1 a2 a3 : Value} {b : Nat} {st : List Value} {hp : qzH} (h8 : st.length ≤ 8) (hb : qzArr 3 b hp.1 = true) : qzV (d + 1) 110 13 [a0, a1, a2, a3] (.ref b :: st) hp = (qzC d 89 (.ref b :: []) hp).bind (fun r => qzV (d + 1) 110 16 [a0, a1, a2, a3] (r.1.toList ++ st) r.2) := qv_callv (n := 0) mdc_110 dX3_cut_13 mdo_110 (by decide) qfc_3_103 ⟨rfl, by decide, rfl⟩ rfl ⟨rfl, rfl, by simp only [List.length_cons]; omega⟩ h8 hb
theorem eX3_cut_16 {d : Nat} {a1 a2 a3 : Value} {x : Nat} {st : List Value} {hp : qzH} : qzV d 110 16 [.ref x, a1, a2, a3] (st) hp = qzV d 110 17 [.ref x, a1, a2, a3] (.ref x :: st) hp := qv_aload (i := 0) mdc_110 dX3_cut_16 rfl rfl rfl
theorem eX3_cut_17 {d : Nat} {a0 a2 a3 : Value} {x : Int32} {st : List Value} {hp : qzH} : qzV d 110 17 [a0, .int x, a2, a3] (st) hp = qzV d 110 18 [a0, .int x, a2, a3] (.int x :: st) hp := qv_iload (i := 1) mdc_110 dX3_cut_17 rfl rfl rfl
theorem eX3_cut_18 {d : Nat} {a0 a1 a3 : Value} {x : Int32} {st : List Value} {hp : qzH} : qzV d 110 18 [a0, a1, .int x, a3] (st) hp = qzV d 110 19 [a0, a1, .int x, a3] (.int x :: st) hp := qv_iload (i := 2) mdc_110 dX3_cut_18 rfl rfl rfl
theorem eX3_cut_19 {d : Nat} {a0 a1 a2 a3 : Value} {w0 w1 : Value} {b : Nat} {st : List Value} {hp : qzH} (h8 : st.length ≤ 8) (hb : qzArr 3 b hp.1 = true) : qzV (d + 1) 110 19 [a0, a1, a2, a3] (w1 :: w0 :: .ref b :: st) hp = (qzC d 98 (.ref b :: [w0, w1]) hp).bind (fun r => qzV (d + 1) 110 22 [a0, a1, a2, a3] (r.1.toList ++ st) r.2) := qv_callv (n := 2) mdc_110 dX3_cut_19 mdo_110 (by decide) qfc_3_96 ⟨rfl, by decide, rfl⟩ rfl ⟨rfl, rfl, by simp only [List.length_cons]; omega⟩ h8 hb
theorem eX3_cut_22 {d : Nat} {a0 a1 a2 a3 : Value} {v : Int32} {hp : qzH} : qzV d 110 22 [a0, a1, a2, a3] [.int v] hp = some (some (.int v), hp) := qv_iret mdc_110 dX3_cut_22 mdr_110 rfl
theorem dX3_best_0 : decode cX3_best 0 = .ok (.aload_n 0, 1) := by decide +kernel
theorem dX3_best_1 : decode cX3_best 1 = .ok (.invokevirtual 106, 3) := by decide +kernel
theorem dX3_best_4 : decode cX3_best 4 = .ok (.ifCond .eq 6, 3) := by decide +kernel
theorem dX3_best_7 : decode cX3_best 7 = .ok (.bipush (-2), 2) := by decide +kernel
theorem dX3_best_9 : decode cX3_best 9 = .ok (.ireturn, 1) := by decide +kernel
theorem dX3_best_10 : decode cX3_best 10 = .ok (.aload_n 0, 1) := by decide +kernel
theorem dX3_best_11 : decode cX3_best 11 = .ok (.invokevirtual 103, 3) := by decide +kernel
theorem dX3_best_14 : decode cX3_best 14 = .ok (.aload_n 0, 1) := by decide +kernel
theorem dX3_best_15 : decode cX3_best 15 = .ok (.invokevirtual 110, 3) := by decide +kernel
theorem dX3_best_18 : decode cX3_best 18 = .ok (.aload_n 0, 1) := by decide +kernel
theorem dX3_best_19 : decode cX3_best 19 = .ok (.iconst 0, 1) := by decide +kernel
theorem dX3_best_20 : decode cX3_best 20 = .ok (.invokevirtual 113, 3) := by decide +kernel
theorem dX3_best_23 : decode cX3_best 23 = .ok (.ireturn, 1) := by decide +kernel
theorem eX3_best_0 {d : Nat} {x : Nat} {st : List Value} {hp : qzH} : qzV d 111 0 [.ref x] (st) hp = qzV d 111 1 [.ref x] (.ref x :: st) hp := qv_aload (i := 0) mdc_111 dX3_best_0 rfl rfl rfl
theorem eX3_best_1 {d : Nat} {a0 : Value} {b : Nat} {st : List Value} {hp : qzH} (h8 : st.length ≤ 8) (hb : qzArr 3 b hp.1 = true) : qzV (d + 1) 111 1 [a0] (.ref b :: st) hp = (qzC d 93 (.ref b :: []) hp).bind (fun r => qzV (d + 1) 111 4 [a0] (r.1.toList ++ st) r.2) := qv_callv (n := 0) mdc_111 dX3_best_1 mdo_111 (by decide) qfc_3_106 ⟨rfl, by decide, rfl⟩ rfl ⟨rfl, rfl, by simp only [List.length_cons]; omega⟩ h8 hb
theorem eX3_best_4 {d : Nat} {a0 : Value} {x : Int32} {st : List Value} {hp : qzH} : qzV d 111 4 [a0] (.int x :: st) hp = if x = 0 then qzV d 111 10 [a0] (st) hp else qzV d 111 7 [a0] (st) hp := qv_if1 mdc_111 dX3_best_4 rfl rfl rfl
theorem eX3_best_7 {d : Nat} {a0 : Value} {st : List Value} {hp : qzH} : qzV d 111 7 [a0] (st) hp = qzV d 111 9 [a0] (.int (-2) :: st) hp := qv_bipush mdc_111 dX3_best_7 ib_m2 rfl
theorem eX3_best_9 {d : Nat} {a0 : Value} {v : Int32} {hp : qzH} : qzV d 111 9 [a0] [.int v] hp = some (some (.int v), hp) := qv_iret mdc_111 dX3_best_9 mdr_111 rfl
theorem eX3_best_10 {d : Nat} {x : Nat} {st : List Value} {hp : qzH} : qzV d 111 10 [.ref x] (st) hp = qzV d 111 11 [.ref x] (.ref x :: st) hp := qv_aload (i := 0) mdc_111 dX3_best_10 rfl rfl rfl
theorem eX3_best_11 {d : Nat} {a0 : Value} {b : Nat} {st : List Value} {hp : qzH} (h8 : st.length ≤ 8) (hb : qzArr 3 b hp.1 = true) : qzV (d + 1) 111 11 [a0] (.ref b :: st) hp = (qzC d 89 (.ref b :: []) hp).bind (fun r => qzV (d + 1) 111 14 [a0] (r.1.toList ++ st) r.2) := qv_callv (n := 0) mdc_111 dX3_best_11 mdo_111 (by decide) qfc_3_103 ⟨rfl, by decide, rfl⟩ rfl ⟨rfl, rfl, by simp only [List.length_cons]; omega⟩ h8 hb
theorem eX3_best_14 {d : Nat} {x : Nat} {st : List Value} {hp : qzH} : qzV d 111 14 [.ref x] (st) hp = qzV d 111 15 [.ref x] (.ref x :: st) hp := qv_aload (i := 0) mdc_111 dX3_best_14 rfl rfl rfl
theorem eX3_best_15 {d : Nat} {a0 : Value} {b : Nat} {st : List Value} {hp : qzH} (h8 : st.length ≤ 8) (hb : qzArr 3 b hp.1 = true) : qzV (d + 1) 111 15 [a0] (.ref b :: st) hp = (qzC d 105 (.ref b :: []) hp).bind (fun r => qzV (d + 1) 111 18 [a0] (r.1.toList ++ st) r.2) := qv_callv (n := 0) mdc_111 dX3_best_15 mdo_111 (by decide) qfc_3_110 ⟨rfl, by decide, rfl⟩ rfl ⟨rfl, rfl, by simp only [List.length_cons]; omega⟩ h8 hb
theorem eX3_best_18 {d : Nat} {x : Nat} {st : List Value} {hp : qzH} : qzV d 111 18 [.ref x] (st) hp = qzV d 111 19 [.ref x] (.ref x :: st) hp := qv_aload (i := 0) mdc_111 dX3_best_18 rfl rfl rfl
theorem eX3_best_19 {d : Nat} {a0 : Value} {st : List Value} {hp : qzH} : qzV d 111 19 [a0] (st) hp = qzV d 111 20 [a0] (.int 0 :: st) hp := qv_iconst mdc_111 dX3_best_19 il_0 rfl
theorem eX3_best_20 {d : Nat} {a0 : Value} {w0 : Value} {b : Nat} {st : List Value} {hp : qzH} (h8 : st.length ≤ 8) (hb : qzArr 3 b hp.1 = true) : qzV (d + 1) 111 20 [a0] (w0 :: .ref b :: st) hp = (qzC d 109 (.ref b :: [w0]) hp).bind (fun r => qzV (d + 1) 111 23 [a0] (r.1.toList ++ st) r.2) := qv_callv (n := 1) mdc_111 dX3_best_20 mdo_111 (by decide) qfc_3_113 ⟨rfl, by decide, rfl⟩ rfl ⟨rfl, rfl, by simp only [List.length_cons]; omega⟩ h8 hb
theorem eX3_best_23 {d : Nat} {a0 : Value} {v : Int32} {hp : qzH} : qzV d 111 23 [a0] [.int v] hp = some (some (.int v), hp) := qv_iret mdc_111 dX3_best_23 mdr_111 rfl
theorem dX3_greedy_0 : decode cX3_greedy 0 = .ok (.aload_n 0, 1) := by decide +kernel
theorem dX3_greedy_1 : decode cX3_greedy 1 = .ok (.invokevirtual 106, 3) := by decide +kernel
theorem dX3_greedy_4 : decode cX3_greedy 4 = .ok (.ifCond .eq 6, 3) := by decide +kernel
theorem dX3_greedy_7 : decode cX3_greedy 7 = .ok (.bipush (-2), 2) := by decide +kernel
theorem dX3_greedy_9 : decode cX3_greedy 9 = .ok (.ireturn, 1) := by decide +kernel
theorem dX3_greedy_10 : decode cX3_greedy 10 = .ok (.aload_n 0, 1) := by decide +kernel
theorem dX3_greedy_11 : decode cX3_greedy 11 = .ok (.invokevirtual 103, 3) := by decide +kernel
theorem dX3_greedy_14 : decode cX3_greedy 14 = .ok (.aload_n 0, 1) := by decide +kernel
theorem dX3_greedy_15 : decode cX3_greedy 15 = .ok (.iconst 1, 1) := by decide +kernel
theorem dX3_greedy_16 : decode cX3_greedy 16 = .ok (.invokevirtual 113, 3) := by decide +kernel
theorem dX3_greedy_19 : decode cX3_greedy 19 = .ok (.ireturn, 1) := by decide +kernel
theorem eX3_greedy_0 {d : Nat} {x : Nat} {st : List Value} {hp : qzH} : qzV d 112 0 [.ref x] (st) hp = qzV d 112 1 [.ref x] (.ref x :: st) hp := qv_aload (i := 0) mdc_112 dX3_greedy_0 rfl rfl rfl
theorem eX3_greedy_1 {d : Nat} {a0 : Value} {b : Nat} {st : List Value} {hp : qzH} (h8 : st.length ≤ 8) (hb : qzArr 3 b hp.1 = true) : qzV (d + 1) 112 1 [a0] (.ref b :: st) hp = (qzC d 93 (.ref b :: []) hp).bind (fun r => qzV (d + 1) 112 4 [a0] (r.1.toList ++ st) r.2) := qv_callv (n := 0) mdc_112 dX3_greedy_1 mdo_112 (by decide) qfc_3_106 ⟨rfl, by decide, rfl⟩ rfl ⟨rfl, rfl, by simp only [List.length_cons]; omega⟩ h8 hb
theorem eX3_greedy_4 {d : Nat} {a0 : Value} {x : Int32} {st : List Value} {hp : qzH} : qzV d 112 4 [a0] (.int x :: st) hp = if x = 0 then qzV d 112 10 [a0] (st) hp else qzV d 112 7 [a0] (st) hp := qv_if1 mdc_112 dX3_greedy_4 rfl rfl rfl
theorem eX3_greedy_7 {d : Nat} {a0 : Value} {st : List Value} {hp : qzH} : qzV d 112 7 [a0] (st) hp = qzV d 112 9 [a0] (.int (-2) :: st) hp := qv_bipush mdc_112 dX3_greedy_7 ib_m2 rfl
theorem eX3_greedy_9 {d : Nat} {a0 : Value} {v : Int32} {hp : qzH} : qzV d 112 9 [a0] [.int v] hp = some (some (.int v), hp) := qv_iret mdc_112 dX3_greedy_9 mdr_112 rfl
theorem eX3_greedy_10 {d : Nat} {x : Nat} {st : List Value} {hp : qzH} : qzV d 112 10 [.ref x] (st) hp = qzV d 112 11 [.ref x] (.ref x :: st) hp := qv_aload (i := 0) mdc_112 dX3_greedy_10 rfl rfl rfl
theorem eX3_greedy_11 {d : Nat} {a0 : Value} {b : Nat} {st : List Value} {hp : qzH} (h8 : st.length ≤ 8) (hb : qzArr 3 b hp.1 = true) : qzV (d + 1) 112 11 [a0] (.ref b :: st) hp = (qzC d 89 (.ref b :: []) hp).bind (fun r => qzV (d + 1) 112 14 [a0] (r.1.toList ++ st) r.2) := qv_callv (n := 0) mdc_112 dX3_greedy_11 mdo_112 (by decide) qfc_3_103 ⟨rfl, by decide, rfl⟩ rfl ⟨rfl, rfl, by simp only [List.length_cons]; omega⟩ h8 hb
theorem eX3_greedy_14 {d : Nat} {x : Nat} {st : List Value} {hp : qzH} : qzV d 112 14 [.ref x] (st) hp = qzV d 112 15 [.ref x] (.ref x :: st) hp := qv_aload (i := 0) mdc_112 dX3_greedy_14 rfl rfl rfl
theorem eX3_greedy_15 {d : Nat} {a0 : Value} {st : List Value} {hp : qzH} : qzV d 112 15 [a0] (st) hp = qzV d 112 16 [a0] (.int 1 :: st) hp := qv_iconst mdc_112 dX3_greedy_15 il_1 rfl
theorem eX3_greedy_16 {d : Nat} {a0 : Value} {w0 : Value} {b : Nat} {st : List Value} {hp : qzH} (h8 : st.length ≤ 8) (hb : qzArr 3 b hp.1 = true) : qzV (d + 1) 112 16 [a0] (w0 :: .ref b :: st) hp = (qzC d 109 (.ref b :: [w0]) hp).bind (fun r => qzV (d + 1) 112 19 [a0] (r.1.toList ++ st) r.2) := qv_callv (n := 1) mdc_112 dX3_greedy_16 mdo_112 (by decide) qfc_3_113 ⟨rfl, by decide, rfl⟩ rfl ⟨rfl, rfl, by simp only [List.length_cons]; omega⟩ h8 hb
theorem eX3_greedy_19 {d : Nat} {a0 : Value} {v : Int32} {hp : qzH} : qzV d 112 19 [a0] [.int v] hp = some (some (.int v), hp) := qv_iret mdc_112 dX3_greedy_19 mdr_112 rfl
theorem dX3_again_0 : decode cX3_again 0 = .ok (.aload_n 0, 1) := by decide +kernel
theorem dX3_again_1 : decode cX3_again 1 = .ok (.invokevirtual 103, 3) := by decide +kernel
theorem dX3_again_4 : decode cX3_again 4 = .ok (.aload_n 0, 1) := by decide +kernel
theorem dX3_again_5 : decode cX3_again 5 = .ok (.invokevirtual 28, 3) := by decide +kernel
theorem dX3_again_8 : decode cX3_again 8 = .ok (.aload_n 0, 1) := by decide +kernel
theorem dX3_again_9 : decode cX3_again 9 = .ok (.getfield 7, 3) := by decide +kernel
theorem dX3_again_12 : decode cX3_again 12 = .ok (.iconst 0, 1) := by decide +kernel
theorem dX3_again_13 : decode cX3_again 13 = .ok (.iaload, 1) := by decide +kernel
theorem dX3_again_14 : decode cX3_again 14 = .ok (.ireturn, 1) := by decide +kernel
theorem eX3_again_0 {d : Nat} {x : Nat} {st : List Value} {hp : qzH} : qzV d 113 0 [.ref x] (st) hp = qzV d 113 1 [.ref x] (.ref x :: st) hp := qv_aload (i := 0) mdc_113 dX3_again_0 rfl rfl rfl
theorem eX3_again_1 {d : Nat} {a0 : Value} {b : Nat} {st : List Value} {hp : qzH} (h8 : st.length ≤ 8) (hb : qzArr 3 b hp.1 = true) : qzV (d + 1) 113 1 [a0] (.ref b :: st) hp = (qzC d 89 (.ref b :: []) hp).bind (fun r => qzV (d + 1) 113 4 [a0] (r.1.toList ++ st) r.2) := qv_callv (n := 0) mdc_113 dX3_again_1 mdo_113 (by decide) qfc_3_103 ⟨rfl, by decide, rfl⟩ rfl ⟨rfl, rfl, by simp only [List.length_cons]; omega⟩ h8 hb
theorem eX3_again_4 {d : Nat} {x : Nat} {st : List Value} {hp : qzH} : qzV d 113 4 [.ref x] (st) hp = qzV d 113 5 [.ref x] (.ref x :: st) hp := qv_aload (i := 0) mdc_113 dX3_again_4 rfl rfl rfl
theorem eX3_again_5 {d : Nat} {a0 : Value} {b : Nat} {st : List Value} {hp : qzH} (h8 : st.length ≤ 8) (hb : qzArr 3 b hp.1 = true) : qzV (d + 1) 113 5 [a0] (.ref b :: st) hp = (qzC d 90 (.ref b :: []) hp).bind (fun r => qzV (d + 1) 113 8 [a0] (r.1.toList ++ st) r.2) := qv_callv (n := 0) mdc_113 dX3_again_5 mdo_113 (by decide) qfc_3_28 ⟨rfl, by decide, rfl⟩ rfl ⟨rfl, rfl, by simp only [List.length_cons]; omega⟩ h8 hb
theorem eX3_again_8 {d : Nat} {x : Nat} {st : List Value} {hp : qzH} : qzV d 113 8 [.ref x] (st) hp = qzV d 113 9 [.ref x] (.ref x :: st) hp := qv_aload (i := 0) mdc_113 dX3_again_8 rfl rfl rfl
theorem eX3_again_9 {d : Nat} {a0 : Value} {a : Nat} {st : List Value} {hp : qzH} (ha : qzArr 3 a hp.1 = true) : qzV d 113 9 [a0] (.ref a :: st) hp = qzV d 113 12 [a0] (va_rf (hp.2.1 a 0) :: st) hp := qv_getR mdc_113 dX3_again_9 mdo_113 qff_3_7 ⟨by decide, rfl⟩ rfl ha
theorem eX3_again_12 {d : Nat} {a0 : Value} {st : List Value} {hp : qzH} : qzV d 113 12 [a0] (st) hp = qzV d 113 13 [a0] (.int 0 :: st) hp := qv_iconst mdc_113 dX3_again_12 il_0 rfl
theorem eX3_again_13 {d : Nat} {a0 : Value} {i : Int32} {a : Nat} {st : List Value} {hp : qzH} (ha : qzArr 4 a hp.1 = true) (hi : qzIn i (qzk a).2 = true) : qzV d 113 13 [a0] (.int i :: .ref a :: st) hp = qzV d 113 14 [a0] (.int (hp.2.2 a i.toNatClampNeg) :: st) hp := qv_iald mdc_113 dX3_again_13 rfl ha hi
theorem eX3_again_14 {d : Nat} {a0 : Value} {v : Int32} {hp : qzH} : qzV d 113 14 [a0] [.int v] hp = some (some (.int v), hp) := qv_iret mdc_113 dX3_again_14 mdr_113 rfl
theorem dX3_mirror_0 : decode cX3_mirror 0 = .ok (.aload_n 0, 1) := by decide +kernel
theorem dX3_mirror_1 : decode cX3_mirror 1 = .ok (.invokevirtual 103, 3) := by decide +kernel
theorem dX3_mirror_4 : decode cX3_mirror 4 = .ok (.iconst 0, 1) := by decide +kernel
theorem dX3_mirror_5 : decode cX3_mirror 5 = .ok (.istore_n 1, 1) := by decide +kernel
theorem dX3_mirror_6 : decode cX3_mirror 6 = .ok (.iconst 0, 1) := by decide +kernel
theorem dX3_mirror_7 : decode cX3_mirror 7 = .ok (.istore_n 2, 1) := by decide +kernel
theorem dX3_mirror_8 : decode cX3_mirror 8 = .ok (.iload_n 2, 1) := by decide +kernel
theorem dX3_mirror_9 : decode cX3_mirror 9 = .ok (.aload_n 0, 1) := by decide +kernel
theorem dX3_mirror_10 : decode cX3_mirror 10 = .ok (.getfield 7, 3) := by decide +kernel
theorem dX3_mirror_13 : decode cX3_mirror 13 = .ok (.iconst 2, 1) := by decide +kernel
theorem dX3_mirror_14 : decode cX3_mirror 14 = .ok (.iaload, 1) := by decide +kernel
theorem dX3_mirror_15 : decode cX3_mirror 15 = .ok (.iconst 2, 1) := by decide +kernel
theorem dX3_mirror_16 : decode cX3_mirror 16 = .ok (.idiv, 1) := by decide +kernel
theorem dX3_mirror_17 : decode cX3_mirror 17 = .ok (.if_icmp .ge 93, 3) := by decide +kernel
theorem dX3_mirror_20 : decode cX3_mirror 20 = .ok (.bipush 8, 2) := by decide +kernel
theorem dX3_mirror_22 : decode cX3_mirror 22 = .ok (.aload_n 0, 1) := by decide +kernel
theorem dX3_mirror_23 : decode cX3_mirror 23 = .ok (.getfield 7, 3) := by decide +kernel
theorem dX3_mirror_26 : decode cX3_mirror 26 = .ok (.iconst 1, 1) := by decide +kernel
theorem dX3_mirror_27 : decode cX3_mirror 27 = .ok (.iaload, 1) := by decide +kernel
theorem dX3_mirror_28 : decode cX3_mirror 28 = .ok (.iadd, 1) := by decide +kernel
theorem dX3_mirror_29 : decode cX3_mirror 29 = .ok (.iload_n 2, 1) := by decide +kernel
theorem dX3_mirror_30 : decode cX3_mirror 30 = .ok (.iadd, 1) := by decide +kernel
theorem dX3_mirror_31 : decode cX3_mirror 31 = .ok (.istore_n 3, 1) := by decide +kernel
theorem dX3_mirror_32 : decode cX3_mirror 32 = .ok (.bipush 8, 2) := by decide +kernel
theorem dX3_mirror_34 : decode cX3_mirror 34 = .ok (.aload_n 0, 1) := by decide +kernel
theorem dX3_mirror_35 : decode cX3_mirror 35 = .ok (.getfield 7, 3) := by decide +kernel
theorem dX3_mirror_38 : decode cX3_mirror 38 = .ok (.iconst 1, 1) := by decide +kernel
theorem dX3_mirror_39 : decode cX3_mirror 39 = .ok (.iaload, 1) := by decide +kernel
theorem dX3_mirror_40 : decode cX3_mirror 40 = .ok (.iadd, 1) := by decide +kernel
theorem dX3_mirror_41 : decode cX3_mirror 41 = .ok (.aload_n 0, 1) := by decide +kernel
theorem dX3_mirror_42 : decode cX3_mirror 42 = .ok (.getfield 7, 3) := by decide +kernel
theorem dX3_mirror_45 : decode cX3_mirror 45 = .ok (.iconst 2, 1) := by decide +kernel
theorem dX3_mirror_46 : decode cX3_mirror 46 = .ok (.iaload, 1) := by decide +kernel
theorem dX3_mirror_47 : decode cX3_mirror 47 = .ok (.iadd, 1) := by decide +kernel
theorem dX3_mirror_48 : decode cX3_mirror 48 = .ok (.iconst 1, 1) := by decide +kernel
theorem dX3_mirror_49 : decode cX3_mirror 49 = .ok (.isub, 1) := by decide +kernel
theorem dX3_mirror_50 : decode cX3_mirror 50 = .ok (.iload_n 2, 1) := by decide +kernel
theorem dX3_mirror_51 : decode cX3_mirror 51 = .ok (.isub, 1) := by decide +kernel
theorem dX3_mirror_52 : decode cX3_mirror 52 = .ok (.istore 4, 2) := by decide +kernel
theorem dX3_mirror_54 : decode cX3_mirror 54 = .ok (.aload_n 0, 1) := by decide +kernel
theorem dX3_mirror_55 : decode cX3_mirror 55 = .ok (.getfield 7, 3) := by decide +kernel
theorem dX3_mirror_58 : decode cX3_mirror 58 = .ok (.iload_n 3, 1) := by decide +kernel
theorem dX3_mirror_59 : decode cX3_mirror 59 = .ok (.iaload, 1) := by decide +kernel
theorem dX3_mirror_60 : decode cX3_mirror 60 = .ok (.istore 5, 2) := by decide +kernel
theorem dX3_mirror_62 : decode cX3_mirror 62 = .ok (.iload_n 1, 1) := by decide +kernel
theorem dX3_mirror_63 : decode cX3_mirror 63 = .ok (.iload 5, 2) := by decide +kernel
theorem dX3_mirror_65 : decode cX3_mirror 65 = .ok (.aload_n 0, 1) := by decide +kernel
theorem dX3_mirror_66 : decode cX3_mirror 66 = .ok (.getfield 7, 3) := by decide +kernel
theorem dX3_mirror_69 : decode cX3_mirror 69 = .ok (.iload 4, 2) := by decide +kernel
theorem dX3_mirror_71 : decode cX3_mirror 71 = .ok (.iaload, 1) := by decide +kernel
theorem dX3_mirror_72 : decode cX3_mirror 72 = .ok (.if_icmp .ne 7, 3) := by decide +kernel
theorem dX3_mirror_75 : decode cX3_mirror 75 = .ok (.iconst 0, 1) := by decide +kernel
theorem dX3_mirror_76 : decode cX3_mirror 76 = .ok (.goto 4, 3) := by decide +kernel
theorem dX3_mirror_79 : decode cX3_mirror 79 = .ok (.iconst 2, 1) := by decide +kernel
theorem dX3_mirror_80 : decode cX3_mirror 80 = .ok (.iadd, 1) := by decide +kernel
theorem dX3_mirror_81 : decode cX3_mirror 81 = .ok (.istore_n 1, 1) := by decide +kernel
theorem dX3_mirror_82 : decode cX3_mirror 82 = .ok (.aload_n 0, 1) := by decide +kernel
theorem dX3_mirror_83 : decode cX3_mirror 83 = .ok (.getfield 7, 3) := by decide +kernel
theorem dX3_mirror_86 : decode cX3_mirror 86 = .ok (.iload_n 3, 1) := by decide +kernel
theorem dX3_mirror_87 : decode cX3_mirror 87 = .ok (.aload_n 0, 1) := by decide +kernel
theorem dX3_mirror_88 : decode cX3_mirror 88 = .ok (.getfield 7, 3) := by decide +kernel
theorem dX3_mirror_91 : decode cX3_mirror 91 = .ok (.iload 4, 2) := by decide +kernel
theorem dX3_mirror_93 : decode cX3_mirror 93 = .ok (.iaload, 1) := by decide +kernel
theorem dX3_mirror_94 : decode cX3_mirror 94 = .ok (.iastore, 1) := by decide +kernel
theorem dX3_mirror_95 : decode cX3_mirror 95 = .ok (.aload_n 0, 1) := by decide +kernel
theorem dX3_mirror_96 : decode cX3_mirror 96 = .ok (.getfield 7, 3) := by decide +kernel
theorem dX3_mirror_99 : decode cX3_mirror 99 = .ok (.iload 4, 2) := by decide +kernel
theorem dX3_mirror_101 : decode cX3_mirror 101 = .ok (.iload 5, 2) := by decide +kernel
theorem dX3_mirror_103 : decode cX3_mirror 103 = .ok (.iastore, 1) := by decide +kernel
theorem dX3_mirror_104 : decode cX3_mirror 104 = .ok (.iinc 2 1, 3) := by decide +kernel
theorem dX3_mirror_107 : decode cX3_mirror 107 = .ok (.goto (-99), 3) := by decide +kernel
theorem dX3_mirror_110 : decode cX3_mirror 110 = .ok (.iload_n 1, 1) := by decide +kernel
theorem dX3_mirror_111 : decode cX3_mirror 111 = .ok (.ireturn, 1) := by decide +kernel
theorem eX3_mirror_0 {d : Nat} {a1 a2 a3 a4 a5 : Value} {x : Nat} {st : List Value} {hp : qzH} : qzV d 114 0 [.ref x, a1, a2, a3, a4, a5] (st) hp = qzV d 114 1 [.ref x, a1, a2, a3, a4, a5] (.ref x :: st) hp := qv_aload (i := 0) mdc_114 dX3_mirror_0 rfl rfl rfl
theorem eX3_mirror_1 {d : Nat} {a0 a1 a2 a3 a4 a5 : Value} {b : Nat} {st : List Value} {hp : qzH} (h8 : st.length ≤ 8) (hb : qzArr 3 b hp.1 = true) : qzV (d + 1) 114 1 [a0, a1, a2, a3, a4, a5] (.ref b :: st) hp = (qzC d 89 (.ref b :: []) hp).bind (fun r => qzV (d + 1) 114 4 [a0, a1, a2, a3, a4, a5] (r.1.toList ++ st) r.2) := qv_callv (n := 0) mdc_114 dX3_mirror_1 mdo_114 (by decide) qfc_3_103 ⟨rfl, by decide, rfl⟩ rfl ⟨rfl, rfl, by simp only [List.length_cons]; omega⟩ h8 hb
theorem eX3_mirror_4 {d : Nat} {a0 a1 a2 a3 a4 a5 : Value} {st : List Value} {hp : qzH} : qzV d 114 4 [a0, a1, a2, a3, a4, a5] (st) hp = qzV d 114 5 [a0, a1, a2, a3, a4, a5] (.int 0 :: st) hp := qv_iconst mdc_114 dX3_mirror_4 il_0 rfl
theorem eX3_mirror_5 {d : Nat} {a0 a1 a2 a3 a4 a5 : Value} {x : Int32} {st : List Value} {hp : qzH} : qzV d 114 5 [a0, a1, a2, a3, a4, a5] (.int x :: st) hp = qzV d 114 6 [a0, .int x, a2, a3, a4, a5] (st) hp := qv_istore (i := 1) mdc_114 dX3_mirror_5 rfl (Nat.le_of_ble_eq_true rfl) rfl rfl
theorem eX3_mirror_6 {d : Nat} {a0 a1 a2 a3 a4 a5 : Value} {st : List Value} {hp : qzH} : qzV d 114 6 [a0, a1, a2, a3, a4, a5] (st) hp = qzV d 114 7 [a0, a1, a2, a3, a4, a5] (.int 0 :: st) hp := qv_iconst mdc_114 dX3_mirror_6 il_0 rfl
theorem eX3_mirror_7 {d : Nat} {a0 a1 a2 a3 a4 a5 : Value} {x : Int32} {st : List Value} {hp : qzH} : qzV d 114 7 [a0, a1, a2, a3, a4, a5] (.int x :: st) hp = qzV d 114 8 [a0, a1, .int x, a3, a4, a5] (st) hp := qv_istore (i := 2) mdc_114 dX3_mirror_7 rfl (Nat.le_of_ble_eq_true rfl) rfl rfl
theorem eX3_mirror_8 {d : Nat} {a0 a1 a3 a4 a5 : Value} {x : Int32} {st : List Value} {hp : qzH} : qzV d 114 8 [a0, a1, .int x, a3, a4, a5] (st) hp = qzV d 114 9 [a0, a1, .int x, a3, a4, a5] (.int x :: st) hp := qv_iload (i := 2) mdc_114 dX3_mirror_8 rfl rfl rfl
theorem eX3_mirror_9 {d : Nat} {a1 a2 a3 a4 a5 : Value} {x : Nat} {st : List Value} {hp : qzH} : qzV d 114 9 [.ref x, a1, a2, a3, a4, a5] (st) hp = qzV d 114 10 [.ref x, a1, a2, a3, a4, a5] (.ref x :: st) hp := qv_aload (i := 0) mdc_114 dX3_mirror_9 rfl rfl rfl
theorem eX3_mirror_10 {d : Nat} {a0 a1 a2 a3 a4 a5 : Value} {a : Nat} {st : List Value} {hp : qzH} (ha : qzArr 3 a hp.1 = true) : qzV d 114 10 [a0, a1, a2, a3, a4, a5] (.ref a :: st) hp = qzV d 114 13 [a0, a1, a2, a3, a4, a5] (va_rf (hp.2.1 a 0) :: st) hp := qv_getR mdc_114 dX3_mirror_10 mdo_114 qff_3_7 ⟨by decide, rfl⟩ rfl ha
theorem eX3_mirror_13 {d : Nat} {a0 a1 a2 a3 a4 a5 : Value} {st : List Value} {hp : qzH} : qzV d 114 13 [a0, a1, a2, a3, a4, a5] (st) hp = qzV d 114 14 [a0, a1, a2, a3, a4, a5] (.int 2 :: st) hp := qv_iconst mdc_114 dX3_mirror_13 il_2 rfl
theorem eX3_mirror_14 {d : Nat} {a0 a1 a2 a3 a4 a5 : Value} {i : Int32} {a : Nat} {st : List Value} {hp : qzH} (ha : qzArr 4 a hp.1 = true) (hi : qzIn i (qzk a).2 = true) : qzV d 114 14 [a0, a1, a2, a3, a4, a5] (.int i :: .ref a :: st) hp = qzV d 114 15 [a0, a1, a2, a3, a4, a5] (.int (hp.2.2 a i.toNatClampNeg) :: st) hp := qv_iald mdc_114 dX3_mirror_14 rfl ha hi
theorem eX3_mirror_15 {d : Nat} {a0 a1 a2 a3 a4 a5 : Value} {st : List Value} {hp : qzH} : qzV d 114 15 [a0, a1, a2, a3, a4, a5] (st) hp = qzV d 114 16 [a0, a1, a2, a3, a4, a5] (.int 2 :: st) hp := qv_iconst mdc_114 dX3_mirror_15 il_2 rfl
theorem eX3_mirror_16 {d : Nat} {a0 a1 a2 a3 a4 a5 : Value} {x y : Int32} {st : List Value} {hp : qzH} (hy : ¬ y = 0) : qzV d 114 16 [a0, a1, a2, a3, a4, a5] (.int y :: .int x :: st) hp = qzV d 114 17 [a0, a1, a2, a3, a4, a5] (.int (x / y) :: st) hp := qv_binD (f := fun x y => x / y) mdc_114 dX3_mirror_16 rfl rfl hy
theorem eX3_mirror_17 {d : Nat} {a0 a1 a2 a3 a4 a5 : Value} {x y : Int32} {st : List Value} {hp : qzH} : qzV d 114 17 [a0, a1, a2, a3, a4, a5] (.int y :: .int x :: st) hp = if y ≤ x then qzV d 114 110 [a0, a1, a2, a3, a4, a5] (st) hp else qzV d 114 20 [a0, a1, a2, a3, a4, a5] (st) hp := qv_if2 mdc_114 dX3_mirror_17 rfl rfl rfl
theorem eX3_mirror_20 {d : Nat} {a0 a1 a2 a3 a4 a5 : Value} {st : List Value} {hp : qzH} : qzV d 114 20 [a0, a1, a2, a3, a4, a5] (st) hp = qzV d 114 22 [a0, a1, a2, a3, a4, a5] (.int 8 :: st) hp := qv_bipush mdc_114 dX3_mirror_20 ib_8 rfl
theorem eX3_mirror_22 {d : Nat} {a1 a2 a3 a4 a5 : Value} {x : Nat} {st : List Value} {hp : qzH} : qzV d 114 22 [.ref x, a1, a2, a3, a4, a5] (st) hp = qzV d 114 23 [.ref x, a1, a2, a3, a4, a5] (.ref x :: st) hp := qv_aload (i := 0) mdc_114 dX3_mirror_22 rfl rfl rfl
theorem eX3_mirror_23 {d : Nat} {a0 a1 a2 a3 a4 a5 : Value} {a : Nat} {st : List Value} {hp : qzH} (ha : qzArr 3 a hp.1 = true) : qzV d 114 23 [a0, a1, a2, a3, a4, a5] (.ref a :: st) hp = qzV d 114 26 [a0, a1, a2, a3, a4, a5] (va_rf (hp.2.1 a 0) :: st) hp := qv_getR mdc_114 dX3_mirror_23 mdo_114 qff_3_7 ⟨by decide, rfl⟩ rfl ha
theorem eX3_mirror_26 {d : Nat} {a0 a1 a2 a3 a4 a5 : Value} {st : List Value} {hp : qzH} : qzV d 114 26 [a0, a1, a2, a3, a4, a5] (st) hp = qzV d 114 27 [a0, a1, a2, a3, a4, a5] (.int 1 :: st) hp := qv_iconst mdc_114 dX3_mirror_26 il_1 rfl
theorem eX3_mirror_27 {d : Nat} {a0 a1 a2 a3 a4 a5 : Value} {i : Int32} {a : Nat} {st : List Value} {hp : qzH} (ha : qzArr 4 a hp.1 = true) (hi : qzIn i (qzk a).2 = true) : qzV d 114 27 [a0, a1, a2, a3, a4, a5] (.int i :: .ref a :: st) hp = qzV d 114 28 [a0, a1, a2, a3, a4, a5] (.int (hp.2.2 a i.toNatClampNeg) :: st) hp := qv_iald mdc_114 dX3_mirror_27 rfl ha hi
theorem eX3_mirror_28 {d : Nat} {a0 a1 a2 a3 a4 a5 : Value} {x y : Int32} {st : List Value} {hp : qzH} : qzV d 114 28 [a0, a1, a2, a3, a4, a5] (.int y :: .int x :: st) hp = qzV d 114 29 [a0, a1, a2, a3, a4, a5] (.int (x + y) :: st) hp := qv_bin (f := fun x y => x + y) mdc_114 dX3_mirror_28 rfl rfl
theorem eX3_mirror_29 {d : Nat} {a0 a1 a3 a4 a5 : Value} {x : Int32} {st : List Value} {hp : qzH} : qzV d 114 29 [a0, a1, .int x, a3, a4, a5] (st) hp = qzV d 114 30 [a0, a1, .int x, a3, a4, a5] (.int x :: st) hp := qv_iload (i := 2) mdc_114 dX3_mirror_29 rfl rfl rfl
theorem eX3_mirror_30 {d : Nat} {a0 a1 a2 a3 a4 a5 : Value} {x y : Int32} {st : List Value} {hp : qzH} : qzV d 114 30 [a0, a1, a2, a3, a4, a5] (.int y :: .int x :: st) hp = qzV d 114 31 [a0, a1, a2, a3, a4, a5] (.int (x + y) :: st) hp := qv_bin (f := fun x y => x + y) mdc_114 dX3_mirror_30 rfl rfl
theorem eX3_mirror_31 {d : Nat} {a0 a1 a2 a3 a4 a5 : Value} {x : Int32} {st : List Value} {hp : qzH} : qzV d 114 31 [a0, a1, a2, a3, a4, a5] (.int x :: st) hp = qzV d 114 32 [a0, a1, a2, .int x, a4, a5] (st) hp := qv_istore (i := 3) mdc_114 dX3_mirror_31 rfl (Nat.le_of_ble_eq_true rfl) rfl rfl
theorem eX3_mirror_32 {d : Nat} {a0 a1 a2 a3 a4 a5 : Value} {st : List Value} {hp : qzH} : qzV d 114 32 [a0, a1, a2, a3, a4, a5] (st) hp = qzV d 114 34 [a0, a1, a2, a3, a4, a5] (.int 8 :: st) hp := qv_bipush mdc_114 dX3_mirror_32 ib_8 rfl
theorem eX3_mirror_34 {d : Nat} {a1 a2 a3 a4 a5 : Value} {x : Nat} {st : List Value} {hp : qzH} : qzV d 114 34 [.ref x, a1, a2, a3, a4, a5] (st) hp = qzV d 114 35 [.ref x, a1, a2, a3, a4, a5] (.ref x :: st) hp := qv_aload (i := 0) mdc_114 dX3_mirror_34 rfl rfl rfl
theorem eX3_mirror_35 {d : Nat} {a0 a1 a2 a3 a4 a5 : Value} {a : Nat} {st : List Value} {hp : qzH} (ha : qzArr 3 a hp.1 = true) : qzV d 114 35 [a0, a1, a2, a3, a4, a5] (.ref a :: st) hp = qzV d 114 38 [a0, a1, a2, a3, a4, a5] (va_rf (hp.2.1 a 0) :: st) hp := qv_getR mdc_114 dX3_mirror_35 mdo_114 qff_3_7 ⟨by decide, rfl⟩ rfl ha
theorem eX3_mirror_38 {d : Nat} {a0 a1 a2 a3 a4 a5 : Value} {st : List Value} {hp : qzH} : qzV d 114 38 [a0, a1, a2, a3, a4, a5] (st) hp = qzV d 114 39 [a0, a1, a2, a3, a4, a5] (.int 1 :: st) hp := qv_iconst mdc_114 dX3_mirror_38 il_1 rfl
theorem eX3_mirror_39 {d : Nat} {a0 a1 a2 a3 a4 a5 : Value} {i : Int32} {a : Nat} {st : List Value} {hp : qzH} (ha : qzArr 4 a hp.1 = true) (hi : qzIn i (qzk a).2 = true) : qzV d 114 39 [a0, a1, a2, a3, a4, a5] (.int i :: .ref a :: st) hp = qzV d 114 40 [a0, a1, a2, a3, a4, a5] (.int (hp.2.2 a i.toNatClampNeg) :: st) hp := qv_iald mdc_114 dX3_mirror_39 rfl ha hi
theorem eX3_mirror_40 {d : Nat} {a0 a1 a2 a3 a4 a5 : Value} {x y : Int32} {st : List Value} {hp : qzH} : qzV d 114 40 [a0, a1, a2, a3, a4, a5] (.int y :: .int x :: st) hp = qzV d 114 41 [a0, a1, a2, a3, a4, a5] (.int (x + y) :: st) hp := qv_bin (f := fun x y => x + y) mdc_114 dX3_mirror_40 rfl rfl
theorem eX3_mirror_41 {d : Nat} {a1 a2 a3 a4 a5 : Value} {x : Nat} {st : List Value} {hp : qzH} : qzV d 114 41 [.ref x, a1, a2, a3, a4, a5] (st) hp = qzV d 114 42 [.ref x, a1, a2, a3, a4, a5] (.ref x :: st) hp := qv_aload (i := 0) mdc_114 dX3_mirror_41 rfl rfl rfl
theorem eX3_mirror_42 {d : Nat} {a0 a1 a2 a3 a4 a5 : Value} {a : Nat} {st : List Value} {hp : qzH} (ha : qzArr 3 a hp.1 = true) : qzV d 114 42 [a0, a1, a2, a3, a4, a5] (.ref a :: st) hp = qzV d 114 45 [a0, a1, a2, a3, a4, a5] (va_rf (hp.2.1 a 0) :: st) hp := qv_getR mdc_114 dX3_mirror_42 mdo_114 qff_3_7 ⟨by decide, rfl⟩ rfl ha
theorem eX3_mirror_45 {d : Nat} {a0 a1 a2 a3 a4 a5 : Value} {st : List Value} {hp : qzH} : qzV d 114 45 [a0, a1, a2, a3, a4, a5] (st) hp = qzV d 114 46 [a0, a1, a2, a3, a4, a5] (.int 2 :: st) hp := qv_iconst mdc_114 dX3_mirror_45 il_2 rfl
theorem eX3_mirror_46 {d : Nat} {a0 a1 a2 a3 a4 a5 : Value} {i : Int32} {a : Nat} {st : List Value} {hp : qzH} (ha : qzArr 4 a hp.1 = true) (hi : qzIn i (qzk a).2 = true) : qzV d 114 46 [a0, a1, a2, a3, a4, a5] (.int i :: .ref a :: st) hp = qzV d 114 47 [a0, a1, a2, a3, a4, a5] (.int (hp.2.2 a i.toNatClampNeg) :: st) hp := qv_iald mdc_114 dX3_mirror_46 rfl ha hi
theorem eX3_mirror_47 {d : Nat} {a0 a1 a2 a3 a4 a5 : Value} {x y : Int32} {st : List Value} {hp : qzH} : qzV d 114 47 [a0, a1, a2, a3, a4, a5] (.int y :: .int x :: st) hp = qzV d 114 48 [a0, a1, a2, a3, a4, a5] (.int (x + y) :: st) hp := qv_bin (f := fun x y => x + y) mdc_114 dX3_mirror_47 rfl rfl
theorem eX3_mirror_48 {d : Nat} {a0 a1 a2 a3 a4 a5 : Value} {st : List Value} {hp : qzH} : qzV d 114 48 [a0, a1, a2, a3, a4, a5] (st) hp = qzV d 114 49 [a0, a1, a2, a3, a4, a5] (.int 1 :: st) hp := qv_iconst mdc_114 dX3_mirror_48 il_1 rfl
theorem eX3_mirror_49 {d : Nat} {a0 a1 a2 a3 a4 a5 : Value} {x y : Int32} {st : List Value} {hp : qzH} : qzV d 114 49 [a0, a1, a2, a3, a4, a5] (.int y :: .int x :: st) hp = qzV d 114 50 [a0, a1, a2, a3, a4, a5] (.int (x - y) :: st) hp := qv_bin (f := fun x y => x - y) mdc_114 dX3_mirror_49 rfl rfl
theorem eX3_mirror_50 {d : Nat} {a0 a1 a3 a4 a5 : Value} {x : Int32} {st : List Value} {hp : qzH} : qzV d 114 50 [a0, a1, .int x, a3, a4, a5] (st) hp = qzV d 114 51 [a0, a1, .int x, a3, a4, a5] (.int x :: st) hp := qv_iload (i := 2) mdc_114 dX3_mirror_50 rfl rfl rfl
theorem eX3_mirror_51 {d : Nat} {a0 a1 a2 a3 a4 a5 : Value} {x y : Int32} {st : List Value} {hp : qzH} : qzV d 114 51 [a0, a1, a2, a3, a4, a5] (.int y :: .int x :: st) hp = qzV d 114 52 [a0, a1, a2, a3, a4, a5] (.int (x - y) :: st) hp := qv_bin (f := fun x y => x - y) mdc_114 dX3_mirror_51 rfl rfl
theorem eX3_mirror_52 {d : Nat} {a0 a1 a2 a3 a4 a5 : Value} {x : Int32} {st : List Value} {hp : qzH} : qzV d 114 52 [a0, a1, a2, a3, a4, a5] (.int x :: st) hp = qzV d 114 54 [a0, a1, a2, a3, .int x, a5] (st) hp := qv_istore (i := 4) mdc_114 dX3_mirror_52 rfl (Nat.le_of_ble_eq_true rfl) rfl rfl
theorem eX3_mirror_54 {d : Nat} {a1 a2 a3 a4 a5 : Value} {x : Nat} {st : List Value} {hp : qzH} : qzV d 114 54 [.ref x, a1, a2, a3, a4, a5] (st) hp = qzV d 114 55 [.ref x, a1, a2, a3, a4, a5] (.ref x :: st) hp := qv_aload (i := 0) mdc_114 dX3_mirror_54 rfl rfl rfl
theorem eX3_mirror_55 {d : Nat} {a0 a1 a2 a3 a4 a5 : Value} {a : Nat} {st : List Value} {hp : qzH} (ha : qzArr 3 a hp.1 = true) : qzV d 114 55 [a0, a1, a2, a3, a4, a5] (.ref a :: st) hp = qzV d 114 58 [a0, a1, a2, a3, a4, a5] (va_rf (hp.2.1 a 0) :: st) hp := qv_getR mdc_114 dX3_mirror_55 mdo_114 qff_3_7 ⟨by decide, rfl⟩ rfl ha
theorem eX3_mirror_58 {d : Nat} {a0 a1 a2 a4 a5 : Value} {x : Int32} {st : List Value} {hp : qzH} : qzV d 114 58 [a0, a1, a2, .int x, a4, a5] (st) hp = qzV d 114 59 [a0, a1, a2, .int x, a4, a5] (.int x :: st) hp := qv_iload (i := 3) mdc_114 dX3_mirror_58 rfl rfl rfl
theorem eX3_mirror_59 {d : Nat} {a0 a1 a2 a3 a4 a5 : Value} {i : Int32} {a : Nat} {st : List Value} {hp : qzH} (ha : qzArr 4 a hp.1 = true) (hi : qzIn i (qzk a).2 = true) : qzV d 114 59 [a0, a1, a2, a3, a4, a5] (.int i :: .ref a :: st) hp = qzV d 114 60 [a0, a1, a2, a3, a4, a5] (.int (hp.2.2 a i.toNatClampNeg) :: st) hp := qv_iald mdc_114 dX3_mirror_59 rfl ha hi
theorem eX3_mirror_60 {d : Nat} {a0 a1 a2 a3 a4 a5 : Value} {x : Int32} {st : List Value} {hp : qzH} : qzV d 114 60 [a0, a1, a2, a3, a4, a5] (.int x :: st) hp = qzV d 114 62 [a0, a1, a2, a3, a4, .int x] (st) hp := qv_istore (i := 5) mdc_114 dX3_mirror_60 rfl (Nat.le_of_ble_eq_true rfl) rfl rfl
theorem eX3_mirror_62 {d : Nat} {a0 a2 a3 a4 a5 : Value} {x : Int32} {st : List Value} {hp : qzH} : qzV d 114 62 [a0, .int x, a2, a3, a4, a5] (st) hp = qzV d 114 63 [a0, .int x, a2, a3, a4, a5] (.int x :: st) hp := qv_iload (i := 1) mdc_114 dX3_mirror_62 rfl rfl rfl
theorem eX3_mirror_63 {d : Nat} {a0 a1 a2 a3 a4 : Value} {x : Int32} {st : List Value} {hp : qzH} : qzV d 114 63 [a0, a1, a2, a3, a4, .int x] (st) hp = qzV d 114 65 [a0, a1, a2, a3, a4, .int x] (.int x :: st) hp := qv_iload (i := 5) mdc_114 dX3_mirror_63 rfl rfl rfl
theorem eX3_mirror_65 {d : Nat} {a1 a2 a3 a4 a5 : Value} {x : Nat} {st : List Value} {hp : qzH} : qzV d 114 65 [.ref x, a1, a2, a3, a4, a5] (st) hp = qzV d 114 66 [.ref x, a1, a2, a3, a4, a5] (.ref x :: st) hp := qv_aload (i := 0) mdc_114 dX3_mirror_65 rfl rfl rfl
theorem eX3_mirror_66 {d : Nat} {a0 a1 a2 a3 a4 a5 : Value} {a : Nat} {st : List Value} {hp : qzH} (ha : qzArr 3 a hp.1 = true) : qzV d 114 66 [a0, a1, a2, a3, a4, a5] (.ref a :: st) hp = qzV d 114 69 [a0, a1, a2, a3, a4, a5] (va_rf (hp.2.1 a 0) :: st) hp := qv_getR mdc_114 dX3_mirror_66 mdo_114 qff_3_7 ⟨by decide, rfl⟩ rfl ha
theorem eX3_mirror_69 {d : Nat} {a0 a1 a2 a3 a5 : Value} {x : Int32} {st : List Value} {hp : qzH} : qzV d 114 69 [a0, a1, a2, a3, .int x, a5] (st) hp = qzV d 114 71 [a0, a1, a2, a3, .int x, a5] (.int x :: st) hp := qv_iload (i := 4) mdc_114 dX3_mirror_69 rfl rfl rfl
theorem eX3_mirror_71 {d : Nat} {a0 a1 a2 a3 a4 a5 : Value} {i : Int32} {a : Nat} {st : List Value} {hp : qzH} (ha : qzArr 4 a hp.1 = true) (hi : qzIn i (qzk a).2 = true) : qzV d 114 71 [a0, a1, a2, a3, a4, a5] (.int i :: .ref a :: st) hp = qzV d 114 72 [a0, a1, a2, a3, a4, a5] (.int (hp.2.2 a i.toNatClampNeg) :: st) hp := qv_iald mdc_114 dX3_mirror_71 rfl ha hi
theorem eX3_mirror_72 {d : Nat} {a0 a1 a2 a3 a4 a5 : Value} {x y : Int32} {st : List Value} {hp : qzH} : qzV d 114 72 [a0, a1, a2, a3, a4, a5] (.int y :: .int x :: st) hp = if ¬ x = y then qzV d 114 79 [a0, a1, a2, a3, a4, a5] (st) hp else qzV d 114 75 [a0, a1, a2, a3, a4, a5] (st) hp := qv_if2 mdc_114 dX3_mirror_72 rfl rfl rfl
theorem eX3_mirror_75 {d : Nat} {a0 a1 a2 a3 a4 a5 : Value} {st : List Value} {hp : qzH} : qzV d 114 75 [a0, a1, a2, a3, a4, a5] (st) hp = qzV d 114 76 [a0, a1, a2, a3, a4, a5] (.int 0 :: st) hp := qv_iconst mdc_114 dX3_mirror_75 il_0 rfl
theorem eX3_mirror_76 {d : Nat} {a0 a1 a2 a3 a4 a5 : Value} {st : List Value} {hp : qzH} : qzV d 114 76 [a0, a1, a2, a3, a4, a5] (st) hp = qzV d 114 80 [a0, a1, a2, a3, a4, a5] (st) hp := qv_goto mdc_114 dX3_mirror_76 rfl
theorem eX3_mirror_79 {d : Nat} {a0 a1 a2 a3 a4 a5 : Value} {st : List Value} {hp : qzH} : qzV d 114 79 [a0, a1, a2, a3, a4, a5] (st) hp = qzV d 114 80 [a0, a1, a2, a3, a4, a5] (.int 2 :: st) hp := qv_iconst mdc_114 dX3_mirror_79 il_2 rfl
theorem eX3_mirror_80 {d : Nat} {a0 a1 a2 a3 a4 a5 : Value} {x y : Int32} {st : List Value} {hp : qzH} : qzV d 114 80 [a0, a1, a2, a3, a4, a5] (.int y :: .int x :: st) hp = qzV d 114 81 [a0, a1, a2, a3, a4, a5] (.int (x + y) :: st) hp := qv_bin (f := fun x y => x + y) mdc_114 dX3_mirror_80 rfl rfl
theorem eX3_mirror_81 {d : Nat} {a0 a1 a2 a3 a4 a5 : Value} {x : Int32} {st : List Value} {hp : qzH} : qzV d 114 81 [a0, a1, a2, a3, a4, a5] (.int x :: st) hp = qzV d 114 82 [a0, .int x, a2, a3, a4, a5] (st) hp := qv_istore (i := 1) mdc_114 dX3_mirror_81 rfl (Nat.le_of_ble_eq_true rfl) rfl rfl
theorem eX3_mirror_82 {d : Nat} {a1 a2 a3 a4 a5 : Value} {x : Nat} {st : List Value} {hp : qzH} : qzV d 114 82 [.ref x, a1, a2, a3, a4, a5] (st) hp = qzV d 114 83 [.ref x, a1, a2, a3, a4, a5] (.ref x :: st) hp := qv_aload (i := 0) mdc_114 dX3_mirror_82 rfl rfl rfl
theorem eX3_mirror_83 {d : Nat} {a0 a1 a2 a3 a4 a5 : Value} {a : Nat} {st : List Value} {hp : qzH} (ha : qzArr 3 a hp.1 = true) : qzV d 114 83 [a0, a1, a2, a3, a4, a5] (.ref a :: st) hp = qzV d 114 86 [a0, a1, a2, a3, a4, a5] (va_rf (hp.2.1 a 0) :: st) hp := qv_getR mdc_114 dX3_mirror_83 mdo_114 qff_3_7 ⟨by decide, rfl⟩ rfl ha
theorem eX3_mirror_86 {d : Nat} {a0 a1 a2 a4 a5 : Value} {x : Int32} {st : List Value} {hp : qzH} : qzV d 114 86 [a0, a1, a2, .int x, a4, a5] (st) hp = qzV d 114 87 [a0, a1, a2, .int x, a4, a5] (.int x :: st) hp := qv_iload (i := 3) mdc_114 dX3_mirror_86 rfl rfl rfl
theorem eX3_mirror_87 {d : Nat} {a1 a2 a3 a4 a5 : Value} {x : Nat} {st : List Value} {hp : qzH} : qzV d 114 87 [.ref x, a1, a2, a3, a4, a5] (st) hp = qzV d 114 88 [.ref x, a1, a2, a3, a4, a5] (.ref x :: st) hp := qv_aload (i := 0) mdc_114 dX3_mirror_87 rfl rfl rfl
theorem eX3_mirror_88 {d : Nat} {a0 a1 a2 a3 a4 a5 : Value} {a : Nat} {st : List Value} {hp : qzH} (ha : qzArr 3 a hp.1 = true) : qzV d 114 88 [a0, a1, a2, a3, a4, a5] (.ref a :: st) hp = qzV d 114 91 [a0, a1, a2, a3, a4, a5] (va_rf (hp.2.1 a 0) :: st) hp := qv_getR mdc_114 dX3_mirror_88 mdo_114 qff_3_7 ⟨by decide, rfl⟩ rfl ha
theorem eX3_mirror_91 {d : Nat} {a0 a1 a2 a3 a5 : Value} {x : Int32} {st : List Value} {hp : qzH} : qzV d 114 91 [a0, a1, a2, a3, .int x, a5] (st) hp = qzV d 114 93 [a0, a1, a2, a3, .int x, a5] (.int x :: st) hp := qv_iload (i := 4) mdc_114 dX3_mirror_91 rfl rfl rfl
theorem eX3_mirror_93 {d : Nat} {a0 a1 a2 a3 a4 a5 : Value} {i : Int32} {a : Nat} {st : List Value} {hp : qzH} (ha : qzArr 4 a hp.1 = true) (hi : qzIn i (qzk a).2 = true) : qzV d 114 93 [a0, a1, a2, a3, a4, a5] (.int i :: .ref a :: st) hp = qzV d 114 94 [a0, a1, a2, a3, a4, a5] (.int (hp.2.2 a i.toNatClampNeg) :: st) hp := qv_iald mdc_114 dX3_mirror_93 rfl ha hi
theorem eX3_mirror_94 {d : Nat} {a0 a1 a2 a3 a4 a5 : Value} {i x : Int32} {a : Nat} {st : List Value} {hp : qzH} (ha : qzArr 4 a hp.1 = true) (hi : qzIn i (qzk a).2 = true) : qzV d 114 94 [a0, a1, a2, a3, a4, a5] (.int x :: .int i :: .ref a :: st) hp = qzV d 114 95 [a0, a1, a2, a3, a4, a5] st (hp.1, hp.2.1, qzUp hp.2.2 a i.toNatClampNeg x) := qv_iast mdc_114 dX3_mirror_94 rfl ha hi
theorem eX3_mirror_95 {d : Nat} {a1 a2 a3 a4 a5 : Value} {x : Nat} {st : List Value} {hp : qzH} : qzV d 114 95 [.ref x, a1, a2, a3, a4, a5] (st) hp = qzV d 114 96 [.ref x, a1, a2, a3, a4, a5] (.ref x :: st) hp := qv_aload (i := 0) mdc_114 dX3_mirror_95 rfl rfl rfl
theorem eX3_mirror_96 {d : Nat} {a0 a1 a2 a3 a4 a5 : Value} {a : Nat} {st : List Value} {hp : qzH} (ha : qzArr 3 a hp.1 = true) : qzV d 114 96 [a0, a1, a2, a3, a4, a5] (.ref a :: st) hp = qzV d 114 99 [a0, a1, a2, a3, a4, a5] (va_rf (hp.2.1 a 0) :: st) hp := qv_getR mdc_114 dX3_mirror_96 mdo_114 qff_3_7 ⟨by decide, rfl⟩ rfl ha
theorem eX3_mirror_99 {d : Nat} {a0 a1 a2 a3 a5 : Value} {x : Int32} {st : List Value} {hp : qzH} : qzV d 114 99 [a0, a1, a2, a3, .int x, a5] (st) hp = qzV d 114 101 [a0, a1, a2, a3, .int x, a5] (.int x :: st) hp := qv_iload (i := 4) mdc_114 dX3_mirror_99 rfl rfl rfl
theorem eX3_mirror_101 {d : Nat} {a0 a1 a2 a3 a4 : Value} {x : Int32} {st : List Value} {hp : qzH} : qzV d 114 101 [a0, a1, a2, a3, a4, .int x] (st) hp = qzV d 114 103 [a0, a1, a2, a3, a4, .int x] (.int x :: st) hp := qv_iload (i := 5) mdc_114 dX3_mirror_101 rfl rfl rfl
theorem eX3_mirror_103 {d : Nat} {a0 a1 a2 a3 a4 a5 : Value} {i x : Int32} {a : Nat} {st : List Value} {hp : qzH} (ha : qzArr 4 a hp.1 = true) (hi : qzIn i (qzk a).2 = true) : qzV d 114 103 [a0, a1, a2, a3, a4, a5] (.int x :: .int i :: .ref a :: st) hp = qzV d 114 104 [a0, a1, a2, a3, a4, a5] st (hp.1, hp.2.1, qzUp hp.2.2 a i.toNatClampNeg x) := qv_iast mdc_114 dX3_mirror_103 rfl ha hi
theorem eX3_mirror_104 {d : Nat} {a0 a1 a3 a4 a5 : Value} {x : Int32} {st : List Value} {hp : qzH} : qzV d 114 104 [a0, a1, .int x, a3, a4, a5] (st) hp = qzV d 114 107 [a0, a1, .int (x + 1), a3, a4, a5] (st) hp := qv_iinc mdc_114 dX3_mirror_104 rfl il_1 rfl rfl
theorem eX3_mirror_107 {d : Nat} {a0 a1 a2 a3 a4 a5 : Value} {st : List Value} {hp : qzH} : qzV d 114 107 [a0, a1, a2, a3, a4, a5] (st) hp = qzV d 114 8 [a0, a1, a2, a3, a4, a5] (st) hp := qv_goto mdc_114 dX3_mirror_107 rfl
theorem eX3_mirror_110 {d : Nat} {a0 a2 a3 a4 a5 : Value} {x : Int32} {st : List Value} {hp : qzH} : qzV d 114 110 [a0, .int x, a2, a3, a4, a5] (st) hp = qzV d 114 111 [a0, .int x, a2, a3, a4, a5] (.int x :: st) hp := qv_iload (i := 1) mdc_114 dX3_mirror_110 rfl rfl rfl
theorem eX3_mirror_111 {d : Nat} {a0 a1 a2 a3 a4 a5 : Value} {v : Int32} {hp : qzH} : qzV d 114 111 [a0, a1, a2, a3, a4, a5] [.int v] hp = some (some (.int v), hp) := qv_iret mdc_114 dX3_mirror_111 mdr_114 rfl
theorem dX3_set_0 : decode cX3_set 0 = .ok (.iload_n 1, 1) := by decide +kernel
theorem dX3_set_1 : decode cX3_set 1 = .ok (.iconst 0, 1) := by decide +kernel
theorem dX3_set_2 : decode cX3_set 2 = .ok (.iconst 2, 1) := by decide +kernel
theorem dX3_set_3 : decode cX3_set 3 = .ok (.invokestatic 62, 3) := by decide +kernel
theorem dX3_set_6 : decode cX3_set 6 = .ok (.ifCond .eq 29, 3) := by decide +kernel
theorem dX3_set_9 : decode cX3_set 9 = .ok (.iload_n 2, 1) := by decide +kernel
theorem dX3_set_10 : decode cX3_set 10 = .ok (.iload_n 1, 1) := by decide +kernel
theorem dX3_set_11 : decode cX3_set 11 = .ok (.ifCond .ne 7, 3) := by decide +kernel
theorem dX3_set_14 : decode cX3_set 14 = .ok (.iconst 1, 1) := by decide +kernel
theorem dX3_set_15 : decode cX3_set 15 = .ok (.goto 4, 3) := by decide +kernel
theorem dX3_set_18 : decode cX3_set 18 = .ok (.iconst 0, 1) := by decide +kernel
theorem dX3_set_19 : decode cX3_set 19 = .ok (.iload_n 1, 1) := by decide +kernel
theorem dX3_set_20 : decode cX3_set 20 = .ok (.ifCond .ne 7, 3) := by decide +kernel
theorem dX3_set_23 : decode cX3_set 23 = .ok (.iconst 5, 1) := by decide +kernel
theorem dX3_set_24 : decode cX3_set 24 = .ok (.goto 5, 3) := by decide +kernel
theorem dX3_set_27 : decode cX3_set 27 = .ok (.bipush 9, 2) := by decide +kernel
theorem dX3_set_29 : decode cX3_set 29 = .ok (.invokestatic 62, 3) := by decide +kernel
theorem dX3_set_32 : decode cX3_set 32 = .ok (.ifCond .ne 5, 3) := by decide +kernel
theorem dX3_set_35 : decode cX3_set 35 = .ok (.iconst (-1), 1) := by decide +kernel
theorem dX3_set_36 : decode cX3_set 36 = .ok (.ireturn, 1) := by decide +kernel
theorem dX3_set_37 : decode cX3_set 37 = .ok (.aload_n 0, 1) := by decide +kernel
theorem dX3_set_38 : decode cX3_set 38 = .ok (.invokevirtual 103, 3) := by decide +kernel
theorem dX3_set_41 : decode cX3_set 41 = .ok (.aload_n 0, 1) := by decide +kernel
theorem dX3_set_42 : decode cX3_set 42 = .ok (.getfield 7, 3) := by decide +kernel
theorem dX3_set_45 : decode cX3_set 45 = .ok (.iconst 5, 1) := by decide +kernel
theorem dX3_set_46 : decode cX3_set 46 = .ok (.iload_n 1, 1) := by decide +kernel
theorem dX3_set_47 : decode cX3_set 47 = .ok (.iadd, 1) := by decide +kernel
theorem dX3_set_48 : decode cX3_set 48 = .ok (.iaload, 1) := by decide +kernel
theorem dX3_set_49 : decode cX3_set 49 = .ok (.istore_n 3, 1) := by decide +kernel
theorem dX3_set_50 : decode cX3_set 50 = .ok (.aload_n 0, 1) := by decide +kernel
theorem dX3_set_51 : decode cX3_set 51 = .ok (.getfield 7, 3) := by decide +kernel
theorem dX3_set_54 : decode cX3_set 54 = .ok (.iconst 5, 1) := by decide +kernel
theorem dX3_set_55 : decode cX3_set 55 = .ok (.iload_n 1, 1) := by decide +kernel
theorem dX3_set_56 : decode cX3_set 56 = .ok (.iadd, 1) := by decide +kernel
theorem dX3_set_57 : decode cX3_set 57 = .ok (.iload_n 2, 1) := by decide +kernel
theorem dX3_set_58 : decode cX3_set 58 = .ok (.iastore, 1) := by decide +kernel
theorem dX3_set_59 : decode cX3_set 59 = .ok (.iload_n 3, 1) := by decide +kernel
theorem dX3_set_60 : decode cX3_set 60 = .ok (.ireturn, 1) := by decide +kernel
theorem eX3_set_0 {d : Nat} {a0 a2 a3 : Value} {x : Int32} {st : List Value} {hp : qzH} : qzV d 115 0 [a0, .int x, a2, a3] (st) hp = qzV d 115 1 [a0, .int x, a2, a3] (.int x :: st) hp := qv_iload (i := 1) mdc_115 dX3_set_0 rfl rfl rfl
theorem eX3_set_1 {d : Nat} {a0 a1 a2 a3 : Value} {st : List Value} {hp : qzH} : qzV d 115 1 [a0, a1, a2, a3] (st) hp = qzV d 115 2 [a0, a1, a2, a3] (.int 0 :: st) hp := qv_iconst mdc_115 dX3_set_1 il_0 rfl
theorem eX3_set_2 {d : Nat} {a0 a1 a2 a3 : Value} {st : List Value} {hp : qzH} : qzV d 115 2 [a0, a1, a2, a3] (st) hp = qzV d 115 3 [a0, a1, a2, a3] (.int 2 :: st) hp := qv_iconst mdc_115 dX3_set_2 il_2 rfl
theorem eX3_set_3 {d : Nat} {a0 a1 a2 a3 : Value} {w0 w1 w2 : Value} {st : List Value} {hp : qzH} (h8 : st.length ≤ 8) : qzV (d + 1) 115 3 [a0, a1, a2, a3] (w2 :: w1 :: w0 :: st) hp = (qzC d 87 [w0, w1, w2] hp).bind (fun r => qzV (d + 1) 115 6 [a0, a1, a2, a3] (r.1.toList ++ st) r.2) := qv_calls (n := 3) mdc_115 dX3_set_3 mdo_115 (by decide) qfc_3_62 ⟨rfl, by decide, rfl⟩ rfl ⟨rfl, rfl, by simp only [List.length_cons]; omega⟩ h8
theorem eX3_set_6 {d : Nat} {a0 a1 a2 a3 : Value} {x : Int32} {st : List Value} {hp : qzH} : qzV d 115 6 [a0, a1, a2, a3] (.int x :: st) hp = if x = 0 then qzV d 115 35 [a0, a1, a2, a3] (st) hp else qzV d 115 9 [a0, a1, a2, a3] (st) hp := qv_if1 mdc_115 dX3_set_6 rfl rfl rfl
theorem eX3_set_9 {d : Nat} {a0 a1 a3 : Value} {x : Int32} {st : List Value} {hp : qzH} : qzV d 115 9 [a0, a1, .int x, a3] (st) hp = qzV d 115 10 [a0, a1, .int x, a3] (.int x :: st) hp := qv_iload (i := 2) mdc_115 dX3_set_9 rfl rfl rfl
theorem eX3_set_10 {d : Nat} {a0 a2 a3 : Value} {x : Int32} {st : List Value} {hp : qzH} : qzV d 115 10 [a0, .int x, a2, a3] (st) hp = qzV d 115 11 [a0, .int x, a2, a3] (.int x :: st) hp := qv_iload (i := 1) mdc_115 dX3_set_10 rfl rfl rfl
theorem eX3_set_11 {d : Nat} {a0 a1 a2 a3 : Value} {x : Int32} {st : List Value} {hp : qzH} : qzV d 115 11 [a0, a1, a2, a3] (.int x :: st) hp = if ¬ x = 0 then qzV d 115 18 [a0, a1, a2, a3] (st) hp else qzV d 115 14 [a0, a1, a2, a3] (st) hp := qv_if1 mdc_115 dX3_set_11 rfl rfl rfl
theorem eX3_set_14 {d : Nat} {a0 a1 a2 a3 : Value} {st : List Value} {hp : qzH} : qzV d 115 14 [a0, a1, a2, a3] (st) hp = qzV d 115 15 [a0, a1, a2, a3] (.int 1 :: st) hp := qv_iconst mdc_115 dX3_set_14 il_1 rfl
theorem eX3_set_15 {d : Nat} {a0 a1 a2 a3 : Value} {st : List Value} {hp : qzH} : qzV d 115 15 [a0, a1, a2, a3] (st) hp = qzV d 115 19 [a0, a1, a2, a3] (st) hp := qv_goto mdc_115 dX3_set_15 rfl
theorem eX3_set_18 {d : Nat} {a0 a1 a2 a3 : Value} {st : List Value} {hp : qzH} : qzV d 115 18 [a0, a1, a2, a3] (st) hp = qzV d 115 19 [a0, a1, a2, a3] (.int 0 :: st) hp := qv_iconst mdc_115 dX3_set_18 il_0 rfl
theorem eX3_set_19 {d : Nat} {a0 a2 a3 : Value} {x : Int32} {st : List Value} {hp : qzH} : qzV d 115 19 [a0, .int x, a2, a3] (st) hp = qzV d 115 20 [a0, .int x, a2, a3] (.int x :: st) hp := qv_iload (i := 1) mdc_115 dX3_set_19 rfl rfl rfl
theorem eX3_set_20 {d : Nat} {a0 a1 a2 a3 : Value} {x : Int32} {st : List Value} {hp : qzH} : qzV d 115 20 [a0, a1, a2, a3] (.int x :: st) hp = if ¬ x = 0 then qzV d 115 27 [a0, a1, a2, a3] (st) hp else qzV d 115 23 [a0, a1, a2, a3] (st) hp := qv_if1 mdc_115 dX3_set_20 rfl rfl rfl
theorem eX3_set_23 {d : Nat} {a0 a1 a2 a3 : Value} {st : List Value} {hp : qzH} : qzV d 115 23 [a0, a1, a2, a3] (st) hp = qzV d 115 24 [a0, a1, a2, a3] (.int 5 :: st) hp := qv_iconst mdc_115 dX3_set_23 il_5 rfl
theorem eX3_set_24 {d : Nat} {a0 a1 a2 a3 : Value} {st : List Value} {hp : qzH} : qzV d 115 24 [a0, a1, a2, a3] (st) hp = qzV d 115 29 [a0, a1, a2, a3] (st) hp := qv_goto mdc_115 dX3_set_24 rfl
theorem eX3_set_27 {d : Nat} {a0 a1 a2 a3 : Value} {st : List Value} {hp : qzH} : qzV d 115 27 [a0, a1, a2, a3] (st) hp = qzV d 115 29 [a0, a1, a2, a3] (.int 9 :: st) hp := qv_bipush mdc_115 dX3_set_27 ib_9 rfl
theorem eX3_set_29 {d : Nat} {a0 a1 a2 a3 : Value} {w0 w1 w2 : Value} {st : List Value} {hp : qzH} (h8 : st.length ≤ 8) : qzV (d + 1) 115 29 [a0, a1, a2, a3] (w2 :: w1 :: w0 :: st) hp = (qzC d 87 [w0, w1, w2] hp).bind (fun r => qzV (d + 1) 115 32 [a0, a1, a2, a3] (r.1.toList ++ st) r.2) := qv_calls (n := 3) mdc_115 dX3_set_29 mdo_115 (by decide) qfc_3_62 ⟨rfl, by decide, rfl⟩ rfl ⟨rfl, rfl, by simp only [List.length_cons]; omega⟩ h8
theorem eX3_set_32 {d : Nat} {a0 a1 a2 a3 : Value} {x : Int32} {st : List Value} {hp : qzH} : qzV d 115 32 [a0, a1, a2, a3] (.int x :: st) hp = if ¬ x = 0 then qzV d 115 37 [a0, a1, a2, a3] (st) hp else qzV d 115 35 [a0, a1, a2, a3] (st) hp := qv_if1 mdc_115 dX3_set_32 rfl rfl rfl
theorem eX3_set_35 {d : Nat} {a0 a1 a2 a3 : Value} {st : List Value} {hp : qzH} : qzV d 115 35 [a0, a1, a2, a3] (st) hp = qzV d 115 36 [a0, a1, a2, a3] (.int (-1) :: st) hp := qv_iconst mdc_115 dX3_set_35 il_m1 rfl
theorem eX3_set_36 {d : Nat} {a0 a1 a2 a3 : Value} {v : Int32} {hp : qzH} : qzV d 115 36 [a0, a1, a2, a3] [.int v] hp = some (some (.int v), hp) := qv_iret mdc_115 dX3_set_36 mdr_115 rfl
theorem eX3_set_37 {d : Nat} {a1 a2 a3 : Value} {x : Nat} {st : List Value} {hp : qzH} : qzV d 115 37 [.ref x, a1, a2, a3] (st) hp = qzV d 115 38 [.ref x, a1, a2, a3] (.ref x :: st) hp := qv_aload (i := 0) mdc_115 dX3_set_37 rfl rfl rfl
theorem eX3_set_38 {d : Nat} {a0 a1 a2 a3 : Value} {b : Nat} {st : List Value} {hp : qzH} (h8 : st.length ≤ 8) (hb : qzArr 3 b hp.1 = true) : qzV (d + 1) 115 38 [a0, a1, a2, a3] (.ref b :: st) hp = (qzC d 89 (.ref b :: []) hp).bind (fun r => qzV (d + 1) 115 41 [a0, a1, a2, a3] (r.1.toList ++ st) r.2) := qv_callv (n := 0) mdc_115 dX3_set_38 mdo_115 (by decide) qfc_3_103 ⟨rfl, by decide, rfl⟩ rfl ⟨rfl, rfl, by simp only [List.length_cons]; omega⟩ h8 hb
theorem eX3_set_41 {d : Nat} {a1 a2 a3 : Value} {x : Nat} {st : List Value} {hp : qzH} : qzV d 115 41 [.ref x, a1, a2, a3] (st) hp = qzV d 115 42 [.ref x, a1, a2, a3] (.ref x :: st) hp := qv_aload (i := 0) mdc_115 dX3_set_41 rfl rfl rfl
theorem eX3_set_42 {d : Nat} {a0 a1 a2 a3 : Value} {a : Nat} {st : List Value} {hp : qzH} (ha : qzArr 3 a hp.1 = true) : qzV d 115 42 [a0, a1, a2, a3] (.ref a :: st) hp = qzV d 115 45 [a0, a1, a2, a3] (va_rf (hp.2.1 a 0) :: st) hp := qv_getR mdc_115 dX3_set_42 mdo_115 qff_3_7 ⟨by decide, rfl⟩ rfl ha
theorem eX3_set_45 {d : Nat} {a0 a1 a2 a3 : Value} {st : List Value} {hp : qzH} : qzV d 115 45 [a0, a1, a2, a3] (st) hp = qzV d 115 46 [a0, a1, a2, a3] (.int 5 :: st) hp := qv_iconst mdc_115 dX3_set_45 il_5 rfl
theorem eX3_set_46 {d : Nat} {a0 a2 a3 : Value} {x : Int32} {st : List Value} {hp : qzH} : qzV d 115 46 [a0, .int x, a2, a3] (st) hp = qzV d 115 47 [a0, .int x, a2, a3] (.int x :: st) hp := qv_iload (i := 1) mdc_115 dX3_set_46 rfl rfl rfl
theorem eX3_set_47 {d : Nat} {a0 a1 a2 a3 : Value} {x y : Int32} {st : List Value} {hp : qzH} : qzV d 115 47 [a0, a1, a2, a3] (.int y :: .int x :: st) hp = qzV d 115 48 [a0, a1, a2, a3] (.int (x + y) :: st) hp := qv_bin (f := fun x y => x + y) mdc_115 dX3_set_47 rfl rfl
theorem eX3_set_48 {d : Nat} {a0 a1 a2 a3 : Value} {i : Int32} {a : Nat} {st : List Value} {hp : qzH} (ha : qzArr 4 a hp.1 = true) (hi : qzIn i (qzk a).2 = true) : qzV d 115 48 [a0, a1, a2, a3] (.int i :: .ref a :: st) hp = qzV d 115 49 [a0, a1, a2, a3] (.int (hp.2.2 a i.toNatClampNeg) :: st) hp := qv_iald mdc_115 dX3_set_48 rfl ha hi
theorem eX3_set_49 {d : Nat} {a0 a1 a2 a3 : Value} {x : Int32} {st : List Value} {hp : qzH} : qzV d 115 49 [a0, a1, a2, a3] (.int x :: st) hp = qzV d 115 50 [a0, a1, a2, .int x] (st) hp := qv_istore (i := 3) mdc_115 dX3_set_49 rfl (Nat.le_of_ble_eq_true rfl) rfl rfl
theorem eX3_set_50 {d : Nat} {a1 a2 a3 : Value} {x : Nat} {st : List Value} {hp : qzH} : qzV d 115 50 [.ref x, a1, a2, a3] (st) hp = qzV d 115 51 [.ref x, a1, a2, a3] (.ref x :: st) hp := qv_aload (i := 0) mdc_115 dX3_set_50 rfl rfl rfl
theorem eX3_set_51 {d : Nat} {a0 a1 a2 a3 : Value} {a : Nat} {st : List Value} {hp : qzH} (ha : qzArr 3 a hp.1 = true) : qzV d 115 51 [a0, a1, a2, a3] (.ref a :: st) hp = qzV d 115 54 [a0, a1, a2, a3] (va_rf (hp.2.1 a 0) :: st) hp := qv_getR mdc_115 dX3_set_51 mdo_115 qff_3_7 ⟨by decide, rfl⟩ rfl ha
theorem eX3_set_54 {d : Nat} {a0 a1 a2 a3 : Value} {st : List Value} {hp : qzH} : qzV d 115 54 [a0, a1, a2, a3] (st) hp = qzV d 115 55 [a0, a1, a2, a3] (.int 5 :: st) hp := qv_iconst mdc_115 dX3_set_54 il_5 rfl
theorem eX3_set_55 {d : Nat} {a0 a2 a3 : Value} {x : Int32} {st : List Value} {hp : qzH} : qzV d 115 55 [a0, .int x, a2, a3] (st) hp = qzV d 115 56 [a0, .int x, a2, a3] (.int x :: st) hp := qv_iload (i := 1) mdc_115 dX3_set_55 rfl rfl rfl
theorem eX3_set_56 {d : Nat} {a0 a1 a2 a3 : Value} {x y : Int32} {st : List Value} {hp : qzH} : qzV d 115 56 [a0, a1, a2, a3] (.int y :: .int x :: st) hp = qzV d 115 57 [a0, a1, a2, a3] (.int (x + y) :: st) hp := qv_bin (f := fun x y => x + y) mdc_115 dX3_set_56 rfl rfl
theorem eX3_set_57 {d : Nat} {a0 a1 a3 : Value} {x : Int32} {st : List Value} {hp : qzH} : qzV d 115 57 [a0, a1, .int x, a3] (st) hp = qzV d 115 58 [a0, a1, .int x, a3] (.int x :: st) hp := qv_iload (i := 2) mdc_115 dX3_set_57 rfl rfl rfl
theorem eX3_set_58 {d : Nat} {a0 a1 a2 a3 : Value} {i x : Int32} {a : Nat} {st : List Value} {hp : qzH} (ha : qzArr 4 a hp.1 = true) (hi : qzIn i (qzk a).2 = true) : qzV d 115 58 [a0, a1, a2, a3] (.int x :: .int i :: .ref a :: st) hp = qzV d 115 59 [a0, a1, a2, a3] st (hp.1, hp.2.1, qzUp hp.2.2 a i.toNatClampNeg x) := qv_iast mdc_115 dX3_set_58 rfl ha hi
theorem eX3_set_59 {d : Nat} {a0 a1 a2 : Value} {x : Int32} {st : List Value} {hp : qzH} : qzV d 115 59 [a0, a1, a2, .int x] (st) hp = qzV d 115 60 [a0, a1, a2, .int x] (.int x :: st) hp := qv_iload (i := 3) mdc_115 dX3_set_59 rfl rfl rfl
theorem eX3_set_60 {d : Nat} {a0 a1 a2 a3 : Value} {v : Int32} {hp : qzH} : qzV d 115 60 [a0, a1, a2, a3] [.int v] hp = some (some (.int v), hp) := qv_iret mdc_115 dX3_set_60 mdr_115 rfl
