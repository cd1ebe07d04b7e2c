theorem dL_low_0 : decode cL_low 0 = .ok (.iload_n 0, 1) := by decide +kernel
theorem dL_low_1 : decode cL_low 1 = .ok (.ldc 8, 2) := by decide +kernel
theorem dL_low_3 : decode cL_low 3 = .ok (.iand, 1) := by decide +kernel
theorem dL_low_4 : decode cL_low 4 = .ok (.iload_n 1, 1) := by decide +kernel
theorem dL_low_5 : decode cL_low 5 = .ok (.irem, 1) := by decide +kernel
theorem dL_low_6 : decode cL_low 6 = .ok (.ireturn, 1) := by decide +kernel
theorem eL_low_0 {E : qyE} {k : Nat} {a1 : Value} {x : Int32} {st : List Value} {hp : qzH} : qyV E k 0 0 [.int x, a1] (st) hp = qyV E k 0 1 [.int x, a1] (.int x :: st) hp := wv_iload (i := 0) ydc_0 dL_low_0 rfl rfl rfl
theorem eL_low_1 {E : qyE} {k : Nat} {a0 a1 : Value} {st : List Value} {hp : qzH} : qyV E k 0 1 [a0, a1] (st) hp = qyV E k 0 3 [a0, a1] (.int 2147483647 :: st) hp := wv_ldc ydc_0 dL_low_1 (by decide) rfl
theorem eL_low_3 {E : qyE} {k : Nat} {a0 a1 : Value} {x y : Int32} {st : List Value} {hp : qzH} : qyV E k 0 3 [a0, a1] (.int y :: .int x :: st) hp = qyV E k 0 4 [a0, a1] (.int (x &&& y) :: st) hp := wv_bin (f := fun x y => x &&& y) ydc_0 dL_low_3 rfl rfl
theorem eL_low_4 {E : qyE} {k : Nat} {a0 : Value} {x : Int32} {st : List Value} {hp : qzH} : qyV E k 0 4 [a0, .int x] (st) hp = qyV E k 0 5 [a0, .int x] (.int x :: st) hp := wv_iload (i := 1) ydc_0 dL_low_4 rfl rfl rfl
theorem eL_low_5 {E : qyE} {k : Nat} {a0 a1 : Value} {x y : Int32} {st : List Value} {hp : qzH} (hy : ¬ y = 0) : qyV E k 0 5 [a0, a1] (.int y :: .int x :: st) hp = qyV E k 0 6 [a0, a1] (.int (x - x / y * y) :: st) hp := wv_binD (f := fun x y => x - x / y * y) ydc_0 dL_low_5 rfl rfl hy
theorem eL_low_6 {E : qyE} {k : Nat} {a0 a1 : Value} {v : Int32} {hp : qzH} : qyV E k 0 6 [a0, a1] [.int v] hp = some (.int v, hp) := wv_iret ydc_0 dL_low_6 rfl rfl
theorem dL_look_0 : decode cL_look 0 = .ok (.ldc2_w 9, 3) := by decide +kernel
theorem dL_look_3 : decode cL_look 3 = .ok (.lstore_n 1, 1) := by decide +kernel
theorem dL_look_4 : decode cL_look 4 = .ok (.iconst 0, 1) := by decide +kernel
theorem dL_look_5 : decode cL_look 5 = .ok (.istore_n 3, 1) := by decide +kernel
theorem dL_look_6 : decode cL_look 6 = .ok (.iload_n 3, 1) := by decide +kernel
theorem dL_look_7 : decode cL_look 7 = .ok (.bipush 12, 2) := by decide +kernel
theorem dL_look_9 : decode cL_look 9 = .ok (.if_icmp .ge 22, 3) := by decide +kernel
theorem dL_look_12 : decode cL_look 12 = .ok (.ldc2_w 11, 3) := by decide +kernel
theorem dL_look_15 : decode cL_look 15 = .ok (.lload_n 1, 1) := by decide +kernel
theorem dL_look_16 : decode cL_look 16 = .ok (.lmul, 1) := by decide +kernel
theorem dL_look_17 : decode cL_look 17 = .ok (.aload_n 0, 1) := by decide +kernel
theorem dL_look_18 : decode cL_look 18 = .ok (.iload_n 3, 1) := by decide +kernel
theorem dL_look_19 : decode cL_look 19 = .ok (.invokevirtual 13, 3) := by decide +kernel
theorem dL_look_22 : decode cL_look 22 = .ok (.i2l, 1) := by decide +kernel
theorem dL_look_23 : decode cL_look 23 = .ok (.ladd, 1) := by decide +kernel
theorem dL_look_24 : decode cL_look 24 = .ok (.lstore_n 1, 1) := by decide +kernel
theorem dL_look_25 : decode cL_look 25 = .ok (.iinc 3 1, 3) := by decide +kernel
theorem dL_look_28 : decode cL_look 28 = .ok (.goto (-22), 3) := by decide +kernel
theorem dL_look_31 : decode cL_look 31 = .ok (.iconst 0, 1) := by decide +kernel
theorem dL_look_32 : decode cL_look 32 = .ok (.istore_n 3, 1) := by decide +kernel
theorem dL_look_33 : decode cL_look 33 = .ok (.iload_n 3, 1) := by decide +kernel
theorem dL_look_34 : decode cL_look 34 = .ok (.aload_n 0, 1) := by decide +kernel
theorem dL_look_35 : decode cL_look 35 = .ok (.iconst 0, 1) := by decide +kernel
theorem dL_look_36 : decode cL_look 36 = .ok (.invokevirtual 13, 3) := by decide +kernel
theorem dL_look_39 : decode cL_look 39 = .ok (.if_icmp .ge 22, 3) := by decide +kernel
theorem dL_look_42 : decode cL_look 42 = .ok (.ldc2_w 11, 3) := by decide +kernel
theorem dL_look_45 : decode cL_look 45 = .ok (.lload_n 1, 1) := by decide +kernel
theorem dL_look_46 : decode cL_look 46 = .ok (.lmul, 1) := by decide +kernel
theorem dL_look_47 : decode cL_look 47 = .ok (.aload_n 0, 1) := by decide +kernel
theorem dL_look_48 : decode cL_look 48 = .ok (.iload_n 3, 1) := by decide +kernel
theorem dL_look_49 : decode cL_look 49 = .ok (.invokevirtual 19, 3) := by decide +kernel
theorem dL_look_52 : decode cL_look 52 = .ok (.i2l, 1) := by decide +kernel
theorem dL_look_53 : decode cL_look 53 = .ok (.ladd, 1) := by decide +kernel
theorem dL_look_54 : decode cL_look 54 = .ok (.lstore_n 1, 1) := by decide +kernel
theorem dL_look_55 : decode cL_look 55 = .ok (.iinc 3 1, 3) := by decide +kernel
theorem dL_look_58 : decode cL_look 58 = .ok (.goto (-25), 3) := by decide +kernel
theorem dL_look_61 : decode cL_look 61 = .ok (.iconst 0, 1) := by decide +kernel
theorem dL_look_62 : decode cL_look 62 = .ok (.istore_n 3, 1) := by decide +kernel
theorem dL_look_63 : decode cL_look 63 = .ok (.iload_n 3, 1) := by decide +kernel
theorem dL_look_64 : decode cL_look 64 = .ok (.iconst 2, 1) := by decide +kernel
theorem dL_look_65 : decode cL_look 65 = .ok (.if_icmp .ge 118, 3) := by decide +kernel
theorem dL_look_68 : decode cL_look 68 = .ok (.iconst 0, 1) := by decide +kernel
theorem dL_look_69 : decode cL_look 69 = .ok (.istore 4, 2) := by decide +kernel
theorem dL_look_71 : decode cL_look 71 = .ok (.iload 4, 2) := by decide +kernel
theorem dL_look_73 : decode cL_look 73 = .ok (.bipush 6, 2) := by decide +kernel
theorem dL_look_75 : decode cL_look 75 = .ok (.if_icmp .ge 24, 3) := by decide +kernel
theorem dL_look_78 : decode cL_look 78 = .ok (.ldc2_w 11, 3) := by decide +kernel
theorem dL_look_81 : decode cL_look 81 = .ok (.lload_n 1, 1) := by decide +kernel
theorem dL_look_82 : decode cL_look 82 = .ok (.lmul, 1) := by decide +kernel
theorem dL_look_83 : decode cL_look 83 = .ok (.aload_n 0, 1) := by decide +kernel
theorem dL_look_84 : decode cL_look 84 = .ok (.iload_n 3, 1) := by decide +kernel
theorem dL_look_85 : decode cL_look 85 = .ok (.iload 4, 2) := by decide +kernel
theorem dL_look_87 : decode cL_look 87 = .ok (.invokevirtual 22, 3) := by decide +kernel
theorem dL_look_90 : decode cL_look 90 = .ok (.i2l, 1) := by decide +kernel
theorem dL_look_91 : decode cL_look 91 = .ok (.ladd, 1) := by decide +kernel
theorem dL_look_92 : decode cL_look 92 = .ok (.lstore_n 1, 1) := by decide +kernel
theorem dL_look_93 : decode cL_look 93 = .ok (.iinc 4 1, 3) := by decide +kernel
theorem dL_look_96 : decode cL_look 96 = .ok (.goto (-25), 3) := by decide +kernel
theorem dL_look_99 : decode cL_look 99 = .ok (.iconst 0, 1) := by decide +kernel
theorem dL_look_100 : decode cL_look 100 = .ok (.istore 4, 2) := by decide +kernel
theorem dL_look_102 : decode cL_look 102 = .ok (.iload 4, 2) := by decide +kernel
theorem dL_look_104 : decode cL_look 104 = .ok (.aload_n 0, 1) := by decide +kernel
theorem dL_look_105 : decode cL_look 105 = .ok (.iload_n 3, 1) := by decide +kernel
theorem dL_look_106 : decode cL_look 106 = .ok (.iconst 1, 1) := by decide +kernel
theorem dL_look_107 : decode cL_look 107 = .ok (.invokevirtual 22, 3) := by decide +kernel
theorem dL_look_110 : decode cL_look 110 = .ok (.if_icmp .ge 67, 3) := by decide +kernel
theorem dL_look_113 : decode cL_look 113 = .ok (.ldc2_w 11, 3) := by decide +kernel
theorem dL_look_116 : decode cL_look 116 = .ok (.ldc2_w 11, 3) := by decide +kernel
theorem dL_look_119 : decode cL_look 119 = .ok (.ldc2_w 11, 3) := by decide +kernel
theorem dL_look_122 : decode cL_look 122 = .ok (.ldc2_w 11, 3) := by decide +kernel
theorem dL_look_125 : decode cL_look 125 = .ok (.lload_n 1, 1) := by decide +kernel
theorem dL_look_126 : decode cL_look 126 = .ok (.lmul, 1) := by decide +kernel
theorem dL_look_127 : decode cL_look 127 = .ok (.aload_n 0, 1) := by decide +kernel
theorem dL_look_128 : decode cL_look 128 = .ok (.iload_n 3, 1) := by decide +kernel
theorem dL_look_129 : decode cL_look 129 = .ok (.iload 4, 2) := by decide +kernel
theorem dL_look_131 : decode cL_look 131 = .ok (.iconst 0, 1) := by decide +kernel
theorem dL_look_132 : decode cL_look 132 = .ok (.invokevirtual 26, 3) := by decide +kernel
theorem dL_look_135 : decode cL_look 135 = .ok (.i2l, 1) := by decide +kernel
theorem dL_look_136 : decode cL_look 136 = .ok (.ladd, 1) := by decide +kernel
theorem dL_look_137 : decode cL_look 137 = .ok (.lmul, 1) := by decide +kernel
theorem dL_look_138 : decode cL_look 138 = .ok (.aload_n 0, 1) := by decide +kernel
theorem dL_look_139 : decode cL_look 139 = .ok (.iload_n 3, 1) := by decide +kernel
theorem dL_look_140 : decode cL_look 140 = .ok (.iload 4, 2) := by decide +kernel
theorem dL_look_142 : decode cL_look 142 = .ok (.iconst 1, 1) := by decide +kernel
theorem dL_look_143 : decode cL_look 143 = .ok (.invokevirtual 26, 3) := by decide +kernel
theorem dL_look_146 : decode cL_look 146 = .ok (.i2l, 1) := by decide +kernel
theorem dL_look_147 : decode cL_look 147 = .ok (.ladd, 1) := by decide +kernel
theorem dL_look_148 : decode cL_look 148 = .ok (.lmul, 1) := by decide +kernel
theorem dL_look_149 : decode cL_look 149 = .ok (.aload_n 0, 1) := by decide +kernel
theorem dL_look_150 : decode cL_look 150 = .ok (.iload_n 3, 1) := by decide +kernel
theorem dL_look_151 : decode cL_look 151 = .ok (.iload 4, 2) := by decide +kernel
theorem dL_look_153 : decode cL_look 153 = .ok (.iconst 2, 1) := by decide +kernel
theorem dL_look_154 : decode cL_look 154 = .ok (.invokevirtual 26, 3) := by decide +kernel
theorem dL_look_157 : decode cL_look 157 = .ok (.i2l, 1) := by decide +kernel
theorem dL_look_158 : decode cL_look 158 = .ok (.ladd, 1) := by decide +kernel
theorem dL_look_159 : decode cL_look 159 = .ok (.lmul, 1) := by decide +kernel
theorem dL_look_160 : decode cL_look 160 = .ok (.aload_n 0, 1) := by decide +kernel
theorem dL_look_161 : decode cL_look 161 = .ok (.iload_n 3, 1) := by decide +kernel
theorem dL_look_162 : decode cL_look 162 = .ok (.iload 4, 2) := by decide +kernel
theorem dL_look_164 : decode cL_look 164 = .ok (.iconst 3, 1) := by decide +kernel
theorem dL_look_165 : decode cL_look 165 = .ok (.invokevirtual 26, 3) := by decide +kernel
theorem dL_look_168 : decode cL_look 168 = .ok (.i2l, 1) := by decide +kernel
theorem dL_look_169 : decode cL_look 169 = .ok (.ladd, 1) := by decide +kernel
theorem dL_look_170 : decode cL_look 170 = .ok (.lstore_n 1, 1) := by decide +kernel
theorem dL_look_171 : decode cL_look 171 = .ok (.iinc 4 1, 3) := by decide +kernel
theorem dL_look_174 : decode cL_look 174 = .ok (.goto (-72), 3) := by decide +kernel
theorem dL_look_177 : decode cL_look 177 = .ok (.iinc 3 1, 3) := by decide +kernel
theorem dL_look_180 : decode cL_look 180 = .ok (.goto (-117), 3) := by decide +kernel
theorem dL_look_183 : decode cL_look 183 = .ok (.lload_n 1, 1) := by decide +kernel
theorem dL_look_184 : decode cL_look 184 = .ok (.lreturn, 1) := by decide +kernel
theorem eL_look_0 {E : qyE} {k : Nat} {a0 a1 a2 a3 a4 : Value} {st : List Value} {hp : qzH} : qyV E k 1 0 [a0, a1, a2, a3, a4] (st) hp = qyV E k 1 3 [a0, a1, a2, a3, a4] (.long 397 :: st) hp := wv_ldc2 ydc_1 dL_look_0 (by decide) rfl
theorem eL_look_3 {E : qyE} {k : Nat} {a0 a1 a2 a3 a4 : Value} {x : Int64} {st : List Value} {hp : qzH} (hv : a0.category = 1) : qyV E k 1 3 [a0, a1, a2, a3, a4] (.long x :: st) hp = qyV E k 1 4 [a0, .long x, .float 0, a3, a4] (st) hp := wv_lstore (i := 1) ydc_1 dL_look_3 rfl (Nat.le_of_ble_eq_true rfl) ⟨rfl, qyPv_of rfl hv⟩ rfl rfl
theorem eL_look_4 {E : qyE} {k : Nat} {a0 a1 a2 a3 a4 : Value} {st : List Value} {hp : qzH} : qyV E k 1 4 [a0, a1, a2, a3, a4] (st) hp = qyV E k 1 5 [a0, a1, a2, a3, a4] (.int 0 :: st) hp := wv_push ydc_1 dL_look_4 rfl (congrArg Value.int yil_0) rfl
theorem eL_look_5 {E : qyE} {k : Nat} {a0 a1 a2 a3 a4 : Value} {x : Int32} {st : List Value} {hp : qzH} (hv : a2.category = 1) : qyV E k 1 5 [a0, a1, a2, a3, a4] (.int x :: st) hp = qyV E k 1 6 [a0, a1, a2, .int x, a4] (st) hp := wv_istore (i := 3) ydc_1 dL_look_5 rfl (Nat.le_of_ble_eq_true rfl) (fun _ => qyPv_of rfl hv) rfl rfl
theorem eL_look_6 {E : qyE} {k : Nat} {a0 a1 a2 a4 : Value} {x : Int32} {st : List Value} {hp : qzH} : qyV E k 1 6 [a0, a1, a2, .int x, a4] (st) hp = qyV E k 1 7 [a0, a1, a2, .int x, a4] (.int x :: st) hp := wv_iload (i := 3) ydc_1 dL_look_6 rfl rfl rfl
theorem eL_look_7 {E : qyE} {k : Nat} {a0 a1 a2 a3 a4 : Value} {st : List Value} {hp : qzH} : qyV E k 1 7 [a0, a1, a2, a3, a4] (st) hp = qyV E k 1 9 [a0, a1, a2, a3, a4] (.int 12 :: st) hp := wv_push ydc_1 dL_look_7 rfl (congrArg Value.int yib_12) rfl
theorem eL_look_9 {E : qyE} {k : Nat} {a0 a1 a2 a3 a4 : Value} {x y : Int32} {st : List Value} {hp : qzH} : qyV E k 1 9 [a0, a1, a2, a3, a4] (.int y :: .int x :: st) hp = if y ≤ x then qyV E k 1 31 [a0, a1, a2, a3, a4] (st) hp else qyV E k 1 12 [a0, a1, a2, a3, a4] (st) hp := wv_if2 ydc_1 dL_look_9 rfl rfl rfl
theorem eL_look_12 {E : qyE} {k : Nat} {a0 a1 a2 a3 a4 : Value} {st : List Value} {hp : qzH} : qyV E k 1 12 [a0, a1, a2, a3, a4] (st) hp = qyV E k 1 15 [a0, a1, a2, a3, a4] (.long 31 :: st) hp := wv_ldc2 ydc_1 dL_look_12 (by decide) rfl
theorem eL_look_15 {E : qyE} {k : Nat} {a0 a2 a3 a4 : Value} {x : Int64} {st : List Value} {hp : qzH} : qyV E k 1 15 [a0, .long x, a2, a3, a4] (st) hp = qyV E k 1 16 [a0, .long x, a2, a3, a4] (.long x :: st) hp := wv_lload (i := 1) ydc_1 dL_look_15 rfl rfl rfl
theorem eL_look_16 {E : qyE} {k : Nat} {a0 a1 a2 a3 a4 : Value} {x y : Int64} {st : List Value} {hp : qzH} : qyV E k 1 16 [a0, a1, a2, a3, a4] (.long y :: .long x :: st) hp = qyV E k 1 17 [a0, a1, a2, a3, a4] (.long (x * y) :: st) hp := wv_binL (f := fun x y => x * y) ydc_1 dL_look_16 rfl rfl
theorem eL_look_17 {E : qyE} {k : Nat} {a1 a2 a3 a4 : Value} {x : Nat} {st : List Value} {hp : qzH} : qyV E k 1 17 [.ref x, a1, a2, a3, a4] (st) hp = qyV E k 1 18 [.ref x, a1, a2, a3, a4] (.ref x :: st) hp := wv_aload (i := 0) ydc_1 dL_look_17 rfl rfl rfl
theorem eL_look_18 {E : qyE} {k : Nat} {a0 a1 a2 a4 : Value} {x : Int32} {st : List Value} {hp : qzH} : qyV E k 1 18 [a0, a1, a2, .int x, a4] (st) hp = qyV E k 1 19 [a0, a1, a2, .int x, a4] (.int x :: st) hp := wv_iload (i := 3) ydc_1 dL_look_18 rfl rfl rfl
theorem eL_look_19 {E : qyE} {k : Nat} {a0 a1 a2 a3 a4 : Value} {x1 : Int32} {st : List Value} {hp : qzH} (h8 : qySz st ≤ 8) : qyV E k 1 19 [a0, a1, a2, a3, a4] (.int x1 :: .ref 0 :: st) hp = (qzC 60 39 (.ref 0 :: [.int x1]) hp).bind (fun r => if r.2.1 = hp.1 then qyV E k 1 22 [a0, a1, a2, a3, a4] (r.1.toList ++ st) r.2 else none) := wv_cls (n := 1) (as1 := [.int x1]) ydc_1 dL_look_19 rfl (by decide) rfl rfl rfl h8
theorem eL_look_22 {E : qyE} {k : Nat} {a0 a1 a2 a3 a4 : Value} {x : Int32} {st : List Value} {hp : qzH} : qyV E k 1 22 [a0, a1, a2, a3, a4] (.int x :: st) hp = qyV E k 1 23 [a0, a1, a2, a3, a4] (.long x.toInt64 :: st) hp := wv_i2l ydc_1 dL_look_22 rfl
theorem eL_look_23 {E : qyE} {k : Nat} {a0 a1 a2 a3 a4 : Value} {x y : Int64} {st : List Value} {hp : qzH} : qyV E k 1 23 [a0, a1, a2, a3, a4] (.long y :: .long x :: st) hp = qyV E k 1 24 [a0, a1, a2, a3, a4] (.long (x + y) :: st) hp := wv_binL (f := fun x y => x + y) ydc_1 dL_look_23 rfl rfl
theorem eL_look_24 {E : qyE} {k : Nat} {a0 a1 a2 a3 a4 : Value} {x : Int64} {st : List Value} {hp : qzH} (hv : a0.category = 1) : qyV E k 1 24 [a0, a1, a2, a3, a4] (.long x :: st) hp = qyV E k 1 25 [a0, .long x, .float 0, a3, a4] (st) hp := wv_lstore (i := 1) ydc_1 dL_look_24 rfl (Nat.le_of_ble_eq_true rfl) ⟨rfl, qyPv_of rfl hv⟩ rfl rfl
theorem eL_look_25 {E : qyE} {k : Nat} {a0 a1 a2 a4 : Value} {x : Int32} {st : List Value} {hp : qzH} (hv : a2.category = 1) : qyV E k 1 25 [a0, a1, a2, .int x, a4] (st) hp = qyV E k 1 28 [a0, a1, a2, .int (x + 1), a4] (st) hp := wv_iinc ydc_1 dL_look_25 rfl (fun _ => qyPv_of rfl hv) yil_1 rfl rfl
theorem eL_look_28 {E : qyE} {k : Nat} {a0 a1 a2 a3 a4 : Value} {st : List Value} {hp : qzH} : qyV E k 1 28 [a0, a1, a2, a3, a4] (st) hp = qyV E k 1 6 [a0, a1, a2, a3, a4] (st) hp := wv_goto ydc_1 dL_look_28 rfl
theorem eL_look_31 {E : qyE} {k : Nat} {a0 a1 a2 a3 a4 : Value} {st : List Value} {hp : qzH} : qyV E k 1 31 [a0, a1, a2, a3, a4] (st) hp = qyV E k 1 32 [a0, a1, a2, a3, a4] (.int 0 :: st) hp := wv_push ydc_1 dL_look_31 rfl (congrArg Value.int yil_0) rfl
theorem eL_look_32 {E : qyE} {k : Nat} {a0 a1 a2 a3 a4 : Value} {x : Int32} {st : List Value} {hp : qzH} (hv : a2.category = 1) : qyV E k 1 32 [a0, a1, a2, a3, a4] (.int x :: st) hp = qyV E k 1 33 [a0, a1, a2, .int x, a4] (st) hp := wv_istore (i := 3) ydc_1 dL_look_32 rfl (Nat.le_of_ble_eq_true rfl) (fun _ => qyPv_of rfl hv) rfl rfl
theorem eL_look_33 {E : qyE} {k : Nat} {a0 a1 a2 a4 : Value} {x : Int32} {st : List Value} {hp : qzH} : qyV E k 1 33 [a0, a1, a2, .int x, a4] (st) hp = qyV E k 1 34 [a0, a1, a2, .int x, a4] (.int x :: st) hp := wv_iload (i := 3) ydc_1 dL_look_33 rfl rfl rfl
theorem eL_look_34 {E : qyE} {k : Nat} {a1 a2 a3 a4 : Value} {x : Nat} {st : List Value} {hp : qzH} : qyV E k 1 34 [.ref x, a1, a2, a3, a4] (st) hp = qyV E k 1 35 [.ref x, a1, a2, a3, a4] (.ref x :: st) hp := wv_aload (i := 0) ydc_1 dL_look_34 rfl rfl rfl
theorem eL_look_35 {E : qyE} {k : Nat} {a0 a1 a2 a3 a4 : Value} {st : List Value} {hp : qzH} : qyV E k 1 35 [a0, a1, a2, a3, a4] (st) hp = qyV E k 1 36 [a0, a1, a2, a3, a4] (.int 0 :: st) hp := wv_push ydc_1 dL_look_35 rfl (congrArg Value.int yil_0) rfl
theorem eL_look_36 {E : qyE} {k : Nat} {a0 a1 a2 a3 a4 : Value} {x1 : Int32} {st : List Value} {hp : qzH} (h8 : qySz st ≤ 8) : qyV E k 1 36 [a0, a1, a2, a3, a4] (.int x1 :: .ref 0 :: st) hp = (qzC 60 39 (.ref 0 :: [.int x1]) hp).bind (fun r => if r.2.1 = hp.1 then qyV E k 1 39 [a0, a1, a2, a3, a4] (r.1.toList ++ st) r.2 else none) := wv_cls (n := 1) (as1 := [.int x1]) ydc_1 dL_look_36 rfl (by decide) rfl rfl rfl h8
theorem eL_look_39 {E : qyE} {k : Nat} {a0 a1 a2 a3 a4 : Value} {x y : Int32} {st : List Value} {hp : qzH} : qyV E k 1 39 [a0, a1, a2, a3, a4] (.int y :: .int x :: st) hp = if y ≤ x then qyV E k 1 61 [a0, a1, a2, a3, a4] (st) hp else qyV E k 1 42 [a0, a1, a2, a3, a4] (st) hp := wv_if2 ydc_1 dL_look_39 rfl rfl rfl
theorem eL_look_42 {E : qyE} {k : Nat} {a0 a1 a2 a3 a4 : Value} {st : List Value} {hp : qzH} : qyV E k 1 42 [a0, a1, a2, a3, a4] (st) hp = qyV E k 1 45 [a0, a1, a2, a3, a4] (.long 31 :: st) hp := wv_ldc2 ydc_1 dL_look_42 (by decide) rfl
theorem eL_look_45 {E : qyE} {k : Nat} {a0 a2 a3 a4 : Value} {x : Int64} {st : List Value} {hp : qzH} : qyV E k 1 45 [a0, .long x, a2, a3, a4] (st) hp = qyV E k 1 46 [a0, .long x, a2, a3, a4] (.long x :: st) hp := wv_lload (i := 1) ydc_1 dL_look_45 rfl rfl rfl
theorem eL_look_46 {E : qyE} {k : Nat} {a0 a1 a2 a3 a4 : Value} {x y : Int64} {st : List Value} {hp : qzH} : qyV E k 1 46 [a0, a1, a2, a3, a4] (.long y :: .long x :: st) hp = qyV E k 1 47 [a0, a1, a2, a3, a4] (.long (x * y) :: st) hp := wv_binL (f := fun x y => x * y) ydc_1 dL_look_46 rfl rfl
theorem eL_look_47 {E : qyE} {k : Nat} {a1 a2 a3 a4 : Value} {x : Nat} {st : List Value} {hp : qzH} : qyV E k 1 47 [.ref x, a1, a2, a3, a4] (st) hp = qyV E k 1 48 [.ref x, a1, a2, a3, a4] (.ref x :: st) hp := wv_aload (i := 0) ydc_1 dL_look_47 rfl rfl rfl
theorem eL_look_48 {E : qyE} {k : Nat} {a0 a1 a2 a4 : Value} {x : Int32} {st : List Value} {hp : qzH} : qyV E k 1 48 [a0, a1, a2, .int x, a4] (st) hp = qyV E k 1 49 [a0, a1, a2, .int x, a4] (.int x :: st) hp := wv_iload (i := 3) ydc_1 dL_look_48 rfl rfl rfl
theorem eL_look_49 {E : qyE} {k : Nat} {a0 a1 a2 a3 a4 : Value} {x1 : Int32} {st : List Value} {hp : qzH} (h8 : qySz st ≤ 8) : qyV E k 1 49 [a0, a1, a2, a3, a4] (.int x1 :: .ref 0 :: st) hp = (qzC 60 36 (.ref 0 :: [.int x1]) hp).bind (fun r => if r.2.1 = hp.1 then qyV E k 1 52 [a0, a1, a2, a3, a4] (r.1.toList ++ st) r.2 else none) := wv_cls (n := 1) (as1 := [.int x1]) ydc_1 dL_look_49 rfl (by decide) rfl rfl rfl h8
theorem eL_look_52 {E : qyE} {k : Nat} {a0 a1 a2 a3 a4 : Value} {x : Int32} {st : List Value} {hp : qzH} : qyV E k 1 52 [a0, a1, a2, a3, a4] (.int x :: st) hp = qyV E k 1 53 [a0, a1, a2, a3, a4] (.long x.toInt64 :: st) hp := wv_i2l ydc_1 dL_look_52 rfl
theorem eL_look_53 {E : qyE} {k : Nat} {a0 a1 a2 a3 a4 : Value} {x y : Int64} {st : List Value} {hp : qzH} : qyV E k 1 53 [a0, a1, a2, a3, a4] (.long y :: .long x :: st) hp = qyV E k 1 54 [a0, a1, a2, a3, a4] (.long (x + y) :: st) hp := wv_binL (f := fun x y => x + y) ydc_1 dL_look_53 rfl rfl
theorem eL_look_54 {E : qyE} {k : Nat} {a0 a1 a2 a3 a4 : Value} {x : Int64} {st : List Value} {hp : qzH} (hv : a0.category = 1) : qyV E k 1 54 [a0, a1, a2, a3, a4] (.long x :: st) hp = qyV E k 1 55 [a0, .long x, .float 0, a3, a4] (st) hp := wv_lstore (i := 1) ydc_1 dL_look_54 rfl (Nat.le_of_ble_eq_true rfl) ⟨rfl, qyPv_of rfl hv⟩ rfl rfl
theorem eL_look_55 {E : qyE} {k : Nat} {a0 a1 a2 a4 : Value} {x : Int32} {st : List Value} {hp : qzH} (hv : a2.category = 1) : qyV E k 1 55 [a0, a1, a2, .int x, a4] (st) hp = qyV E k 1 58 [a0, a1, a2, .int (x + 1), a4] (st) hp := wv_iinc ydc_1 dL_look_55 rfl (fun _ => qyPv_of rfl hv) yil_1 rfl rfl
theorem eL_look_58 {E : qyE} {k : Nat} {a0 a1 a2 a3 a4 : Value} {st : List Value} {hp : qzH} : qyV E k 1 58 [a0, a1, a2, a3, a4] (st) hp = qyV E k 1 33 [a0, a1, a2, a3, a4] (st) hp := wv_goto ydc_1 dL_look_58 rfl
theorem eL_look_61 {E : qyE} {k : Nat} {a0 a1 a2 a3 a4 : Value} {st : List Value} {hp : qzH} : qyV E k 1 61 [a0, a1, a2, a3, a4] (st) hp = qyV E k 1 62 [a0, a1, a2, a3, a4] (.int 0 :: st) hp := wv_push ydc_1 dL_look_61 rfl (congrArg Value.int yil_0) rfl
theorem eL_look_62 {E : qyE} {k : Nat} {a0 a1 a2 a3 a4 : Value} {x : Int32} {st : List Value} {hp : qzH} (hv : a2.category = 1) : qyV E k 1 62 [a0, a1, a2, a3, a4] (.int x :: st) hp = qyV E k 1 63 [a0, a1, a2, .int x, a4] (st) hp := wv_istore (i := 3) ydc_1 dL_look_62 rfl (Nat.le_of_ble_eq_true rfl) (fun _ => qyPv_of rfl hv) rfl rfl
theorem eL_look_63 {E : qyE} {k : Nat} {a0 a1 a2 a4 : Value} {x : Int32} {st : List Value} {hp : qzH} : qyV E k 1 63 [a0, a1, a2, .int x, a4] (st) hp = qyV E k 1 64 [a0, a1, a2, .int x, a4] (.int x :: st) hp := wv_iload (i := 3) ydc_1 dL_look_63 rfl rfl rfl
theorem eL_look_64 {E : qyE} {k : Nat} {a0 a1 a2 a3 a4 : Value} {st : List Value} {hp : qzH} : qyV E k 1 64 [a0, a1, a2, a3, a4] (st) hp = qyV E k 1 65 [a0, a1, a2, a3, a4] (.int 2 :: st) hp := wv_push ydc_1 dL_look_64 rfl (congrArg Value.int yil_2) rfl
theorem eL_look_65 {E : qyE} {k : Nat} {a0 a1 a2 a3 a4 : Value} {x y : Int32} {st : List Value} {hp : qzH} : qyV E k 1 65 [a0, a1, a2, a3, a4] (.int y :: .int x :: st) hp = if y ≤ x then qyV E k 1 183 [a0, a1, a2, a3, a4] (st) hp else qyV E k 1 68 [a0, a1, a2, a3, a4] (st) hp := wv_if2 ydc_1 dL_look_65 rfl rfl rfl
theorem eL_look_68 {E : qyE} {k : Nat} {a0 a1 a2 a3 a4 : Value} {st : List Value} {hp : qzH} : qyV E k 1 68 [a0, a1, a2, a3, a4] (st) hp = qyV E k 1 69 [a0, a1, a2, a3, a4] (.int 0 :: st) hp := wv_push ydc_1 dL_look_68 rfl (congrArg Value.int yil_0) rfl
theorem eL_look_69 {E : qyE} {k : Nat} {a0 a1 a2 a3 a4 : Value} {x : Int32} {st : List Value} {hp : qzH} (hv : a3.category = 1) : qyV E k 1 69 [a0, a1, a2, a3, a4] (.int x :: st) hp = qyV E k 1 71 [a0, a1, a2, a3, .int x] (st) hp := wv_istore (i := 4) ydc_1 dL_look_69 rfl (Nat.le_of_ble_eq_true rfl) (fun _ => qyPv_of rfl hv) rfl rfl
theorem eL_look_71 {E : qyE} {k : Nat} {a0 a1 a2 a3 : Value} {x : Int32} {st : List Value} {hp : qzH} : qyV E k 1 71 [a0, a1, a2, a3, .int x] (st) hp = qyV E k 1 73 [a0, a1, a2, a3, .int x] (.int x :: st) hp := wv_iload (i := 4) ydc_1 dL_look_71 rfl rfl rfl
theorem eL_look_73 {E : qyE} {k : Nat} {a0 a1 a2 a3 a4 : Value} {st : List Value} {hp : qzH} : qyV E k 1 73 [a0, a1, a2, a3, a4] (st) hp = qyV E k 1 75 [a0, a1, a2, a3, a4] (.int 6 :: st) hp := wv_push ydc_1 dL_look_73 rfl (congrArg Value.int yib_6) rfl
theorem eL_look_75 {E : qyE} {k : Nat} {a0 a1 a2 a3 a4 : Value} {x y : Int32} {st : List Value} {hp : qzH} : qyV E k 1 75 [a0, a1, a2, a3, a4] (.int y :: .int x :: st) hp = if y ≤ x then qyV E k 1 99 [a0, a1, a2, a3, a4] (st) hp else qyV E k 1 78 [a0, a1, a2, a3, a4] (st) hp := wv_if2 ydc_1 dL_look_75 rfl rfl rfl
theorem eL_look_78 {E : qyE} {k : Nat} {a0 a1 a2 a3 a4 : Value} {st : List Value} {hp : qzH} : qyV E k 1 78 [a0, a1, a2, a3, a4] (st) hp = qyV E k 1 81 [a0, a1, a2, a3, a4] (.long 31 :: st) hp := wv_ldc2 ydc_1 dL_look_78 (by decide) rfl
theorem eL_look_81 {E : qyE} {k : Nat} {a0 a2 a3 a4 : Value} {x : Int64} {st : List Value} {hp : qzH} : qyV E k 1 81 [a0, .long x, a2, a3, a4] (st) hp = qyV E k 1 82 [a0, .long x, a2, a3, a4] (.long x :: st) hp := wv_lload (i := 1) ydc_1 dL_look_81 rfl rfl rfl
theorem eL_look_82 {E : qyE} {k : Nat} {a0 a1 a2 a3 a4 : Value} {x y : Int64} {st : List Value} {hp : qzH} : qyV E k 1 82 [a0, a1, a2, a3, a4] (.long y :: .long x :: st) hp = qyV E k 1 83 [a0, a1, a2, a3, a4] (.long (x * y) :: st) hp := wv_binL (f := fun x y => x * y) ydc_1 dL_look_82 rfl rfl
theorem eL_look_83 {E : qyE} {k : Nat} {a1 a2 a3 a4 : Value} {x : Nat} {st : List Value} {hp : qzH} : qyV E k 1 83 [.ref x, a1, a2, a3, a4] (st) hp = qyV E k 1 84 [.ref x, a1, a2, a3, a4] (.ref x :: st) hp := wv_aload (i := 0) ydc_1 dL_look_83 rfl rfl rfl
theorem eL_look_84 {E : qyE} {k : Nat} {a0 a1 a2 a4 : Value} {x : Int32} {st : List Value} {hp : qzH} : qyV E k 1 84 [a0, a1, a2, .int x, a4] (st) hp = qyV E k 1 85 [a0, a1, a2, .int x, a4] (.int x :: st) hp := wv_iload (i := 3) ydc_1 dL_look_84 rfl rfl rfl
theorem eL_look_85 {E : qyE} {k : Nat} {a0 a1 a2 a3 : Value} {x : Int32} {st : List Value} {hp : qzH} : qyV E k 1 85 [a0, a1, a2, a3, .int x] (st) hp = qyV E k 1 87 [a0, a1, a2, a3, .int x] (.int x :: st) hp := wv_iload (i := 4) ydc_1 dL_look_85 rfl rfl rfl
theorem eL_look_87 {E : qyE} {k : Nat} {a0 a1 a2 a3 a4 : Value} {x1 x2 : Int32} {st : List Value} {hp : qzH} (h8 : qySz st ≤ 8) : qyV E k 1 87 [a0, a1, a2, a3, a4] (.int x2 :: .int x1 :: .ref 0 :: st) hp = (qzC 60 37 (.ref 0 :: [.int x1, .int x2]) hp).bind (fun r => if r.2.1 = hp.1 then qyV E k 1 90 [a0, a1, a2, a3, a4] (r.1.toList ++ st) r.2 else none) := wv_cls (n := 2) (as1 := [.int x1, .int x2]) ydc_1 dL_look_87 rfl (by decide) rfl rfl rfl h8
theorem eL_look_90 {E : qyE} {k : Nat} {a0 a1 a2 a3 a4 : Value} {x : Int32} {st : List Value} {hp : qzH} : qyV E k 1 90 [a0, a1, a2, a3, a4] (.int x :: st) hp = qyV E k 1 91 [a0, a1, a2, a3, a4] (.long x.toInt64 :: st) hp := wv_i2l ydc_1 dL_look_90 rfl
theorem eL_look_91 {E : qyE} {k : Nat} {a0 a1 a2 a3 a4 : Value} {x y : Int64} {st : List Value} {hp : qzH} : qyV E k 1 91 [a0, a1, a2, a3, a4] (.long y :: .long x :: st) hp = qyV E k 1 92 [a0, a1, a2, a3, a4] (.long (x + y) :: st) hp := wv_binL (f := fun x y => x + y) ydc_1 dL_look_91 rfl rfl
theorem eL_look_92 {E : qyE} {k : Nat} {a0 a1 a2 a3 a4 : Value} {x : Int64} {st : List Value} {hp : qzH} (hv : a0.category = 1) : qyV E k 1 92 [a0, a1, a2, a3, a4] (.long x :: st) hp = qyV E k 1 93 [a0, .long x, .float 0, a3, a4] (st) hp := wv_lstore (i := 1) ydc_1 dL_look_92 rfl (Nat.le_of_ble_eq_true rfl) ⟨rfl, qyPv_of rfl hv⟩ rfl rfl
theorem eL_look_93 {E : qyE} {k : Nat} {a0 a1 a2 a3 : Value} {x : Int32} {st : List Value} {hp : qzH} (hv : a3.category = 1) : qyV E k 1 93 [a0, a1, a2, a3, .int x] (st) hp = qyV E k 1 96 [a0, a1, a2, a3, .int (x + 1)] (st) hp := wv_iinc ydc_1 dL_look_93 rfl (fun _ => qyPv_of rfl hv) yil_1 rfl rfl
theorem eL_look_96 {E : qyE} {k : Nat} {a0 a1 a2 a3 a4 : Value} {st : List Value} {hp : qzH} : qyV E k 1 96 [a0, a1, a2, a3, a4] (st) hp = qyV E k 1 71 [a0, a1, a2, a3, a4] (st) hp := wv_goto ydc_1 dL_look_96 rfl
theorem eL_look_99 {E : qyE} {k : Nat} {a0 a1 a2 a3 a4 : Value} {st : List Value} {hp : qzH} : qyV E k 1 99 [a0, a1, a2, a3, a4] (st) hp = qyV E k 1 100 [a0, a1, a2, a3, a4] (.int 0 :: st) hp := wv_push ydc_1 dL_look_99 rfl (congrArg Value.int yil_0) rfl
theorem eL_look_100 {E : qyE} {k : Nat} {a0 a1 a2 a3 a4 : Value} {x : Int32} {st : List Value} {hp : qzH} (hv : a3.category = 1) : qyV E k 1 100 [a0, a1, a2, a3, a4] (.int x :: st) hp = qyV E k 1 102 [a0, a1, a2, a3, .int x] (st) hp := wv_istore (i := 4) ydc_1 dL_look_100 rfl (Nat.le_of_ble_eq_true rfl) (fun _ => qyPv_of rfl hv) rfl rfl
theorem eL_look_102 {E : qyE} {k : Nat} {a0 a1 a2 a3 : Value} {x : Int32} {st : List Value} {hp : qzH} : qyV E k 1 102 [a0, a1, a2, a3, .int x] (st) hp = qyV E k 1 104 [a0, a1, a2, a3, .int x] (.int x :: st) hp := wv_iload (i := 4) ydc_1 dL_look_102 rfl rfl rfl
theorem eL_look_104 {E : qyE} {k : Nat} {a1 a2 a3 a4 : Value} {x : Nat} {st : List Value} {hp : qzH} : qyV E k 1 104 [.ref x, a1, a2, a3, a4] (st) hp = qyV E k 1 105 [.ref x, a1, a2, a3, a4] (.ref x :: st) hp := wv_aload (i := 0) ydc_1 dL_look_104 rfl rfl rfl
theorem eL_look_105 {E : qyE} {k : Nat} {a0 a1 a2 a4 : Value} {x : Int32} {st : List Value} {hp : qzH} : qyV E k 1 105 [a0, a1, a2, .int x, a4] (st) hp = qyV E k 1 106 [a0, a1, a2, .int x, a4] (.int x :: st) hp := wv_iload (i := 3) ydc_1 dL_look_105 rfl rfl rfl
theorem eL_look_106 {E : qyE} {k : Nat} {a0 a1 a2 a3 a4 : Value} {st : List Value} {hp : qzH} : qyV E k 1 106 [a0, a1, a2, a3, a4] (st) hp = qyV E k 1 107 [a0, a1, a2, a3, a4] (.int 1 :: st) hp := wv_push ydc_1 dL_look_106 rfl (congrArg Value.int yil_1) rfl
theorem eL_look_107 {E : qyE} {k : Nat} {a0 a1 a2 a3 a4 : Value} {x1 x2 : Int32} {st : List Value} {hp : qzH} (h8 : qySz st ≤ 8) : qyV E k 1 107 [a0, a1, a2, a3, a4] (.int x2 :: .int x1 :: .ref 0 :: st) hp = (qzC 60 37 (.ref 0 :: [.int x1, .int x2]) hp).bind (fun r => if r.2.1 = hp.1 then qyV E k 1 110 [a0, a1, a2, a3, a4] (r.1.toList ++ st) r.2 else none) := wv_cls (n := 2) (as1 := [.int x1, .int x2]) ydc_1 dL_look_107 rfl (by decide) rfl rfl rfl h8
theorem eL_look_110 {E : qyE} {k : Nat} {a0 a1 a2 a3 a4 : Value} {x y : Int32} {st : List Value} {hp : qzH} : qyV E k 1 110 [a0, a1, a2, a3, a4] (.int y :: .int x :: st) hp = if y ≤ x then qyV E k 1 177 [a0, a1, a2, a3, a4] (st) hp else qyV E k 1 113 [a0, a1, a2, a3, a4] (st) hp := wv_if2 ydc_1 dL_look_110 rfl rfl rfl
theorem eL_look_113 {E : qyE} {k : Nat} {a0 a1 a2 a3 a4 : Value} {st : List Value} {hp : qzH} : qyV E k 1 113 [a0, a1, a2, a3, a4] (st) hp = qyV E k 1 116 [a0, a1, a2, a3, a4] (.long 31 :: st) hp := wv_ldc2 ydc_1 dL_look_113 (by decide) rfl
theorem eL_look_116 {E : qyE} {k : Nat} {a0 a1 a2 a3 a4 : Value} {st : List Value} {hp : qzH} : qyV E k 1 116 [a0, a1, a2, a3, a4] (st) hp = qyV E k 1 119 [a0, a1, a2, a3, a4] (.long 31 :: st) hp := wv_ldc2 ydc_1 dL_look_116 (by decide) rfl
theorem eL_look_119 {E : qyE} {k : Nat} {a0 a1 a2 a3 a4 : Value} {st : List Value} {hp : qzH} : qyV E k 1 119 [a0, a1, a2, a3, a4] (st) hp = qyV E k 1 122 [a0, a1, a2, a3, a4] (.long 31 :: st) hp := wv_ldc2 ydc_1 dL_look_119 (by decide) rfl
theorem eL_look_122 {E : qyE} {k : Nat} {a0 a1 a2 a3 a4 : Value} {st : List Value} {hp : qzH} : qyV E k 1 122 [a0, a1, a2, a3, a4] (st) hp = qyV E k 1 125 [a0, a1, a2, a3, a4] (.long 31 :: st) hp := wv_ldc2 ydc_1 dL_look_122 (by decide) rfl
theorem eL_look_125 {E : qyE} {k : Nat} {a0 a2 a3 a4 : Value} {x : Int64} {st : List Value} {hp : qzH} : qyV E k 1 125 [a0, .long x, a2, a3, a4] (st) hp = qyV E k 1 126 [a0, .long x, a2, a3, a4] (.long x :: st) hp := wv_lload (i := 1) ydc_1 dL_look_125 rfl rfl rfl
theorem eL_look_126 {E : qyE} {k : Nat} {a0 a1 a2 a3 a4 : Value} {x y : Int64} {st : List Value} {hp : qzH} : qyV E k 1 126 [a0, a1, a2, a3, a4] (.long y :: .long x :: st) hp = qyV E k 1 127 [a0, a1, a2, a3, a4] (.long (x * y) :: st) hp := wv_binL (f := fun x y => x * y) ydc_1 dL_look_126 rfl rfl
theorem eL_look_127 {E : qyE} {k : Nat} {a1 a2 a3 a4 : Value} {x : Nat} {st : List Value} {hp : qzH} : qyV E k 1 127 [.ref x, a1, a2, a3, a4] (st) hp = qyV E k 1 128 [.ref x, a1, a2, a3, a4] (.ref x :: st) hp := wv_aload (i := 0) ydc_1 dL_look_127 rfl rfl rfl
theorem eL_look_128 {E : qyE} {k : Nat} {a0 a1 a2 a4 : Value} {x : Int32} {st : List Value} {hp : qzH} : qyV E k 1 128 [a0, a1, a2, .int x, a4] (st) hp = qyV E k 1 129 [a0, a1, a2, .int x, a4] (.int x :: st) hp := wv_iload (i := 3) ydc_1 dL_look_128 rfl rfl rfl
theorem eL_look_129 {E : qyE} {k : Nat} {a0 a1 a2 a3 : Value} {x : Int32} {st : List Value} {hp : qzH} : qyV E k 1 129 [a0, a1, a2, a3, .int x] (st) hp = qyV E k 1 131 [a0, a1, a2, a3, .int x] (.int x :: st) hp := wv_iload (i := 4) ydc_1 dL_look_129 rfl rfl rfl
theorem eL_look_131 {E : qyE} {k : Nat} {a0 a1 a2 a3 a4 : Value} {st : List Value} {hp : qzH} : qyV E k 1 131 [a0, a1, a2, a3, a4] (st) hp = qyV E k 1 132 [a0, a1, a2, a3, a4] (.int 0 :: st) hp := wv_push ydc_1 dL_look_131 rfl (congrArg Value.int yil_0) rfl
theorem eL_look_132 {E : qyE} {k : Nat} {a0 a1 a2 a3 a4 : Value} {x1 x2 x3 : Int32} {st : List Value} {hp : qzH} (h8 : qySz st ≤ 8) : qyV E k 1 132 [a0, a1, a2, a3, a4] (.int x3 :: .int x2 :: .int x1 :: .ref 0 :: st) hp = (qzC 60 38 (.ref 0 :: [.int x1, .int x2, .int x3]) hp).bind (fun r => if r.2.1 = hp.1 then qyV E k 1 135 [a0, a1, a2, a3, a4] (r.1.toList ++ st) r.2 else none) := wv_cls (n := 3) (as1 := [.int x1, .int x2, .int x3]) ydc_1 dL_look_132 rfl (by decide) rfl rfl rfl h8
theorem eL_look_135 {E : qyE} {k : Nat} {a0 a1 a2 a3 a4 : Value} {x : Int32} {st : List Value} {hp : qzH} : qyV E k 1 135 [a0, a1, a2, a3, a4] (.int x :: st) hp = qyV E k 1 136 [a0, a1, a2, a3, a4] (.long x.toInt64 :: st) hp := wv_i2l ydc_1 dL_look_135 rfl
theorem eL_look_136 {E : qyE} {k : Nat} {a0 a1 a2 a3 a4 : Value} {x y : Int64} {st : List Value} {hp : qzH} : qyV E k 1 136 [a0, a1, a2, a3, a4] (.long y :: .long x :: st) hp = qyV E k 1 137 [a0, a1, a2, a3, a4] (.long (x + y) :: st) hp := wv_binL (f := fun x y => x + y) ydc_1 dL_look_136 rfl rfl
theorem eL_look_137 {E : qyE} {k : Nat} {a0 a1 a2 a3 a4 : Value} {x y : Int64} {st : List Value} {hp : qzH} : qyV E k 1 137 [a0, a1, a2, a3, a4] (.long y :: .long x :: st) hp = qyV E k 1 138 [a0, a1, a2, a3, a4] (.long (x * y) :: st) hp := wv_binL (f := fun x y => x * y) ydc_1 dL_look_137 rfl rfl
theorem eL_look_138 {E : qyE} {k : Nat} {a1 a2 a3 a4 : Value} {x : Nat} {st : List Value} {hp : qzH} : qyV E k 1 138 [.ref x, a1, a2, a3, a4] (st) hp = qyV E k 1 139 [.ref x, a1, a2, a3, a4] (.ref x :: st) hp := wv_aload (i := 0) ydc_1 dL_look_138 rfl rfl rfl
theorem eL_look_139 {E : qyE} {k : Nat} {a0 a1 a2 a4 : Value} {x : Int32} {st : List Value} {hp : qzH} : qyV E k 1 139 [a0, a1, a2, .int x, a4] (st) hp = qyV E k 1 140 [a0, a1, a2, .int x, a4] (.int x :: st) hp := wv_iload (i := 3) ydc_1 dL_look_139 rfl rfl rfl
theorem eL_look_140 {E : qyE} {k : Nat} {a0 a1 a2 a3 : Value} {x : Int32} {st : List Value} {hp : qzH} : qyV E k 1 140 [a0, a1, a2, a3, .int x] (st) hp = qyV E k 1 142 [a0, a1, a2, a3, .int x] (.int x :: st) hp := wv_iload (i := 4) ydc_1 dL_look_140 rfl rfl rfl
theorem eL_look_142 {E : qyE} {k : Nat} {a0 a1 a2 a3 a4 : Value} {st : List Value} {hp : qzH} : qyV E k 1 142 [a0, a1, a2, a3, a4] (st) hp = qyV E k 1 143 [a0, a1, a2, a3, a4] (.int 1 :: st) hp := wv_push ydc_1 dL_look_142 rfl (congrArg Value.int yil_1) rfl
theorem eL_look_143 {E : qyE} {k : Nat} {a0 a1 a2 a3 a4 : Value} {x1 x2 x3 : Int32} {st : List Value} {hp : qzH} (h8 : qySz st ≤ 8) : qyV E k 1 143 [a0, a1, a2, a3, a4] (.int x3 :: .int x2 :: .int x1 :: .ref 0 :: st) hp = (qzC 60 38 (.ref 0 :: [.int x1, .int x2, .int x3]) hp).bind (fun r => if r.2.1 = hp.1 then qyV E k 1 146 [a0, a1, a2, a3, a4] (r.1.toList ++ st) r.2 else none) := wv_cls (n := 3) (as1 := [.int x1, .int x2, .int x3]) ydc_1 dL_look_143 rfl (by decide) rfl rfl rfl h8
theorem eL_look_146 {E : qyE} {k : Nat} {a0 a1 a2 a3 a4 : Value} {x : Int32} {st : List Value} {hp : qzH} : qyV E k 1 146 [a0, a1, a2, a3, a4] (.int x :: st) hp = qyV E k 1 147 [a0, a1, a2, a3, a4] (.long x.toInt64 :: st) hp := wv_i2l ydc_1 dL_look_146 rfl
theorem eL_look_147 {E : qyE} {k : Nat} {a0 a1 a2 a3 a4 : Value} {x y : Int64} {st : List Value} {hp : qzH} : qyV E k 1 147 [a0, a1, a2, a3, a4] (.long y :: .long x :: st) hp = qyV E k 1 148 [a0, a1, a2, a3, a4] (.long (x + y) :: st) hp := wv_binL (f := fun x y => x + y) ydc_1 dL_look_147 rfl rfl
theorem eL_look_148 {E : qyE} {k : Nat} {a0 a1 a2 a3 a4 : Value} {x y : Int64} {st : List Value} {hp : qzH} : qyV E k 1 148 [a0, a1, a2, a3, a4] (.long y :: .long x :: st) hp = qyV E k 1 149 [a0, a1, a2, a3, a4] (.long (x * y) :: st) hp := wv_binL (f := fun x y => x * y) ydc_1 dL_look_148 rfl rfl
theorem eL_look_149 {E : qyE} {k : Nat} {a1 a2 a3 a4 : Value} {x : Nat} {st : List Value} {hp : qzH} : qyV E k 1 149 [.ref x, a1, a2, a3, a4] (st) hp = qyV E k 1 150 [.ref x, a1, a2, a3, a4] (.ref x :: st) hp := wv_aload (i := 0) ydc_1 dL_look_149 rfl rfl rfl
theorem eL_look_150 {E : qyE} {k : Nat} {a0 a1 a2 a4 : Value} {x : Int32} {st : List Value} {hp : qzH} : qyV E k 1 150 [a0, a1, a2, .int x, a4] (st) hp = qyV E k 1 151 [a0, a1, a2, .int x, a4] (.int x :: st) hp := wv_iload (i := 3) ydc_1 dL_look_150 rfl rfl rfl
theorem eL_look_151 {E : qyE} {k : Nat} {a0 a1 a2 a3 : Value} {x : Int32} {st : List Value} {hp : qzH} : qyV E k 1 151 [a0, a1, a2, a3, .int x] (st) hp = qyV E k 1 153 [a0, a1, a2, a3, .int x] (.int x :: st) hp := wv_iload (i := 4) ydc_1 dL_look_151 rfl rfl rfl
theorem eL_look_153 {E : qyE} {k : Nat} {a0 a1 a2 a3 a4 : Value} {st : List Value} {hp : qzH} : qyV E k 1 153 [a0, a1, a2, a3, a4] (st) hp = qyV E k 1 154 [a0, a1, a2, a3, a4] (.int 2 :: st) hp := wv_push ydc_1 dL_look_153 rfl (congrArg Value.int yil_2) rfl
theorem eL_look_154 {E : qyE} {k : Nat} {a0 a1 a2 a3 a4 : Value} {x1 x2 x3 : Int32} {st : List Value} {hp : qzH} (h8 : qySz st ≤ 8) : qyV E k 1 154 [a0, a1, a2, a3, a4] (.int x3 :: .int x2 :: .int x1 :: .ref 0 :: st) hp = (qzC 60 38 (.ref 0 :: [.int x1, .int x2, .int x3]) hp).bind (fun r => if r.2.1 = hp.1 then qyV E k 1 157 [a0, a1, a2, a3, a4] (r.1.toList ++ st) r.2 else none) := wv_cls (n := 3) (as1 := [.int x1, .int x2, .int x3]) ydc_1 dL_look_154 rfl (by decide) rfl rfl rfl h8
theorem eL_look_157 {E : qyE} {k : Nat} {a0 a1 a2 a3 a4 : Value} {x : Int32} {st : List Value} {hp : qzH} : qyV E k 1 157 [a0, a1, a2, a3, a4] (.int x :: st) hp = qyV E k 1 158 [a0, a1, a2, a3, a4] (.long x.toInt64 :: st) hp := wv_i2l ydc_1 dL_look_157 rfl
theorem eL_look_158 {E : qyE} {k : Nat} {a0 a1 a2 a3 a4 : Value} {x y : Int64} {st : List Value} {hp : qzH} : qyV E k 1 158 [a0, a1, a2, a3, a4] (.long y :: .long x :: st) hp = qyV E k 1 159 [a0, a1, a2, a3, a4] (.long (x + y) :: st) hp := wv_binL (f := fun x y => x + y) ydc_1 dL_look_158 rfl rfl
theorem eL_look_159 {E : qyE} {k : Nat} {a0 a1 a2 a3 a4 : Value} {x y : Int64} {st : List Value} {hp : qzH} : qyV E k 1 159 [a0, a1, a2, a3, a4] (.long y :: .long x :: st) hp = qyV E k 1 160 [a0, a1, a2, a3, a4] (.long (x * y) :: st) hp := wv_binL (f := fun x y => x * y) ydc_1 dL_look_159 rfl rfl
theorem eL_look_160 {E : qyE} {k : Nat} {a1 a2 a3 a4 : Value} {x : Nat} {st : List Value} {hp : qzH} : qyV E k 1 160 [.ref x, a1, a2, a3, a4] (st) hp = qyV E k 1 161 [.ref x, a1, a2, a3, a4] (.ref x :: st) hp := wv_aload (i := 0) ydc_1 dL_look_160 rfl rfl rfl
theorem eL_look_161 {E : qyE} {k : Nat} {a0 a1 a2 a4 : Value} {x : Int32} {st : List Value} {hp : qzH} : qyV E k 1 161 [a0, a1, a2, .int x, a4] (st) hp = qyV E k 1 162 [a0, a1, a2, .int x, a4] (.int x :: st) hp := wv_iload (i := 3) ydc_1 dL_look_161 rfl rfl rfl
theorem eL_look_162 {E : qyE} {k : Nat} {a0 a1 a2 a3 : Value} {x : Int32} {st : List Value} {hp : qzH} : qyV E k 1 162 [a0, a1, a2, a3, .int x] (st) hp = qyV E k 1 164 [a0, a1, a2, a3, .int x] (.int x :: st) hp := wv_iload (i := 4) ydc_1 dL_look_162 rfl rfl rfl
theorem eL_look_164 {E : qyE} {k : Nat} {a0 a1 a2 a3 a4 : Value} {st : List Value} {hp : qzH} : qyV E k 1 164 [a0, a1, a2, a3, a4] (st) hp = qyV E k 1 165 [a0, a1, a2, a3, a4] (.int 3 :: st) hp := wv_push ydc_1 dL_look_164 rfl (congrArg Value.int yil_3) rfl
theorem eL_look_165 {E : qyE} {k : Nat} {a0 a1 a2 a3 a4 : Value} {x1 x2 x3 : Int32} {st : List Value} {hp : qzH} (h8 : qySz st ≤ 8) : qyV E k 1 165 [a0, a1, a2, a3, a4] (.int x3 :: .int x2 :: .int x1 :: .ref 0 :: st) hp = (qzC 60 38 (.ref 0 :: [.int x1, .int x2, .int x3]) hp).bind (fun r => if r.2.1 = hp.1 then qyV E k 1 168 [a0, a1, a2, a3, a4] (r.1.toList ++ st) r.2 else none) := wv_cls (n := 3) (as1 := [.int x1, .int x2, .int x3]) ydc_1 dL_look_165 rfl (by decide) rfl rfl rfl h8
theorem eL_look_168 {E : qyE} {k : Nat} {a0 a1 a2 a3 a4 : Value} {x : Int32} {st : List Value} {hp : qzH} : qyV E k 1 168 [a0, a1, a2, a3, a4] (.int x :: st) hp = qyV E k 1 169 [a0, a1, a2, a3, a4] (.long x.toInt64 :: st) hp := wv_i2l ydc_1 dL_look_168 rfl
theorem eL_look_169 {E : qyE} {k : Nat} {a0 a1 a2 a3 a4 : Value} {x y : Int64} {st : List Value} {hp : qzH} : qyV E k 1 169 [a0, a1, a2, a3, a4] (.long y :: .long x :: st) hp = qyV E k 1 170 [a0, a1, a2, a3, a4] (.long (x + y) :: st) hp := wv_binL (f := fun x y => x + y) ydc_1 dL_look_169 rfl rfl
theorem eL_look_170 {E : qyE} {k : Nat} {a0 a1 a2 a3 a4 : Value} {x : Int64} {st : List Value} {hp : qzH} (hv : a0.category = 1) : qyV E k 1 170 [a0, a1, a2, a3, a4] (.long x :: st) hp = qyV E k 1 171 [a0, .long x, .float 0, a3, a4] (st) hp := wv_lstore (i := 1) ydc_1 dL_look_170 rfl (Nat.le_of_ble_eq_true rfl) ⟨rfl, qyPv_of rfl hv⟩ rfl rfl
theorem eL_look_171 {E : qyE} {k : Nat} {a0 a1 a2 a3 : Value} {x : Int32} {st : List Value} {hp : qzH} (hv : a3.category = 1) : qyV E k 1 171 [a0, a1, a2, a3, .int x] (st) hp = qyV E k 1 174 [a0, a1, a2, a3, .int (x + 1)] (st) hp := wv_iinc ydc_1 dL_look_171 rfl (fun _ => qyPv_of rfl hv) yil_1 rfl rfl
theorem eL_look_174 {E : qyE} {k : Nat} {a0 a1 a2 a3 a4 : Value} {st : List Value} {hp : qzH} : qyV E k 1 174 [a0, a1, a2, a3, a4] (st) hp = qyV E k 1 102 [a0, a1, a2, a3, a4] (st) hp := wv_goto ydc_1 dL_look_174 rfl
theorem eL_look_177 {E : qyE} {k : Nat} {a0 a1 a2 a4 : Value} {x : Int32} {st : List Value} {hp : qzH} (hv : a2.category = 1) : qyV E k 1 177 [a0, a1, a2, .int x, a4] (st) hp = qyV E k 1 180 [a0, a1, a2, .int (x + 1), a4] (st) hp := wv_iinc ydc_1 dL_look_177 rfl (fun _ => qyPv_of rfl hv) yil_1 rfl rfl
theorem eL_look_180 {E : qyE} {k : Nat} {a0 a1 a2 a3 a4 : Value} {st : List Value} {hp : qzH} : qyV E k 1 180 [a0, a1, a2, a3, a4] (st) hp = qyV E k 1 63 [a0, a1, a2, a3, a4] (st) hp := wv_goto ydc_1 dL_look_180 rfl
theorem eL_look_183 {E : qyE} {k : Nat} {a0 a2 a3 a4 : Value} {x : Int64} {st : List Value} {hp : qzH} : qyV E k 1 183 [a0, .long x, a2, a3, a4] (st) hp = qyV E k 1 184 [a0, .long x, a2, a3, a4] (.long x :: st) hp := wv_lload (i := 1) ydc_1 dL_look_183 rfl rfl rfl
theorem eL_look_184 {E : qyE} {k : Nat} {a0 a1 a2 a3 a4 : Value} {v : Int64} {hp : qzH} : qyV E k 1 184 [a0, a1, a2, a3, a4] [.long v] hp = some (.long v, hp) := wv_lret ydc_1 dL_look_184 rfl
theorem dL_lot_0 : decode cL_lot 0 = .ok (.iload_n 1, 1) := by decide +kernel
theorem dL_lot_1 : decode cL_lot 1 = .ok (.aload_n 0, 1) := by decide +kernel
theorem dL_lot_2 : decode cL_lot 2 = .ok (.arraylength, 1) := by decide +kernel
theorem dL_lot_3 : decode cL_lot 3 = .ok (.if_icmp .ge 9, 3) := by decide +kernel
theorem dL_lot_6 : decode cL_lot 6 = .ok (.aload_n 0, 1) := by decide +kernel
theorem dL_lot_7 : decode cL_lot 7 = .ok (.iload_n 1, 1) := by decide +kernel
theorem dL_lot_8 : decode cL_lot 8 = .ok (.iaload, 1) := by decide +kernel
theorem dL_lot_9 : decode cL_lot 9 = .ok (.goto 15, 3) := by decide +kernel
theorem dL_lot_12 : decode cL_lot 12 = .ok (.ldc 7, 2) := by decide +kernel
theorem dL_lot_14 : decode cL_lot 14 = .ok (.iload_n 1, 1) := by decide +kernel
theorem dL_lot_15 : decode cL_lot 15 = .ok (.sipush 4457, 3) := by decide +kernel
theorem dL_lot_18 : decode cL_lot 18 = .ok (.iadd, 1) := by decide +kernel
theorem dL_lot_19 : decode cL_lot 19 = .ok (.imul, 1) := by decide +kernel
theorem dL_lot_20 : decode cL_lot 20 = .ok (.sipush 4219, 3) := by decide +kernel
theorem dL_lot_23 : decode cL_lot 23 = .ok (.iadd, 1) := by decide +kernel
theorem dL_lot_24 : decode cL_lot 24 = .ok (.ireturn, 1) := by decide +kernel
theorem eL_lot_0 {E : qyE} {k : Nat} {a0 : Value} {x : Int32} {st : List Value} {hp : qzH} : qyV E k 8 0 [a0, .int x] (st) hp = qyV E k 8 1 [a0, .int x] (.int x :: st) hp := wv_iload (i := 1) ydc_8 dL_lot_0 rfl rfl rfl
theorem eL_lot_1 {E : qyE} {k : Nat} {a1 : Value} {x : Nat} {st : List Value} {hp : qzH} : qyV E k 8 1 [.ref x, a1] (st) hp = qyV E k 8 2 [.ref x, a1] (.ref x :: st) hp := wv_aload (i := 0) ydc_8 dL_lot_1 rfl rfl rfl
theorem eL_lot_2 {E : qyE} {k : Nat} {a0 a1 : Value} {st : List Value} {hp : qzH} : qyV E k 8 2 [a0, a1] (.ref 1004 :: st) hp = qyV E k 8 3 [a0, a1] (.int (Int32.ofNat E.1) :: st) hp := wv_alen ydc_8 dL_lot_2 rfl
theorem eL_lot_3 {E : qyE} {k : Nat} {a0 a1 : Value} {x y : Int32} {st : List Value} {hp : qzH} : qyV E k 8 3 [a0, a1] (.int y :: .int x :: st) hp = if y ≤ x then qyV E k 8 12 [a0, a1] (st) hp else qyV E k 8 6 [a0, a1] (st) hp := wv_if2 ydc_8 dL_lot_3 rfl rfl rfl
theorem eL_lot_6 {E : qyE} {k : Nat} {a1 : Value} {x : Nat} {st : List Value} {hp : qzH} : qyV E k 8 6 [.ref x, a1] (st) hp = qyV E k 8 7 [.ref x, a1] (.ref x :: st) hp := wv_aload (i := 0) ydc_8 dL_lot_6 rfl rfl rfl
theorem eL_lot_7 {E : qyE} {k : Nat} {a0 : Value} {x : Int32} {st : List Value} {hp : qzH} : qyV E k 8 7 [a0, .int x] (st) hp = qyV E k 8 8 [a0, .int x] (.int x :: st) hp := wv_iload (i := 1) ydc_8 dL_lot_7 rfl rfl rfl
theorem eL_lot_8 {E : qyE} {k : Nat} {a0 a1 : Value} {i : Int32} {st : List Value} {hp : qzH} (hi : qzIn i E.1 = true) : qyV E k 8 8 [a0, a1] (.int i :: .ref 1004 :: st) hp = qyV E k 8 9 [a0, a1] (.int (E.2 i.toNatClampNeg) :: st) hp := wv_iald ydc_8 dL_lot_8 rfl hi
theorem eL_lot_9 {E : qyE} {k : Nat} {a0 a1 : Value} {st : List Value} {hp : qzH} : qyV E k 8 9 [a0, a1] (st) hp = qyV E k 8 24 [a0, a1] (st) hp := wv_goto ydc_8 dL_lot_9 rfl
theorem eL_lot_12 {E : qyE} {k : Nat} {a0 a1 : Value} {st : List Value} {hp : qzH} : qyV E k 8 12 [a0, a1] (st) hp = qyV E k 8 14 [a0, a1] (.int (-1008671379) :: st) hp := wv_ldc ydc_8 dL_lot_12 (by decide) rfl
theorem eL_lot_14 {E : qyE} {k : Nat} {a0 : Value} {x : Int32} {st : List Value} {hp : qzH} : qyV E k 8 14 [a0, .int x] (st) hp = qyV E k 8 15 [a0, .int x] (.int x :: st) hp := wv_iload (i := 1) ydc_8 dL_lot_14 rfl rfl rfl
theorem eL_lot_15 {E : qyE} {k : Nat} {a0 a1 : Value} {st : List Value} {hp : qzH} : qyV E k 8 15 [a0, a1] (st) hp = qyV E k 8 18 [a0, a1] (.int 4457 :: st) hp := wv_push ydc_8 dL_lot_15 rfl (congrArg Value.int yis_4457) rfl
theorem eL_lot_18 {E : qyE} {k : Nat} {a0 a1 : Value} {x y : Int32} {st : List Value} {hp : qzH} : qyV E k 8 18 [a0, a1] (.int y :: .int x :: st) hp = qyV E k 8 19 [a0, a1] (.int (x + y) :: st) hp := wv_bin (f := fun x y => x + y) ydc_8 dL_lot_18 rfl rfl
theorem eL_lot_19 {E : qyE} {k : Nat} {a0 a1 : Value} {x y : Int32} {st : List Value} {hp : qzH} : qyV E k 8 19 [a0, a1] (.int y :: .int x :: st) hp = qyV E k 8 20 [a0, a1] (.int (x * y) :: st) hp := wv_bin (f := fun x y => x * y) ydc_8 dL_lot_19 rfl rfl
theorem eL_lot_20 {E : qyE} {k : Nat} {a0 a1 : Value} {st : List Value} {hp : qzH} : qyV E k 8 20 [a0, a1] (st) hp = qyV E k 8 23 [a0, a1] (.int 4219 :: st) hp := wv_push ydc_8 dL_lot_20 rfl (congrArg Value.int yis_4219) rfl
theorem eL_lot_23 {E : qyE} {k : Nat} {a0 a1 : Value} {x y : Int32} {st : List Value} {hp : qzH} : qyV E k 8 23 [a0, a1] (.int y :: .int x :: st) hp = qyV E k 8 24 [a0, a1] (.int (x + y) :: st) hp := wv_bin (f := fun x y => x + y) ydc_8 dL_lot_23 rfl rfl
theorem eL_lot_24 {E : qyE} {k : Nat} {a0 a1 : Value} {v : Int32} {hp : qzH} : qyV E k 8 24 [a0, a1] [.int v] hp = some (.int v, hp) := wv_iret ydc_8 dL_lot_24 rfl rfl
