theorem dX2_sizeOf_0 : decode cX2_sizeOf 0 = .ok (.iload_n 0, 1) := by decide +kernel
theorem dX2_sizeOf_1 : decode cX2_sizeOf 1 = .ok (.invokestatic 215, 3) := by decide +kernel
theorem dX2_sizeOf_4 : decode cX2_sizeOf 4 = .ok (.ifCond .eq 7, 3) := by decide +kernel
theorem dX2_sizeOf_7 : decode cX2_sizeOf 7 = .ok (.iload_n 0, 1) := by decide +kernel
theorem dX2_sizeOf_8 : decode cX2_sizeOf 8 = .ok (.goto 7, 3) := by decide +kernel
theorem dX2_sizeOf_11 : decode cX2_sizeOf 11 = .ok (.iload_n 0, 1) := by decide +kernel
theorem dX2_sizeOf_12 : decode cX2_sizeOf 12 = .ok (.bipush 10, 2) := by decide +kernel
theorem dX2_sizeOf_14 : decode cX2_sizeOf 14 = .ok (.isub, 1) := by decide +kernel
theorem dX2_sizeOf_15 : decode cX2_sizeOf 15 = .ok (.ireturn, 1) := by decide +kernel
theorem eX2_sizeOf_0 {d : Nat} {x : Int32} {st : List Value} {hp : qzH} : qzV d 55 0 [.int x] (st) hp = qzV d 55 1 [.int x] (.int x :: st) hp := qv_iload (i := 0) mdc_55 dX2_sizeOf_0 rfl rfl rfl
theorem eX2_sizeOf_1 {d : Nat} {a0 : Value} {w0 : Value} {st : List Value} {hp : qzH} (h8 : st.length ≤ 8) : qzV (d + 1) 55 1 [a0] (w0 :: st) hp = (qzC d 54 [w0] hp).bind (fun r => qzV (d + 1) 55 4 [a0] (r.1.toList ++ st) r.2) := qv_calls (n := 1) mdc_55 dX2_sizeOf_1 mdo_55 (by decide) qfc_2_215 ⟨rfl, by decide, rfl⟩ rfl ⟨rfl, rfl, by simp only [List.length_cons]; omega⟩ h8
theorem eX2_sizeOf_4 {d : Nat} {a0 : Value} {x : Int32} {st : List Value} {hp : qzH} : qzV d 55 4 [a0] (.int x :: st) hp = if x = 0 then qzV d 55 11 [a0] (st) hp else qzV d 55 7 [a0] (st) hp := qv_if1 mdc_55 dX2_sizeOf_4 rfl rfl rfl
theorem eX2_sizeOf_7 {d : Nat} {x : Int32} {st : List Value} {hp : qzH} : qzV d 55 7 [.int x] (st) hp = qzV d 55 8 [.int x] (.int x :: st) hp := qv_iload (i := 0) mdc_55 dX2_sizeOf_7 rfl rfl rfl
theorem eX2_sizeOf_8 {d : Nat} {a0 : Value} {st : List Value} {hp : qzH} : qzV d 55 8 [a0] (st) hp = qzV d 55 15 [a0] (st) hp := qv_goto mdc_55 dX2_sizeOf_8 rfl
theorem eX2_sizeOf_11 {d : Nat} {x : Int32} {st : List Value} {hp : qzH} : qzV d 55 11 [.int x] (st) hp = qzV d 55 12 [.int x] (.int x :: st) hp := qv_iload (i := 0) mdc_55 dX2_sizeOf_11 rfl rfl rfl
theorem eX2_sizeOf_12 {d : Nat} {a0 : Value} {st : List Value} {hp : qzH} : qzV d 55 12 [a0] (st) hp = qzV d 55 14 [a0] (.int 10 :: st) hp := qv_bipush mdc_55 dX2_sizeOf_12 ib_10 rfl
theorem eX2_sizeOf_14 {d : Nat} {a0 : Value} {x y : Int32} {st : List Value} {hp : qzH} : qzV d 55 14 [a0] (.int y :: .int x :: st) hp = qzV d 55 15 [a0] (.int (x - y) :: st) hp := qv_bin (f := fun x y => x - y) mdc_55 dX2_sizeOf_14 rfl rfl
theorem eX2_sizeOf_15 {d : Nat} {a0 : Value} {v : Int32} {hp : qzH} : qzV d 55 15 [a0] [.int v] hp = some (some (.int v), hp) := qv_iret mdc_55 dX2_sizeOf_15 mdr_55 rfl
theorem dX2_pieceStart_0 : decode cX2_pieceStart 0 = .ok (.iload_n 2, 1) := by decide +kernel
theorem dX2_pieceStart_1 : decode cX2_pieceStart 1 = .ok (.invokestatic 215, 3) := by decide +kernel
theorem dX2_pieceStart_4 : decode cX2_pieceStart 4 = .ok (.ifCond .eq 7, 3) := by decide +kernel
theorem dX2_pieceStart_7 : decode cX2_pieceStart 7 = .ok (.iload_n 0, 1) := by decide +kernel
theorem dX2_pieceStart_8 : decode cX2_pieceStart 8 = .ok (.goto 9, 3) := by decide +kernel
theorem dX2_pieceStart_11 : decode cX2_pieceStart 11 = .ok (.iload_n 1, 1) := by decide +kernel
theorem dX2_pieceStart_12 : decode cX2_pieceStart 12 = .ok (.iload_n 2, 1) := by decide +kernel
theorem dX2_pieceStart_13 : decode cX2_pieceStart 13 = .ok (.invokestatic 218, 3) := by decide +kernel
theorem dX2_pieceStart_16 : decode cX2_pieceStart 16 = .ok (.isub, 1) := by decide +kernel
theorem dX2_pieceStart_17 : decode cX2_pieceStart 17 = .ok (.ireturn, 1) := by decide +kernel
theorem eX2_pieceStart_0 {d : Nat} {a0 a1 : Value} {x : Int32} {st : List Value} {hp : qzH} : qzV d 56 0 [a0, a1, .int x] (st) hp = qzV d 56 1 [a0, a1, .int x] (.int x :: st) hp := qv_iload (i := 2) mdc_56 dX2_pieceStart_0 rfl rfl rfl
theorem eX2_pieceStart_1 {d : Nat} {a0 a1 a2 : Value} {w0 : Value} {st : List Value} {hp : qzH} (h8 : st.length ≤ 8) : qzV (d + 1) 56 1 [a0, a1, a2] (w0 :: st) hp = (qzC d 54 [w0] hp).bind (fun r => qzV (d + 1) 56 4 [a0, a1, a2] (r.1.toList ++ st) r.2) := qv_calls (n := 1) mdc_56 dX2_pieceStart_1 mdo_56 (by decide) qfc_2_215 ⟨rfl, by decide, rfl⟩ rfl ⟨rfl, rfl, by simp only [List.length_cons]; omega⟩ h8
theorem eX2_pieceStart_4 {d : Nat} {a0 a1 a2 : Value} {x : Int32} {st : List Value} {hp : qzH} : qzV d 56 4 [a0, a1, a2] (.int x :: st) hp = if x = 0 then qzV d 56 11 [a0, a1, a2] (st) hp else qzV d 56 7 [a0, a1, a2] (st) hp := qv_if1 mdc_56 dX2_pieceStart_4 rfl rfl rfl
theorem eX2_pieceStart_7 {d : Nat} {a1 a2 : Value} {x : Int32} {st : List Value} {hp : qzH} : qzV d 56 7 [.int x, a1, a2] (st) hp = qzV d 56 8 [.int x, a1, a2] (.int x :: st) hp := qv_iload (i := 0) mdc_56 dX2_pieceStart_7 rfl rfl rfl
theorem eX2_pieceStart_8 {d : Nat} {a0 a1 a2 : Value} {st : List Value} {hp : qzH} : qzV d 56 8 [a0, a1, a2] (st) hp = qzV d 56 17 [a0, a1, a2] (st) hp := qv_goto mdc_56 dX2_pieceStart_8 rfl
theorem eX2_pieceStart_11 {d : Nat} {a0 a2 : Value} {x : Int32} {st : List Value} {hp : qzH} : qzV d 56 11 [a0, .int x, a2] (st) hp = qzV d 56 12 [a0, .int x, a2] (.int x :: st) hp := qv_iload (i := 1) mdc_56 dX2_pieceStart_11 rfl rfl rfl
theorem eX2_pieceStart_12 {d : Nat} {a0 a1 : Value} {x : Int32} {st : List Value} {hp : qzH} : qzV d 56 12 [a0, a1, .int x] (st) hp = qzV d 56 13 [a0, a1, .int x] (.int x :: st) hp := qv_iload (i := 2) mdc_56 dX2_pieceStart_12 rfl rfl rfl
theorem eX2_pieceStart_13 {d : Nat} {a0 a1 a2 : Value} {w0 : Value} {st : List Value} {hp : qzH} (h8 : st.length ≤ 8) : qzV (d + 1) 56 13 [a0, a1, a2] (w0 :: st) hp = (qzC d 55 [w0] hp).bind (fun r => qzV (d + 1) 56 16 [a0, a1, a2] (r.1.toList ++ st) r.2) := qv_calls (n := 1) mdc_56 dX2_pieceStart_13 mdo_56 (by decide) qfc_2_218 ⟨rfl, by decide, rfl⟩ rfl ⟨rfl, rfl, by simp only [List.length_cons]; omega⟩ h8
theorem eX2_pieceStart_16 {d : Nat} {a0 a1 a2 : Value} {x y : Int32} {st : List Value} {hp : qzH} : qzV d 56 16 [a0, a1, a2] (.int y :: .int x :: st) hp = qzV d 56 17 [a0, a1, a2] (.int (x - y) :: st) hp := qv_bin (f := fun x y => x - y) mdc_56 dX2_pieceStart_16 rfl rfl
theorem eX2_pieceStart_17 {d : Nat} {a0 a1 a2 : Value} {v : Int32} {hp : qzH} : qzV d 56 17 [a0, a1, a2] [.int v] hp = some (some (.int v), hp) := qv_iret mdc_56 dX2_pieceStart_17 mdr_56 rfl
theorem dX2_restStart_0 : decode cX2_restStart 0 = .ok (.iload_n 1, 1) := by decide +kernel
theorem dX2_restStart_1 : decode cX2_restStart 1 = .ok (.invokestatic 215, 3) := by decide +kernel
theorem dX2_restStart_4 : decode cX2_restStart 4 = .ok (.ifCond .eq 12, 3) := by decide +kernel
theorem dX2_restStart_7 : decode cX2_restStart 7 = .ok (.iload_n 0, 1) := by decide +kernel
theorem dX2_restStart_8 : decode cX2_restStart 8 = .ok (.iload_n 1, 1) := by decide +kernel
theorem dX2_restStart_9 : decode cX2_restStart 9 = .ok (.invokestatic 218, 3) := by decide +kernel
theorem dX2_restStart_12 : decode cX2_restStart 12 = .ok (.iadd, 1) := by decide +kernel
theorem dX2_restStart_13 : decode cX2_restStart 13 = .ok (.goto 4, 3) := by decide +kernel
theorem dX2_restStart_16 : decode cX2_restStart 16 = .ok (.iload_n 0, 1) := by decide +kernel
theorem dX2_restStart_17 : decode cX2_restStart 17 = .ok (.ireturn, 1) := by decide +kernel
theorem eX2_restStart_0 {d : Nat} {a0 : Value} {x : Int32} {st : List Value} {hp : qzH} : qzV d 57 0 [a0, .int x] (st) hp = qzV d 57 1 [a0, .int x] (.int x :: st) hp := qv_iload (i := 1) mdc_57 dX2_restStart_0 rfl rfl rfl
theorem eX2_restStart_1 {d : Nat} {a0 a1 : Value} {w0 : Value} {st : List Value} {hp : qzH} (h8 : st.length ≤ 8) : qzV (d + 1) 57 1 [a0, a1] (w0 :: st) hp = (qzC d 54 [w0] hp).bind (fun r => qzV (d + 1) 57 4 [a0, a1] (r.1.toList ++ st) r.2) := qv_calls (n := 1) mdc_57 dX2_restStart_1 mdo_57 (by decide) qfc_2_215 ⟨rfl, by decide, rfl⟩ rfl ⟨rfl, rfl, by simp only [List.length_cons]; omega⟩ h8
theorem eX2_restStart_4 {d : Nat} {a0 a1 : Value} {x : Int32} {st : List Value} {hp : qzH} : qzV d 57 4 [a0, a1] (.int x :: st) hp = if x = 0 then qzV d 57 16 [a0, a1] (st) hp else qzV d 57 7 [a0, a1] (st) hp := qv_if1 mdc_57 dX2_restStart_4 rfl rfl rfl
theorem eX2_restStart_7 {d : Nat} {a1 : Value} {x : Int32} {st : List Value} {hp : qzH} : qzV d 57 7 [.int x, a1] (st) hp = qzV d 57 8 [.int x, a1] (.int x :: st) hp := qv_iload (i := 0) mdc_57 dX2_restStart_7 rfl rfl rfl
theorem eX2_restStart_8 {d : Nat} {a0 : Value} {x : Int32} {st : List Value} {hp : qzH} : qzV d 57 8 [a0, .int x] (st) hp = qzV d 57 9 [a0, .int x] (.int x :: st) hp := qv_iload (i := 1) mdc_57 dX2_restStart_8 rfl rfl rfl
theorem eX2_restStart_9 {d : Nat} {a0 a1 : Value} {w0 : Value} {st : List Value} {hp : qzH} (h8 : st.length ≤ 8) : qzV (d + 1) 57 9 [a0, a1] (w0 :: st) hp = (qzC d 55 [w0] hp).bind (fun r => qzV (d + 1) 57 12 [a0, a1] (r.1.toList ++ st) r.2) := qv_calls (n := 1) mdc_57 dX2_restStart_9 mdo_57 (by decide) qfc_2_218 ⟨rfl, by decide, rfl⟩ rfl ⟨rfl, rfl, by simp only [List.length_cons]; omega⟩ h8
theorem eX2_restStart_12 {d : Nat} {a0 a1 : Value} {x y : Int32} {st : List Value} {hp : qzH} : qzV d 57 12 [a0, a1] (.int y :: .int x :: st) hp = qzV d 57 13 [a0, a1] (.int (x + y) :: st) hp := qv_bin (f := fun x y => x + y) mdc_57 dX2_restStart_12 rfl rfl
theorem eX2_restStart_13 {d : Nat} {a0 a1 : Value} {st : List Value} {hp : qzH} : qzV d 57 13 [a0, a1] (st) hp = qzV d 57 17 [a0, a1] (st) hp := qv_goto mdc_57 dX2_restStart_13 rfl
theorem eX2_restStart_16 {d : Nat} {a1 : Value} {x : Int32} {st : List Value} {hp : qzH} : qzV d 57 16 [.int x, a1] (st) hp = qzV d 57 17 [.int x, a1] (.int x :: st) hp := qv_iload (i := 0) mdc_57 dX2_restStart_16 rfl rfl rfl
theorem eX2_restStart_17 {d : Nat} {a0 a1 : Value} {v : Int32} {hp : qzH} : qzV d 57 17 [a0, a1] [.int v] hp = some (some (.int v), hp) := qv_iret mdc_57 dX2_restStart_17 mdr_57 rfl
theorem dX2_restEnd_0 : decode cX2_restEnd 0 = .ok (.iload_n 1, 1) := by decide +kernel
theorem dX2_restEnd_1 : decode cX2_restEnd 1 = .ok (.invokestatic 215, 3) := by decide +kernel
theorem dX2_restEnd_4 : decode cX2_restEnd 4 = .ok (.ifCond .eq 7, 3) := by decide +kernel
theorem dX2_restEnd_7 : decode cX2_restEnd 7 = .ok (.iload_n 0, 1) := by decide +kernel
theorem dX2_restEnd_8 : decode cX2_restEnd 8 = .ok (.goto 9, 3) := by decide +kernel
theorem dX2_restEnd_11 : decode cX2_restEnd 11 = .ok (.iload_n 0, 1) := by decide +kernel
theorem dX2_restEnd_12 : decode cX2_restEnd 12 = .ok (.iload_n 1, 1) := by decide +kernel
theorem dX2_restEnd_13 : decode cX2_restEnd 13 = .ok (.invokestatic 218, 3) := by decide +kernel
theorem dX2_restEnd_16 : decode cX2_restEnd 16 = .ok (.isub, 1) := by decide +kernel
theorem dX2_restEnd_17 : decode cX2_restEnd 17 = .ok (.ireturn, 1) := by decide +kernel
theorem eX2_restEnd_0 {d : Nat} {a0 : Value} {x : Int32} {st : List Value} {hp : qzH} : qzV d 58 0 [a0, .int x] (st) hp = qzV d 58 1 [a0, .int x] (.int x :: st) hp := qv_iload (i := 1) mdc_58 dX2_restEnd_0 rfl rfl rfl
theorem eX2_restEnd_1 {d : Nat} {a0 a1 : Value} {w0 : Value} {st : List Value} {hp : qzH} (h8 : st.length ≤ 8) : qzV (d + 1) 58 1 [a0, a1] (w0 :: st) hp = (qzC d 54 [w0] hp).bind (fun r => qzV (d + 1) 58 4 [a0, a1] (r.1.toList ++ st) r.2) := qv_calls (n := 1) mdc_58 dX2_restEnd_1 mdo_58 (by decide) qfc_2_215 ⟨rfl, by decide, rfl⟩ rfl ⟨rfl, rfl, by simp only [List.length_cons]; omega⟩ h8
theorem eX2_restEnd_4 {d : Nat} {a0 a1 : Value} {x : Int32} {st : List Value} {hp : qzH} : qzV d 58 4 [a0, a1] (.int x :: st) hp = if x = 0 then qzV d 58 11 [a0, a1] (st) hp else qzV d 58 7 [a0, a1] (st) hp := qv_if1 mdc_58 dX2_restEnd_4 rfl rfl rfl
theorem eX2_restEnd_7 {d : Nat} {a1 : Value} {x : Int32} {st : List Value} {hp : qzH} : qzV d 58 7 [.int x, a1] (st) hp = qzV d 58 8 [.int x, a1] (.int x :: st) hp := qv_iload (i := 0) mdc_58 dX2_restEnd_7 rfl rfl rfl
theorem eX2_restEnd_8 {d : Nat} {a0 a1 : Value} {st : List Value} {hp : qzH} : qzV d 58 8 [a0, a1] (st) hp = qzV d 58 17 [a0, a1] (st) hp := qv_goto mdc_58 dX2_restEnd_8 rfl
theorem eX2_restEnd_11 {d : Nat} {a1 : Value} {x : Int32} {st : List Value} {hp : qzH} : qzV d 58 11 [.int x, a1] (st) hp = qzV d 58 12 [.int x, a1] (.int x :: st) hp := qv_iload (i := 0) mdc_58 dX2_restEnd_11 rfl rfl rfl
theorem eX2_restEnd_12 {d : Nat} {a0 : Value} {x : Int32} {st : List Value} {hp : qzH} : qzV d 58 12 [a0, .int x] (st) hp = qzV d 58 13 [a0, .int x] (.int x :: st) hp := qv_iload (i := 1) mdc_58 dX2_restEnd_12 rfl rfl rfl
theorem eX2_restEnd_13 {d : Nat} {a0 a1 : Value} {w0 : Value} {st : List Value} {hp : qzH} (h8 : st.length ≤ 8) : qzV (d + 1) 58 13 [a0, a1] (w0 :: st) hp = (qzC d 55 [w0] hp).bind (fun r => qzV (d + 1) 58 16 [a0, a1] (r.1.toList ++ st) r.2) := qv_calls (n := 1) mdc_58 dX2_restEnd_13 mdo_58 (by decide) qfc_2_218 ⟨rfl, by decide, rfl⟩ rfl ⟨rfl, rfl, by simp only [List.length_cons]; omega⟩ h8
theorem eX2_restEnd_16 {d : Nat} {a0 a1 : Value} {x y : Int32} {st : List Value} {hp : qzH} : qzV d 58 16 [a0, a1] (.int y :: .int x :: st) hp = qzV d 58 17 [a0, a1] (.int (x - y) :: st) hp := qv_bin (f := fun x y => x - y) mdc_58 dX2_restEnd_16 rfl rfl
theorem eX2_restEnd_17 {d : Nat} {a0 a1 : Value} {v : Int32} {hp : qzH} : qzV d 58 17 [a0, a1] [.int v] hp = some (some (.int v), hp) := qv_iret mdc_58 dX2_restEnd_17 mdr_58 rfl
theorem dX2_errorOfCut_0 : decode cX2_errorOfCut 0 = .ok (.iload_n 1, 1) := by decide +kernel
theorem dX2_errorOfCut_1 : decode cX2_errorOfCut 1 = .ok (.iconst 1, 1) := by decide +kernel
theorem dX2_errorOfCut_2 : decode cX2_errorOfCut 2 = .ok (.if_icmp .lt 8, 3) := by decide +kernel
theorem dX2_errorOfCut_5 : decode cX2_errorOfCut 5 = .ok (.iload_n 1, 1) := by decide +kernel
theorem dX2_errorOfCut_6 : decode cX2_errorOfCut 6 = .ok (.iconst 5, 1) := by decide +kernel
theorem dX2_errorOfCut_7 : decode cX2_errorOfCut 7 = .ok (.if_icmp .le 5, 3) := by decide +kernel
theorem dX2_errorOfCut_10 : decode cX2_errorOfCut 10 = .ok (.iconst (-1), 1) := by decide +kernel
theorem dX2_errorOfCut_11 : decode cX2_errorOfCut 11 = .ok (.ireturn, 1) := by decide +kernel
theorem dX2_errorOfCut_12 : decode cX2_errorOfCut 12 = .ok (.iload_n 1, 1) := by decide +kernel
theorem dX2_errorOfCut_13 : decode cX2_errorOfCut 13 = .ok (.aload_n 0, 1) := by decide +kernel
theorem dX2_errorOfCut_14 : decode cX2_errorOfCut 14 = .ok (.getfield 10, 3) := by decide +kernel
theorem dX2_errorOfCut_17 : decode cX2_errorOfCut 17 = .ok (.invokevirtual 221, 3) := by decide +kernel
theorem dX2_errorOfCut_20 : decode cX2_errorOfCut 20 = .ok (.if_icmp .le 8, 3) := by decide +kernel
theorem dX2_errorOfCut_23 : decode cX2_errorOfCut 23 = .ok (.bipush (-2), 2) := by decide +kernel
theorem dX2_errorOfCut_25 : decode cX2_errorOfCut 25 = .ok (.goto 4, 3) := by decide +kernel
theorem dX2_errorOfCut_28 : decode cX2_errorOfCut 28 = .ok (.iconst 0, 1) := by decide +kernel
theorem dX2_errorOfCut_29 : decode cX2_errorOfCut 29 = .ok (.ireturn, 1) := by decide +kernel
theorem eX2_errorOfCut_0 {d : Nat} {a0 : Value} {x : Int32} {st : List Value} {hp : qzH} : qzV d 59 0 [a0, .int x] (st) hp = qzV d 59 1 [a0, .int x] (.int x :: st) hp := qv_iload (i := 1) mdc_59 dX2_errorOfCut_0 rfl rfl rfl
theorem eX2_errorOfCut_1 {d : Nat} {a0 a1 : Value} {st : List Value} {hp : qzH} : qzV d 59 1 [a0, a1] (st) hp = qzV d 59 2 [a0, a1] (.int 1 :: st) hp := qv_iconst mdc_59 dX2_errorOfCut_1 il_1 rfl
theorem eX2_errorOfCut_2 {d : Nat} {a0 a1 : Value} {x y : Int32} {st : List Value} {hp : qzH} : qzV d 59 2 [a0, a1] (.int y :: .int x :: st) hp = if x < y then qzV d 59 10 [a0, a1] (st) hp else qzV d 59 5 [a0, a1] (st) hp := qv_if2 mdc_59 dX2_errorOfCut_2 rfl rfl rfl
theorem eX2_errorOfCut_5 {d : Nat} {a0 : Value} {x : Int32} {st : List Value} {hp : qzH} : qzV d 59 5 [a0, .int x] (st) hp = qzV d 59 6 [a0, .int x] (.int x :: st) hp := qv_iload (i := 1) mdc_59 dX2_errorOfCut_5 rfl rfl rfl
theorem eX2_errorOfCut_6 {d : Nat} {a0 a1 : Value} {st : List Value} {hp : qzH} : qzV d 59 6 [a0, a1] (st) hp = qzV d 59 7 [a0, a1] (.int 5 :: st) hp := qv_iconst mdc_59 dX2_errorOfCut_6 il_5 rfl
theorem eX2_errorOfCut_7 {d : Nat} {a0 a1 : Value} {x y : Int32} {st : List Value} {hp : qzH} : qzV d 59 7 [a0, a1] (.int y :: .int x :: st) hp = if x ≤ y then qzV d 59 12 [a0, a1] (st) hp else qzV d 59 10 [a0, a1] (st) hp := qv_if2 mdc_59 dX2_errorOfCut_7 rfl rfl rfl
theorem eX2_errorOfCut_10 {d : Nat} {a0 a1 : Value} {st : List Value} {hp : qzH} : qzV d 59 10 [a0, a1] (st) hp = qzV d 59 11 [a0, a1] (.int (-1) :: st) hp := qv_iconst mdc_59 dX2_errorOfCut_10 il_m1 rfl
theorem eX2_errorOfCut_11 {d : Nat} {a0 a1 : Value} {v : Int32} {hp : qzH} : qzV d 59 11 [a0, a1] [.int v] hp = some (some (.int v), hp) := qv_iret mdc_59 dX2_errorOfCut_11 mdr_59 rfl
theorem eX2_errorOfCut_12 {d : Nat} {a0 : Value} {x : Int32} {st : List Value} {hp : qzH} : qzV d 59 12 [a0, .int x] (st) hp = qzV d 59 13 [a0, .int x] (.int x :: st) hp := qv_iload (i := 1) mdc_59 dX2_errorOfCut_12 rfl rfl rfl
theorem eX2_errorOfCut_13 {d : Nat} {a1 : Value} {x : Nat} {st : List Value} {hp : qzH} : qzV d 59 13 [.ref x, a1] (st) hp = qzV d 59 14 [.ref x, a1] (.ref x :: st) hp := qv_aload (i := 0) mdc_59 dX2_errorOfCut_13 rfl rfl rfl
theorem eX2_errorOfCut_14 {d : Nat} {a0 a1 : Value} {a : Nat} {st : List Value} {hp : qzH} (ha : qzArr 2 a hp.1 = true) : qzV d 59 14 [a0, a1] (.ref a :: st) hp = qzV d 59 17 [a0, a1] (va_rf (hp.2.1 a 0) :: st) hp := qv_getR mdc_59 dX2_errorOfCut_14 mdo_59 qff_2_10 ⟨by decide, rfl⟩ rfl ha
theorem eX2_errorOfCut_17 {d : Nat} {a0 a1 : Value} {b : Nat} {st : List Value} {hp : qzH} (h8 : st.length ≤ 8) (hb : qzArr 0 b hp.1 = true) : qzV (d + 1) 59 17 [a0, a1] (.ref b :: st) hp = (qzC d 6 (.ref b :: []) hp).bind (fun r => qzV (d + 1) 59 20 [a0, a1] (r.1.toList ++ st) r.2) := qv_callv (n := 0) mdc_59 dX2_errorOfCut_17 mdo_59 (by decide) qfc_2_221 ⟨rfl, by decide, rfl⟩ rfl ⟨rfl, rfl, by simp only [List.length_cons]; omega⟩ h8 hb
theorem eX2_errorOfCut_20 {d : Nat} {a0 a1 : Value} {x y : Int32} {st : List Value} {hp : qzH} : qzV d 59 20 [a0, a1] (.int y :: .int x :: st) hp = if x ≤ y then qzV d 59 28 [a0, a1] (st) hp else qzV d 59 23 [a0, a1] (st) hp := qv_if2 mdc_59 dX2_errorOfCut_20 rfl rfl rfl
theorem eX2_errorOfCut_23 {d : Nat} {a0 a1 : Value} {st : List Value} {hp : qzH} : qzV d 59 23 [a0, a1] (st) hp = qzV d 59 25 [a0, a1] (.int (-2) :: st) hp := qv_bipush mdc_59 dX2_errorOfCut_23 ib_m2 rfl
theorem eX2_errorOfCut_25 {d : Nat} {a0 a1 : Value} {st : List Value} {hp : qzH} : qzV d 59 25 [a0, a1] (st) hp = qzV d 59 29 [a0, a1] (st) hp := qv_goto mdc_59 dX2_errorOfCut_25 rfl
theorem eX2_errorOfCut_28 {d : Nat} {a0 a1 : Value} {st : List Value} {hp : qzH} : qzV d 59 28 [a0, a1] (st) hp = qzV d 59 29 [a0, a1] (.int 0 :: st) hp := qv_iconst mdc_59 dX2_errorOfCut_28 il_0 rfl
theorem eX2_errorOfCut_29 {d : Nat} {a0 a1 : Value} {v : Int32} {hp : qzH} : qzV d 59 29 [a0, a1] [.int v] hp = some (some (.int v), hp) := qv_iret mdc_59 dX2_errorOfCut_29 mdr_59 rfl
theorem dX2_cutBy_0 : decode cX2_cutBy 0 = .ok (.aload_n 0, 1) := by decide +kernel
theorem dX2_cutBy_1 : decode cX2_cutBy 1 = .ok (.aload_n 0, 1) := by decide +kernel
theorem dX2_cutBy_2 : decode cX2_cutBy 2 = .ok (.getfield 10, 3) := by decide +kernel
theorem dX2_cutBy_5 : decode cX2_cutBy 5 = .ok (.iload_n 1, 1) := by decide +kernel
theorem dX2_cutBy_6 : decode cX2_cutBy 6 = .ok (.invokevirtual 197, 3) := by decide +kernel
theorem dX2_cutBy_9 : decode cX2_cutBy 9 = .ok (.istore_n 2, 1) := by decide +kernel
theorem dX2_cutBy_10 : decode cX2_cutBy 10 = .ok (.iload_n 2, 1) := by decide +kernel
theorem dX2_cutBy_11 : decode cX2_cutBy 11 = .ok (.bipush (-2), 2) := by decide +kernel
theorem dX2_cutBy_13 : decode cX2_cutBy 13 = .ok (.if_icmp .ne 6, 3) := by decide +kernel
theorem dX2_cutBy_16 : decode cX2_cutBy 16 = .ok (.bipush (-2), 2) := by decide +kernel
theorem dX2_cutBy_18 : decode cX2_cutBy 18 = .ok (.ireturn, 1) := by decide +kernel
theorem dX2_cutBy_19 : decode cX2_cutBy 19 = .ok (.aload_n 0, 1) := by decide +kernel
theorem dX2_cutBy_20 : decode cX2_cutBy 20 = .ok (.invokevirtual 44, 3) := by decide +kernel
theorem dX2_cutBy_23 : decode cX2_cutBy 23 = .ok (.aload_n 0, 1) := by decide +kernel
theorem dX2_cutBy_24 : decode cX2_cutBy 24 = .ok (.getfield 10, 3) := by decide +kernel
theorem dX2_cutBy_27 : decode cX2_cutBy 27 = .ok (.iload_n 2, 1) := by decide +kernel
theorem dX2_cutBy_28 : decode cX2_cutBy 28 = .ok (.invokevirtual 51, 3) := by decide +kernel
theorem dX2_cutBy_31 : decode cX2_cutBy 31 = .ok (.ireturn, 1) := by decide +kernel
theorem eX2_cutBy_0 {d : Nat} {a1 a2 : Value} {x : Nat} {st : List Value} {hp : qzH} : qzV d 60 0 [.ref x, a1, a2] (st) hp = qzV d 60 1 [.ref x, a1, a2] (.ref x :: st) hp := qv_aload (i := 0) mdc_60 dX2_cutBy_0 rfl rfl rfl
theorem eX2_cutBy_1 {d : Nat} {a1 a2 : Value} {x : Nat} {st : List Value} {hp : qzH} : qzV d 60 1 [.ref x, a1, a2] (st) hp = qzV d 60 2 [.ref x, a1, a2] (.ref x :: st) hp := qv_aload (i := 0) mdc_60 dX2_cutBy_1 rfl rfl rfl
theorem eX2_cutBy_2 {d : Nat} {a0 a1 a2 : Value} {a : Nat} {st : List Value} {hp : qzH} (ha : qzArr 2 a hp.1 = true) : qzV d 60 2 [a0, a1, a2] (.ref a :: st) hp = qzV d 60 5 [a0, a1, a2] (va_rf (hp.2.1 a 0) :: st) hp := qv_getR mdc_60 dX2_cutBy_2 mdo_60 qff_2_10 ⟨by decide, rfl⟩ rfl ha
theorem eX2_cutBy_5 {d : Nat} {a0 a2 : Value} {x : Int32} {st : List Value} {hp : qzH} : qzV d 60 5 [a0, .int x, a2] (st) hp = qzV d 60 6 [a0, .int x, a2] (.int x :: st) hp := qv_iload (i := 1) mdc_60 dX2_cutBy_5 rfl rfl rfl
theorem eX2_cutBy_6 {d : Nat} {a0 a1 a2 : Value} {w0 w1 : Value} {b : Nat} {st : List Value} {hp : qzH} (h8 : st.length ≤ 8) (hb : qzArr 2 b hp.1 = true) : qzV (d + 1) 60 6 [a0, a1, a2] (w1 :: w0 :: .ref b :: st) hp = (qzC d 61 (.ref b :: [w0, w1]) hp).bind (fun r => qzV (d + 1) 60 9 [a0, a1, a2] (r.1.toList ++ st) r.2) := qv_callv (n := 2) mdc_60 dX2_cutBy_6 mdo_60 (by decide) qfc_2_197 ⟨rfl, by decide, rfl⟩ rfl ⟨rfl, rfl, by simp only [List.length_cons]; omega⟩ h8 hb
theorem eX2_cutBy_9 {d : Nat} {a0 a1 a2 : Value} {x : Int32} {st : List Value} {hp : qzH} : qzV d 60 9 [a0, a1, a2] (.int x :: st) hp = qzV d 60 10 [a0, a1, .int x] (st) hp := qv_istore (i := 2) mdc_60 dX2_cutBy_9 rfl (Nat.le_of_ble_eq_true rfl) rfl rfl
theorem eX2_cutBy_10 {d : Nat} {a0 a1 : Value} {x : Int32} {st : List Value} {hp : qzH} : qzV d 60 10 [a0, a1, .int x] (st) hp = qzV d 60 11 [a0, a1, .int x] (.int x :: st) hp := qv_iload (i := 2) mdc_60 dX2_cutBy_10 rfl rfl rfl
theorem eX2_cutBy_11 {d : Nat} {a0 a1 a2 : Value} {st : List Value} {hp : qzH} : qzV d 60 11 [a0, a1, a2] (st) hp = qzV d 60 13 [a0, a1, a2] (.int (-2) :: st) hp := qv_bipush mdc_60 dX2_cutBy_11 ib_m2 rfl
theorem eX2_cutBy_13 {d : Nat} {a0 a1 a2 : Value} {x y : Int32} {st : List Value} {hp : qzH} : qzV d 60 13 [a0, a1, a2] (.int y :: .int x :: st) hp = if ¬ x = y then qzV d 60 19 [a0, a1, a2] (st) hp else qzV d 60 16 [a0, a1, a2] (st) hp := qv_if2 mdc_60 dX2_cutBy_13 rfl rfl rfl
theorem eX2_cutBy_16 {d : Nat} {a0 a1 a2 : Value} {st : List Value} {hp : qzH} : qzV d 60 16 [a0, a1, a2] (st) hp = qzV d 60 18 [a0, a1, a2] (.int (-2) :: st) hp := qv_bipush mdc_60 dX2_cutBy_16 ib_m2 rfl
theorem eX2_cutBy_18 {d : Nat} {a0 a1 a2 : Value} {v : Int32} {hp : qzH} : qzV d 60 18 [a0, a1, a2] [.int v] hp = some (some (.int v), hp) := qv_iret mdc_60 dX2_cutBy_18 mdr_60 rfl
theorem eX2_cutBy_19 {d : Nat} {a1 a2 : Value} {x : Nat} {st : List Value} {hp : qzH} : qzV d 60 19 [.ref x, a1, a2] (st) hp = qzV d 60 20 [.ref x, a1, a2] (.ref x :: st) hp := qv_aload (i := 0) mdc_60 dX2_cutBy_19 rfl rfl rfl
theorem eX2_cutBy_20 {d : Nat} {a0 a1 a2 : Value} {b : Nat} {st : List Value} {hp : qzH} (h8 : st.length ≤ 8) (hb : qzArr 2 b hp.1 = true) : qzV (d + 1) 60 20 [a0, a1, a2] (.ref b :: st) hp = (qzC d 51 (.ref b :: []) hp).bind (fun r => qzV (d + 1) 60 23 [a0, a1, a2] (r.1.toList ++ st) r.2) := qv_callv (n := 0) mdc_60 dX2_cutBy_20 mdo_60 (by decide) qfc_2_44 ⟨rfl, by decide, rfl⟩ rfl ⟨rfl, rfl, by simp only [List.length_cons]; omega⟩ h8 hb
theorem eX2_cutBy_23 {d : Nat} {a1 a2 : Value} {x : Nat} {st : List Value} {hp : qzH} : qzV d 60 23 [.ref x, a1, a2] (st) hp = qzV d 60 24 [.ref x, a1, a2] (.ref x :: st) hp := qv_aload (i := 0) mdc_60 dX2_cutBy_23 rfl rfl rfl
theorem eX2_cutBy_24 {d : Nat} {a0 a1 a2 : Value} {a : Nat} {st : List Value} {hp : qzH} (ha : qzArr 2 a hp.1 = true) : qzV d 60 24 [a0, a1, a2] (.ref a :: st) hp = qzV d 60 27 [a0, a1, a2] (va_rf (hp.2.1 a 0) :: st) hp := qv_getR mdc_60 dX2_cutBy_24 mdo_60 qff_2_10 ⟨by decide, rfl⟩ rfl ha
theorem eX2_cutBy_27 {d : Nat} {a0 a1 : Value} {x : Int32} {st : List Value} {hp : qzH} : qzV d 60 27 [a0, a1, .int x] (st) hp = qzV d 60 28 [a0, a1, .int x] (.int x :: st) hp := qv_iload (i := 2) mdc_60 dX2_cutBy_27 rfl rfl rfl
theorem eX2_cutBy_28 {d : Nat} {a0 a1 a2 : Value} {w0 : Value} {b : Nat} {st : List Value} {hp : qzH} (h8 : st.length ≤ 8) (hb : qzArr 0 b hp.1 = true) : qzV (d + 1) 60 28 [a0, a1, a2] (w0 :: .ref b :: st) hp = (qzC d 8 (.ref b :: [w0]) hp).bind (fun r => qzV (d + 1) 60 31 [a0, a1, a2] (r.1.toList ++ st) r.2) := qv_callv (n := 1) mdc_60 dX2_cutBy_28 mdo_60 (by decide) qfc_2_51 ⟨rfl, by decide, rfl⟩ rfl ⟨rfl, rfl, by simp only [List.length_cons]; omega⟩ h8 hb
theorem eX2_cutBy_31 {d : Nat} {a0 a1 a2 : Value} {v : Int32} {hp : qzH} : qzV d 60 31 [a0, a1, a2] [.int v] hp = some (some (.int v), hp) := qv_iret mdc_60 dX2_cutBy_31 mdr_60 rfl
theorem dX2_choice_0 : decode cX2_choice 0 = .ok (.aload_n 0, 1) := by decide +kernel
theorem dX2_choice_1 : decode cX2_choice 1 = .ok (.getfield 37, 3) := by decide +kernel
theorem dX2_choice_4 : decode cX2_choice 4 = .ok (.aload_n 1, 1) := by decide +kernel
theorem dX2_choice_5 : decode cX2_choice 5 = .ok (.invokevirtual 224, 3) := by decide +kernel
theorem dX2_choice_8 : decode cX2_choice 8 = .ok (.aload_n 1, 1) := by decide +kernel
theorem dX2_choice_9 : decode cX2_choice 9 = .ok (.aload_n 1, 1) := by decide +kernel
theorem dX2_choice_10 : decode cX2_choice 10 = .ok (.invokevirtual 162, 3) := by decide +kernel
theorem dX2_choice_13 : decode cX2_choice 13 = .ok (.invokevirtual 136, 3) := by decide +kernel
theorem dX2_choice_16 : decode cX2_choice 16 = .ok (.istore_n 3, 1) := by decide +kernel
theorem dX2_choice_17 : decode cX2_choice 17 = .ok (.aload_n 1, 1) := by decide +kernel
theorem dX2_choice_18 : decode cX2_choice 18 = .ok (.iconst 1, 1) := by decide +kernel
theorem dX2_choice_19 : decode cX2_choice 19 = .ok (.aload_n 1, 1) := by decide +kernel
theorem dX2_choice_20 : decode cX2_choice 20 = .ok (.invokevirtual 162, 3) := by decide +kernel
theorem dX2_choice_23 : decode cX2_choice 23 = .ok (.isub, 1) := by decide +kernel
theorem dX2_choice_24 : decode cX2_choice 24 = .ok (.invokevirtual 136, 3) := by decide +kernel
theorem dX2_choice_27 : decode cX2_choice 27 = .ok (.istore 4, 2) := by decide +kernel
theorem dX2_choice_29 : decode cX2_choice 29 = .ok (.bipush (-2), 2) := by decide +kernel
theorem dX2_choice_31 : decode cX2_choice 31 = .ok (.istore 5, 2) := by decide +kernel
theorem dX2_choice_33 : decode cX2_choice 33 = .ok (.ldc 227, 2) := by decide +kernel
theorem dX2_choice_35 : decode cX2_choice 35 = .ok (.istore 6, 2) := by decide +kernel
theorem dX2_choice_37 : decode cX2_choice 37 = .ok (.aload_n 1, 1) := by decide +kernel
theorem dX2_choice_38 : decode cX2_choice 38 = .ok (.invokevirtual 221, 3) := by decide +kernel
theorem dX2_choice_41 : decode cX2_choice 41 = .ok (.istore 7, 2) := by decide +kernel
theorem dX2_choice_43 : decode cX2_choice 43 = .ok (.iconst 0, 1) := by decide +kernel
theorem dX2_choice_44 : decode cX2_choice 44 = .ok (.istore 8, 2) := by decide +kernel
theorem dX2_choice_46 : decode cX2_choice 46 = .ok (.iload 8, 2) := by decide +kernel
theorem dX2_choice_48 : decode cX2_choice 48 = .ok (.iconst 2, 1) := by decide +kernel
theorem dX2_choice_49 : decode cX2_choice 49 = .ok (.if_icmp .ge 94, 3) := by decide +kernel
theorem dX2_choice_52 : decode cX2_choice 52 = .ok (.iconst 1, 1) := by decide +kernel
theorem dX2_choice_53 : decode cX2_choice 53 = .ok (.istore 9, 2) := by decide +kernel
theorem dX2_choice_55 : decode cX2_choice 55 = .ok (.iload 9, 2) := by decide +kernel
theorem dX2_choice_57 : decode cX2_choice 57 = .ok (.iload 7, 2) := by decide +kernel
theorem dX2_choice_59 : decode cX2_choice 59 = .ok (.if_icmp .gt 78, 3) := by decide +kernel
theorem dX2_choice_62 : decode cX2_choice 62 = .ok (.iload 9, 2) := by decide +kernel
theorem dX2_choice_64 : decode cX2_choice 64 = .ok (.iload 8, 2) := by decide +kernel
theorem dX2_choice_66 : decode cX2_choice 66 = .ok (.ifCond .ne 7, 3) := by decide +kernel
theorem dX2_choice_69 : decode cX2_choice 69 = .ok (.iconst 1, 1) := by decide +kernel
theorem dX2_choice_70 : decode cX2_choice 70 = .ok (.goto 4, 3) := by decide +kernel
theorem dX2_choice_73 : decode cX2_choice 73 = .ok (.iconst 0, 1) := by decide +kernel
theorem dX2_choice_74 : decode cX2_choice 74 = .ok (.invokestatic 47, 3) := by decide +kernel
theorem dX2_choice_77 : decode cX2_choice 77 = .ok (.istore 10, 2) := by decide +kernel
theorem dX2_choice_79 : decode cX2_choice 79 = .ok (.iload_n 2, 1) := by decide +kernel
theorem dX2_choice_80 : decode cX2_choice 80 = .ok (.iconst 1, 1) := by decide +kernel
theorem dX2_choice_81 : decode cX2_choice 81 = .ok (.if_icmp .ne 12, 3) := by decide +kernel
theorem dX2_choice_84 : decode cX2_choice 84 = .ok (.aload_n 1, 1) := by decide +kernel
theorem dX2_choice_85 : decode cX2_choice 85 = .ok (.iload 10, 2) := by decide +kernel
theorem dX2_choice_87 : decode cX2_choice 87 = .ok (.invokevirtual 183, 3) := by decide +kernel
theorem dX2_choice_90 : decode cX2_choice 90 = .ok (.goto 24, 3) := by decide +kernel
theorem dX2_choice_93 : decode cX2_choice 93 = .ok (.aload_n 0, 1) := by decide +kernel
theorem dX2_choice_94 : decode cX2_choice 94 = .ok (.getfield 37, 3) := by decide +kernel
theorem dX2_choice_97 : decode cX2_choice 97 = .ok (.aload_n 1, 1) := by decide +kernel
theorem dX2_choice_98 : decode cX2_choice 98 = .ok (.getfield 156, 3) := by decide +kernel
theorem dX2_choice_101 : decode cX2_choice 101 = .ok (.aload_n 1, 1) := by decide +kernel
theorem dX2_choice_102 : decode cX2_choice 102 = .ok (.getfield 159, 3) := by decide +kernel
theorem dX2_choice_105 : decode cX2_choice 105 = .ok (.iload_n 3, 1) := by decide +kernel
theorem dX2_choice_106 : decode cX2_choice 106 = .ok (.iload 4, 2) := by decide +kernel
theorem dX2_choice_108 : decode cX2_choice 108 = .ok (.iload 10, 2) := by decide +kernel
theorem dX2_choice_110 : decode cX2_choice 110 = .ok (.iconst 0, 1) := by decide +kernel
theorem dX2_choice_111 : decode cX2_choice 111 = .ok (.invokestatic 228, 3) := by decide +kernel
theorem dX2_choice_114 : decode cX2_choice 114 = .ok (.istore 11, 2) := by decide +kernel
theorem dX2_choice_116 : decode cX2_choice 116 = .ok (.iload 11, 2) := by decide +kernel
theorem dX2_choice_118 : decode cX2_choice 118 = .ok (.iload 6, 2) := by decide +kernel
theorem dX2_choice_120 : decode cX2_choice 120 = .ok (.if_icmp .le 11, 3) := by decide +kernel
theorem dX2_choice_123 : decode cX2_choice 123 = .ok (.iload 11, 2) := by decide +kernel
theorem dX2_choice_125 : decode cX2_choice 125 = .ok (.istore 6, 2) := by decide +kernel
theorem dX2_choice_127 : decode cX2_choice 127 = .ok (.iload 10, 2) := by decide +kernel
theorem dX2_choice_129 : decode cX2_choice 129 = .ok (.istore 5, 2) := by decide +kernel
theorem dX2_choice_131 : decode cX2_choice 131 = .ok (.iinc 9 1, 3) := by decide +kernel
theorem dX2_choice_134 : decode cX2_choice 134 = .ok (.goto (-79), 3) := by decide +kernel
theorem dX2_choice_137 : decode cX2_choice 137 = .ok (.iinc 8 1, 3) := by decide +kernel
theorem dX2_choice_140 : decode cX2_choice 140 = .ok (.goto (-94), 3) := by decide +kernel
theorem dX2_choice_143 : decode cX2_choice 143 = .ok (.iload 5, 2) := by decide +kernel
theorem dX2_choice_145 : decode cX2_choice 145 = .ok (.ireturn, 1) := by decide +kernel
theorem eX2_choice_0 {d : Nat} {a1 a2 a3 a4 a5 a6 a7 a8 a9 a10 a11 : Value} {x : Nat} {st : List Value} {hp : qzH} : qzV d 61 0 [.ref x, a1, a2, a3, a4, a5, a6, a7, a8, a9, a10, a11] (st) hp = qzV d 61 1 [.ref x, a1, a2, a3, a4, a5, a6, a7, a8, a9, a10, a11] (.ref x :: st) hp := qv_aload (i := 0) mdc_61 dX2_choice_0 rfl rfl rfl
theorem eX2_choice_1 {d : Nat} {a0 a1 a2 a3 a4 a5 a6 a7 a8 a9 a10 a11 : Value} {a : Nat} {st : List Value} {hp : qzH} (ha : qzArr 2 a hp.1 = true) : qzV d 61 1 [a0, a1, a2, a3, a4, a5, a6, a7, a8, a9, a10, a11] (.ref a :: st) hp = qzV d 61 4 [a0, a1, a2, a3, a4, a5, a6, a7, a8, a9, a10, a11] (va_rf (hp.2.1 a 9) :: st) hp := qv_getR mdc_61 dX2_choice_1 mdo_61 qff_2_37 ⟨by decide, rfl⟩ rfl ha
theorem eX2_choice_4 {d : Nat} {a0 a2 a3 a4 a5 a6 a7 a8 a9 a10 a11 : Value} {x : Nat} {st : List Value} {hp : qzH} : qzV d 61 4 [a0, .ref x, a2, a3, a4, a5, a6, a7, a8, a9, a10, a11] (st) hp = qzV d 61 5 [a0, .ref x, a2, a3, a4, a5, a6, a7, a8, a9, a10, a11] (.ref x :: st) hp := qv_aload (i := 1) mdc_61 dX2_choice_4 rfl rfl rfl
theorem eX2_choice_5 {d : Nat} {a0 a1 a2 a3 a4 a5 a6 a7 a8 a9 a10 a11 : Value} {w0 : Value} {b : Nat} {st : List Value} {hp : qzH} (h8 : st.length ≤ 8) (hb : qzArr 1 b hp.1 = true) : qzV (d + 1) 61 5 [a0, a1, a2, a3, a4, a5, a6, a7, a8, a9, a10, a11] (w0 :: .ref b :: st) hp = (qzC d 19 (.ref b :: [w0]) hp).bind (fun r => qzV (d + 1) 61 8 [a0, a1, a2, a3, a4, a5, a6, a7, a8, a9, a10, a11] (r.1.toList ++ st) r.2) := qv_callv (n := 1) mdc_61 dX2_choice_5 mdo_61 (by decide) qfc_2_224 ⟨rfl, by decide, rfl⟩ rfl ⟨rfl, rfl, by simp only [List.length_cons]; omega⟩ h8 hb
theorem eX2_choice_8 {d : Nat} {a0 a2 a3 a4 a5 a6 a7 a8 a9 a10 a11 : Value} {x : Nat} {st : List Value} {hp : qzH} : qzV d 61 8 [a0, .ref x, a2, a3, a4, a5, a6, a7, a8, a9, a10, a11] (st) hp = qzV d 61 9 [a0, .ref x, a2, a3, a4, a5, a6, a7, a8, a9, a10, a11] (.ref x :: st) hp := qv_aload (i := 1) mdc_61 dX2_choice_8 rfl rfl rfl
theorem eX2_choice_9 {d : Nat} {a0 a2 a3 a4 a5 a6 a7 a8 a9 a10 a11 : Value} {x : Nat} {st : List Value} {hp : qzH} : qzV d 61 9 [a0, .ref x, a2, a3, a4, a5, a6, a7, a8, a9, a10, a11] (st) hp = qzV d 61 10 [a0, .ref x, a2, a3, a4, a5, a6, a7, a8, a9, a10, a11] (.ref x :: st) hp := qv_aload (i := 1) mdc_61 dX2_choice_9 rfl rfl rfl
theorem eX2_choice_10 {d : Nat} {a0 a1 a2 a3 a4 a5 a6 a7 a8 a9 a10 a11 : Value} {b : Nat} {st : List Value} {hp : qzH} (h8 : st.length ≤ 8) (hb : qzArr 0 b hp.1 = true) : qzV (d + 1) 61 10 [a0, a1, a2, a3, a4, a5, a6, a7, a8, a9, a10, a11] (.ref b :: st) hp = (qzC d 5 (.ref b :: []) hp).bind (fun r => qzV (d + 1) 61 13 [a0, a1, a2, a3, a4, a5, a6, a7, a8, a9, a10, a11] (r.1.toList ++ st) r.2) := qv_callv (n := 0) mdc_61 dX2_choice_10 mdo_61 (by decide) qfc_2_162 ⟨rfl, by decide, rfl⟩ rfl ⟨rfl, rfl, by simp only [List.length_cons]; omega⟩ h8 hb
theorem eX2_choice_13 {d : Nat} {a0 a1 a2 a3 a4 a5 a6 a7 a8 a9 a10 a11 : Value} {w0 : Value} {b : Nat} {st : List Value} {hp : qzH} (h8 : st.length ≤ 8) (hb : qzArr 0 b hp.1 = true) : qzV (d + 1) 61 13 [a0, a1, a2, a3, a4, a5, a6, a7, a8, a9, a10, a11] (w0 :: .ref b :: st) hp = (qzC d 11 (.ref b :: [w0]) hp).bind (fun r => qzV (d + 1) 61 16 [a0, a1, a2, a3, a4, a5, a6, a7, a8, a9, a10, a11] (r.1.toList ++ st) r.2) := qv_callv (n := 1) mdc_61 dX2_choice_13 mdo_61 (by decide) qfc_2_136 ⟨rfl, by decide, rfl⟩ rfl ⟨rfl, rfl, by simp only [List.length_cons]; omega⟩ h8 hb
theorem eX2_choice_16 {d : Nat} {a0 a1 a2 a3 a4 a5 a6 a7 a8 a9 a10 a11 : Value} {x : Int32} {st : List Value} {hp : qzH} : qzV d 61 16 [a0, a1, a2, a3, a4, a5, a6, a7, a8, a9, a10, a11] (.int x :: st) hp = qzV d 61 17 [a0, a1, a2, .int x, a4, a5, a6, a7, a8, a9, a10, a11] (st) hp := qv_istore (i := 3) mdc_61 dX2_choice_16 rfl (Nat.le_of_ble_eq_true rfl) rfl rfl
theorem eX2_choice_17 {d : Nat} {a0 a2 a3 a4 a5 a6 a7 a8 a9 a10 a11 : Value} {x : Nat} {st : List Value} {hp : qzH} : qzV d 61 17 [a0, .ref x, a2, a3, a4, a5, a6, a7, a8, a9, a10, a11] (st) hp = qzV d 61 18 [a0, .ref x, a2, a3, a4, a5, a6, a7, a8, a9, a10, a11] (.ref x :: st) hp := qv_aload (i := 1) mdc_61 dX2_choice_17 rfl rfl rfl
theorem eX2_choice_18 {d : Nat} {a0 a1 a2 a3 a4 a5 a6 a7 a8 a9 a10 a11 : Value} {st : List Value} {hp : qzH} : qzV d 61 18 [a0, a1, a2, a3, a4, a5, a6, a7, a8, a9, a10, a11] (st) hp = qzV d 61 19 [a0, a1, a2, a3, a4, a5, a6, a7, a8, a9, a10, a11] (.int 1 :: st) hp := qv_iconst mdc_61 dX2_choice_18 il_1 rfl
theorem eX2_choice_19 {d : Nat} {a0 a2 a3 a4 a5 a6 a7 a8 a9 a10 a11 : Value} {x : Nat} {st : List Value} {hp : qzH} : qzV d 61 19 [a0, .ref x, a2, a3, a4, a5, a6, a7, a8, a9, a10, a11] (st) hp = qzV d 61 20 [a0, .ref x, a2, a3, a4, a5, a6, a7, a8, a9, a10, a11] (.ref x :: st) hp := qv_aload (i := 1) mdc_61 dX2_choice_19 rfl rfl rfl
theorem eX2_choice_20 {d : Nat} {a0 a1 a2 a3 a4 a5 a6 a7 a8 a9 a10 a11 : Value} {b : Nat} {st : List Value} {hp : qzH} (h8 : st.length ≤ 8) (hb : qzArr 0 b hp.1 = true) : qzV (d + 1) 61 20 [a0, a1, a2, a3, a4, a5, a6, a7, a8, a9, a10, a11] (.ref b :: st) hp = (qzC d 5 (.ref b :: []) hp).bind (fun r => qzV (d + 1) 61 23 [a0, a1, a2, a3, a4, a5, a6, a7, a8, a9, a10, a11] (r.1.toList ++ st) r.2) := qv_callv (n := 0) mdc_61 dX2_choice_20 mdo_61 (by decide) qfc_2_162 ⟨rfl, by decide, rfl⟩ rfl ⟨rfl, rfl, by simp only [List.length_cons]; omega⟩ h8 hb
theorem eX2_choice_23 {d : Nat} {a0 a1 a2 a3 a4 a5 a6 a7 a8 a9 a10 a11 : Value} {x y : Int32} {st : List Value} {hp : qzH} : qzV d 61 23 [a0, a1, a2, a3, a4, a5, a6, a7, a8, a9, a10, a11] (.int y :: .int x :: st) hp = qzV d 61 24 [a0, a1, a2, a3, a4, a5, a6, a7, a8, a9, a10, a11] (.int (x - y) :: st) hp := qv_bin (f := fun x y => x - y) mdc_61 dX2_choice_23 rfl rfl
theorem eX2_choice_24 {d : Nat} {a0 a1 a2 a3 a4 a5 a6 a7 a8 a9 a10 a11 : Value} {w0 : Value} {b : Nat} {st : List Value} {hp : qzH} (h8 : st.length ≤ 8) (hb : qzArr 0 b hp.1 = true) : qzV (d + 1) 61 24 [a0, a1, a2, a3, a4, a5, a6, a7, a8, a9, a10, a11] (w0 :: .ref b :: st) hp = (qzC d 11 (.ref b :: [w0]) hp).bind (fun r => qzV (d + 1) 61 27 [a0, a1, a2, a3, a4, a5, a6, a7, a8, a9, a10, a11] (r.1.toList ++ st) r.2) := qv_callv (n := 1) mdc_61 dX2_choice_24 mdo_61 (by decide) qfc_2_136 ⟨rfl, by decide, rfl⟩ rfl ⟨rfl, rfl, by simp only [List.length_cons]; omega⟩ h8 hb
theorem eX2_choice_27 {d : Nat} {a0 a1 a2 a3 a4 a5 a6 a7 a8 a9 a10 a11 : Value} {x : Int32} {st : List Value} {hp : qzH} : qzV d 61 27 [a0, a1, a2, a3, a4, a5, a6, a7, a8, a9, a10, a11] (.int x :: st) hp = qzV d 61 29 [a0, a1, a2, a3, .int x, a5, a6, a7, a8, a9, a10, a11] (st) hp := qv_istore (i := 4) mdc_61 dX2_choice_27 rfl (Nat.le_of_ble_eq_true rfl) rfl rfl
theorem eX2_choice_29 {d : Nat} {a0 a1 a2 a3 a4 a5 a6 a7 a8 a9 a10 a11 : Value} {st : List Value} {hp : qzH} : qzV d 61 29 [a0, a1, a2, a3, a4, a5, a6, a7, a8, a9, a10, a11] (st) hp = qzV d 61 31 [a0, a1, a2, a3, a4, a5, a6, a7, a8, a9, a10, a11] (.int (-2) :: st) hp := qv_bipush mdc_61 dX2_choice_29 ib_m2 rfl
theorem eX2_choice_31 {d : Nat} {a0 a1 a2 a3 a4 a5 a6 a7 a8 a9 a10 a11 : Value} {x : Int32} {st : List Value} {hp : qzH} : qzV d 61 31 [a0, a1, a2, a3, a4, a5, a6, a7, a8, a9, a10, a11] (.int x :: st) hp = qzV d 61 33 [a0, a1, a2, a3, a4, .int x, a6, a7, a8, a9, a10, a11] (st) hp := qv_istore (i := 5) mdc_61 dX2_choice_31 rfl (Nat.le_of_ble_eq_true rfl) rfl rfl
theorem eX2_choice_33 {d : Nat} {a0 a1 a2 a3 a4 a5 a6 a7 a8 a9 a10 a11 : Value} {st : List Value} {hp : qzH} : qzV d 61 33 [a0, a1, a2, a3, a4, a5, a6, a7, a8, a9, a10, a11] (st) hp = qzV d 61 35 [a0, a1, a2, a3, a4, a5, a6, a7, a8, a9, a10, a11] (.int (-1000000) :: st) hp := qv_ldc mdc_61 dX2_choice_33 mdo_61 rfl rfl
theorem eX2_choice_35 {d : Nat} {a0 a1 a2 a3 a4 a5 a6 a7 a8 a9 a10 a11 : Value} {x : Int32} {st : List Value} {hp : qzH} : qzV d 61 35 [a0, a1, a2, a3, a4, a5, a6, a7, a8, a9, a10, a11] (.int x :: st) hp = qzV d 61 37 [a0, a1, a2, a3, a4, a5, .int x, a7, a8, a9, a10, a11] (st) hp := qv_istore (i := 6) mdc_61 dX2_choice_35 rfl (Nat.le_of_ble_eq_true rfl) rfl rfl
theorem eX2_choice_37 {d : Nat} {a0 a2 a3 a4 a5 a6 a7 a8 a9 a10 a11 : Value} {x : Nat} {st : List Value} {hp : qzH} : qzV d 61 37 [a0, .ref x, a2, a3, a4, a5, a6, a7, a8, a9, a10, a11] (st) hp = qzV d 61 38 [a0, .ref x, a2, a3, a4, a5, a6, a7, a8, a9, a10, a11] (.ref x :: st) hp := qv_aload (i := 1) mdc_61 dX2_choice_37 rfl rfl rfl
theorem eX2_choice_38 {d : Nat} {a0 a1 a2 a3 a4 a5 a6 a7 a8 a9 a10 a11 : Value} {b : Nat} {st : List Value} {hp : qzH} (h8 : st.length ≤ 8) (hb : qzArr 0 b hp.1 = true) : qzV (d + 1) 61 38 [a0, a1, a2, a3, a4, a5, a6, a7, a8, a9, a10, a11] (.ref b :: st) hp = (qzC d 6 (.ref b :: []) hp).bind (fun r => qzV (d + 1) 61 41 [a0, a1, a2, a3, a4, a5, a6, a7, a8, a9, a10, a11] (r.1.toList ++ st) r.2) := qv_callv (n := 0) mdc_61 dX2_choice_38 mdo_61 (by decide) qfc_2_221 ⟨rfl, by decide, rfl⟩ rfl ⟨rfl, rfl, by simp only [List.length_cons]; omega⟩ h8 hb
theorem eX2_choice_41 {d : Nat} {a0 a1 a2 a3 a4 a5 a6 a7 a8 a9 a10 a11 : Value} {x : Int32} {st : List Value} {hp : qzH} : qzV d 61 41 [a0, a1, a2, a3, a4, a5, a6, a7, a8, a9, a10, a11] (.int x :: st) hp = qzV d 61 43 [a0, a1, a2, a3, a4, a5, a6, .int x, a8, a9, a10, a11] (st) hp := qv_istore (i := 7) mdc_61 dX2_choice_41 rfl (Nat.le_of_ble_eq_true rfl) rfl rfl
theorem eX2_choice_43 {d : Nat} {a0 a1 a2 a3 a4 a5 a6 a7 a8 a9 a10 a11 : Value} {st : List Value} {hp : qzH} : qzV d 61 43 [a0, a1, a2, a3, a4, a5, a6, a7, a8, a9, a10, a11] (st) hp = qzV d 61 44 [a0, a1, a2, a3, a4, a5, a6, a7, a8, a9, a10, a11] (.int 0 :: st) hp := qv_iconst mdc_61 dX2_choice_43 il_0 rfl
theorem eX2_choice_44 {d : Nat} {a0 a1 a2 a3 a4 a5 a6 a7 a8 a9 a10 a11 : Value} {x : Int32} {st : List Value} {hp : qzH} : qzV d 61 44 [a0, a1, a2, a3, a4, a5, a6, a7, a8, a9, a10, a11] (.int x :: st) hp = qzV d 61 46 [a0, a1, a2, a3, a4, a5, a6, a7, .int x, a9, a10, a11] (st) hp := qv_istore (i := 8) mdc_61 dX2_choice_44 rfl (Nat.le_of_ble_eq_true rfl) rfl rfl
theorem eX2_choice_46 {d : Nat} {a0 a1 a2 a3 a4 a5 a6 a7 a9 a10 a11 : Value} {x : Int32} {st : List Value} {hp : qzH} : qzV d 61 46 [a0, a1, a2, a3, a4, a5, a6, a7, .int x, a9, a10, a11] (st) hp = qzV d 61 48 [a0, a1, a2, a3, a4, a5, a6, a7, .int x, a9, a10, a11] (.int x :: st) hp := qv_iload (i := 8) mdc_61 dX2_choice_46 rfl rfl rfl
theorem eX2_choice_48 {d : Nat} {a0 a1 a2 a3 a4 a5 a6 a7 a8 a9 a10 a11 : Value} {st : List Value} {hp : qzH} : qzV d 61 48 [a0, a1, a2, a3, a4, a5, a6, a7, a8, a9, a10, a11] (st) hp = qzV d 61 49 [a0, a1, a2, a3, a4, a5, a6, a7, a8, a9, a10, a11] (.int 2 :: st) hp := qv_iconst mdc_61 dX2_choice_48 il_2 rfl
theorem eX2_choice_49 {d : Nat} {a0 a1 a2 a3 a4 a5 a6 a7 a8 a9 a10 a11 : Value} {x y : Int32} {st : List Value} {hp : qzH} : qzV d 61 49 [a0, a1, a2, a3, a4, a5, a6, a7, a8, a9, a10, a11] (.int y :: .int x :: st) hp = if y ≤ x then qzV d 61 143 [a0, a1, a2, a3, a4, a5, a6, a7, a8, a9, a10, a11] (st) hp else qzV d 61 52 [a0, a1, a2, a3, a4, a5, a6, a7, a8, a9, a10, a11] (st) hp := qv_if2 mdc_61 dX2_choice_49 rfl rfl rfl
theorem eX2_choice_52 {d : Nat} {a0 a1 a2 a3 a4 a5 a6 a7 a8 a9 a10 a11 : Value} {st : List Value} {hp : qzH} : qzV d 61 52 [a0, a1, a2, a3, a4, a5, a6, a7, a8, a9, a10, a11] (st) hp = qzV d 61 53 [a0, a1, a2, a3, a4, a5, a6, a7, a8, a9, a10, a11] (.int 1 :: st) hp := qv_iconst mdc_61 dX2_choice_52 il_1 rfl
theorem eX2_choice_53 {d : Nat} {a0 a1 a2 a3 a4 a5 a6 a7 a8 a9 a10 a11 : Value} {x : Int32} {st : List Value} {hp : qzH} : qzV d 61 53 [a0, a1, a2, a3, a4, a5, a6, a7, a8, a9, a10, a11] (.int x :: st) hp = qzV d 61 55 [a0, a1, a2, a3, a4, a5, a6, a7, a8, .int x, a10, a11] (st) hp := qv_istore (i := 9) mdc_61 dX2_choice_53 rfl (Nat.le_of_ble_eq_true rfl) rfl rfl
theorem eX2_choice_55 {d : Nat} {a0 a1 a2 a3 a4 a5 a6 a7 a8 a10 a11 : Value} {x : Int32} {st : List Value} {hp : qzH} : qzV d 61 55 [a0, a1, a2, a3, a4, a5, a6, a7, a8, .int x, a10, a11] (st) hp = qzV d 61 57 [a0, a1, a2, a3, a4, a5, a6, a7, a8, .int x, a10, a11] (.int x :: st) hp := qv_iload (i := 9) mdc_61 dX2_choice_55 rfl rfl rfl
theorem eX2_choice_57 {d : Nat} {a0 a1 a2 a3 a4 a5 a6 a8 a9 a10 a11 : Value} {x : Int32} {st : List Value} {hp : qzH} : qzV d 61 57 [a0, a1, a2, a3, a4, a5, a6, .int x, a8, a9, a10, a11] (st) hp = qzV d 61 59 [a0, a1, a2, a3, a4, a5, a6, .int x, a8, a9, a10, a11] (.int x :: st) hp := qv_iload (i := 7) mdc_61 dX2_choice_57 rfl rfl rfl
theorem eX2_choice_59 {d : Nat} {a0 a1 a2 a3 a4 a5 a6 a7 a8 a9 a10 a11 : Value} {x y : Int32} {st : List Value} {hp : qzH} : qzV d 61 59 [a0, a1, a2, a3, a4, a5, a6, a7, a8, a9, a10, a11] (.int y :: .int x :: st) hp = if y < x then qzV d 61 137 [a0, a1, a2, a3, a4, a5, a6, a7, a8, a9, a10, a11] (st) hp else qzV d 61 62 [a0, a1, a2, a3, a4, a5, a6, a7, a8, a9, a10, a11] (st) hp := qv_if2 mdc_61 dX2_choice_59 rfl rfl rfl
theorem eX2_choice_62 {d : Nat} {a0 a1 a2 a3 a4 a5 a6 a7 a8 a10 a11 : Value} {x : Int32} {st : List Value} {hp : qzH} : qzV d 61 62 [a0, a1, a2, a3, a4, a5, a6, a7, a8, .int x, a10, a11] (st) hp = qzV d 61 64 [a0, a1, a2, a3, a4, a5, a6, a7, a8, .int x, a10, a11] (.int x :: st) hp := qv_iload (i := 9) mdc_61 dX2_choice_62 rfl rfl rfl
theorem eX2_choice_64 {d : Nat} {a0 a1 a2 a3 a4 a5 a6 a7 a9 a10 a11 : Value} {x : Int32} {st : List Value} {hp : qzH} : qzV d 61 64 [a0, a1, a2, a3, a4, a5, a6, a7, .int x, a9, a10, a11] (st) hp = qzV d 61 66 [a0, a1, a2, a3, a4, a5, a6, a7, .int x, a9, a10, a11] (.int x :: st) hp := qv_iload (i := 8) mdc_61 dX2_choice_64 rfl rfl rfl
theorem eX2_choice_66 {d : Nat} {a0 a1 a2 a3 a4 a5 a6 a7 a8 a9 a10 a11 : Value} {x : Int32} {st : List Value} {hp : qzH} : qzV d 61 66 [a0, a1, a2, a3, a4, a5, a6, a7, a8, a9, a10, a11] (.int x :: st) hp = if ¬ x = 0 then qzV d 61 73 [a0, a1, a2, a3, a4, a5, a6, a7, a8, a9, a10, a11] (st) hp else qzV d 61 69 [a0, a1, a2, a3, a4, a5, a6, a7, a8, a9, a10, a11] (st) hp := qv_if1 mdc_61 dX2_choice_66 rfl rfl rfl
theorem eX2_choice_69 {d : Nat} {a0 a1 a2 a3 a4 a5 a6 a7 a8 a9 a10 a11 : Value} {st : List Value} {hp : qzH} : qzV d 61 69 [a0, a1, a2, a3, a4, a5, a6, a7, a8, a9, a10, a11] (st) hp = qzV d 61 70 [a0, a1, a2, a3, a4, a5, a6, a7, a8, a9, a10, a11] (.int 1 :: st) hp := qv_iconst mdc_61 dX2_choice_69 il_1 rfl
theorem eX2_choice_70 {d : Nat} {a0 a1 a2 a3 a4 a5 a6 a7 a8 a9 a10 a11 : Value} {st : List Value} {hp : qzH} : qzV d 61 70 [a0, a1, a2, a3, a4, a5, a6, a7, a8, a9, a10, a11] (st) hp = qzV d 61 74 [a0, a1, a2, a3, a4, a5, a6, a7, a8, a9, a10, a11] (st) hp := qv_goto mdc_61 dX2_choice_70 rfl
theorem eX2_choice_73 {d : Nat} {a0 a1 a2 a3 a4 a5 a6 a7 a8 a9 a10 a11 : Value} {st : List Value} {hp : qzH} : qzV d 61 73 [a0, a1, a2, a3, a4, a5, a6, a7, a8, a9, a10, a11] (st) hp = qzV d 61 74 [a0, a1, a2, a3, a4, a5, a6, a7, a8, a9, a10, a11] (.int 0 :: st) hp := qv_iconst mdc_61 dX2_choice_73 il_0 rfl
theorem eX2_choice_74 {d : Nat} {a0 a1 a2 a3 a4 a5 a6 a7 a8 a9 a10 a11 : Value} {w0 w1 : Value} {st : List Value} {hp : qzH} (h8 : st.length ≤ 8) : qzV (d + 1) 61 74 [a0, a1, a2, a3, a4, a5, a6, a7, a8, a9, a10, a11] (w1 :: w0 :: st) hp = (qzC d 53 [w0, w1] hp).bind (fun r => qzV (d + 1) 61 77 [a0, a1, a2, a3, a4, a5, a6, a7, a8, a9, a10, a11] (r.1.toList ++ st) r.2) := qv_calls (n := 2) mdc_61 dX2_choice_74 mdo_61 (by decide) qfc_2_47 ⟨rfl, by decide, rfl⟩ rfl ⟨rfl, rfl, by simp only [List.length_cons]; omega⟩ h8
theorem eX2_choice_77 {d : Nat} {a0 a1 a2 a3 a4 a5 a6 a7 a8 a9 a10 a11 : Value} {x : Int32} {st : List Value} {hp : qzH} : qzV d 61 77 [a0, a1, a2, a3, a4, a5, a6, a7, a8, a9, a10, a11] (.int x :: st) hp = qzV d 61 79 [a0, a1, a2, a3, a4, a5, a6, a7, a8, a9, .int x, a11] (st) hp := qv_istore (i := 10) mdc_61 dX2_choice_77 rfl (Nat.le_of_ble_eq_true rfl) rfl rfl
theorem eX2_choice_79 {d : Nat} {a0 a1 a3 a4 a5 a6 a7 a8 a9 a10 a11 : Value} {x : Int32} {st : List Value} {hp : qzH} : qzV d 61 79 [a0, a1, .int x, a3, a4, a5, a6, a7, a8, a9, a10, a11] (st) hp = qzV d 61 80 [a0, a1, .int x, a3, a4, a5, a6, a7, a8, a9, a10, a11] (.int x :: st) hp := qv_iload (i := 2) mdc_61 dX2_choice_79 rfl rfl rfl
theorem eX2_choice_80 {d : Nat} {a0 a1 a2 a3 a4 a5 a6 a7 a8 a9 a10 a11 : Value} {st : List Value} {hp : qzH} : qzV d 61 80 [a0, a1, a2, a3, a4, a5, a6, a7, a8, a9, a10, a11] (st) hp = qzV d 61 81 [a0, a1, a2, a3, a4, a5, a6, a7, a8, a9, a10, a11] (.int 1 :: st) hp := qv_iconst mdc_61 dX2_choice_80 il_1 rfl
theorem eX2_choice_81 {d : Nat} {a0 a1 a2 a3 a4 a5 a6 a7 a8 a9 a10 a11 : Value} {x y : Int32} {st : List Value} {hp : qzH} : qzV d 61 81 [a0, a1, a2, a3, a4, a5, a6, a7, a8, a9, a10, a11] (.int y :: .int x :: st) hp = if ¬ x = y then qzV d 61 93 [a0, a1, a2, a3, a4, a5, a6, a7, a8, a9, a10, a11] (st) hp else qzV d 61 84 [a0, a1, a2, a3, a4, a5, a6, a7, a8, a9, a10, a11] (st) hp := qv_if2 mdc_61 dX2_choice_81 rfl rfl rfl
theorem eX2_choice_84 {d : Nat} {a0 a2 a3 a4 a5 a6 a7 a8 a9 a10 a11 : Value} {x : Nat} {st : List Value} {hp : qzH} : qzV d 61 84 [a0, .ref x, a2, a3, a4, a5, a6, a7, a8, a9, a10, a11] (st) hp = qzV d 61 85 [a0, .ref x, a2, a3, a4, a5, a6, a7, a8, a9, a10, a11] (.ref x :: st) hp := qv_aload (i := 1) mdc_61 dX2_choice_84 rfl rfl rfl
theorem eX2_choice_85 {d : Nat} {a0 a1 a2 a3 a4 a5 a6 a7 a8 a9 a11 : Value} {x : Int32} {st : List Value} {hp : qzH} : qzV d 61 85 [a0, a1, a2, a3, a4, a5, a6, a7, a8, a9, .int x, a11] (st) hp = qzV d 61 87 [a0, a1, a2, a3, a4, a5, a6, a7, a8, a9, .int x, a11] (.int x :: st) hp := qv_iload (i := 10) mdc_61 dX2_choice_85 rfl rfl rfl
theorem eX2_choice_87 {d : Nat} {a0 a1 a2 a3 a4 a5 a6 a7 a8 a9 a10 a11 : Value} {w0 : Value} {b : Nat} {st : List Value} {hp : qzH} (h8 : st.length ≤ 8) (hb : qzArr 0 b hp.1 = true) : qzV (d + 1) 61 87 [a0, a1, a2, a3, a4, a5, a6, a7, a8, a9, a10, a11] (w0 :: .ref b :: st) hp = (qzC d 7 (.ref b :: [w0]) hp).bind (fun r => qzV (d + 1) 61 90 [a0, a1, a2, a3, a4, a5, a6, a7, a8, a9, a10, a11] (r.1.toList ++ st) r.2) := qv_callv (n := 1) mdc_61 dX2_choice_87 mdo_61 (by decide) qfc_2_183 ⟨rfl, by decide, rfl⟩ rfl ⟨rfl, rfl, by simp only [List.length_cons]; omega⟩ h8 hb
theorem eX2_choice_90 {d : Nat} {a0 a1 a2 a3 a4 a5 a6 a7 a8 a9 a10 a11 : Value} {st : List Value} {hp : qzH} : qzV d 61 90 [a0, a1, a2, a3, a4, a5, a6, a7, a8, a9, a10, a11] (st) hp = qzV d 61 114 [a0, a1, a2, a3, a4, a5, a6, a7, a8, a9, a10, a11] (st) hp := qv_goto mdc_61 dX2_choice_90 rfl
theorem eX2_choice_93 {d : Nat} {a1 a2 a3 a4 a5 a6 a7 a8 a9 a10 a11 : Value} {x : Nat} {st : List Value} {hp : qzH} : qzV d 61 93 [.ref x, a1, a2, a3, a4, a5, a6, a7, a8, a9, a10, a11] (st) hp = qzV d 61 94 [.ref x, a1, a2, a3, a4, a5, a6, a7, a8, a9, a10, a11] (.ref x :: st) hp := qv_aload (i := 0) mdc_61 dX2_choice_93 rfl rfl rfl
theorem eX2_choice_94 {d : Nat} {a0 a1 a2 a3 a4 a5 a6 a7 a8 a9 a10 a11 : Value} {a : Nat} {st : List Value} {hp : qzH} (ha : qzArr 2 a hp.1 = true) : qzV d 61 94 [a0, a1, a2, a3, a4, a5, a6, a7, a8, a9, a10, a11] (.ref a :: st) hp = qzV d 61 97 [a0, a1, a2, a3, a4, a5, a6, a7, a8, a9, a10, a11] (va_rf (hp.2.1 a 9) :: st) hp := qv_getR mdc_61 dX2_choice_94 mdo_61 qff_2_37 ⟨by decide, rfl⟩ rfl ha
theorem eX2_choice_97 {d : Nat} {a0 a2 a3 a4 a5 a6 a7 a8 a9 a10 a11 : Value} {x : Nat} {st : List Value} {hp : qzH} : qzV d 61 97 [a0, .ref x, a2, a3, a4, a5, a6, a7, a8, a9, a10, a11] (st) hp = qzV d 61 98 [a0, .ref x, a2, a3, a4, a5, a6, a7, a8, a9, a10, a11] (.ref x :: st) hp := qv_aload (i := 1) mdc_61 dX2_choice_97 rfl rfl rfl
theorem eX2_choice_98 {d : Nat} {a0 a1 a2 a3 a4 a5 a6 a7 a8 a9 a10 a11 : Value} {a : Nat} {st : List Value} {hp : qzH} (ha : qzArr 0 a hp.1 = true) : qzV d 61 98 [a0, a1, a2, a3, a4, a5, a6, a7, a8, a9, a10, a11] (.ref a :: st) hp = qzV d 61 101 [a0, a1, a2, a3, a4, a5, a6, a7, a8, a9, a10, a11] (.int (hp.2.2 a 7) :: st) hp := qv_getI mdc_61 dX2_choice_98 mdo_61 qff_2_156 ⟨by decide, rfl⟩ rfl ha
theorem eX2_choice_101 {d : Nat} {a0 a2 a3 a4 a5 a6 a7 a8 a9 a10 a11 : Value} {x : Nat} {st : List Value} {hp : qzH} : qzV d 61 101 [a0, .ref x, a2, a3, a4, a5, a6, a7, a8, a9, a10, a11] (st) hp = qzV d 61 102 [a0, .ref x, a2, a3, a4, a5, a6, a7, a8, a9, a10, a11] (.ref x :: st) hp := qv_aload (i := 1) mdc_61 dX2_choice_101 rfl rfl rfl
theorem eX2_choice_102 {d : Nat} {a0 a1 a2 a3 a4 a5 a6 a7 a8 a9 a10 a11 : Value} {a : Nat} {st : List Value} {hp : qzH} (ha : qzArr 0 a hp.1 = true) : qzV d 61 102 [a0, a1, a2, a3, a4, a5, a6, a7, a8, a9, a10, a11] (.ref a :: st) hp = qzV d 61 105 [a0, a1, a2, a3, a4, a5, a6, a7, a8, a9, a10, a11] (.int (hp.2.2 a 8) :: st) hp := qv_getI mdc_61 dX2_choice_102 mdo_61 qff_2_159 ⟨by decide, rfl⟩ rfl ha
theorem eX2_choice_105 {d : Nat} {a0 a1 a2 a4 a5 a6 a7 a8 a9 a10 a11 : Value} {x : Int32} {st : List Value} {hp : qzH} : qzV d 61 105 [a0, a1, a2, .int x, a4, a5, a6, a7, a8, a9, a10, a11] (st) hp = qzV d 61 106 [a0, a1, a2, .int x, a4, a5, a6, a7, a8, a9, a10, a11] (.int x :: st) hp := qv_iload (i := 3) mdc_61 dX2_choice_105 rfl rfl rfl
theorem eX2_choice_106 {d : Nat} {a0 a1 a2 a3 a5 a6 a7 a8 a9 a10 a11 : Value} {x : Int32} {st : List Value} {hp : qzH} : qzV d 61 106 [a0, a1, a2, a3, .int x, a5, a6, a7, a8, a9, a10, a11] (st) hp = qzV d 61 108 [a0, a1, a2, a3, .int x, a5, a6, a7, a8, a9, a10, a11] (.int x :: st) hp := qv_iload (i := 4) mdc_61 dX2_choice_106 rfl rfl rfl
theorem eX2_choice_108 {d : Nat} {a0 a1 a2 a3 a4 a5 a6 a7 a8 a9 a11 : Value} {x : Int32} {st : List Value} {hp : qzH} : qzV d 61 108 [a0, a1, a2, a3, a4, a5, a6, a7, a8, a9, .int x, a11] (st) hp = qzV d 61 110 [a0, a1, a2, a3, a4, a5, a6, a7, a8, a9, .int x, a11] (.int x :: st) hp := qv_iload (i := 10) mdc_61 dX2_choice_108 rfl rfl rfl
theorem eX2_choice_110 {d : Nat} {a0 a1 a2 a3 a4 a5 a6 a7 a8 a9 a10 a11 : Value} {st : List Value} {hp : qzH} : qzV d 61 110 [a0, a1, a2, a3, a4, a5, a6, a7, a8, a9, a10, a11] (st) hp = qzV d 61 111 [a0, a1, a2, a3, a4, a5, a6, a7, a8, a9, a10, a11] (.int 0 :: st) hp := qv_iconst mdc_61 dX2_choice_110 il_0 rfl
theorem eX2_choice_111 {d : Nat} {a0 a1 a2 a3 a4 a5 a6 a7 a8 a9 a10 a11 : Value} {w0 w1 w2 w3 w4 w5 w6 : Value} {st : List Value} {hp : qzH} (h8 : st.length ≤ 8) : qzV (d + 1) 61 111 [a0, a1, a2, a3, a4, a5, a6, a7, a8, a9, a10, a11] (w6 :: w5 :: w4 :: w3 :: w2 :: w1 :: w0 :: st) hp = (qzC d 68 [w0, w1, w2, w3, w4, w5, w6] hp).bind (fun r => qzV (d + 1) 61 114 [a0, a1, a2, a3, a4, a5, a6, a7, a8, a9, a10, a11] (r.1.toList ++ st) r.2) := qv_calls (n := 7) mdc_61 dX2_choice_111 mdo_61 (by decide) qfc_2_228 ⟨rfl, by decide, rfl⟩ rfl ⟨rfl, rfl, by simp only [List.length_cons]; omega⟩ h8
theorem eX2_choice_114 {d : Nat} {a0 a1 a2 a3 a4 a5 a6 a7 a8 a9 a10 a11 : Value} {x : Int32} {st : List Value} {hp : qzH} : qzV d 61 114 [a0, a1, a2, a3, a4, a5, a6, a7, a8, a9, a10, a11] (.int x :: st) hp = qzV d 61 116 [a0, a1, a2, a3, a4, a5, a6, a7, a8, a9, a10, .int x] (st) hp := qv_istore (i := 11) mdc_61 dX2_choice_114 rfl (Nat.le_of_ble_eq_true rfl) rfl rfl
theorem eX2_choice_116 {d : Nat} {a0 a1 a2 a3 a4 a5 a6 a7 a8 a9 a10 : Value} {x : Int32} {st : List Value} {hp : qzH} : qzV d 61 116 [a0, a1, a2, a3, a4, a5, a6, a7, a8, a9, a10, .int x] (st) hp = qzV d 61 118 [a0, a1, a2, a3, a4, a5, a6, a7, a8, a9, a10, .int x] (.int x :: st) hp := qv_iload (i := 11) mdc_61 dX2_choice_116 rfl rfl rfl
theorem eX2_choice_118 {d : Nat} {a0 a1 a2 a3 a4 a5 a7 a8 a9 a10 a11 : Value} {x : Int32} {st : List Value} {hp : qzH} : qzV d 61 118 [a0, a1, a2, a3, a4, a5, .int x, a7, a8, a9, a10, a11] (st) hp = qzV d 61 120 [a0, a1, a2, a3, a4, a5, .int x, a7, a8, a9, a10, a11] (.int x :: st) hp := qv_iload (i := 6) mdc_61 dX2_choice_118 rfl rfl rfl
theorem eX2_choice_120 {d : Nat} {a0 a1 a2 a3 a4 a5 a6 a7 a8 a9 a10 a11 : Value} {x y : Int32} {st : List Value} {hp : qzH} : qzV d 61 120 [a0, a1, a2, a3, a4, a5, a6, a7, a8, a9, a10, a11] (.int y :: .int x :: st) hp = if x ≤ y then qzV d 61 131 [a0, a1, a2, a3, a4, a5, a6, a7, a8, a9, a10, a11] (st) hp else qzV d 61 123 [a0, a1, a2, a3, a4, a5, a6, a7, a8, a9, a10, a11] (st) hp := qv_if2 mdc_61 dX2_choice_120 rfl rfl rfl
theorem eX2_choice_123 {d : Nat} {a0 a1 a2 a3 a4 a5 a6 a7 a8 a9 a10 : Value} {x : Int32} {st : List Value} {hp : qzH} : qzV d 61 123 [a0, a1, a2, a3, a4, a5, a6, a7, a8, a9, a10, .int x] (st) hp = qzV d 61 125 [a0, a1, a2, a3, a4, a5, a6, a7, a8, a9, a10, .int x] (.int x :: st) hp := qv_iload (i := 11) mdc_61 dX2_choice_123 rfl rfl rfl
theorem eX2_choice_125 {d : Nat} {a0 a1 a2 a3 a4 a5 a6 a7 a8 a9 a10 a11 : Value} {x : Int32} {st : List Value} {hp : qzH} : qzV d 61 125 [a0, a1, a2, a3, a4, a5, a6, a7, a8, a9, a10, a11] (.int x :: st) hp = qzV d 61 127 [a0, a1, a2, a3, a4, a5, .int x, a7, a8, a9, a10, a11] (st) hp := qv_istore (i := 6) mdc_61 dX2_choice_125 rfl (Nat.le_of_ble_eq_true rfl) rfl rfl
theorem eX2_choice_127 {d : Nat} {a0 a1 a2 a3 a4 a5 a6 a7 a8 a9 a11 : Value} {x : Int32} {st : List Value} {hp : qzH} : qzV d 61 127 [a0, a1, a2, a3, a4, a5, a6, a7, a8, a9, .int x, a11] (st) hp = qzV d 61 129 [a0, a1, a2, a3, a4, a5, a6, a7, a8, a9, .int x, a11] (.int x :: st) hp := qv_iload (i := 10) mdc_61 dX2_choice_127 rfl rfl rfl
theorem eX2_choice_129 {d : Nat} {a0 a1 a2 a3 a4 a5 a6 a7 a8 a9 a10 a11 : Value} {x : Int32} {st : List Value} {hp : qzH} : qzV d 61 129 [a0, a1, a2, a3, a4, a5, a6, a7, a8, a9, a10, a11] (.int x :: st) hp = qzV d 61 131 [a0, a1, a2, a3, a4, .int x, a6, a7, a8, a9, a10, a11] (st) hp := qv_istore (i := 5) mdc_61 dX2_choice_129 rfl (Nat.le_of_ble_eq_true rfl) rfl rfl
theorem eX2_choice_131 {d : Nat} {a0 a1 a2 a3 a4 a5 a6 a7 a8 a10 a11 : Value} {x : Int32} {st : List Value} {hp : qzH} : qzV d 61 131 [a0, a1, a2, a3, a4, a5, a6, a7, a8, .int x, a10, a11] (st) hp = qzV d 61 134 [a0, a1, a2, a3, a4, a5, a6, a7, a8, .int (x + 1), a10, a11] (st) hp := qv_iinc mdc_61 dX2_choice_131 rfl il_1 rfl rfl
theorem eX2_choice_134 {d : Nat} {a0 a1 a2 a3 a4 a5 a6 a7 a8 a9 a10 a11 : Value} {st : List Value} {hp : qzH} : qzV d 61 134 [a0, a1, a2, a3, a4, a5, a6, a7, a8, a9, a10, a11] (st) hp = qzV d 61 55 [a0, a1, a2, a3, a4, a5, a6, a7, a8, a9, a10, a11] (st) hp := qv_goto mdc_61 dX2_choice_134 rfl
theorem eX2_choice_137 {d : Nat} {a0 a1 a2 a3 a4 a5 a6 a7 a9 a10 a11 : Value} {x : Int32} {st : List Value} {hp : qzH} : qzV d 61 137 [a0, a1, a2, a3, a4, a5, a6, a7, .int x, a9, a10, a11] (st) hp = qzV d 61 140 [a0, a1, a2, a3, a4, a5, a6, a7, .int (x + 1), a9, a10, a11] (st) hp := qv_iinc mdc_61 dX2_choice_137 rfl il_1 rfl rfl
theorem eX2_choice_140 {d : Nat} {a0 a1 a2 a3 a4 a5 a6 a7 a8 a9 a10 a11 : Value} {st : List Value} {hp : qzH} : qzV d 61 140 [a0, a1, a2, a3, a4, a5, a6, a7, a8, a9, a10, a11] (st) hp = qzV d 61 46 [a0, a1, a2, a3, a4, a5, a6, a7, a8, a9, a10, a11] (st) hp := qv_goto mdc_61 dX2_choice_140 rfl
theorem eX2_choice_143 {d : Nat} {a0 a1 a2 a3 a4 a6 a7 a8 a9 a10 a11 : Value} {x : Int32} {st : List Value} {hp : qzH} : qzV d 61 143 [a0, a1, a2, a3, a4, .int x, a6, a7, a8, a9, a10, a11] (st) hp = qzV d 61 145 [a0, a1, a2, a3, a4, .int x, a6, a7, a8, a9, a10, a11] (.int x :: st) hp := qv_iload (i := 5) mdc_61 dX2_choice_143 rfl rfl rfl
theorem eX2_choice_145 {d : Nat} {a0 a1 a2 a3 a4 a5 a6 a7 a8 a9 a10 a11 : Value} {v : Int32} {hp : qzH} : qzV d 61 145 [a0, a1, a2, a3, a4, a5, a6, a7, a8, a9, a10, a11] [.int v] hp = some (some (.int v), hp) := qv_iret mdc_61 dX2_choice_145 mdr_61 rfl
theorem dX2_leadTold_0 : decode cX2_leadTold 0 = .ok (.aload_n 0, 1) := by decide +kernel
theorem dX2_leadTold_1 : decode cX2_leadTold 1 = .ok (.getfield 33, 3) := by decide +kernel
theorem dX2_leadTold_4 : decode cX2_leadTold 4 = .ok (.aload_n 1, 1) := by decide +kernel
theorem dX2_leadTold_5 : decode cX2_leadTold 5 = .ok (.invokevirtual 224, 3) := by decide +kernel
theorem dX2_leadTold_8 : decode cX2_leadTold 8 = .ok (.aload_n 1, 1) := by decide +kernel
theorem dX2_leadTold_9 : decode cX2_leadTold 9 = .ok (.aload_n 1, 1) := by decide +kernel
theorem dX2_leadTold_10 : decode cX2_leadTold 10 = .ok (.invokevirtual 162, 3) := by decide +kernel
theorem dX2_leadTold_13 : decode cX2_leadTold 13 = .ok (.invokevirtual 136, 3) := by decide +kernel
theorem dX2_leadTold_16 : decode cX2_leadTold 16 = .ok (.istore_n 2, 1) := by decide +kernel
theorem dX2_leadTold_17 : decode cX2_leadTold 17 = .ok (.aload_n 1, 1) := by decide +kernel
theorem dX2_leadTold_18 : decode cX2_leadTold 18 = .ok (.iconst 1, 1) := by decide +kernel
theorem dX2_leadTold_19 : decode cX2_leadTold 19 = .ok (.aload_n 1, 1) := by decide +kernel
theorem dX2_leadTold_20 : decode cX2_leadTold 20 = .ok (.invokevirtual 162, 3) := by decide +kernel
theorem dX2_leadTold_23 : decode cX2_leadTold 23 = .ok (.isub, 1) := by decide +kernel
theorem dX2_leadTold_24 : decode cX2_leadTold 24 = .ok (.invokevirtual 136, 3) := by decide +kernel
theorem dX2_leadTold_27 : decode cX2_leadTold 27 = .ok (.istore_n 3, 1) := by decide +kernel
theorem dX2_leadTold_28 : decode cX2_leadTold 28 = .ok (.aload_n 0, 1) := by decide +kernel
theorem dX2_leadTold_29 : decode cX2_leadTold 29 = .ok (.getfield 33, 3) := by decide +kernel
theorem dX2_leadTold_32 : decode cX2_leadTold 32 = .ok (.aload_n 1, 1) := by decide +kernel
theorem dX2_leadTold_33 : decode cX2_leadTold 33 = .ok (.getfield 156, 3) := by decide +kernel
theorem dX2_leadTold_36 : decode cX2_leadTold 36 = .ok (.aload_n 1, 1) := by decide +kernel
theorem dX2_leadTold_37 : decode cX2_leadTold 37 = .ok (.getfield 159, 3) := by decide +kernel
theorem dX2_leadTold_40 : decode cX2_leadTold 40 = .ok (.iload_n 2, 1) := by decide +kernel
theorem dX2_leadTold_41 : decode cX2_leadTold 41 = .ok (.iload_n 3, 1) := by decide +kernel
theorem dX2_leadTold_42 : decode cX2_leadTold 42 = .ok (.invokevirtual 232, 3) := by decide +kernel
theorem dX2_leadTold_45 : decode cX2_leadTold 45 = .ok (.ldc 227, 2) := by decide +kernel
theorem dX2_leadTold_47 : decode cX2_leadTold 47 = .ok (.if_icmp .ne 18, 3) := by decide +kernel
theorem dX2_leadTold_50 : decode cX2_leadTold 50 = .ok (.aload_n 0, 1) := by decide +kernel
theorem dX2_leadTold_51 : decode cX2_leadTold 51 = .ok (.getfield 33, 3) := by decide +kernel
theorem dX2_leadTold_54 : decode cX2_leadTold 54 = .ok (.aload_n 1, 1) := by decide +kernel
theorem dX2_leadTold_55 : decode cX2_leadTold 55 = .ok (.getfield 156, 3) := by decide +kernel
theorem dX2_leadTold_58 : decode cX2_leadTold 58 = .ok (.aload_n 1, 1) := by decide +kernel
theorem dX2_leadTold_59 : decode cX2_leadTold 59 = .ok (.getfield 159, 3) := by decide +kernel
theorem dX2_leadTold_62 : decode cX2_leadTold 62 = .ok (.invokestatic 236, 3) := by decide +kernel
theorem dX2_leadTold_65 : decode cX2_leadTold 65 = .ok (.aload_n 0, 1) := by decide +kernel
theorem dX2_leadTold_66 : decode cX2_leadTold 66 = .ok (.getfield 33, 3) := by decide +kernel
theorem dX2_leadTold_69 : decode cX2_leadTold 69 = .ok (.aload_n 1, 1) := by decide +kernel
theorem dX2_leadTold_70 : decode cX2_leadTold 70 = .ok (.getfield 156, 3) := by decide +kernel
theorem dX2_leadTold_73 : decode cX2_leadTold 73 = .ok (.aload_n 1, 1) := by decide +kernel
theorem dX2_leadTold_74 : decode cX2_leadTold 74 = .ok (.getfield 159, 3) := by decide +kernel
theorem dX2_leadTold_77 : decode cX2_leadTold 77 = .ok (.iload_n 2, 1) := by decide +kernel
theorem dX2_leadTold_78 : decode cX2_leadTold 78 = .ok (.iload_n 3, 1) := by decide +kernel
theorem dX2_leadTold_79 : decode cX2_leadTold 79 = .ok (.invokevirtual 232, 3) := by decide +kernel
theorem dX2_leadTold_82 : decode cX2_leadTold 82 = .ok (.ireturn, 1) := by decide +kernel
theorem eX2_leadTold_0 {d : Nat} {a1 a2 a3 : Value} {x : Nat} {st : List Value} {hp : qzH} : qzV d 62 0 [.ref x, a1, a2, a3] (st) hp = qzV d 62 1 [.ref x, a1, a2, a3] (.ref x :: st) hp := qv_aload (i := 0) mdc_62 dX2_leadTold_0 rfl rfl rfl
theorem eX2_leadTold_1 {d : Nat} {a0 a1 a2 a3 : Value} {a : Nat} {st : List Value} {hp : qzH} (ha : qzArr 2 a hp.1 = true) : qzV d 62 1 [a0, a1, a2, a3] (.ref a :: st) hp = qzV d 62 4 [a0, a1, a2, a3] (va_rf (hp.2.1 a 8) :: st) hp := qv_getR mdc_62 dX2_leadTold_1 mdo_62 qff_2_33 ⟨by decide, rfl⟩ rfl ha
theorem eX2_leadTold_4 {d : Nat} {a0 a2 a3 : Value} {x : Nat} {st : List Value} {hp : qzH} : qzV d 62 4 [a0, .ref x, a2, a3] (st) hp = qzV d 62 5 [a0, .ref x, a2, a3] (.ref x :: st) hp := qv_aload (i := 1) mdc_62 dX2_leadTold_4 rfl rfl rfl
theorem eX2_leadTold_5 {d : Nat} {a0 a1 a2 a3 : Value} {w0 : Value} {b : Nat} {st : List Value} {hp : qzH} (h8 : st.length ≤ 8) (hb : qzArr 1 b hp.1 = true) : qzV (d + 1) 62 5 [a0, a1, a2, a3] (w0 :: .ref b :: st) hp = (qzC d 19 (.ref b :: [w0]) hp).bind (fun r => qzV (d + 1) 62 8 [a0, a1, a2, a3] (r.1.toList ++ st) r.2) := qv_callv (n := 1) mdc_62 dX2_leadTold_5 mdo_62 (by decide) qfc_2_224 ⟨rfl, by decide, rfl⟩ rfl ⟨rfl, rfl, by simp only [List.length_cons]; omega⟩ h8 hb
theorem eX2_leadTold_8 {d : Nat} {a0 a2 a3 : Value} {x : Nat} {st : List Value} {hp : qzH} : qzV d 62 8 [a0, .ref x, a2, a3] (st) hp = qzV d 62 9 [a0, .ref x, a2, a3] (.ref x :: st) hp := qv_aload (i := 1) mdc_62 dX2_leadTold_8 rfl rfl rfl
theorem eX2_leadTold_9 {d : Nat} {a0 a2 a3 : Value} {x : Nat} {st : List Value} {hp : qzH} : qzV d 62 9 [a0, .ref x, a2, a3] (st) hp = qzV d 62 10 [a0, .ref x, a2, a3] (.ref x :: st) hp := qv_aload (i := 1) mdc_62 dX2_leadTold_9 rfl rfl rfl
theorem eX2_leadTold_10 {d : Nat} {a0 a1 a2 a3 : Value} {b : Nat} {st : List Value} {hp : qzH} (h8 : st.length ≤ 8) (hb : qzArr 0 b hp.1 = true) : qzV (d + 1) 62 10 [a0, a1, a2, a3] (.ref b :: st) hp = (qzC d 5 (.ref b :: []) hp).bind (fun r => qzV (d + 1) 62 13 [a0, a1, a2, a3] (r.1.toList ++ st) r.2) := qv_callv (n := 0) mdc_62 dX2_leadTold_10 mdo_62 (by decide) qfc_2_162 ⟨rfl, by decide, rfl⟩ rfl ⟨rfl, rfl, by simp only [List.length_cons]; omega⟩ h8 hb
theorem eX2_leadTold_13 {d : Nat} {a0 a1 a2 a3 : Value} {w0 : Value} {b : Nat} {st : List Value} {hp : qzH} (h8 : st.length ≤ 8) (hb : qzArr 0 b hp.1 = true) : qzV (d + 1) 62 13 [a0, a1, a2, a3] (w0 :: .ref b :: st) hp = (qzC d 11 (.ref b :: [w0]) hp).bind (fun r => qzV (d + 1) 62 16 [a0, a1, a2, a3] (r.1.toList ++ st) r.2) := qv_callv (n := 1) mdc_62 dX2_leadTold_13 mdo_62 (by decide) qfc_2_136 ⟨rfl, by decide, rfl⟩ rfl ⟨rfl, rfl, by simp only [List.length_cons]; omega⟩ h8 hb
theorem eX2_leadTold_16 {d : Nat} {a0 a1 a2 a3 : Value} {x : Int32} {st : List Value} {hp : qzH} : qzV d 62 16 [a0, a1, a2, a3] (.int x :: st) hp = qzV d 62 17 [a0, a1, .int x, a3] (st) hp := qv_istore (i := 2) mdc_62 dX2_leadTold_16 rfl (Nat.le_of_ble_eq_true rfl) rfl rfl
theorem eX2_leadTold_17 {d : Nat} {a0 a2 a3 : Value} {x : Nat} {st : List Value} {hp : qzH} : qzV d 62 17 [a0, .ref x, a2, a3] (st) hp = qzV d 62 18 [a0, .ref x, a2, a3] (.ref x :: st) hp := qv_aload (i := 1) mdc_62 dX2_leadTold_17 rfl rfl rfl
theorem eX2_leadTold_18 {d : Nat} {a0 a1 a2 a3 : Value} {st : List Value} {hp : qzH} : qzV d 62 18 [a0, a1, a2, a3] (st) hp = qzV d 62 19 [a0, a1, a2, a3] (.int 1 :: st) hp := qv_iconst mdc_62 dX2_leadTold_18 il_1 rfl
theorem eX2_leadTold_19 {d : Nat} {a0 a2 a3 : Value} {x : Nat} {st : List Value} {hp : qzH} : qzV d 62 19 [a0, .ref x, a2, a3] (st) hp = qzV d 62 20 [a0, .ref x, a2, a3] (.ref x :: st) hp := qv_aload (i := 1) mdc_62 dX2_leadTold_19 rfl rfl rfl
theorem eX2_leadTold_20 {d : Nat} {a0 a1 a2 a3 : Value} {b : Nat} {st : List Value} {hp : qzH} (h8 : st.length ≤ 8) (hb : qzArr 0 b hp.1 = true) : qzV (d + 1) 62 20 [a0, a1, a2, a3] (.ref b :: st) hp = (qzC d 5 (.ref b :: []) hp).bind (fun r => qzV (d + 1) 62 23 [a0, a1, a2, a3] (r.1.toList ++ st) r.2) := qv_callv (n := 0) mdc_62 dX2_leadTold_20 mdo_62 (by decide) qfc_2_162 ⟨rfl, by decide, rfl⟩ rfl ⟨rfl, rfl, by simp only [List.length_cons]; omega⟩ h8 hb
theorem eX2_leadTold_23 {d : Nat} {a0 a1 a2 a3 : Value} {x y : Int32} {st : List Value} {hp : qzH} : qzV d 62 23 [a0, a1, a2, a3] (.int y :: .int x :: st) hp = qzV d 62 24 [a0, a1, a2, a3] (.int (x - y) :: st) hp := qv_bin (f := fun x y => x - y) mdc_62 dX2_leadTold_23 rfl rfl
theorem eX2_leadTold_24 {d : Nat} {a0 a1 a2 a3 : Value} {w0 : Value} {b : Nat} {st : List Value} {hp : qzH} (h8 : st.length ≤ 8) (hb : qzArr 0 b hp.1 = true) : qzV (d + 1) 62 24 [a0, a1, a2, a3] (w0 :: .ref b :: st) hp = (qzC d 11 (.ref b :: [w0]) hp).bind (fun r => qzV (d + 1) 62 27 [a0, a1, a2, a3] (r.1.toList ++ st) r.2) := qv_callv (n := 1) mdc_62 dX2_leadTold_24 mdo_62 (by decide) qfc_2_136 ⟨rfl, by decide, rfl⟩ rfl ⟨rfl, rfl, by simp only [List.length_cons]; omega⟩ h8 hb
theorem eX2_leadTold_27 {d : Nat} {a0 a1 a2 a3 : Value} {x : Int32} {st : List Value} {hp : qzH} : qzV d 62 27 [a0, a1, a2, a3] (.int x :: st) hp = qzV d 62 28 [a0, a1, a2, .int x] (st) hp := qv_istore (i := 3) mdc_62 dX2_leadTold_27 rfl (Nat.le_of_ble_eq_true rfl) rfl rfl
theorem eX2_leadTold_28 {d : Nat} {a1 a2 a3 : Value} {x : Nat} {st : List Value} {hp : qzH} : qzV d 62 28 [.ref x, a1, a2, a3] (st) hp = qzV d 62 29 [.ref x, a1, a2, a3] (.ref x :: st) hp := qv_aload (i := 0) mdc_62 dX2_leadTold_28 rfl rfl rfl
theorem eX2_leadTold_29 {d : Nat} {a0 a1 a2 a3 : Value} {a : Nat} {st : List Value} {hp : qzH} (ha : qzArr 2 a hp.1 = true) : qzV d 62 29 [a0, a1, a2, a3] (.ref a :: st) hp = qzV d 62 32 [a0, a1, a2, a3] (va_rf (hp.2.1 a 8) :: st) hp := qv_getR mdc_62 dX2_leadTold_29 mdo_62 qff_2_33 ⟨by decide, rfl⟩ rfl ha
theorem eX2_leadTold_32 {d : Nat} {a0 a2 a3 : Value} {x : Nat} {st : List Value} {hp : qzH} : qzV d 62 32 [a0, .ref x, a2, a3] (st) hp = qzV d 62 33 [a0, .ref x, a2, a3] (.ref x :: st) hp := qv_aload (i := 1) mdc_62 dX2_leadTold_32 rfl rfl rfl
theorem eX2_leadTold_33 {d : Nat} {a0 a1 a2 a3 : Value} {a : Nat} {st : List Value} {hp : qzH} (ha : qzArr 0 a hp.1 = true) : qzV d 62 33 [a0, a1, a2, a3] (.ref a :: st) hp = qzV d 62 36 [a0, a1, a2, a3] (.int (hp.2.2 a 7) :: st) hp := qv_getI mdc_62 dX2_leadTold_33 mdo_62 qff_2_156 ⟨by decide, rfl⟩ rfl ha
theorem eX2_leadTold_36 {d : Nat} {a0 a2 a3 : Value} {x : Nat} {st : List Value} {hp : qzH} : qzV d 62 36 [a0, .ref x, a2, a3] (st) hp = qzV d 62 37 [a0, .ref x, a2, a3] (.ref x :: st) hp := qv_aload (i := 1) mdc_62 dX2_leadTold_36 rfl rfl rfl
theorem eX2_leadTold_37 {d : Nat} {a0 a1 a2 a3 : Value} {a : Nat} {st : List Value} {hp : qzH} (ha : qzArr 0 a hp.1 = true) : qzV d 62 37 [a0, a1, a2, a3] (.ref a :: st) hp = qzV d 62 40 [a0, a1, a2, a3] (.int (hp.2.2 a 8) :: st) hp := qv_getI mdc_62 dX2_leadTold_37 mdo_62 qff_2_159 ⟨by decide, rfl⟩ rfl ha
theorem eX2_leadTold_40 {d : Nat} {a0 a1 a3 : Value} {x : Int32} {st : List Value} {hp : qzH} : qzV d 62 40 [a0, a1, .int x, a3] (st) hp = qzV d 62 41 [a0, a1, .int x, a3] (.int x :: st) hp := qv_iload (i := 2) mdc_62 dX2_leadTold_40 rfl rfl rfl
theorem eX2_leadTold_41 {d : Nat} {a0 a1 a2 : Value} {x : Int32} {st : List Value} {hp : qzH} : qzV d 62 41 [a0, a1, a2, .int x] (st) hp = qzV d 62 42 [a0, a1, a2, .int x] (.int x :: st) hp := qv_iload (i := 3) mdc_62 dX2_leadTold_41 rfl rfl rfl
theorem eX2_leadTold_42 {d : Nat} {a0 a1 a2 a3 : Value} {w0 w1 w2 w3 : Value} {b : Nat} {st : List Value} {hp : qzH} (h8 : st.length ≤ 8) (hb : qzArr 1 b hp.1 = true) : qzV (d + 1) 62 42 [a0, a1, a2, a3] (w3 :: w2 :: w1 :: w0 :: .ref b :: st) hp = (qzC d 21 (.ref b :: [w0, w1, w2, w3]) hp).bind (fun r => qzV (d + 1) 62 45 [a0, a1, a2, a3] (r.1.toList ++ st) r.2) := qv_callv (n := 4) mdc_62 dX2_leadTold_42 mdo_62 (by decide) qfc_2_232 ⟨rfl, by decide, rfl⟩ rfl ⟨rfl, rfl, by simp only [List.length_cons]; omega⟩ h8 hb
theorem eX2_leadTold_45 {d : Nat} {a0 a1 a2 a3 : Value} {st : List Value} {hp : qzH} : qzV d 62 45 [a0, a1, a2, a3] (st) hp = qzV d 62 47 [a0, a1, a2, a3] (.int (-1000000) :: st) hp := qv_ldc mdc_62 dX2_leadTold_45 mdo_62 rfl rfl
theorem eX2_leadTold_47 {d : Nat} {a0 a1 a2 a3 : Value} {x y : Int32} {st : List Value} {hp : qzH} : qzV d 62 47 [a0, a1, a2, a3] (.int y :: .int x :: st) hp = if ¬ x = y then qzV d 62 65 [a0, a1, a2, a3] (st) hp else qzV d 62 50 [a0, a1, a2, a3] (st) hp := qv_if2 mdc_62 dX2_leadTold_47 rfl rfl rfl
theorem eX2_leadTold_50 {d : Nat} {a1 a2 a3 : Value} {x : Nat} {st : List Value} {hp : qzH} : qzV d 62 50 [.ref x, a1, a2, a3] (st) hp = qzV d 62 51 [.ref x, a1, a2, a3] (.ref x :: st) hp := qv_aload (i := 0) mdc_62 dX2_leadTold_50 rfl rfl rfl
theorem eX2_leadTold_51 {d : Nat} {a0 a1 a2 a3 : Value} {a : Nat} {st : List Value} {hp : qzH} (ha : qzArr 2 a hp.1 = true) : qzV d 62 51 [a0, a1, a2, a3] (.ref a :: st) hp = qzV d 62 54 [a0, a1, a2, a3] (va_rf (hp.2.1 a 8) :: st) hp := qv_getR mdc_62 dX2_leadTold_51 mdo_62 qff_2_33 ⟨by decide, rfl⟩ rfl ha
theorem eX2_leadTold_54 {d : Nat} {a0 a2 a3 : Value} {x : Nat} {st : List Value} {hp : qzH} : qzV d 62 54 [a0, .ref x, a2, a3] (st) hp = qzV d 62 55 [a0, .ref x, a2, a3] (.ref x :: st) hp := qv_aload (i := 1) mdc_62 dX2_leadTold_54 rfl rfl rfl
theorem eX2_leadTold_55 {d : Nat} {a0 a1 a2 a3 : Value} {a : Nat} {st : List Value} {hp : qzH} (ha : qzArr 0 a hp.1 = true) : qzV d 62 55 [a0, a1, a2, a3] (.ref a :: st) hp = qzV d 62 58 [a0, a1, a2, a3] (.int (hp.2.2 a 7) :: st) hp := qv_getI mdc_62 dX2_leadTold_55 mdo_62 qff_2_156 ⟨by decide, rfl⟩ rfl ha
theorem eX2_leadTold_58 {d : Nat} {a0 a2 a3 : Value} {x : Nat} {st : List Value} {hp : qzH} : qzV d 62 58 [a0, .ref x, a2, a3] (st) hp = qzV d 62 59 [a0, .ref x, a2, a3] (.ref x :: st) hp := qv_aload (i := 1) mdc_62 dX2_leadTold_58 rfl rfl rfl
theorem eX2_leadTold_59 {d : Nat} {a0 a1 a2 a3 : Value} {a : Nat} {st : List Value} {hp : qzH} (ha : qzArr 0 a hp.1 = true) : qzV d 62 59 [a0, a1, a2, a3] (.ref a :: st) hp = qzV d 62 62 [a0, a1, a2, a3] (.int (hp.2.2 a 8) :: st) hp := qv_getI mdc_62 dX2_leadTold_59 mdo_62 qff_2_159 ⟨by decide, rfl⟩ rfl ha
theorem eX2_leadTold_62 {d : Nat} {a0 a1 a2 a3 : Value} {w0 w1 w2 : Value} {st : List Value} {hp : qzH} (h8 : st.length ≤ 8) : qzV (d + 1) 62 62 [a0, a1, a2, a3] (w2 :: w1 :: w0 :: st) hp = (qzC d 63 [w0, w1, w2] hp).bind (fun r => qzV (d + 1) 62 65 [a0, a1, a2, a3] (r.1.toList ++ st) r.2) := qv_calls (n := 3) mdc_62 dX2_leadTold_62 mdo_62 (by decide) qfc_2_236 ⟨rfl, by decide, rfl⟩ rfl ⟨rfl, rfl, by simp only [List.length_cons]; omega⟩ h8
theorem eX2_leadTold_65 {d : Nat} {a1 a2 a3 : Value} {x : Nat} {st : List Value} {hp : qzH} : qzV d 62 65 [.ref x, a1, a2, a3] (st) hp = qzV d 62 66 [.ref x, a1, a2, a3] (.ref x :: st) hp := qv_aload (i := 0) mdc_62 dX2_leadTold_65 rfl rfl rfl
theorem eX2_leadTold_66 {d : Nat} {a0 a1 a2 a3 : Value} {a : Nat} {st : List Value} {hp : qzH} (ha : qzArr 2 a hp.1 = true) : qzV d 62 66 [a0, a1, a2, a3] (.ref a :: st) hp = qzV d 62 69 [a0, a1, a2, a3] (va_rf (hp.2.1 a 8) :: st) hp := qv_getR mdc_62 dX2_leadTold_66 mdo_62 qff_2_33 ⟨by decide, rfl⟩ rfl ha
theorem eX2_leadTold_69 {d : Nat} {a0 a2 a3 : Value} {x : Nat} {st : List Value} {hp : qzH} : qzV d 62 69 [a0, .ref x, a2, a3] (st) hp = qzV d 62 70 [a0, .ref x, a2, a3] (.ref x :: st) hp := qv_aload (i := 1) mdc_62 dX2_leadTold_69 rfl rfl rfl
theorem eX2_leadTold_70 {d : Nat} {a0 a1 a2 a3 : Value} {a : Nat} {st : List Value} {hp : qzH} (ha : qzArr 0 a hp.1 = true) : qzV d 62 70 [a0, a1, a2, a3] (.ref a :: st) hp = qzV d 62 73 [a0, a1, a2, a3] (.int (hp.2.2 a 7) :: st) hp := qv_getI mdc_62 dX2_leadTold_70 mdo_62 qff_2_156 ⟨by decide, rfl⟩ rfl ha
theorem eX2_leadTold_73 {d : Nat} {a0 a2 a3 : Value} {x : Nat} {st : List Value} {hp : qzH} : qzV d 62 73 [a0, .ref x, a2, a3] (st) hp = qzV d 62 74 [a0, .ref x, a2, a3] (.ref x :: st) hp := qv_aload (i := 1) mdc_62 dX2_leadTold_73 rfl rfl rfl
theorem eX2_leadTold_74 {d : Nat} {a0 a1 a2 a3 : Value} {a : Nat} {st : List Value} {hp : qzH} (ha : qzArr 0 a hp.1 = true) : qzV d 62 74 [a0, a1, a2, a3] (.ref a :: st) hp = qzV d 62 77 [a0, a1, a2, a3] (.int (hp.2.2 a 8) :: st) hp := qv_getI mdc_62 dX2_leadTold_74 mdo_62 qff_2_159 ⟨by decide, rfl⟩ rfl ha
theorem eX2_leadTold_77 {d : Nat} {a0 a1 a3 : Value} {x : Int32} {st : List Value} {hp : qzH} : qzV d 62 77 [a0, a1, .int x, a3] (st) hp = qzV d 62 78 [a0, a1, .int x, a3] (.int x :: st) hp := qv_iload (i := 2) mdc_62 dX2_leadTold_77 rfl rfl rfl
theorem eX2_leadTold_78 {d : Nat} {a0 a1 a2 : Value} {x : Int32} {st : List Value} {hp : qzH} : qzV d 62 78 [a0, a1, a2, .int x] (st) hp = qzV d 62 79 [a0, a1, a2, .int x] (.int x :: st) hp := qv_iload (i := 3) mdc_62 dX2_leadTold_78 rfl rfl rfl
theorem eX2_leadTold_79 {d : Nat} {a0 a1 a2 a3 : Value} {w0 w1 w2 w3 : Value} {b : Nat} {st : List Value} {hp : qzH} (h8 : st.length ≤ 8) (hb : qzArr 1 b hp.1 = true) : qzV (d + 1) 62 79 [a0, a1, a2, a3] (w3 :: w2 :: w1 :: w0 :: .ref b :: st) hp = (qzC d 21 (.ref b :: [w0, w1, w2, w3]) hp).bind (fun r => qzV (d + 1) 62 82 [a0, a1, a2, a3] (r.1.toList ++ st) r.2) := qv_callv (n := 4) mdc_62 dX2_leadTold_79 mdo_62 (by decide) qfc_2_232 ⟨rfl, by decide, rfl⟩ rfl ⟨rfl, rfl, by simp only [List.length_cons]; omega⟩ h8 hb
theorem eX2_leadTold_82 {d : Nat} {a0 a1 a2 a3 : Value} {v : Int32} {hp : qzH} : qzV d 62 82 [a0, a1, a2, a3] [.int v] hp = some (some (.int v), hp) := qv_iret mdc_62 dX2_leadTold_82 mdr_62 rfl
theorem dX2_tellRows_0 : decode cX2_tellRows 0 = .ok (.aload_n 0, 1) := by decide +kernel
theorem dX2_tellRows_1 : decode cX2_tellRows 1 = .ok (.getfield 240, 3) := by decide +kernel
theorem dX2_tellRows_4 : decode cX2_tellRows 4 = .ok (.iconst 0, 1) := by decide +kernel
theorem dX2_tellRows_5 : decode cX2_tellRows 5 = .ok (.invokestatic 72, 3) := by decide +kernel
theorem dX2_tellRows_8 : decode cX2_tellRows 8 = .ok (.istore_n 3, 1) := by decide +kernel
theorem dX2_tellRows_9 : decode cX2_tellRows 9 = .ok (.iconst 1, 1) := by decide +kernel
theorem dX2_tellRows_10 : decode cX2_tellRows 10 = .ok (.istore 4, 2) := by decide +kernel
theorem dX2_tellRows_12 : decode cX2_tellRows 12 = .ok (.iload 4, 2) := by decide +kernel
theorem dX2_tellRows_14 : decode cX2_tellRows 14 = .ok (.iload_n 2, 1) := by decide +kernel
theorem dX2_tellRows_15 : decode cX2_tellRows 15 = .ok (.iload_n 1, 1) := by decide +kernel
theorem dX2_tellRows_16 : decode cX2_tellRows 16 = .ok (.isub, 1) := by decide +kernel
theorem dX2_tellRows_17 : decode cX2_tellRows 17 = .ok (.if_icmp .gt 83, 3) := by decide +kernel
theorem dX2_tellRows_20 : decode cX2_tellRows 20 = .ok (.iload_n 1, 1) := by decide +kernel
theorem dX2_tellRows_21 : decode cX2_tellRows 21 = .ok (.istore 5, 2) := by decide +kernel
theorem dX2_tellRows_23 : decode cX2_tellRows 23 = .ok (.iload 5, 2) := by decide +kernel
theorem dX2_tellRows_25 : decode cX2_tellRows 25 = .ok (.iload 4, 2) := by decide +kernel
theorem dX2_tellRows_27 : decode cX2_tellRows 27 = .ok (.iadd, 1) := by decide +kernel
theorem dX2_tellRows_28 : decode cX2_tellRows 28 = .ok (.iload_n 2, 1) := by decide +kernel
theorem dX2_tellRows_29 : decode cX2_tellRows 29 = .ok (.if_icmp .gt 65, 3) := by decide +kernel
theorem dX2_tellRows_32 : decode cX2_tellRows 32 = .ok (.iconst 1, 1) := by decide +kernel
theorem dX2_tellRows_33 : decode cX2_tellRows 33 = .ok (.istore 6, 2) := by decide +kernel
theorem dX2_tellRows_35 : decode cX2_tellRows 35 = .ok (.iload 6, 2) := by decide +kernel
theorem dX2_tellRows_37 : decode cX2_tellRows 37 = .ok (.iload_n 3, 1) := by decide +kernel
theorem dX2_tellRows_38 : decode cX2_tellRows 38 = .ok (.if_icmp .gt 50, 3) := by decide +kernel
theorem dX2_tellRows_41 : decode cX2_tellRows 41 = .ok (.iload 6, 2) := by decide +kernel
theorem dX2_tellRows_43 : decode cX2_tellRows 43 = .ok (.iload 4, 2) := by decide +kernel
theorem dX2_tellRows_45 : decode cX2_tellRows 45 = .ok (.if_icmp .gt 43, 3) := by decide +kernel
theorem dX2_tellRows_48 : decode cX2_tellRows 48 = .ok (.aload_n 0, 1) := by decide +kernel
theorem dX2_tellRows_49 : decode cX2_tellRows 49 = .ok (.iload 5, 2) := by decide +kernel
theorem dX2_tellRows_51 : decode cX2_tellRows 51 = .ok (.iload 5, 2) := by decide +kernel
theorem dX2_tellRows_53 : decode cX2_tellRows 53 = .ok (.iload 4, 2) := by decide +kernel
theorem dX2_tellRows_55 : decode cX2_tellRows 55 = .ok (.iadd, 1) := by decide +kernel
theorem dX2_tellRows_56 : decode cX2_tellRows 56 = .ok (.iload 6, 2) := by decide +kernel
theorem dX2_tellRows_58 : decode cX2_tellRows 58 = .ok (.iconst 1, 1) := by decide +kernel
theorem dX2_tellRows_59 : decode cX2_tellRows 59 = .ok (.invokestatic 47, 3) := by decide +kernel
theorem dX2_tellRows_62 : decode cX2_tellRows 62 = .ok (.invokestatic 241, 3) := by decide +kernel
theorem dX2_tellRows_65 : decode cX2_tellRows 65 = .ok (.aload_n 0, 1) := by decide +kernel
theorem dX2_tellRows_66 : decode cX2_tellRows 66 = .ok (.iload 5, 2) := by decide +kernel
theorem dX2_tellRows_68 : decode cX2_tellRows 68 = .ok (.iload 5, 2) := by decide +kernel
theorem dX2_tellRows_70 : decode cX2_tellRows 70 = .ok (.iload 4, 2) := by decide +kernel
theorem dX2_tellRows_72 : decode cX2_tellRows 72 = .ok (.iadd, 1) := by decide +kernel
theorem dX2_tellRows_73 : decode cX2_tellRows 73 = .ok (.iload 6, 2) := by decide +kernel
theorem dX2_tellRows_75 : decode cX2_tellRows 75 = .ok (.iconst 0, 1) := by decide +kernel
theorem dX2_tellRows_76 : decode cX2_tellRows 76 = .ok (.invokestatic 47, 3) := by decide +kernel
theorem dX2_tellRows_79 : decode cX2_tellRows 79 = .ok (.invokestatic 241, 3) := by decide +kernel
theorem dX2_tellRows_82 : decode cX2_tellRows 82 = .ok (.iinc 6 1, 3) := by decide +kernel
theorem dX2_tellRows_85 : decode cX2_tellRows 85 = .ok (.goto (-50), 3) := by decide +kernel
theorem dX2_tellRows_88 : decode cX2_tellRows 88 = .ok (.iinc 5 1, 3) := by decide +kernel
theorem dX2_tellRows_91 : decode cX2_tellRows 91 = .ok (.goto (-68), 3) := by decide +kernel
theorem dX2_tellRows_94 : decode cX2_tellRows 94 = .ok (.iinc 4 1, 3) := by decide +kernel
theorem dX2_tellRows_97 : decode cX2_tellRows 97 = .ok (.goto (-85), 3) := by decide +kernel
theorem dX2_tellRows_100 : decode cX2_tellRows 100 = .ok (.return_, 1) := by decide +kernel
theorem eX2_tellRows_0 {d : Nat} {a1 a2 a3 a4 a5 a6 : Value} {x : Nat} {st : List Value} {hp : qzH} : qzV d 63 0 [.ref x, a1, a2, a3, a4, a5, a6] (st) hp = qzV d 63 1 [.ref x, a1, a2, a3, a4, a5, a6] (.ref x :: st) hp := qv_aload (i := 0) mdc_63 dX2_tellRows_0 rfl rfl rfl
theorem eX2_tellRows_1 {d : Nat} {a0 a1 a2 a3 a4 a5 a6 : Value} {a : Nat} {st : List Value} {hp : qzH} (ha : qzArr 1 a hp.1 = true) : qzV d 63 1 [a0, a1, a2, a3, a4, a5, a6] (.ref a :: st) hp = qzV d 63 4 [a0, a1, a2, a3, a4, a5, a6] (va_rf (hp.2.1 a 1) :: st) hp := qv_getR mdc_63 dX2_tellRows_1 mdo_63 qff_2_240 ⟨by decide, rfl⟩ rfl ha
theorem eX2_tellRows_4 {d : Nat} {a0 a1 a2 a3 a4 a5 a6 : Value} {st : List Value} {hp : qzH} : qzV d 63 4 [a0, a1, a2, a3, a4, a5, a6] (st) hp = qzV d 63 5 [a0, a1, a2, a3, a4, a5, a6] (.int 0 :: st) hp := qv_iconst mdc_63 dX2_tellRows_4 il_0 rfl
theorem eX2_tellRows_5 {d : Nat} {a0 a1 a2 a3 a4 a5 a6 : Value} {w0 w1 : Value} {st : List Value} {hp : qzH} (h8 : st.length ≤ 8) : qzV (d + 1) 63 5 [a0, a1, a2, a3, a4, a5, a6] (w1 :: w0 :: st) hp = (qzC d 84 [w0, w1] hp).bind (fun r => qzV (d + 1) 63 8 [a0, a1, a2, a3, a4, a5, a6] (r.1.toList ++ st) r.2) := qv_calls (n := 2) mdc_63 dX2_tellRows_5 mdo_63 (by decide) qfc_2_72 ⟨rfl, by decide, rfl⟩ rfl ⟨rfl, rfl, by simp only [List.length_cons]; omega⟩ h8
theorem eX2_tellRows_8 {d : Nat} {a0 a1 a2 a3 a4 a5 a6 : Value} {x : Int32} {st : List Value} {hp : qzH} : qzV d 63 8 [a0, a1, a2, a3, a4, a5, a6] (.int x :: st) hp = qzV d 63 9 [a0, a1, a2, .int x, a4, a5, a6] (st) hp := qv_istore (i := 3) mdc_63 dX2_tellRows_8 rfl (Nat.le_of_ble_eq_true rfl) rfl rfl
theorem eX2_tellRows_9 {d : Nat} {a0 a1 a2 a3 a4 a5 a6 : Value} {st : List Value} {hp : qzH} : qzV d 63 9 [a0, a1, a2, a3, a4, a5, a6] (st) hp = qzV d 63 10 [a0, a1, a2, a3, a4, a5, a6] (.int 1 :: st) hp := qv_iconst mdc_63 dX2_tellRows_9 il_1 rfl
theorem eX2_tellRows_10 {d : Nat} {a0 a1 a2 a3 a4 a5 a6 : Value} {x : Int32} {st : List Value} {hp : qzH} : qzV d 63 10 [a0, a1, a2, a3, a4, a5, a6] (.int x :: st) hp = qzV d 63 12 [a0, a1, a2, a3, .int x, a5, a6] (st) hp := qv_istore (i := 4) mdc_63 dX2_tellRows_10 rfl (Nat.le_of_ble_eq_true rfl) rfl rfl
theorem eX2_tellRows_12 {d : Nat} {a0 a1 a2 a3 a5 a6 : Value} {x : Int32} {st : List Value} {hp : qzH} : qzV d 63 12 [a0, a1, a2, a3, .int x, a5, a6] (st) hp = qzV d 63 14 [a0, a1, a2, a3, .int x, a5, a6] (.int x :: st) hp := qv_iload (i := 4) mdc_63 dX2_tellRows_12 rfl rfl rfl
theorem eX2_tellRows_14 {d : Nat} {a0 a1 a3 a4 a5 a6 : Value} {x : Int32} {st : List Value} {hp : qzH} : qzV d 63 14 [a0, a1, .int x, a3, a4, a5, a6] (st) hp = qzV d 63 15 [a0, a1, .int x, a3, a4, a5, a6] (.int x :: st) hp := qv_iload (i := 2) mdc_63 dX2_tellRows_14 rfl rfl rfl
theorem eX2_tellRows_15 {d : Nat} {a0 a2 a3 a4 a5 a6 : Value} {x : Int32} {st : List Value} {hp : qzH} : qzV d 63 15 [a0, .int x, a2, a3, a4, a5, a6] (st) hp = qzV d 63 16 [a0, .int x, a2, a3, a4, a5, a6] (.int x :: st) hp := qv_iload (i := 1) mdc_63 dX2_tellRows_15 rfl rfl rfl
theorem eX2_tellRows_16 {d : Nat} {a0 a1 a2 a3 a4 a5 a6 : Value} {x y : Int32} {st : List Value} {hp : qzH} : qzV d 63 16 [a0, a1, a2, a3, a4, a5, a6] (.int y :: .int x :: st) hp = qzV d 63 17 [a0, a1, a2, a3, a4, a5, a6] (.int (x - y) :: st) hp := qv_bin (f := fun x y => x - y) mdc_63 dX2_tellRows_16 rfl rfl
theorem eX2_tellRows_17 {d : Nat} {a0 a1 a2 a3 a4 a5 a6 : Value} {x y : Int32} {st : List Value} {hp : qzH} : qzV d 63 17 [a0, a1, a2, a3, a4, a5, a6] (.int y :: .int x :: st) hp = if y < x then qzV d 63 100 [a0, a1, a2, a3, a4, a5, a6] (st) hp else qzV d 63 20 [a0, a1, a2, a3, a4, a5, a6] (st) hp := qv_if2 mdc_63 dX2_tellRows_17 rfl rfl rfl
theorem eX2_tellRows_20 {d : Nat} {a0 a2 a3 a4 a5 a6 : Value} {x : Int32} {st : List Value} {hp : qzH} : qzV d 63 20 [a0, .int x, a2, a3, a4, a5, a6] (st) hp = qzV d 63 21 [a0, .int x, a2, a3, a4, a5, a6] (.int x :: st) hp := qv_iload (i := 1) mdc_63 dX2_tellRows_20 rfl rfl rfl
theorem eX2_tellRows_21 {d : Nat} {a0 a1 a2 a3 a4 a5 a6 : Value} {x : Int32} {st : List Value} {hp : qzH} : qzV d 63 21 [a0, a1, a2, a3, a4, a5, a6] (.int x :: st) hp = qzV d 63 23 [a0, a1, a2, a3, a4, .int x, a6] (st) hp := qv_istore (i := 5) mdc_63 dX2_tellRows_21 rfl (Nat.le_of_ble_eq_true rfl) rfl rfl
theorem eX2_tellRows_23 {d : Nat} {a0 a1 a2 a3 a4 a6 : Value} {x : Int32} {st : List Value} {hp : qzH} : qzV d 63 23 [a0, a1, a2, a3, a4, .int x, a6] (st) hp = qzV d 63 25 [a0, a1, a2, a3, a4, .int x, a6] (.int x :: st) hp := qv_iload (i := 5) mdc_63 dX2_tellRows_23 rfl rfl rfl
theorem eX2_tellRows_25 {d : Nat} {a0 a1 a2 a3 a5 a6 : Value} {x : Int32} {st : List Value} {hp : qzH} : qzV d 63 25 [a0, a1, a2, a3, .int x, a5, a6] (st) hp = qzV d 63 27 [a0, a1, a2, a3, .int x, a5, a6] (.int x :: st) hp := qv_iload (i := 4) mdc_63 dX2_tellRows_25 rfl rfl rfl
theorem eX2_tellRows_27 {d : Nat} {a0 a1 a2 a3 a4 a5 a6 : Value} {x y : Int32} {st : List Value} {hp : qzH} : qzV d 63 27 [a0, a1, a2, a3, a4, a5, a6] (.int y :: .int x :: st) hp = qzV d 63 28 [a0, a1, a2, a3, a4, a5, a6] (.int (x + y) :: st) hp := qv_bin (f := fun x y => x + y) mdc_63 dX2_tellRows_27 rfl rfl
theorem eX2_tellRows_28 {d : Nat} {a0 a1 a3 a4 a5 a6 : Value} {x : Int32} {st : List Value} {hp : qzH} : qzV d 63 28 [a0, a1, .int x, a3, a4, a5, a6] (st) hp = qzV d 63 29 [a0, a1, .int x, a3, a4, a5, a6] (.int x :: st) hp := qv_iload (i := 2) mdc_63 dX2_tellRows_28 rfl rfl rfl
theorem eX2_tellRows_29 {d : Nat} {a0 a1 a2 a3 a4 a5 a6 : Value} {x y : Int32} {st : List Value} {hp : qzH} : qzV d 63 29 [a0, a1, a2, a3, a4, a5, a6] (.int y :: .int x :: st) hp = if y < x then qzV d 63 94 [a0, a1, a2, a3, a4, a5, a6] (st) hp else qzV d 63 32 [a0, a1, a2, a3, a4, a5, a6] (st) hp := qv_if2 mdc_63 dX2_tellRows_29 rfl rfl rfl
theorem eX2_tellRows_32 {d : Nat} {a0 a1 a2 a3 a4 a5 a6 : Value} {st : List Value} {hp : qzH} : qzV d 63 32 [a0, a1, a2, a3, a4, a5, a6] (st) hp = qzV d 63 33 [a0, a1, a2, a3, a4, a5, a6] (.int 1 :: st) hp := qv_iconst mdc_63 dX2_tellRows_32 il_1 rfl
theorem eX2_tellRows_33 {d : Nat} {a0 a1 a2 a3 a4 a5 a6 : Value} {x : Int32} {st : List Value} {hp : qzH} : qzV d 63 33 [a0, a1, a2, a3, a4, a5, a6] (.int x :: st) hp = qzV d 63 35 [a0, a1, a2, a3, a4, a5, .int x] (st) hp := qv_istore (i := 6) mdc_63 dX2_tellRows_33 rfl (Nat.le_of_ble_eq_true rfl) rfl rfl
theorem eX2_tellRows_35 {d : Nat} {a0 a1 a2 a3 a4 a5 : Value} {x : Int32} {st : List Value} {hp : qzH} : qzV d 63 35 [a0, a1, a2, a3, a4, a5, .int x] (st) hp = qzV d 63 37 [a0, a1, a2, a3, a4, a5, .int x] (.int x :: st) hp := qv_iload (i := 6) mdc_63 dX2_tellRows_35 rfl rfl rfl
theorem eX2_tellRows_37 {d : Nat} {a0 a1 a2 a4 a5 a6 : Value} {x : Int32} {st : List Value} {hp : qzH} : qzV d 63 37 [a0, a1, a2, .int x, a4, a5, a6] (st) hp = qzV d 63 38 [a0, a1, a2, .int x, a4, a5, a6] (.int x :: st) hp := qv_iload (i := 3) mdc_63 dX2_tellRows_37 rfl rfl rfl
theorem eX2_tellRows_38 {d : Nat} {a0 a1 a2 a3 a4 a5 a6 : Value} {x y : Int32} {st : List Value} {hp : qzH} : qzV d 63 38 [a0, a1, a2, a3, a4, a5, a6] (.int y :: .int x :: st) hp = if y < x then qzV d 63 88 [a0, a1, a2, a3, a4, a5, a6] (st) hp else qzV d 63 41 [a0, a1, a2, a3, a4, a5, a6] (st) hp := qv_if2 mdc_63 dX2_tellRows_38 rfl rfl rfl
theorem eX2_tellRows_41 {d : Nat} {a0 a1 a2 a3 a4 a5 : Value} {x : Int32} {st : List Value} {hp : qzH} : qzV d 63 41 [a0, a1, a2, a3, a4, a5, .int x] (st) hp = qzV d 63 43 [a0, a1, a2, a3, a4, a5, .int x] (.int x :: st) hp := qv_iload (i := 6) mdc_63 dX2_tellRows_41 rfl rfl rfl
theorem eX2_tellRows_43 {d : Nat} {a0 a1 a2 a3 a5 a6 : Value} {x : Int32} {st : List Value} {hp : qzH} : qzV d 63 43 [a0, a1, a2, a3, .int x, a5, a6] (st) hp = qzV d 63 45 [a0, a1, a2, a3, .int x, a5, a6] (.int x :: st) hp := qv_iload (i := 4) mdc_63 dX2_tellRows_43 rfl rfl rfl
theorem eX2_tellRows_45 {d : Nat} {a0 a1 a2 a3 a4 a5 a6 : Value} {x y : Int32} {st : List Value} {hp : qzH} : qzV d 63 45 [a0, a1, a2, a3, a4, a5, a6] (.int y :: .int x :: st) hp = if y < x then qzV d 63 88 [a0, a1, a2, a3, a4, a5, a6] (st) hp else qzV d 63 48 [a0, a1, a2, a3, a4, a5, a6] (st) hp := qv_if2 mdc_63 dX2_tellRows_45 rfl rfl rfl
theorem eX2_tellRows_48 {d : Nat} {a1 a2 a3 a4 a5 a6 : Value} {x : Nat} {st : List Value} {hp : qzH} : qzV d 63 48 [.ref x, a1, a2, a3, a4, a5, a6] (st) hp = qzV d 63 49 [.ref x, a1, a2, a3, a4, a5, a6] (.ref x :: st) hp := qv_aload (i := 0) mdc_63 dX2_tellRows_48 rfl rfl rfl
theorem eX2_tellRows_49 {d : Nat} {a0 a1 a2 a3 a4 a6 : Value} {x : Int32} {st : List Value} {hp : qzH} : qzV d 63 49 [a0, a1, a2, a3, a4, .int x, a6] (st) hp = qzV d 63 51 [a0, a1, a2, a3, a4, .int x, a6] (.int x :: st) hp := qv_iload (i := 5) mdc_63 dX2_tellRows_49 rfl rfl rfl
theorem eX2_tellRows_51 {d : Nat} {a0 a1 a2 a3 a4 a6 : Value} {x : Int32} {st : List Value} {hp : qzH} : qzV d 63 51 [a0, a1, a2, a3, a4, .int x, a6] (st) hp = qzV d 63 53 [a0, a1, a2, a3, a4, .int x, a6] (.int x :: st) hp := qv_iload (i := 5) mdc_63 dX2_tellRows_51 rfl rfl rfl
theorem eX2_tellRows_53 {d : Nat} {a0 a1 a2 a3 a5 a6 : Value} {x : Int32} {st : List Value} {hp : qzH} : qzV d 63 53 [a0, a1, a2, a3, .int x, a5, a6] (st) hp = qzV d 63 55 [a0, a1, a2, a3, .int x, a5, a6] (.int x :: st) hp := qv_iload (i := 4) mdc_63 dX2_tellRows_53 rfl rfl rfl
theorem eX2_tellRows_55 {d : Nat} {a0 a1 a2 a3 a4 a5 a6 : Value} {x y : Int32} {st : List Value} {hp : qzH} : qzV d 63 55 [a0, a1, a2, a3, a4, a5, a6] (.int y :: .int x :: st) hp = qzV d 63 56 [a0, a1, a2, a3, a4, a5, a6] (.int (x + y) :: st) hp := qv_bin (f := fun x y => x + y) mdc_63 dX2_tellRows_55 rfl rfl
theorem eX2_tellRows_56 {d : Nat} {a0 a1 a2 a3 a4 a5 : Value} {x : Int32} {st : List Value} {hp : qzH} : qzV d 63 56 [a0, a1, a2, a3, a4, a5, .int x] (st) hp = qzV d 63 58 [a0, a1, a2, a3, a4, a5, .int x] (.int x :: st) hp := qv_iload (i := 6) mdc_63 dX2_tellRows_56 rfl rfl rfl
theorem eX2_tellRows_58 {d : Nat} {a0 a1 a2 a3 a4 a5 a6 : Value} {st : List Value} {hp : qzH} : qzV d 63 58 [a0, a1, a2, a3, a4, a5, a6] (st) hp = qzV d 63 59 [a0, a1, a2, a3, a4, a5, a6] (.int 1 :: st) hp := qv_iconst mdc_63 dX2_tellRows_58 il_1 rfl
theorem eX2_tellRows_59 {d : Nat} {a0 a1 a2 a3 a4 a5 a6 : Value} {w0 w1 : Value} {st : List Value} {hp : qzH} (h8 : st.length ≤ 8) : qzV (d + 1) 63 59 [a0, a1, a2, a3, a4, a5, a6] (w1 :: w0 :: st) hp = (qzC d 53 [w0, w1] hp).bind (fun r => qzV (d + 1) 63 62 [a0, a1, a2, a3, a4, a5, a6] (r.1.toList ++ st) r.2) := qv_calls (n := 2) mdc_63 dX2_tellRows_59 mdo_63 (by decide) qfc_2_47 ⟨rfl, by decide, rfl⟩ rfl ⟨rfl, rfl, by simp only [List.length_cons]; omega⟩ h8
theorem eX2_tellRows_62 {d : Nat} {a0 a1 a2 a3 a4 a5 a6 : Value} {w0 w1 w2 w3 : Value} {st : List Value} {hp : qzH} (h8 : st.length ≤ 8) : qzV (d + 1) 63 62 [a0, a1, a2, a3, a4, a5, a6] (w3 :: w2 :: w1 :: w0 :: st) hp = (qzC d 64 [w0, w1, w2, w3] hp).bind (fun r => qzV (d + 1) 63 65 [a0, a1, a2, a3, a4, a5, a6] (r.1.toList ++ st) r.2) := qv_calls (n := 4) mdc_63 dX2_tellRows_62 mdo_63 (by decide) qfc_2_241 ⟨rfl, by decide, rfl⟩ rfl ⟨rfl, rfl, by simp only [List.length_cons]; omega⟩ h8
theorem eX2_tellRows_65 {d : Nat} {a1 a2 a3 a4 a5 a6 : Value} {x : Nat} {st : List Value} {hp : qzH} : qzV d 63 65 [.ref x, a1, a2, a3, a4, a5, a6] (st) hp = qzV d 63 66 [.ref x, a1, a2, a3, a4, a5, a6] (.ref x :: st) hp := qv_aload (i := 0) mdc_63 dX2_tellRows_65 rfl rfl rfl
theorem eX2_tellRows_66 {d : Nat} {a0 a1 a2 a3 a4 a6 : Value} {x : Int32} {st : List Value} {hp : qzH} : qzV d 63 66 [a0, a1, a2, a3, a4, .int x, a6] (st) hp = qzV d 63 68 [a0, a1, a2, a3, a4, .int x, a6] (.int x :: st) hp := qv_iload (i := 5) mdc_63 dX2_tellRows_66 rfl rfl rfl
theorem eX2_tellRows_68 {d : Nat} {a0 a1 a2 a3 a4 a6 : Value} {x : Int32} {st : List Value} {hp : qzH} : qzV d 63 68 [a0, a1, a2, a3, a4, .int x, a6] (st) hp = qzV d 63 70 [a0, a1, a2, a3, a4, .int x, a6] (.int x :: st) hp := qv_iload (i := 5) mdc_63 dX2_tellRows_68 rfl rfl rfl
theorem eX2_tellRows_70 {d : Nat} {a0 a1 a2 a3 a5 a6 : Value} {x : Int32} {st : List Value} {hp : qzH} : qzV d 63 70 [a0, a1, a2, a3, .int x, a5, a6] (st) hp = qzV d 63 72 [a0, a1, a2, a3, .int x, a5, a6] (.int x :: st) hp := qv_iload (i := 4) mdc_63 dX2_tellRows_70 rfl rfl rfl
theorem eX2_tellRows_72 {d : Nat} {a0 a1 a2 a3 a4 a5 a6 : Value} {x y : Int32} {st : List Value} {hp : qzH} : qzV d 63 72 [a0, a1, a2, a3, a4, a5, a6] (.int y :: .int x :: st) hp = qzV d 63 73 [a0, a1, a2, a3, a4, a5, a6] (.int (x + y) :: st) hp := qv_bin (f := fun x y => x + y) mdc_63 dX2_tellRows_72 rfl rfl
theorem eX2_tellRows_73 {d : Nat} {a0 a1 a2 a3 a4 a5 : Value} {x : Int32} {st : List Value} {hp : qzH} : qzV d 63 73 [a0, a1, a2, a3, a4, a5, .int x] (st) hp = qzV d 63 75 [a0, a1, a2, a3, a4, a5, .int x] (.int x :: st) hp := qv_iload (i := 6) mdc_63 dX2_tellRows_73 rfl rfl rfl
theorem eX2_tellRows_75 {d : Nat} {a0 a1 a2 a3 a4 a5 a6 : Value} {st : List Value} {hp : qzH} : qzV d 63 75 [a0, a1, a2, a3, a4, a5, a6] (st) hp = qzV d 63 76 [a0, a1, a2, a3, a4, a5, a6] (.int 0 :: st) hp := qv_iconst mdc_63 dX2_tellRows_75 il_0 rfl
theorem eX2_tellRows_76 {d : Nat} {a0 a1 a2 a3 a4 a5 a6 : Value} {w0 w1 : Value} {st : List Value} {hp : qzH} (h8 : st.length ≤ 8) : qzV (d + 1) 63 76 [a0, a1, a2, a3, a4, a5, a6] (w1 :: w0 :: st) hp = (qzC d 53 [w0, w1] hp).bind (fun r => qzV (d + 1) 63 79 [a0, a1, a2, a3, a4, a5, a6] (r.1.toList ++ st) r.2) := qv_calls (n := 2) mdc_63 dX2_tellRows_76 mdo_63 (by decide) qfc_2_47 ⟨rfl, by decide, rfl⟩ rfl ⟨rfl, rfl, by simp only [List.length_cons]; omega⟩ h8
theorem eX2_tellRows_79 {d : Nat} {a0 a1 a2 a3 a4 a5 a6 : Value} {w0 w1 w2 w3 : Value} {st : List Value} {hp : qzH} (h8 : st.length ≤ 8) : qzV (d + 1) 63 79 [a0, a1, a2, a3, a4, a5, a6] (w3 :: w2 :: w1 :: w0 :: st) hp = (qzC d 64 [w0, w1, w2, w3] hp).bind (fun r => qzV (d + 1) 63 82 [a0, a1, a2, a3, a4, a5, a6] (r.1.toList ++ st) r.2) := qv_calls (n := 4) mdc_63 dX2_tellRows_79 mdo_63 (by decide) qfc_2_241 ⟨rfl, by decide, rfl⟩ rfl ⟨rfl, rfl, by simp only [List.length_cons]; omega⟩ h8
theorem eX2_tellRows_82 {d : Nat} {a0 a1 a2 a3 a4 a5 : Value} {x : Int32} {st : List Value} {hp : qzH} : qzV d 63 82 [a0, a1, a2, a3, a4, a5, .int x] (st) hp = qzV d 63 85 [a0, a1, a2, a3, a4, a5, .int (x + 1)] (st) hp := qv_iinc mdc_63 dX2_tellRows_82 rfl il_1 rfl rfl
theorem eX2_tellRows_85 {d : Nat} {a0 a1 a2 a3 a4 a5 a6 : Value} {st : List Value} {hp : qzH} : qzV d 63 85 [a0, a1, a2, a3, a4, a5, a6] (st) hp = qzV d 63 35 [a0, a1, a2, a3, a4, a5, a6] (st) hp := qv_goto mdc_63 dX2_tellRows_85 rfl
theorem eX2_tellRows_88 {d : Nat} {a0 a1 a2 a3 a4 a6 : Value} {x : Int32} {st : List Value} {hp : qzH} : qzV d 63 88 [a0, a1, a2, a3, a4, .int x, a6] (st) hp = qzV d 63 91 [a0, a1, a2, a3, a4, .int (x + 1), a6] (st) hp := qv_iinc mdc_63 dX2_tellRows_88 rfl il_1 rfl rfl
theorem eX2_tellRows_91 {d : Nat} {a0 a1 a2 a3 a4 a5 a6 : Value} {st : List Value} {hp : qzH} : qzV d 63 91 [a0, a1, a2, a3, a4, a5, a6] (st) hp = qzV d 63 23 [a0, a1, a2, a3, a4, a5, a6] (st) hp := qv_goto mdc_63 dX2_tellRows_91 rfl
theorem eX2_tellRows_94 {d : Nat} {a0 a1 a2 a3 a5 a6 : Value} {x : Int32} {st : List Value} {hp : qzH} : qzV d 63 94 [a0, a1, a2, a3, .int x, a5, a6] (st) hp = qzV d 63 97 [a0, a1, a2, a3, .int (x + 1), a5, a6] (st) hp := qv_iinc mdc_63 dX2_tellRows_94 rfl il_1 rfl rfl
theorem eX2_tellRows_97 {d : Nat} {a0 a1 a2 a3 a4 a5 a6 : Value} {st : List Value} {hp : qzH} : qzV d 63 97 [a0, a1, a2, a3, a4, a5, a6] (st) hp = qzV d 63 12 [a0, a1, a2, a3, a4, a5, a6] (st) hp := qv_goto mdc_63 dX2_tellRows_97 rfl
theorem eX2_tellRows_100 {d : Nat} {a0 a1 a2 a3 a4 a5 a6 : Value} {hp : qzH} : qzV d 63 100 [a0, a1, a2, a3, a4, a5, a6] [] hp = some (none, hp) := qv_vret mdc_63 dX2_tellRows_100 mdr_63
theorem dX2_raiseRow_0 : decode cX2_raiseRow 0 = .ok (.iload_n 3, 1) := by decide +kernel
theorem dX2_raiseRow_1 : decode cX2_raiseRow 1 = .ok (.invokestatic 218, 3) := by decide +kernel
theorem dX2_raiseRow_4 : decode cX2_raiseRow 4 = .ok (.istore 4, 2) := by decide +kernel
theorem dX2_raiseRow_6 : decode cX2_raiseRow 6 = .ok (.iload_n 1, 1) := by decide +kernel
theorem dX2_raiseRow_7 : decode cX2_raiseRow 7 = .ok (.iload_n 2, 1) := by decide +kernel
theorem dX2_raiseRow_8 : decode cX2_raiseRow 8 = .ok (.iload_n 3, 1) := by decide +kernel
theorem dX2_raiseRow_9 : decode cX2_raiseRow 9 = .ok (.invokestatic 245, 3) := by decide +kernel
theorem dX2_raiseRow_12 : decode cX2_raiseRow 12 = .ok (.istore 5, 2) := by decide +kernel
theorem dX2_raiseRow_14 : decode cX2_raiseRow 14 = .ok (.aload_n 0, 1) := by decide +kernel
theorem dX2_raiseRow_15 : decode cX2_raiseRow 15 = .ok (.getfield 249, 3) := by decide +kernel
theorem dX2_raiseRow_18 : decode cX2_raiseRow 18 = .ok (.iload 5, 2) := by decide +kernel
theorem dX2_raiseRow_20 : decode cX2_raiseRow 20 = .ok (.invokestatic 72, 3) := by decide +kernel
theorem dX2_raiseRow_23 : decode cX2_raiseRow 23 = .ok (.istore 6, 2) := by decide +kernel
theorem dX2_raiseRow_25 : decode cX2_raiseRow 25 = .ok (.aload_n 0, 1) := by decide +kernel
theorem dX2_raiseRow_26 : decode cX2_raiseRow 26 = .ok (.getfield 249, 3) := by decide +kernel
theorem dX2_raiseRow_29 : decode cX2_raiseRow 29 = .ok (.iload 5, 2) := by decide +kernel
theorem dX2_raiseRow_31 : decode cX2_raiseRow 31 = .ok (.iload 4, 2) := by decide +kernel
theorem dX2_raiseRow_33 : decode cX2_raiseRow 33 = .ok (.iadd, 1) := by decide +kernel
theorem dX2_raiseRow_34 : decode cX2_raiseRow 34 = .ok (.iconst 1, 1) := by decide +kernel
theorem dX2_raiseRow_35 : decode cX2_raiseRow 35 = .ok (.isub, 1) := by decide +kernel
theorem dX2_raiseRow_36 : decode cX2_raiseRow 36 = .ok (.invokestatic 72, 3) := by decide +kernel
theorem dX2_raiseRow_39 : decode cX2_raiseRow 39 = .ok (.istore 7, 2) := by decide +kernel
theorem dX2_raiseRow_41 : decode cX2_raiseRow 41 = .ok (.iload 4, 2) := by decide +kernel
theorem dX2_raiseRow_43 : decode cX2_raiseRow 43 = .ok (.aload_n 0, 1) := by decide +kernel
theorem dX2_raiseRow_44 : decode cX2_raiseRow 44 = .ok (.getfield 249, 3) := by decide +kernel
theorem dX2_raiseRow_47 : decode cX2_raiseRow 47 = .ok (.iload 5, 2) := by decide +kernel
theorem dX2_raiseRow_49 : decode cX2_raiseRow 49 = .ok (.iload 4, 2) := by decide +kernel
theorem dX2_raiseRow_51 : decode cX2_raiseRow 51 = .ok (.bipush 6, 2) := by decide +kernel
theorem dX2_raiseRow_53 : decode cX2_raiseRow 53 = .ok (.invokestatic 250, 3) := by decide +kernel
theorem dX2_raiseRow_56 : decode cX2_raiseRow 56 = .ok (.aload_n 0, 1) := by decide +kernel
theorem dX2_raiseRow_57 : decode cX2_raiseRow 57 = .ok (.getfield 240, 3) := by decide +kernel
theorem dX2_raiseRow_60 : decode cX2_raiseRow 60 = .ok (.invokestatic 254, 3) := by decide +kernel
theorem dX2_raiseRow_63 : decode cX2_raiseRow 63 = .ok (.istore 8, 2) := by decide +kernel
theorem dX2_raiseRow_65 : decode cX2_raiseRow 65 = .ok (.iload 4, 2) := by decide +kernel
theorem dX2_raiseRow_67 : decode cX2_raiseRow 67 = .ok (.aload_n 0, 1) := by decide +kernel
theorem dX2_raiseRow_68 : decode cX2_raiseRow 68 = .ok (.getfield 249, 3) := by decide +kernel
theorem dX2_raiseRow_71 : decode cX2_raiseRow 71 = .ok (.iload 5, 2) := by decide +kernel
theorem dX2_raiseRow_73 : decode cX2_raiseRow 73 = .ok (.iload 4, 2) := by decide +kernel
theorem dX2_raiseRow_75 : decode cX2_raiseRow 75 = .ok (.iload 6, 2) := by decide +kernel
theorem dX2_raiseRow_77 : decode cX2_raiseRow 77 = .ok (.invokestatic 250, 3) := by decide +kernel
theorem dX2_raiseRow_80 : decode cX2_raiseRow 80 = .ok (.aload_n 0, 1) := by decide +kernel
theorem dX2_raiseRow_81 : decode cX2_raiseRow 81 = .ok (.getfield 240, 3) := by decide +kernel
theorem dX2_raiseRow_84 : decode cX2_raiseRow 84 = .ok (.invokestatic 254, 3) := by decide +kernel
theorem dX2_raiseRow_87 : decode cX2_raiseRow 87 = .ok (.istore 9, 2) := by decide +kernel
theorem dX2_raiseRow_89 : decode cX2_raiseRow 89 = .ok (.iconst 0, 1) := by decide +kernel
theorem dX2_raiseRow_90 : decode cX2_raiseRow 90 = .ok (.istore 10, 2) := by decide +kernel
theorem dX2_raiseRow_92 : decode cX2_raiseRow 92 = .ok (.iload 10, 2) := by decide +kernel
theorem dX2_raiseRow_94 : decode cX2_raiseRow 94 = .ok (.bipush 7, 2) := by decide +kernel
theorem dX2_raiseRow_96 : decode cX2_raiseRow 96 = .ok (.if_icmp .ge 91, 3) := by decide +kernel
theorem dX2_raiseRow_99 : decode cX2_raiseRow 99 = .ok (.aload_n 0, 1) := by decide +kernel
theorem dX2_raiseRow_100 : decode cX2_raiseRow 100 = .ok (.iload_n 1, 1) := by decide +kernel
theorem dX2_raiseRow_101 : decode cX2_raiseRow 101 = .ok (.iload_n 3, 1) := by decide +kernel
theorem dX2_raiseRow_102 : decode cX2_raiseRow 102 = .ok (.invokestatic 258, 3) := by decide +kernel
theorem dX2_raiseRow_105 : decode cX2_raiseRow 105 = .ok (.iload_n 2, 1) := by decide +kernel
theorem dX2_raiseRow_106 : decode cX2_raiseRow 106 = .ok (.iload_n 3, 1) := by decide +kernel
theorem dX2_raiseRow_107 : decode cX2_raiseRow 107 = .ok (.invokestatic 261, 3) := by decide +kernel
theorem dX2_raiseRow_110 : decode cX2_raiseRow 110 = .ok (.iload 10, 2) := by decide +kernel
theorem dX2_raiseRow_112 : decode cX2_raiseRow 112 = .ok (.iload 7, 2) := by decide +kernel
theorem dX2_raiseRow_114 : decode cX2_raiseRow 114 = .ok (.invokevirtual 232, 3) := by decide +kernel
theorem dX2_raiseRow_117 : decode cX2_raiseRow 117 = .ok (.istore 11, 2) := by decide +kernel
theorem dX2_raiseRow_119 : decode cX2_raiseRow 119 = .ok (.iconst 0, 1) := by decide +kernel
theorem dX2_raiseRow_120 : decode cX2_raiseRow 120 = .ok (.istore 12, 2) := by decide +kernel
theorem dX2_raiseRow_122 : decode cX2_raiseRow 122 = .ok (.iload 12, 2) := by decide +kernel
theorem dX2_raiseRow_124 : decode cX2_raiseRow 124 = .ok (.bipush 7, 2) := by decide +kernel
theorem dX2_raiseRow_126 : decode cX2_raiseRow 126 = .ok (.if_icmp .ge 55, 3) := by decide +kernel
theorem dX2_raiseRow_129 : decode cX2_raiseRow 129 = .ok (.iload 12, 2) := by decide +kernel
theorem dX2_raiseRow_131 : decode cX2_raiseRow 131 = .ok (.iload 6, 2) := by decide +kernel
theorem dX2_raiseRow_133 : decode cX2_raiseRow 133 = .ok (.if_icmp .ne 8, 3) := by decide +kernel
theorem dX2_raiseRow_136 : decode cX2_raiseRow 136 = .ok (.iload 9, 2) := by decide +kernel
theorem dX2_raiseRow_138 : decode cX2_raiseRow 138 = .ok (.goto 5, 3) := by decide +kernel
theorem dX2_raiseRow_141 : decode cX2_raiseRow 141 = .ok (.iload 8, 2) := by decide +kernel
theorem dX2_raiseRow_143 : decode cX2_raiseRow 143 = .ok (.iload 11, 2) := by decide +kernel
theorem dX2_raiseRow_145 : decode cX2_raiseRow 145 = .ok (.isub, 1) := by decide +kernel
theorem dX2_raiseRow_146 : decode cX2_raiseRow 146 = .ok (.istore 13, 2) := by decide +kernel
theorem dX2_raiseRow_148 : decode cX2_raiseRow 148 = .ok (.iload 13, 2) := by decide +kernel
theorem dX2_raiseRow_150 : decode cX2_raiseRow 150 = .ok (.aload_n 0, 1) := by decide +kernel
theorem dX2_raiseRow_151 : decode cX2_raiseRow 151 = .ok (.iload_n 1, 1) := by decide +kernel
theorem dX2_raiseRow_152 : decode cX2_raiseRow 152 = .ok (.iload_n 2, 1) := by decide +kernel
theorem dX2_raiseRow_153 : decode cX2_raiseRow 153 = .ok (.iload 12, 2) := by decide +kernel
theorem dX2_raiseRow_155 : decode cX2_raiseRow 155 = .ok (.iload 10, 2) := by decide +kernel
theorem dX2_raiseRow_157 : decode cX2_raiseRow 157 = .ok (.invokevirtual 232, 3) := by decide +kernel
theorem dX2_raiseRow_160 : decode cX2_raiseRow 160 = .ok (.if_icmp .le 15, 3) := by decide +kernel
theorem dX2_raiseRow_163 : decode cX2_raiseRow 163 = .ok (.aload_n 0, 1) := by decide +kernel
theorem dX2_raiseRow_164 : decode cX2_raiseRow 164 = .ok (.iload_n 1, 1) := by decide +kernel
theorem dX2_raiseRow_165 : decode cX2_raiseRow 165 = .ok (.iload_n 2, 1) := by decide +kernel
theorem dX2_raiseRow_166 : decode cX2_raiseRow 166 = .ok (.iload 12, 2) := by decide +kernel
theorem dX2_raiseRow_168 : decode cX2_raiseRow 168 = .ok (.iload 10, 2) := by decide +kernel
theorem dX2_raiseRow_170 : decode cX2_raiseRow 170 = .ok (.iload 13, 2) := by decide +kernel
theorem dX2_raiseRow_172 : decode cX2_raiseRow 172 = .ok (.invokevirtual 264, 3) := by decide +kernel
theorem dX2_raiseRow_175 : decode cX2_raiseRow 175 = .ok (.iinc 12 1, 3) := by decide +kernel
theorem dX2_raiseRow_178 : decode cX2_raiseRow 178 = .ok (.goto (-56), 3) := by decide +kernel
theorem dX2_raiseRow_181 : decode cX2_raiseRow 181 = .ok (.iinc 10 1, 3) := by decide +kernel
theorem dX2_raiseRow_184 : decode cX2_raiseRow 184 = .ok (.goto (-92), 3) := by decide +kernel
theorem dX2_raiseRow_187 : decode cX2_raiseRow 187 = .ok (.return_, 1) := by decide +kernel
theorem eX2_raiseRow_0 {d : Nat} {a0 a1 a2 a4 a5 a6 a7 a8 a9 a10 a11 a12 a13 : Value} {x : Int32} {st : List Value} {hp : qzH} : qzV d 64 0 [a0, a1, a2, .int x, a4, a5, a6, a7, a8, a9, a10, a11, a12, a13] (st) hp = qzV d 64 1 [a0, a1, a2, .int x, a4, a5, a6, a7, a8, a9, a10, a11, a12, a13] (.int x :: st) hp := qv_iload (i := 3) mdc_64 dX2_raiseRow_0 rfl rfl rfl
theorem eX2_raiseRow_1 {d : Nat} {a0 a1 a2 a3 a4 a5 a6 a7 a8 a9 a10 a11 a12 a13 : Value} {w0 : Value} {st : List Value} {hp : qzH} (h8 : st.length ≤ 8) : qzV (d + 1) 64 1 [a0, a1, a2, a3, a4, a5, a6, a7, a8, a9, a10, a11, a12, a13] (w0 :: st) hp = (qzC d 55 [w0] hp).bind (fun r => qzV (d + 1) 64 4 [a0, a1, a2, a3, a4, a5, a6, a7, a8, a9, a10, a11, a12, a13] (r.1.toList ++ st) r.2) := qv_calls (n := 1) mdc_64 dX2_raiseRow_1 mdo_64 (by decide) qfc_2_218 ⟨rfl, by decide, rfl⟩ rfl ⟨rfl, rfl, by simp only [List.length_cons]; omega⟩ h8
theorem eX2_raiseRow_4 {d : Nat} {a0 a1 a2 a3 a4 a5 a6 a7 a8 a9 a10 a11 a12 a13 : Value} {x : Int32} {st : List Value} {hp : qzH} : qzV d 64 4 [a0, a1, a2, a3, a4, a5, a6, a7, a8, a9, a10, a11, a12, a13] (.int x :: st) hp = qzV d 64 6 [a0, a1, a2, a3, .int x, a5, a6, a7, a8, a9, a10, a11, a12, a13] (st) hp := qv_istore (i := 4) mdc_64 dX2_raiseRow_4 rfl (Nat.le_of_ble_eq_true rfl) rfl rfl
theorem eX2_raiseRow_6 {d : Nat} {a0 a2 a3 a4 a5 a6 a7 a8 a9 a10 a11 a12 a13 : Value} {x : Int32} {st : List Value} {hp : qzH} : qzV d 64 6 [a0, .int x, a2, a3, a4, a5, a6, a7, a8, a9, a10, a11, a12, a13] (st) hp = qzV d 64 7 [a0, .int x, a2, a3, a4, a5, a6, a7, a8, a9, a10, a11, a12, a13] (.int x :: st) hp := qv_iload (i := 1) mdc_64 dX2_raiseRow_6 rfl rfl rfl
theorem eX2_raiseRow_7 {d : Nat} {a0 a1 a3 a4 a5 a6 a7 a8 a9 a10 a11 a12 a13 : Value} {x : Int32} {st : List Value} {hp : qzH} : qzV d 64 7 [a0, a1, .int x, a3, a4, a5, a6, a7, a8, a9, a10, a11, a12, a13] (st) hp = qzV d 64 8 [a0, a1, .int x, a3, a4, a5, a6, a7, a8, a9, a10, a11, a12, a13] (.int x :: st) hp := qv_iload (i := 2) mdc_64 dX2_raiseRow_7 rfl rfl rfl
theorem eX2_raiseRow_8 {d : Nat} {a0 a1 a2 a4 a5 a6 a7 a8 a9 a10 a11 a12 a13 : Value} {x : Int32} {st : List Value} {hp : qzH} : qzV d 64 8 [a0, a1, a2, .int x, a4, a5, a6, a7, a8, a9, a10, a11, a12, a13] (st) hp = qzV d 64 9 [a0, a1, a2, .int x, a4, a5, a6, a7, a8, a9, a10, a11, a12, a13] (.int x :: st) hp := qv_iload (i := 3) mdc_64 dX2_raiseRow_8 rfl rfl rfl
theorem eX2_raiseRow_9 {d : Nat} {a0 a1 a2 a3 a4 a5 a6 a7 a8 a9 a10 a11 a12 a13 : Value} {w0 w1 w2 : Value} {st : List Value} {hp : qzH} (h8 : st.length ≤ 8) : qzV (d + 1) 64 9 [a0, a1, a2, a3, a4, a5, a6, a7, a8, a9, a10, a11, a12, a13] (w2 :: w1 :: w0 :: st) hp = (qzC d 56 [w0, w1, w2] hp).bind (fun r => qzV (d + 1) 64 12 [a0, a1, a2, a3, a4, a5, a6, a7, a8, a9, a10, a11, a12, a13] (r.1.toList ++ st) r.2) := qv_calls (n := 3) mdc_64 dX2_raiseRow_9 mdo_64 (by decide) qfc_2_245 ⟨rfl, by decide, rfl⟩ rfl ⟨rfl, rfl, by simp only [List.length_cons]; omega⟩ h8
theorem eX2_raiseRow_12 {d : Nat} {a0 a1 a2 a3 a4 a5 a6 a7 a8 a9 a10 a11 a12 a13 : Value} {x : Int32} {st : List Value} {hp : qzH} : qzV d 64 12 [a0, a1, a2, a3, a4, a5, a6, a7, a8, a9, a10, a11, a12, a13] (.int x :: st) hp = qzV d 64 14 [a0, a1, a2, a3, a4, .int x, a6, a7, a8, a9, a10, a11, a12, a13] (st) hp := qv_istore (i := 5) mdc_64 dX2_raiseRow_12 rfl (Nat.le_of_ble_eq_true rfl) rfl rfl
theorem eX2_raiseRow_14 {d : Nat} {a1 a2 a3 a4 a5 a6 a7 a8 a9 a10 a11 a12 a13 : Value} {x : Nat} {st : List Value} {hp : qzH} : qzV d 64 14 [.ref x, a1, a2, a3, a4, a5, a6, a7, a8, a9, a10, a11, a12, a13] (st) hp = qzV d 64 15 [.ref x, a1, a2, a3, a4, a5, a6, a7, a8, a9, a10, a11, a12, a13] (.ref x :: st) hp := qv_aload (i := 0) mdc_64 dX2_raiseRow_14 rfl rfl rfl
theorem eX2_raiseRow_15 {d : Nat} {a0 a1 a2 a3 a4 a5 a6 a7 a8 a9 a10 a11 a12 a13 : Value} {a : Nat} {st : List Value} {hp : qzH} (ha : qzArr 1 a hp.1 = true) : qzV d 64 15 [a0, a1, a2, a3, a4, a5, a6, a7, a8, a9, a10, a11, a12, a13] (.ref a :: st) hp = qzV d 64 18 [a0, a1, a2, a3, a4, a5, a6, a7, a8, a9, a10, a11, a12, a13] (va_rf (hp.2.1 a 0) :: st) hp := qv_getR mdc_64 dX2_raiseRow_15 mdo_64 qff_2_249 ⟨by decide, rfl⟩ rfl ha
theorem eX2_raiseRow_18 {d : Nat} {a0 a1 a2 a3 a4 a6 a7 a8 a9 a10 a11 a12 a13 : Value} {x : Int32} {st : List Value} {hp : qzH} : qzV d 64 18 [a0, a1, a2, a3, a4, .int x, a6, a7, a8, a9, a10, a11, a12, a13] (st) hp = qzV d 64 20 [a0, a1, a2, a3, a4, .int x, a6, a7, a8, a9, a10, a11, a12, a13] (.int x :: st) hp := qv_iload (i := 5) mdc_64 dX2_raiseRow_18 rfl rfl rfl
theorem eX2_raiseRow_20 {d : Nat} {a0 a1 a2 a3 a4 a5 a6 a7 a8 a9 a10 a11 a12 a13 : Value} {w0 w1 : Value} {st : List Value} {hp : qzH} (h8 : st.length ≤ 8) : qzV (d + 1) 64 20 [a0, a1, a2, a3, a4, a5, a6, a7, a8, a9, a10, a11, a12, a13] (w1 :: w0 :: st) hp = (qzC d 84 [w0, w1] hp).bind (fun r => qzV (d + 1) 64 23 [a0, a1, a2, a3, a4, a5, a6, a7, a8, a9, a10, a11, a12, a13] (r.1.toList ++ st) r.2) := qv_calls (n := 2) mdc_64 dX2_raiseRow_20 mdo_64 (by decide) qfc_2_72 ⟨rfl, by decide, rfl⟩ rfl ⟨rfl, rfl, by simp only [List.length_cons]; omega⟩ h8
theorem eX2_raiseRow_23 {d : Nat} {a0 a1 a2 a3 a4 a5 a6 a7 a8 a9 a10 a11 a12 a13 : Value} {x : Int32} {st : List Value} {hp : qzH} : qzV d 64 23 [a0, a1, a2, a3, a4, a5, a6, a7, a8, a9, a10, a11, a12, a13] (.int x :: st) hp = qzV d 64 25 [a0, a1, a2, a3, a4, a5, .int x, a7, a8, a9, a10, a11, a12, a13] (st) hp := qv_istore (i := 6) mdc_64 dX2_raiseRow_23 rfl (Nat.le_of_ble_eq_true rfl) rfl rfl
theorem eX2_raiseRow_25 {d : Nat} {a1 a2 a3 a4 a5 a6 a7 a8 a9 a10 a11 a12 a13 : Value} {x : Nat} {st : List Value} {hp : qzH} : qzV d 64 25 [.ref x, a1, a2, a3, a4, a5, a6, a7, a8, a9, a10, a11, a12, a13] (st) hp = qzV d 64 26 [.ref x, a1, a2, a3, a4, a5, a6, a7, a8, a9, a10, a11, a12, a13] (.ref x :: st) hp := qv_aload (i := 0) mdc_64 dX2_raiseRow_25 rfl rfl rfl
theorem eX2_raiseRow_26 {d : Nat} {a0 a1 a2 a3 a4 a5 a6 a7 a8 a9 a10 a11 a12 a13 : Value} {a : Nat} {st : List Value} {hp : qzH} (ha : qzArr 1 a hp.1 = true) : qzV d 64 26 [a0, a1, a2, a3, a4, a5, a6, a7, a8, a9, a10, a11, a12, a13] (.ref a :: st) hp = qzV d 64 29 [a0, a1, a2, a3, a4, a5, a6, a7, a8, a9, a10, a11, a12, a13] (va_rf (hp.2.1 a 0) :: st) hp := qv_getR mdc_64 dX2_raiseRow_26 mdo_64 qff_2_249 ⟨by decide, rfl⟩ rfl ha
theorem eX2_raiseRow_29 {d : Nat} {a0 a1 a2 a3 a4 a6 a7 a8 a9 a10 a11 a12 a13 : Value} {x : Int32} {st : List Value} {hp : qzH} : qzV d 64 29 [a0, a1, a2, a3, a4, .int x, a6, a7, a8, a9, a10, a11, a12, a13] (st) hp = qzV d 64 31 [a0, a1, a2, a3, a4, .int x, a6, a7, a8, a9, a10, a11, a12, a13] (.int x :: st) hp := qv_iload (i := 5) mdc_64 dX2_raiseRow_29 rfl rfl rfl
theorem eX2_raiseRow_31 {d : Nat} {a0 a1 a2 a3 a5 a6 a7 a8 a9 a10 a11 a12 a13 : Value} {x : Int32} {st : List Value} {hp : qzH} : qzV d 64 31 [a0, a1, a2, a3, .int x, a5, a6, a7, a8, a9, a10, a11, a12, a13] (st) hp = qzV d 64 33 [a0, a1, a2, a3, .int x, a5, a6, a7, a8, a9, a10, a11, a12, a13] (.int x :: st) hp := qv_iload (i := 4) mdc_64 dX2_raiseRow_31 rfl rfl rfl
theorem eX2_raiseRow_33 {d : Nat} {a0 a1 a2 a3 a4 a5 a6 a7 a8 a9 a10 a11 a12 a13 : Value} {x y : Int32} {st : List Value} {hp : qzH} : qzV d 64 33 [a0, a1, a2, a3, a4, a5, a6, a7, a8, a9, a10, a11, a12, a13] (.int y :: .int x :: st) hp = qzV d 64 34 [a0, a1, a2, a3, a4, a5, a6, a7, a8, a9, a10, a11, a12, a13] (.int (x + y) :: st) hp := qv_bin (f := fun x y => x + y) mdc_64 dX2_raiseRow_33 rfl rfl
theorem eX2_raiseRow_34 {d : Nat} {a0 a1 a2 a3 a4 a5 a6 a7 a8 a9 a10 a11 a12 a13 : Value} {st : List Value} {hp : qzH} : qzV d 64 34 [a0, a1, a2, a3, a4, a5, a6, a7, a8, a9, a10, a11, a12, a13] (st) hp = qzV d 64 35 [a0, a1, a2, a3, a4, a5, a6, a7, a8, a9, a10, a11, a12, a13] (.int 1 :: st) hp := qv_iconst mdc_64 dX2_raiseRow_34 il_1 rfl
theorem eX2_raiseRow_35 {d : Nat} {a0 a1 a2 a3 a4 a5 a6 a7 a8 a9 a10 a11 a12 a13 : Value} {x y : Int32} {st : List Value} {hp : qzH} : qzV d 64 35 [a0, a1, a2, a3, a4, a5, a6, a7, a8, a9, a10, a11, a12, a13] (.int y :: .int x :: st) hp = qzV d 64 36 [a0, a1, a2, a3, a4, a5, a6, a7, a8, a9, a10, a11, a12, a13] (.int (x - y) :: st) hp := qv_bin (f := fun x y => x - y) mdc_64 dX2_raiseRow_35 rfl rfl
theorem eX2_raiseRow_36 {d : Nat} {a0 a1 a2 a3 a4 a5 a6 a7 a8 a9 a10 a11 a12 a13 : Value} {w0 w1 : Value} {st : List Value} {hp : qzH} (h8 : st.length ≤ 8) : qzV (d + 1) 64 36 [a0, a1, a2, a3, a4, a5, a6, a7, a8, a9, a10, a11, a12, a13] (w1 :: w0 :: st) hp = (qzC d 84 [w0, w1] hp).bind (fun r => qzV (d + 1) 64 39 [a0, a1, a2, a3, a4, a5, a6, a7, a8, a9, a10, a11, a12, a13] (r.1.toList ++ st) r.2) := qv_calls (n := 2) mdc_64 dX2_raiseRow_36 mdo_64 (by decide) qfc_2_72 ⟨rfl, by decide, rfl⟩ rfl ⟨rfl, rfl, by simp only [List.length_cons]; omega⟩ h8
theorem eX2_raiseRow_39 {d : Nat} {a0 a1 a2 a3 a4 a5 a6 a7 a8 a9 a10 a11 a12 a13 : Value} {x : Int32} {st : List Value} {hp : qzH} : qzV d 64 39 [a0, a1, a2, a3, a4, a5, a6, a7, a8, a9, a10, a11, a12, a13] (.int x :: st) hp = qzV d 64 41 [a0, a1, a2, a3, a4, a5, a6, .int x, a8, a9, a10, a11, a12, a13] (st) hp := qv_istore (i := 7) mdc_64 dX2_raiseRow_39 rfl (Nat.le_of_ble_eq_true rfl) rfl rfl
theorem eX2_raiseRow_41 {d : Nat} {a0 a1 a2 a3 a5 a6 a7 a8 a9 a10 a11 a12 a13 : Value} {x : Int32} {st : List Value} {hp : qzH} : qzV d 64 41 [a0, a1, a2, a3, .int x, a5, a6, a7, a8, a9, a10, a11, a12, a13] (st) hp = qzV d 64 43 [a0, a1, a2, a3, .int x, a5, a6, a7, a8, a9, a10, a11, a12, a13] (.int x :: st) hp := qv_iload (i := 4) mdc_64 dX2_raiseRow_41 rfl rfl rfl
theorem eX2_raiseRow_43 {d : Nat} {a1 a2 a3 a4 a5 a6 a7 a8 a9 a10 a11 a12 a13 : Value} {x : Nat} {st : List Value} {hp : qzH} : qzV d 64 43 [.ref x, a1, a2, a3, a4, a5, a6, a7, a8, a9, a10, a11, a12, a13] (st) hp = qzV d 64 44 [.ref x, a1, a2, a3, a4, a5, a6, a7, a8, a9, a10, a11, a12, a13] (.ref x :: st) hp := qv_aload (i := 0) mdc_64 dX2_raiseRow_43 rfl rfl rfl
theorem eX2_raiseRow_44 {d : Nat} {a0 a1 a2 a3 a4 a5 a6 a7 a8 a9 a10 a11 a12 a13 : Value} {a : Nat} {st : List Value} {hp : qzH} (ha : qzArr 1 a hp.1 = true) : qzV d 64 44 [a0, a1, a2, a3, a4, a5, a6, a7, a8, a9, a10, a11, a12, a13] (.ref a :: st) hp = qzV d 64 47 [a0, a1, a2, a3, a4, a5, a6, a7, a8, a9, a10, a11, a12, a13] (va_rf (hp.2.1 a 0) :: st) hp := qv_getR mdc_64 dX2_raiseRow_44 mdo_64 qff_2_249 ⟨by decide, rfl⟩ rfl ha
theorem eX2_raiseRow_47 {d : Nat} {a0 a1 a2 a3 a4 a6 a7 a8 a9 a10 a11 a12 a13 : Value} {x : Int32} {st : List Value} {hp : qzH} : qzV d 64 47 [a0, a1, a2, a3, a4, .int x, a6, a7, a8, a9, a10, a11, a12, a13] (st) hp = qzV d 64 49 [a0, a1, a2, a3, a4, .int x, a6, a7, a8, a9, a10, a11, a12, a13] (.int x :: st) hp := qv_iload (i := 5) mdc_64 dX2_raiseRow_47 rfl rfl rfl
theorem eX2_raiseRow_49 {d : Nat} {a0 a1 a2 a3 a5 a6 a7 a8 a9 a10 a11 a12 a13 : Value} {x : Int32} {st : List Value} {hp : qzH} : qzV d 64 49 [a0, a1, a2, a3, .int x, a5, a6, a7, a8, a9, a10, a11, a12, a13] (st) hp = qzV d 64 51 [a0, a1, a2, a3, .int x, a5, a6, a7, a8, a9, a10, a11, a12, a13] (.int x :: st) hp := qv_iload (i := 4) mdc_64 dX2_raiseRow_49 rfl rfl rfl
theorem eX2_raiseRow_51 {d : Nat} {a0 a1 a2 a3 a4 a5 a6 a7 a8 a9 a10 a11 a12 a13 : Value} {st : List Value} {hp : qzH} : qzV d 64 51 [a0, a1, a2, a3, a4, a5, a6, a7, a8, a9, a10, a11, a12, a13] (st) hp = qzV d 64 53 [a0, a1, a2, a3, a4, a5, a6, a7, a8, a9, a10, a11, a12, a13] (.int 6 :: st) hp := qv_bipush mdc_64 dX2_raiseRow_51 ib_6 rfl
theorem eX2_raiseRow_53 {d : Nat} {a0 a1 a2 a3 a4 a5 a6 a7 a8 a9 a10 a11 a12 a13 : Value} {w0 w1 w2 w3 : Value} {st : List Value} {hp : qzH} (h8 : st.length ≤ 8) : qzV (d + 1) 64 53 [a0, a1, a2, a3, a4, a5, a6, a7, a8, a9, a10, a11, a12, a13] (w3 :: w2 :: w1 :: w0 :: st) hp = (qzC d 69 [w0, w1, w2, w3] hp).bind (fun r => qzV (d + 1) 64 56 [a0, a1, a2, a3, a4, a5, a6, a7, a8, a9, a10, a11, a12, a13] (r.1.toList ++ st) r.2) := qv_calls (n := 4) mdc_64 dX2_raiseRow_53 mdo_64 (by decide) qfc_2_250 ⟨rfl, by decide, rfl⟩ rfl ⟨rfl, rfl, by simp only [List.length_cons]; omega⟩ h8
theorem eX2_raiseRow_56 {d : Nat} {a1 a2 a3 a4 a5 a6 a7 a8 a9 a10 a11 a12 a13 : Value} {x : Nat} {st : List Value} {hp : qzH} : qzV d 64 56 [.ref x, a1, a2, a3, a4, a5, a6, a7, a8, a9, a10, a11, a12, a13] (st) hp = qzV d 64 57 [.ref x, a1, a2, a3, a4, a5, a6, a7, a8, a9, a10, a11, a12, a13] (.ref x :: st) hp := qv_aload (i := 0) mdc_64 dX2_raiseRow_56 rfl rfl rfl
theorem eX2_raiseRow_57 {d : Nat} {a0 a1 a2 a3 a4 a5 a6 a7 a8 a9 a10 a11 a12 a13 : Value} {a : Nat} {st : List Value} {hp : qzH} (ha : qzArr 1 a hp.1 = true) : qzV d 64 57 [a0, a1, a2, a3, a4, a5, a6, a7, a8, a9, a10, a11, a12, a13] (.ref a :: st) hp = qzV d 64 60 [a0, a1, a2, a3, a4, a5, a6, a7, a8, a9, a10, a11, a12, a13] (va_rf (hp.2.1 a 1) :: st) hp := qv_getR mdc_64 dX2_raiseRow_57 mdo_64 qff_2_240 ⟨by decide, rfl⟩ rfl ha
theorem eX2_raiseRow_60 {d : Nat} {a0 a1 a2 a3 a4 a5 a6 a7 a8 a9 a10 a11 a12 a13 : Value} {w0 w1 w2 : Value} {st : List Value} {hp : qzH} (h8 : st.length ≤ 8) : qzV (d + 1) 64 60 [a0, a1, a2, a3, a4, a5, a6, a7, a8, a9, a10, a11, a12, a13] (w2 :: w1 :: w0 :: st) hp = (qzC d 70 [w0, w1, w2] hp).bind (fun r => qzV (d + 1) 64 63 [a0, a1, a2, a3, a4, a5, a6, a7, a8, a9, a10, a11, a12, a13] (r.1.toList ++ st) r.2) := qv_calls (n := 3) mdc_64 dX2_raiseRow_60 mdo_64 (by decide) qfc_2_254 ⟨rfl, by decide, rfl⟩ rfl ⟨rfl, rfl, by simp only [List.length_cons]; omega⟩ h8
theorem eX2_raiseRow_63 {d : Nat} {a0 a1 a2 a3 a4 a5 a6 a7 a8 a9 a10 a11 a12 a13 : Value} {x : Int32} {st : List Value} {hp : qzH} : qzV d 64 63 [a0, a1, a2, a3, a4, a5, a6, a7, a8, a9, a10, a11, a12, a13] (.int x :: st) hp = qzV d 64 65 [a0, a1, a2, a3, a4, a5, a6, a7, .int x, a9, a10, a11, a12, a13] (st) hp := qv_istore (i := 8) mdc_64 dX2_raiseRow_63 rfl (Nat.le_of_ble_eq_true rfl) rfl rfl
theorem eX2_raiseRow_65 {d : Nat} {a0 a1 a2 a3 a5 a6 a7 a8 a9 a10 a11 a12 a13 : Value} {x : Int32} {st : List Value} {hp : qzH} : qzV d 64 65 [a0, a1, a2, a3, .int x, a5, a6, a7, a8, a9, a10, a11, a12, a13] (st) hp = qzV d 64 67 [a0, a1, a2, a3, .int x, a5, a6, a7, a8, a9, a10, a11, a12, a13] (.int x :: st) hp := qv_iload (i := 4) mdc_64 dX2_raiseRow_65 rfl rfl rfl
theorem eX2_raiseRow_67 {d : Nat} {a1 a2 a3 a4 a5 a6 a7 a8 a9 a10 a11 a12 a13 : Value} {x : Nat} {st : List Value} {hp : qzH} : qzV d 64 67 [.ref x, a1, a2, a3, a4, a5, a6, a7, a8, a9, a10, a11, a12, a13] (st) hp = qzV d 64 68 [.ref x, a1, a2, a3, a4, a5, a6, a7, a8, a9, a10, a11, a12, a13] (.ref x :: st) hp := qv_aload (i := 0) mdc_64 dX2_raiseRow_67 rfl rfl rfl
theorem eX2_raiseRow_68 {d : Nat} {a0 a1 a2 a3 a4 a5 a6 a7 a8 a9 a10 a11 a12 a13 : Value} {a : Nat} {st : List Value} {hp : qzH} (ha : qzArr 1 a hp.1 = true) : qzV d 64 68 [a0, a1, a2, a3, a4, a5, a6, a7, a8, a9, a10, a11, a12, a13] (.ref a :: st) hp = qzV d 64 71 [a0, a1, a2, a3, a4, a5, a6, a7, a8, a9, a10, a11, a12, a13] (va_rf (hp.2.1 a 0) :: st) hp := qv_getR mdc_64 dX2_raiseRow_68 mdo_64 qff_2_249 ⟨by decide, rfl⟩ rfl ha
theorem eX2_raiseRow_71 {d : Nat} {a0 a1 a2 a3 a4 a6 a7 a8 a9 a10 a11 a12 a13 : Value} {x : Int32} {st : List Value} {hp : qzH} : qzV d 64 71 [a0, a1, a2, a3, a4, .int x, a6, a7, a8, a9, a10, a11, a12, a13] (st) hp = qzV d 64 73 [a0, a1, a2, a3, a4, .int x, a6, a7, a8, a9, a10, a11, a12, a13] (.int x :: st) hp := qv_iload (i := 5) mdc_64 dX2_raiseRow_71 rfl rfl rfl
theorem eX2_raiseRow_73 {d : Nat} {a0 a1 a2 a3 a5 a6 a7 a8 a9 a10 a11 a12 a13 : Value} {x : Int32} {st : List Value} {hp : qzH} : qzV d 64 73 [a0, a1, a2, a3, .int x, a5, a6, a7, a8, a9, a10, a11, a12, a13] (st) hp = qzV d 64 75 [a0, a1, a2, a3, .int x, a5, a6, a7, a8, a9, a10, a11, a12, a13] (.int x :: st) hp := qv_iload (i := 4) mdc_64 dX2_raiseRow_73 rfl rfl rfl
theorem eX2_raiseRow_75 {d : Nat} {a0 a1 a2 a3 a4 a5 a7 a8 a9 a10 a11 a12 a13 : Value} {x : Int32} {st : List Value} {hp : qzH} : qzV d 64 75 [a0, a1, a2, a3, a4, a5, .int x, a7, a8, a9, a10, a11, a12, a13] (st) hp = qzV d 64 77 [a0, a1, a2, a3, a4, a5, .int x, a7, a8, a9, a10, a11, a12, a13] (.int x :: st) hp := qv_iload (i := 6) mdc_64 dX2_raiseRow_75 rfl rfl rfl
theorem eX2_raiseRow_77 {d : Nat} {a0 a1 a2 a3 a4 a5 a6 a7 a8 a9 a10 a11 a12 a13 : Value} {w0 w1 w2 w3 : Value} {st : List Value} {hp : qzH} (h8 : st.length ≤ 8) : qzV (d + 1) 64 77 [a0, a1, a2, a3, a4, a5, a6, a7, a8, a9, a10, a11, a12, a13] (w3 :: w2 :: w1 :: w0 :: st) hp = (qzC d 69 [w0, w1, w2, w3] hp).bind (fun r => qzV (d + 1) 64 80 [a0, a1, a2, a3, a4, a5, a6, a7, a8, a9, a10, a11, a12, a13] (r.1.toList ++ st) r.2) := qv_calls (n := 4) mdc_64 dX2_raiseRow_77 mdo_64 (by decide) qfc_2_250 ⟨rfl, by decide, rfl⟩ rfl ⟨rfl, rfl, by simp only [List.length_cons]; omega⟩ h8
theorem eX2_raiseRow_80 {d : Nat} {a1 a2 a3 a4 a5 a6 a7 a8 a9 a10 a11 a12 a13 : Value} {x : Nat} {st : List Value} {hp : qzH} : qzV d 64 80 [.ref x, a1, a2, a3, a4, a5, a6, a7, a8, a9, a10, a11, a12, a13] (st) hp = qzV d 64 81 [.ref x, a1, a2, a3, a4, a5, a6, a7, a8, a9, a10, a11, a12, a13] (.ref x :: st) hp := qv_aload (i := 0) mdc_64 dX2_raiseRow_80 rfl rfl rfl
theorem eX2_raiseRow_81 {d : Nat} {a0 a1 a2 a3 a4 a5 a6 a7 a8 a9 a10 a11 a12 a13 : Value} {a : Nat} {st : List Value} {hp : qzH} (ha : qzArr 1 a hp.1 = true) : qzV d 64 81 [a0, a1, a2, a3, a4, a5, a6, a7, a8, a9, a10, a11, a12, a13] (.ref a :: st) hp = qzV d 64 84 [a0, a1, a2, a3, a4, a5, a6, a7, a8, a9, a10, a11, a12, a13] (va_rf (hp.2.1 a 1) :: st) hp := qv_getR mdc_64 dX2_raiseRow_81 mdo_64 qff_2_240 ⟨by decide, rfl⟩ rfl ha
theorem eX2_raiseRow_84 {d : Nat} {a0 a1 a2 a3 a4 a5 a6 a7 a8 a9 a10 a11 a12 a13 : Value} {w0 w1 w2 : Value} {st : List Value} {hp : qzH} (h8 : st.length ≤ 8) : qzV (d + 1) 64 84 [a0, a1, a2, a3, a4, a5, a6, a7, a8, a9, a10, a11, a12, a13] (w2 :: w1 :: w0 :: st) hp = (qzC d 70 [w0, w1, w2] hp).bind (fun r => qzV (d + 1) 64 87 [a0, a1, a2, a3, a4, a5, a6, a7, a8, a9, a10, a11, a12, a13] (r.1.toList ++ st) r.2) := qv_calls (n := 3) mdc_64 dX2_raiseRow_84 mdo_64 (by decide) qfc_2_254 ⟨rfl, by decide, rfl⟩ rfl ⟨rfl, rfl, by simp only [List.length_cons]; omega⟩ h8
theorem eX2_raiseRow_87 {d : Nat} {a0 a1 a2 a3 a4 a5 a6 a7 a8 a9 a10 a11 a12 a13 : Value} {x : Int32} {st : List Value} {hp : qzH} : qzV d 64 87 [a0, a1, a2, a3, a4, a5, a6, a7, a8, a9, a10, a11, a12, a13] (.int x :: st) hp = qzV d 64 89 [a0, a1, a2, a3, a4, a5, a6, a7, a8, .int x, a10, a11, a12, a13] (st) hp := qv_istore (i := 9) mdc_64 dX2_raiseRow_87 rfl (Nat.le_of_ble_eq_true rfl) rfl rfl
theorem eX2_raiseRow_89 {d : Nat} {a0 a1 a2 a3 a4 a5 a6 a7 a8 a9 a10 a11 a12 a13 : Value} {st : List Value} {hp : qzH} : qzV d 64 89 [a0, a1, a2, a3, a4, a5, a6, a7, a8, a9, a10, a11, a12, a13] (st) hp = qzV d 64 90 [a0, a1, a2, a3, a4, a5, a6, a7, a8, a9, a10, a11, a12, a13] (.int 0 :: st) hp := qv_iconst mdc_64 dX2_raiseRow_89 il_0 rfl
theorem eX2_raiseRow_90 {d : Nat} {a0 a1 a2 a3 a4 a5 a6 a7 a8 a9 a10 a11 a12 a13 : Value} {x : Int32} {st : List Value} {hp : qzH} : qzV d 64 90 [a0, a1, a2, a3, a4, a5, a6, a7, a8, a9, a10, a11, a12, a13] (.int x :: st) hp = qzV d 64 92 [a0, a1, a2, a3, a4, a5, a6, a7, a8, a9, .int x, a11, a12, a13] (st) hp := qv_istore (i := 10) mdc_64 dX2_raiseRow_90 rfl (Nat.le_of_ble_eq_true rfl) rfl rfl
theorem eX2_raiseRow_92 {d : Nat} {a0 a1 a2 a3 a4 a5 a6 a7 a8 a9 a11 a12 a13 : Value} {x : Int32} {st : List Value} {hp : qzH} : qzV d 64 92 [a0, a1, a2, a3, a4, a5, a6, a7, a8, a9, .int x, a11, a12, a13] (st) hp = qzV d 64 94 [a0, a1, a2, a3, a4, a5, a6, a7, a8, a9, .int x, a11, a12, a13] (.int x :: st) hp := qv_iload (i := 10) mdc_64 dX2_raiseRow_92 rfl rfl rfl
theorem eX2_raiseRow_94 {d : Nat} {a0 a1 a2 a3 a4 a5 a6 a7 a8 a9 a10 a11 a12 a13 : Value} {st : List Value} {hp : qzH} : qzV d 64 94 [a0, a1, a2, a3, a4, a5, a6, a7, a8, a9, a10, a11, a12, a13] (st) hp = qzV d 64 96 [a0, a1, a2, a3, a4, a5, a6, a7, a8, a9, a10, a11, a12, a13] (.int 7 :: st) hp := qv_bipush mdc_64 dX2_raiseRow_94 ib_7 rfl
theorem eX2_raiseRow_96 {d : Nat} {a0 a1 a2 a3 a4 a5 a6 a7 a8 a9 a10 a11 a12 a13 : Value} {x y : Int32} {st : List Value} {hp : qzH} : qzV d 64 96 [a0, a1, a2, a3, a4, a5, a6, a7, a8, a9, a10, a11, a12, a13] (.int y :: .int x :: st) hp = if y ≤ x then qzV d 64 187 [a0, a1, a2, a3, a4, a5, a6, a7, a8, a9, a10, a11, a12, a13] (st) hp else qzV d 64 99 [a0, a1, a2, a3, a4, a5, a6, a7, a8, a9, a10, a11, a12, a13] (st) hp := qv_if2 mdc_64 dX2_raiseRow_96 rfl rfl rfl
theorem eX2_raiseRow_99 {d : Nat} {a1 a2 a3 a4 a5 a6 a7 a8 a9 a10 a11 a12 a13 : Value} {x : Nat} {st : List Value} {hp : qzH} : qzV d 64 99 [.ref x, a1, a2, a3, a4, a5, a6, a7, a8, a9, a10, a11, a12, a13] (st) hp = qzV d 64 100 [.ref x, a1, a2, a3, a4, a5, a6, a7, a8, a9, a10, a11, a12, a13] (.ref x :: st) hp := qv_aload (i := 0) mdc_64 dX2_raiseRow_99 rfl rfl rfl
theorem eX2_raiseRow_100 {d : Nat} {a0 a2 a3 a4 a5 a6 a7 a8 a9 a10 a11 a12 a13 : Value} {x : Int32} {st : List Value} {hp : qzH} : qzV d 64 100 [a0, .int x, a2, a3, a4, a5, a6, a7, a8, a9, a10, a11, a12, a13] (st) hp = qzV d 64 101 [a0, .int x, a2, a3, a4, a5, a6, a7, a8, a9, a10, a11, a12, a13] (.int x :: st) hp := qv_iload (i := 1) mdc_64 dX2_raiseRow_100 rfl rfl rfl
theorem eX2_raiseRow_101 {d : Nat} {a0 a1 a2 a4 a5 a6 a7 a8 a9 a10 a11 a12 a13 : Value} {x : Int32} {st : List Value} {hp : qzH} : qzV d 64 101 [a0, a1, a2, .int x, a4, a5, a6, a7, a8, a9, a10, a11, a12, a13] (st) hp = qzV d 64 102 [a0, a1, a2, .int x, a4, a5, a6, a7, a8, a9, a10, a11, a12, a13] (.int x :: st) hp := qv_iload (i := 3) mdc_64 dX2_raiseRow_101 rfl rfl rfl
theorem eX2_raiseRow_102 {d : Nat} {a0 a1 a2 a3 a4 a5 a6 a7 a8 a9 a10 a11 a12 a13 : Value} {w0 w1 : Value} {st : List Value} {hp : qzH} (h8 : st.length ≤ 8) : qzV (d + 1) 64 102 [a0, a1, a2, a3, a4, a5, a6, a7, a8, a9, a10, a11, a12, a13] (w1 :: w0 :: st) hp = (qzC d 57 [w0, w1] hp).bind (fun r => qzV (d + 1) 64 105 [a0, a1, a2, a3, a4, a5, a6, a7, a8, a9, a10, a11, a12, a13] (r.1.toList ++ st) r.2) := qv_calls (n := 2) mdc_64 dX2_raiseRow_102 mdo_64 (by decide) qfc_2_258 ⟨rfl, by decide, rfl⟩ rfl ⟨rfl, rfl, by simp only [List.length_cons]; omega⟩ h8
theorem eX2_raiseRow_105 {d : Nat} {a0 a1 a3 a4 a5 a6 a7 a8 a9 a10 a11 a12 a13 : Value} {x : Int32} {st : List Value} {hp : qzH} : qzV d 64 105 [a0, a1, .int x, a3, a4, a5, a6, a7, a8, a9, a10, a11, a12, a13] (st) hp = qzV d 64 106 [a0, a1, .int x, a3, a4, a5, a6, a7, a8, a9, a10, a11, a12, a13] (.int x :: st) hp := qv_iload (i := 2) mdc_64 dX2_raiseRow_105 rfl rfl rfl
theorem eX2_raiseRow_106 {d : Nat} {a0 a1 a2 a4 a5 a6 a7 a8 a9 a10 a11 a12 a13 : Value} {x : Int32} {st : List Value} {hp : qzH} : qzV d 64 106 [a0, a1, a2, .int x, a4, a5, a6, a7, a8, a9, a10, a11, a12, a13] (st) hp = qzV d 64 107 [a0, a1, a2, .int x, a4, a5, a6, a7, a8, a9, a10, a11, a12, a13] (.int x :: st) hp := qv_iload (i := 3) mdc_64 dX2_raiseRow_106 rfl rfl rfl
theorem eX2_raiseRow_107 {d : Nat} {a0 a1 a2 a3 a4 a5 a6 a7 a8 a9 a10 a11 a12 a13 : Value} {w0 w1 : Value} {st : List Value} {hp : qzH} (h8 : st.length ≤ 8) : qzV (d + 1) 64 107 [a0, a1, a2, a3, a4, a5, a6, a7, a8, a9, a10, a11, a12, a13] (w1 :: w0 :: st) hp = (qzC d 58 [w0, w1] hp).bind (fun r => qzV (d + 1) 64 110 [a0, a1, a2, a3, a4, a5, a6, a7, a8, a9, a10, a11, a12, a13] (r.1.toList ++ st) r.2) := qv_calls (n := 2) mdc_64 dX2_raiseRow_107 mdo_64 (by decide) qfc_2_261 ⟨rfl, by decide, rfl⟩ rfl ⟨rfl, rfl, by simp only [List.length_cons]; omega⟩ h8
theorem eX2_raiseRow_110 {d : Nat} {a0 a1 a2 a3 a4 a5 a6 a7 a8 a9 a11 a12 a13 : Value} {x : Int32} {st : List Value} {hp : qzH} : qzV d 64 110 [a0, a1, a2, a3, a4, a5, a6, a7, a8, a9, .int x, a11, a12, a13] (st) hp = qzV d 64 112 [a0, a1, a2, a3, a4, a5, a6, a7, a8, a9, .int x, a11, a12, a13] (.int x :: st) hp := qv_iload (i := 10) mdc_64 dX2_raiseRow_110 rfl rfl rfl
theorem eX2_raiseRow_112 {d : Nat} {a0 a1 a2 a3 a4 a5 a6 a8 a9 a10 a11 a12 a13 : Value} {x : Int32} {st : List Value} {hp : qzH} : qzV d 64 112 [a0, a1, a2, a3, a4, a5, a6, .int x, a8, a9, a10, a11, a12, a13] (st) hp = qzV d 64 114 [a0, a1, a2, a3, a4, a5, a6, .int x, a8, a9, a10, a11, a12, a13] (.int x :: st) hp := qv_iload (i := 7) mdc_64 dX2_raiseRow_112 rfl rfl rfl
theorem eX2_raiseRow_114 {d : Nat} {a0 a1 a2 a3 a4 a5 a6 a7 a8 a9 a10 a11 a12 a13 : Value} {w0 w1 w2 w3 : Value} {b : Nat} {st : List Value} {hp : qzH} (h8 : st.length ≤ 8) (hb : qzArr 1 b hp.1 = true) : qzV (d + 1) 64 114 [a0, a1, a2, a3, a4, a5, a6, a7, a8, a9, a10, a11, a12, a13] (w3 :: w2 :: w1 :: w0 :: .ref b :: st) hp = (qzC d 21 (.ref b :: [w0, w1, w2, w3]) hp).bind (fun r => qzV (d + 1) 64 117 [a0, a1, a2, a3, a4, a5, a6, a7, a8, a9, a10, a11, a12, a13] (r.1.toList ++ st) r.2) := qv_callv (n := 4) mdc_64 dX2_raiseRow_114 mdo_64 (by decide) qfc_2_232 ⟨rfl, by decide, rfl⟩ rfl ⟨rfl, rfl, by simp only [List.length_cons]; omega⟩ h8 hb
theorem eX2_raiseRow_117 {d : Nat} {a0 a1 a2 a3 a4 a5 a6 a7 a8 a9 a10 a11 a12 a13 : Value} {x : Int32} {st : List Value} {hp : qzH} : qzV d 64 117 [a0, a1, a2, a3, a4, a5, a6, a7, a8, a9, a10, a11, a12, a13] (.int x :: st) hp = qzV d 64 119 [a0, a1, a2, a3, a4, a5, a6, a7, a8, a9, a10, .int x, a12, a13] (st) hp := qv_istore (i := 11) mdc_64 dX2_raiseRow_117 rfl (Nat.le_of_ble_eq_true rfl) rfl rfl
theorem eX2_raiseRow_119 {d : Nat} {a0 a1 a2 a3 a4 a5 a6 a7 a8 a9 a10 a11 a12 a13 : Value} {st : List Value} {hp : qzH} : qzV d 64 119 [a0, a1, a2, a3, a4, a5, a6, a7, a8, a9, a10, a11, a12, a13] (st) hp = qzV d 64 120 [a0, a1, a2, a3, a4, a5, a6, a7, a8, a9, a10, a11, a12, a13] (.int 0 :: st) hp := qv_iconst mdc_64 dX2_raiseRow_119 il_0 rfl
theorem eX2_raiseRow_120 {d : Nat} {a0 a1 a2 a3 a4 a5 a6 a7 a8 a9 a10 a11 a12 a13 : Value} {x : Int32} {st : List Value} {hp : qzH} : qzV d 64 120 [a0, a1, a2, a3, a4, a5, a6, a7, a8, a9, a10, a11, a12, a13] (.int x :: st) hp = qzV d 64 122 [a0, a1, a2, a3, a4, a5, a6, a7, a8, a9, a10, a11, .int x, a13] (st) hp := qv_istore (i := 12) mdc_64 dX2_raiseRow_120 rfl (Nat.le_of_ble_eq_true rfl) rfl rfl
theorem eX2_raiseRow_122 {d : Nat} {a0 a1 a2 a3 a4 a5 a6 a7 a8 a9 a10 a11 a13 : Value} {x : Int32} {st : List Value} {hp : qzH} : qzV d 64 122 [a0, a1, a2, a3, a4, a5, a6, a7, a8, a9, a10, a11, .int x, a13] (st) hp = qzV d 64 124 [a0, a1, a2, a3, a4, a5, a6, a7, a8, a9, a10, a11, .int x, a13] (.int x :: st) hp := qv_iload (i := 12) mdc_64 dX2_raiseRow_122 rfl rfl rfl
theorem eX2_raiseRow_124 {d : Nat} {a0 a1 a2 a3 a4 a5 a6 a7 a8 a9 a10 a11 a12 a13 : Value} {st : List Value} {hp : qzH} : qzV d 64 124 [a0, a1, a2, a3, a4, a5, a6, a7, a8, a9, a10, a11, a12, a13] (st) hp = qzV d 64 126 [a0, a1, a2, a3, a4, a5, a6, a7, a8, a9, a10, a11, a12, a13] (.int 7 :: st) hp := qv_bipush mdc_64 dX2_raiseRow_124 ib_7 rfl
theorem eX2_raiseRow_126 {d : Nat} {a0 a1 a2 a3 a4 a5 a6 a7 a8 a9 a10 a11 a12 a13 : Value} {x y : Int32} {st : List Value} {hp : qzH} : qzV d 64 126 [a0, a1, a2, a3, a4, a5, a6, a7, a8, a9, a10, a11, a12, a13] (.int y :: .int x :: st) hp = if y ≤ x then qzV d 64 181 [a0, a1, a2, a3, a4, a5, a6, a7, a8, a9, a10, a11, a12, a13] (st) hp else qzV d 64 129 [a0, a1, a2, a3, a4, a5, a6, a7, a8, a9, a10, a11, a12, a13] (st) hp := qv_if2 mdc_64 dX2_raiseRow_126 rfl rfl rfl
theorem eX2_raiseRow_129 {d : Nat} {a0 a1 a2 a3 a4 a5 a6 a7 a8 a9 a10 a11 a13 : Value} {x : Int32} {st : List Value} {hp : qzH} : qzV d 64 129 [a0, a1, a2, a3, a4, a5, a6, a7, a8, a9, a10, a11, .int x, a13] (st) hp = qzV d 64 131 [a0, a1, a2, a3, a4, a5, a6, a7, a8, a9, a10, a11, .int x, a13] (.int x :: st) hp := qv_iload (i := 12) mdc_64 dX2_raiseRow_129 rfl rfl rfl
theorem eX2_raiseRow_131 {d : Nat} {a0 a1 a2 a3 a4 a5 a7 a8 a9 a10 a11 a12 a13 : Value} {x : Int32} {st : List Value} {hp : qzH} : qzV d 64 131 [a0, a1, a2, a3, a4, a5, .int x, a7, a8, a9, a10, a11, a12, a13] (st) hp = qzV d 64 133 [a0, a1, a2, a3, a4, a5, .int x, a7, a8, a9, a10, a11, a12, a13] (.int x :: st) hp := qv_iload (i := 6) mdc_64 dX2_raiseRow_131 rfl rfl rfl
theorem eX2_raiseRow_133 {d : Nat} {a0 a1 a2 a3 a4 a5 a6 a7 a8 a9 a10 a11 a12 a13 : Value} {x y : Int32} {st : List Value} {hp : qzH} : qzV d 64 133 [a0, a1, a2, a3, a4, a5, a6, a7, a8, a9, a10, a11, a12, a13] (.int y :: .int x :: st) hp = if ¬ x = y then qzV d 64 141 [a0, a1, a2, a3, a4, a5, a6, a7, a8, a9, a10, a11, a12, a13] (st) hp else qzV d 64 136 [a0, a1, a2, a3, a4, a5, a6, a7, a8, a9, a10, a11, a12, a13] (st) hp := qv_if2 mdc_64 dX2_raiseRow_133 rfl rfl rfl
theorem eX2_raiseRow_136 {d : Nat} {a0 a1 a2 a3 a4 a5 a6 a7 a8 a10 a11 a12 a13 : Value} {x : Int32} {st : List Value} {hp : qzH} : qzV d 64 136 [a0, a1, a2, a3, a4, a5, a6, a7, a8, .int x, a10, a11, a12, a13] (st) hp = qzV d 64 138 [a0, a1, a2, a3, a4, a5, a6, a7, a8, .int x, a10, a11, a12, a13] (.int x :: st) hp := qv_iload (i := 9) mdc_64 dX2_raiseRow_136 rfl rfl rfl
theorem eX2_raiseRow_138 {d : Nat} {a0 a1 a2 a3 a4 a5 a6 a7 a8 a9 a10 a11 a12 a13 : Value} {st : List Value} {hp : qzH} : qzV d 64 138 [a0, a1, a2, a3, a4, a5, a6, a7, a8, a9, a10, a11, a12, a13] (st) hp = qzV d 64 143 [a0, a1, a2, a3, a4, a5, a6, a7, a8, a9, a10, a11, a12, a13] (st) hp := qv_goto mdc_64 dX2_raiseRow_138 rfl
theorem eX2_raiseRow_141 {d : Nat} {a0 a1 a2 a3 a4 a5 a6 a7 a9 a10 a11 a12 a13 : Value} {x : Int32} {st : List Value} {hp : qzH} : qzV d 64 141 [a0, a1, a2, a3, a4, a5, a6, a7, .int x, a9, a10, a11, a12, a13] (st) hp = qzV d 64 143 [a0, a1, a2, a3, a4, a5, a6, a7, .int x, a9, a10, a11, a12, a13] (.int x :: st) hp := qv_iload (i := 8) mdc_64 dX2_raiseRow_141 rfl rfl rfl
theorem eX2_raiseRow_143 {d : Nat} {a0 a1 a2 a3 a4 a5 a6 a7 a8 a9 a10 a12 a13 : Value} {x : Int32} {st : List Value} {hp : qzH} : qzV d 64 143 [a0, a1, a2, a3, a4, a5, a6, a7, a8, a9, a10, .int x, a12, a13] (st) hp = qzV d 64 145 [a0, a1, a2, a3, a4, a5, a6, a7, a8, a9, a10, .int x, a12, a13] (.int x :: st) hp := qv_iload (i := 11) mdc_64 dX2_raiseRow_143 rfl rfl rfl
theorem eX2_raiseRow_145 {d : Nat} {a0 a1 a2 a3 a4 a5 a6 a7 a8 a9 a10 a11 a12 a13 : Value} {x y : Int32} {st : List Value} {hp : qzH} : qzV d 64 145 [a0, a1, a2, a3, a4, a5, a6, a7, a8, a9, a10, a11, a12, a13] (.int y :: .int x :: st) hp = qzV d 64 146 [a0, a1, a2, a3, a4, a5, a6, a7, a8, a9, a10, a11, a12, a13] (.int (x - y) :: st) hp := qv_bin (f := fun x y => x - y) mdc_64 dX2_raiseRow_145 rfl rfl
theorem eX2_raiseRow_146 {d : Nat} {a0 a1 a2 a3 a4 a5 a6 a7 a8 a9 a10 a11 a12 a13 : Value} {x : Int32} {st : List Value} {hp : qzH} : qzV d 64 146 [a0, a1, a2, a3, a4, a5, a6, a7, a8, a9, a10, a11, a12, a13] (.int x :: st) hp = qzV d 64 148 [a0, a1, a2, a3, a4, a5, a6, a7, a8, a9, a10, a11, a12, .int x] (st) hp := qv_istore (i := 13) mdc_64 dX2_raiseRow_146 rfl (Nat.le_of_ble_eq_true rfl) rfl rfl
theorem eX2_raiseRow_148 {d : Nat} {a0 a1 a2 a3 a4 a5 a6 a7 a8 a9 a10 a11 a12 : Value} {x : Int32} {st : List Value} {hp : qzH} : qzV d 64 148 [a0, a1, a2, a3, a4, a5, a6, a7, a8, a9, a10, a11, a12, .int x] (st) hp = qzV d 64 150 [a0, a1, a2, a3, a4, a5, a6, a7, a8, a9, a10, a11, a12, .int x] (.int x :: st) hp := qv_iload (i := 13) mdc_64 dX2_raiseRow_148 rfl rfl rfl
theorem eX2_raiseRow_150 {d : Nat} {a1 a2 a3 a4 a5 a6 a7 a8 a9 a10 a11 a12 a13 : Value} {x : Nat} {st : List Value} {hp : qzH} : qzV d 64 150 [.ref x, a1, a2, a3, a4, a5, a6, a7, a8, a9, a10, a11, a12, a13] (st) hp = qzV d 64 151 [.ref x, a1, a2, a3, a4, a5, a6, a7, a8, a9, a10, a11, a12, a13] (.ref x :: st) hp := qv_aload (i := 0) mdc_64 dX2_raiseRow_150 rfl rfl rfl
theorem eX2_raiseRow_151 {d : Nat} {a0 a2 a3 a4 a5 a6 a7 a8 a9 a10 a11 a12 a13 : Value} {x : Int32} {st : List Value} {hp : qzH} : qzV d 64 151 [a0, .int x, a2, a3, a4, a5, a6, a7, a8, a9, a10, a11, a12, a13] (st) hp = qzV d 64 152 [a0, .int x, a2, a3, a4, a5, a6, a7, a8, a9, a10, a11, a12, a13] (.int x :: st) hp := qv_iload (i := 1) mdc_64 dX2_raiseRow_151 rfl rfl rfl
theorem eX2_raiseRow_152 {d : Nat} {a0 a1 a3 a4 a5 a6 a7 a8 a9 a10 a11 a12 a13 : Value} {x : Int32} {st : List Value} {hp : qzH} : qzV d 64 152 [a0, a1, .int x, a3, a4, a5, a6, a7, a8, a9, a10, a11, a12, a13] (st) hp = qzV d 64 153 [a0, a1, .int x, a3, a4, a5, a6, a7, a8, a9, a10, a11, a12, a13] (.int x :: st) hp := qv_iload (i := 2) mdc_64 dX2_raiseRow_152 rfl rfl rfl
theorem eX2_raiseRow_153 {d : Nat} {a0 a1 a2 a3 a4 a5 a6 a7 a8 a9 a10 a11 a13 : Value} {x : Int32} {st : List Value} {hp : qzH} : qzV d 64 153 [a0, a1, a2, a3, a4, a5, a6, a7, a8, a9, a10, a11, .int x, a13] (st) hp = qzV d 64 155 [a0, a1, a2, a3, a4, a5, a6, a7, a8, a9, a10, a11, .int x, a13] (.int x :: st) hp := qv_iload (i := 12) mdc_64 dX2_raiseRow_153 rfl rfl rfl
theorem eX2_raiseRow_155 {d : Nat} {a0 a1 a2 a3 a4 a5 a6 a7 a8 a9 a11 a12 a13 : Value} {x : Int32} {st : List Value} {hp : qzH} : qzV d 64 155 [a0, a1, a2, a3, a4, a5, a6, a7, a8, a9, .int x, a11, a12, a13] (st) hp = qzV d 64 157 [a0, a1, a2, a3, a4, a5, a6, a7, a8, a9, .int x, a11, a12, a13] (.int x :: st) hp := qv_iload (i := 10) mdc_64 dX2_raiseRow_155 rfl rfl rfl
theorem eX2_raiseRow_157 {d : Nat} {a0 a1 a2 a3 a4 a5 a6 a7 a8 a9 a10 a11 a12 a13 : Value} {w0 w1 w2 w3 : Value} {b : Nat} {st : List Value} {hp : qzH} (h8 : st.length ≤ 8) (hb : qzArr 1 b hp.1 = true) : qzV (d + 1) 64 157 [a0, a1, a2, a3, a4, a5, a6, a7, a8, a9, a10, a11, a12, a13] (w3 :: w2 :: w1 :: w0 :: .ref b :: st) hp = (qzC d 21 (.ref b :: [w0, w1, w2, w3]) hp).bind (fun r => qzV (d + 1) 64 160 [a0, a1, a2, a3, a4, a5, a6, a7, a8, a9, a10, a11, a12, a13] (r.1.toList ++ st) r.2) := qv_callv (n := 4) mdc_64 dX2_raiseRow_157 mdo_64 (by decide) qfc_2_232 ⟨rfl, by decide, rfl⟩ rfl ⟨rfl, rfl, by simp only [List.length_cons]; omega⟩ h8 hb
theorem eX2_raiseRow_160 {d : Nat} {a0 a1 a2 a3 a4 a5 a6 a7 a8 a9 a10 a11 a12 a13 : Value} {x y : Int32} {st : List Value} {hp : qzH} : qzV d 64 160 [a0, a1, a2, a3, a4, a5, a6, a7, a8, a9, a10, a11, a12, a13] (.int y :: .int x :: st) hp = if x ≤ y then qzV d 64 175 [a0, a1, a2, a3, a4, a5, a6, a7, a8, a9, a10, a11, a12, a13] (st) hp else qzV d 64 163 [a0, a1, a2, a3, a4, a5, a6, a7, a8, a9, a10, a11, a12, a13] (st) hp := qv_if2 mdc_64 dX2_raiseRow_160 rfl rfl rfl
theorem eX2_raiseRow_163 {d : Nat} {a1 a2 a3 a4 a5 a6 a7 a8 a9 a10 a11 a12 a13 : Value} {x : Nat} {st : List Value} {hp : qzH} : qzV d 64 163 [.ref x, a1, a2, a3, a4, a5, a6, a7, a8, a9, a10, a11, a12, a13] (st) hp = qzV d 64 164 [.ref x, a1, a2, a3, a4, a5, a6, a7, a8, a9, a10, a11, a12, a13] (.ref x :: st) hp := qv_aload (i := 0) mdc_64 dX2_raiseRow_163 rfl rfl rfl
theorem eX2_raiseRow_164 {d : Nat} {a0 a2 a3 a4 a5 a6 a7 a8 a9 a10 a11 a12 a13 : Value} {x : Int32} {st : List Value} {hp : qzH} : qzV d 64 164 [a0, .int x, a2, a3, a4, a5, a6, a7, a8, a9, a10, a11, a12, a13] (st) hp = qzV d 64 165 [a0, .int x, a2, a3, a4, a5, a6, a7, a8, a9, a10, a11, a12, a13] (.int x :: st) hp := qv_iload (i := 1) mdc_64 dX2_raiseRow_164 rfl rfl rfl
theorem eX2_raiseRow_165 {d : Nat} {a0 a1 a3 a4 a5 a6 a7 a8 a9 a10 a11 a12 a13 : Value} {x : Int32} {st : List Value} {hp : qzH} : qzV d 64 165 [a0, a1, .int x, a3, a4, a5, a6, a7, a8, a9, a10, a11, a12, a13] (st) hp = qzV d 64 166 [a0, a1, .int x, a3, a4, a5, a6, a7, a8, a9, a10, a11, a12, a13] (.int x :: st) hp := qv_iload (i := 2) mdc_64 dX2_raiseRow_165 rfl rfl rfl
theorem eX2_raiseRow_166 {d : Nat} {a0 a1 a2 a3 a4 a5 a6 a7 a8 a9 a10 a11 a13 : Value} {x : Int32} {st : List Value} {hp : qzH} : qzV d 64 166 [a0, a1, a2, a3, a4, a5, a6, a7, a8, a9, a10, a11, .int x, a13] (st) hp = qzV d 64 168 [a0, a1, a2, a3, a4, a5, a6, a7, a8, a9, a10, a11, .int x, a13] (.int x :: st) hp := qv_iload (i := 12) mdc_64 dX2_raiseRow_166 rfl rfl rfl
theorem eX2_raiseRow_168 {d : Nat} {a0 a1 a2 a3 a4 a5 a6 a7 a8 a9 a11 a12 a13 : Value} {x : Int32} {st : List Value} {hp : qzH} : qzV d 64 168 [a0, a1, a2, a3, a4, a5, a6, a7, a8, a9, .int x, a11, a12, a13] (st) hp = qzV d 64 170 [a0, a1, a2, a3, a4, a5, a6, a7, a8, a9, .int x, a11, a12, a13] (.int x :: st) hp := qv_iload (i := 10) mdc_64 dX2_raiseRow_168 rfl rfl rfl
theorem eX2_raiseRow_170 {d : Nat} {a0 a1 a2 a3 a4 a5 a6 a7 a8 a9 a10 a11 a12 : Value} {x : Int32} {st : List Value} {hp : qzH} : qzV d 64 170 [a0, a1, a2, a3, a4, a5, a6, a7, a8, a9, a10, a11, a12, .int x] (st) hp = qzV d 64 172 [a0, a1, a2, a3, a4, a5, a6, a7, a8, a9, a10, a11, a12, .int x] (.int x :: st) hp := qv_iload (i := 13) mdc_64 dX2_raiseRow_170 rfl rfl rfl
theorem eX2_raiseRow_172 {d : Nat} {a0 a1 a2 a3 a4 a5 a6 a7 a8 a9 a10 a11 a12 a13 : Value} {w0 w1 w2 w3 w4 : Value} {b : Nat} {st : List Value} {hp : qzH} (h8 : st.length ≤ 8) (hb : qzArr 1 b hp.1 = true) : qzV (d + 1) 64 172 [a0, a1, a2, a3, a4, a5, a6, a7, a8, a9, a10, a11, a12, a13] (w4 :: w3 :: w2 :: w1 :: w0 :: .ref b :: st) hp = (qzC d 22 (.ref b :: [w0, w1, w2, w3, w4]) hp).bind (fun r => qzV (d + 1) 64 175 [a0, a1, a2, a3, a4, a5, a6, a7, a8, a9, a10, a11, a12, a13] (r.1.toList ++ st) r.2) := qv_callv (n := 5) mdc_64 dX2_raiseRow_172 mdo_64 (by decide) qfc_2_264 ⟨rfl, by decide, rfl⟩ rfl ⟨rfl, rfl, by simp only [List.length_cons]; omega⟩ h8 hb
theorem eX2_raiseRow_175 {d : Nat} {a0 a1 a2 a3 a4 a5 a6 a7 a8 a9 a10 a11 a13 : Value} {x : Int32} {st : List Value} {hp : qzH} : qzV d 64 175 [a0, a1, a2, a3, a4, a5, a6, a7, a8, a9, a10, a11, .int x, a13] (st) hp = qzV d 64 178 [a0, a1, a2, a3, a4, a5, a6, a7, a8, a9, a10, a11, .int (x + 1), a13] (st) hp := qv_iinc mdc_64 dX2_raiseRow_175 rfl il_1 rfl rfl
theorem eX2_raiseRow_178 {d : Nat} {a0 a1 a2 a3 a4 a5 a6 a7 a8 a9 a10 a11 a12 a13 : Value} {st : List Value} {hp : qzH} : qzV d 64 178 [a0, a1, a2, a3, a4, a5, a6, a7, a8, a9, a10, a11, a12, a13] (st) hp = qzV d 64 122 [a0, a1, a2, a3, a4, a5, a6, a7, a8, a9, a10, a11, a12, a13] (st) hp := qv_goto mdc_64 dX2_raiseRow_178 rfl
theorem eX2_raiseRow_181 {d : Nat} {a0 a1 a2 a3 a4 a5 a6 a7 a8 a9 a11 a12 a13 : Value} {x : Int32} {st : List Value} {hp : qzH} : qzV d 64 181 [a0, a1, a2, a3, a4, a5, a6, a7, a8, a9, .int x, a11, a12, a13] (st) hp = qzV d 64 184 [a0, a1, a2, a3, a4, a5, a6, a7, a8, a9, .int (x + 1), a11, a12, a13] (st) hp := qv_iinc mdc_64 dX2_raiseRow_181 rfl il_1 rfl rfl
theorem eX2_raiseRow_184 {d : Nat} {a0 a1 a2 a3 a4 a5 a6 a7 a8 a9 a10 a11 a12 a13 : Value} {st : List Value} {hp : qzH} : qzV d 64 184 [a0, a1, a2, a3, a4, a5, a6, a7, a8, a9, a10, a11, a12, a13] (st) hp = qzV d 64 92 [a0, a1, a2, a3, a4, a5, a6, a7, a8, a9, a10, a11, a12, a13] (st) hp := qv_goto mdc_64 dX2_raiseRow_184 rfl
theorem eX2_raiseRow_187 {d : Nat} {a0 a1 a2 a3 a4 a5 a6 a7 a8 a9 a10 a11 a12 a13 : Value} {hp : qzH} : qzV d 64 187 [a0, a1, a2, a3, a4, a5, a6, a7, a8, a9, a10, a11, a12, a13] [] hp = some (none, hp) := qv_vret mdc_64 dX2_raiseRow_187 mdr_64
theorem dX2_leadGoneInto_0 : decode cX2_leadGoneInto 0 = .ok (.aload_n 0, 1) := by decide +kernel
theorem dX2_leadGoneInto_1 : decode cX2_leadGoneInto 1 = .ok (.getfield 37, 3) := by decide +kernel
theorem dX2_leadGoneInto_4 : decode cX2_leadGoneInto 4 = .ok (.aload_n 1, 1) := by decide +kernel
theorem dX2_leadGoneInto_5 : decode cX2_leadGoneInto 5 = .ok (.invokevirtual 224, 3) := by decide +kernel
theorem dX2_leadGoneInto_8 : decode cX2_leadGoneInto 8 = .ok (.aload_n 1, 1) := by decide +kernel
theorem dX2_leadGoneInto_9 : decode cX2_leadGoneInto 9 = .ok (.aload_n 1, 1) := by decide +kernel
theorem dX2_leadGoneInto_10 : decode cX2_leadGoneInto 10 = .ok (.invokevirtual 162, 3) := by decide +kernel
theorem dX2_leadGoneInto_13 : decode cX2_leadGoneInto 13 = .ok (.invokevirtual 136, 3) := by decide +kernel
theorem dX2_leadGoneInto_16 : decode cX2_leadGoneInto 16 = .ok (.istore_n 2, 1) := by decide +kernel
theorem dX2_leadGoneInto_17 : decode cX2_leadGoneInto 17 = .ok (.aload_n 1, 1) := by decide +kernel
theorem dX2_leadGoneInto_18 : decode cX2_leadGoneInto 18 = .ok (.iconst 1, 1) := by decide +kernel
theorem dX2_leadGoneInto_19 : decode cX2_leadGoneInto 19 = .ok (.aload_n 1, 1) := by decide +kernel
theorem dX2_leadGoneInto_20 : decode cX2_leadGoneInto 20 = .ok (.invokevirtual 162, 3) := by decide +kernel
theorem dX2_leadGoneInto_23 : decode cX2_leadGoneInto 23 = .ok (.isub, 1) := by decide +kernel
theorem dX2_leadGoneInto_24 : decode cX2_leadGoneInto 24 = .ok (.invokevirtual 136, 3) := by decide +kernel
theorem dX2_leadGoneInto_27 : decode cX2_leadGoneInto 27 = .ok (.istore_n 3, 1) := by decide +kernel
theorem dX2_leadGoneInto_28 : decode cX2_leadGoneInto 28 = .ok (.aload_n 0, 1) := by decide +kernel
theorem dX2_leadGoneInto_29 : decode cX2_leadGoneInto 29 = .ok (.getfield 37, 3) := by decide +kernel
theorem dX2_leadGoneInto_32 : decode cX2_leadGoneInto 32 = .ok (.aload_n 1, 1) := by decide +kernel
theorem dX2_leadGoneInto_33 : decode cX2_leadGoneInto 33 = .ok (.getfield 156, 3) := by decide +kernel
theorem dX2_leadGoneInto_36 : decode cX2_leadGoneInto 36 = .ok (.aload_n 1, 1) := by decide +kernel
theorem dX2_leadGoneInto_37 : decode cX2_leadGoneInto 37 = .ok (.getfield 159, 3) := by decide +kernel
theorem dX2_leadGoneInto_40 : decode cX2_leadGoneInto 40 = .ok (.iload_n 2, 1) := by decide +kernel
theorem dX2_leadGoneInto_41 : decode cX2_leadGoneInto 41 = .ok (.iload_n 3, 1) := by decide +kernel
theorem dX2_leadGoneInto_42 : decode cX2_leadGoneInto 42 = .ok (.iconst 0, 1) := by decide +kernel
theorem dX2_leadGoneInto_43 : decode cX2_leadGoneInto 43 = .ok (.invokestatic 268, 3) := by decide +kernel
theorem dX2_leadGoneInto_46 : decode cX2_leadGoneInto 46 = .ok (.ireturn, 1) := by decide +kernel
theorem eX2_leadGoneInto_0 {d : Nat} {a1 a2 a3 : Value} {x : Nat} {st : List Value} {hp : qzH} : qzV d 65 0 [.ref x, a1, a2, a3] (st) hp = qzV d 65 1 [.ref x, a1, a2, a3] (.ref x :: st) hp := qv_aload (i := 0) mdc_65 dX2_leadGoneInto_0 rfl rfl rfl
theorem eX2_leadGoneInto_1 {d : Nat} {a0 a1 a2 a3 : Value} {a : Nat} {st : List Value} {hp : qzH} (ha : qzArr 2 a hp.1 = true) : qzV d 65 1 [a0, a1, a2, a3] (.ref a :: st) hp = qzV d 65 4 [a0, a1, a2, a3] (va_rf (hp.2.1 a 9) :: st) hp := qv_getR mdc_65 dX2_leadGoneInto_1 mdo_65 qff_2_37 ⟨by decide, rfl⟩ rfl ha
theorem eX2_leadGoneInto_4 {d : Nat} {a0 a2 a3 : Value} {x : Nat} {st : List Value} {hp : qzH} : qzV d 65 4 [a0, .ref x, a2, a3] (st) hp = qzV d 65 5 [a0, .ref x, a2, a3] (.ref x :: st) hp := qv_aload (i := 1) mdc_65 dX2_leadGoneInto_4 rfl rfl rfl
theorem eX2_leadGoneInto_5 {d : Nat} {a0 a1 a2 a3 : Value} {w0 : Value} {b : Nat} {st : List Value} {hp : qzH} (h8 : st.length ≤ 8) (hb : qzArr 1 b hp.1 = true) : qzV (d + 1) 65 5 [a0, a1, a2, a3] (w0 :: .ref b :: st) hp = (qzC d 19 (.ref b :: [w0]) hp).bind (fun r => qzV (d + 1) 65 8 [a0, a1, a2, a3] (r.1.toList ++ st) r.2) := qv_callv (n := 1) mdc_65 dX2_leadGoneInto_5 mdo_65 (by decide) qfc_2_224 ⟨rfl, by decide, rfl⟩ rfl ⟨rfl, rfl, by simp only [List.length_cons]; omega⟩ h8 hb
theorem eX2_leadGoneInto_8 {d : Nat} {a0 a2 a3 : Value} {x : Nat} {st : List Value} {hp : qzH} : qzV d 65 8 [a0, .ref x, a2, a3] (st) hp = qzV d 65 9 [a0, .ref x, a2, a3] (.ref x :: st) hp := qv_aload (i := 1) mdc_65 dX2_leadGoneInto_8 rfl rfl rfl
theorem eX2_leadGoneInto_9 {d : Nat} {a0 a2 a3 : Value} {x : Nat} {st : List Value} {hp : qzH} : qzV d 65 9 [a0, .ref x, a2, a3] (st) hp = qzV d 65 10 [a0, .ref x, a2, a3] (.ref x :: st) hp := qv_aload (i := 1) mdc_65 dX2_leadGoneInto_9 rfl rfl rfl
theorem eX2_leadGoneInto_10 {d : Nat} {a0 a1 a2 a3 : Value} {b : Nat} {st : List Value} {hp : qzH} (h8 : st.length ≤ 8) (hb : qzArr 0 b hp.1 = true) : qzV (d + 1) 65 10 [a0, a1, a2, a3] (.ref b :: st) hp = (qzC d 5 (.ref b :: []) hp).bind (fun r => qzV (d + 1) 65 13 [a0, a1, a2, a3] (r.1.toList ++ st) r.2) := qv_callv (n := 0) mdc_65 dX2_leadGoneInto_10 mdo_65 (by decide) qfc_2_162 ⟨rfl, by decide, rfl⟩ rfl ⟨rfl, rfl, by simp only [List.length_cons]; omega⟩ h8 hb
theorem eX2_leadGoneInto_13 {d : Nat} {a0 a1 a2 a3 : Value} {w0 : Value} {b : Nat} {st : List Value} {hp : qzH} (h8 : st.length ≤ 8) (hb : qzArr 0 b hp.1 = true) : qzV (d + 1) 65 13 [a0, a1, a2, a3] (w0 :: .ref b :: st) hp = (qzC d 11 (.ref b :: [w0]) hp).bind (fun r => qzV (d + 1) 65 16 [a0, a1, a2, a3] (r.1.toList ++ st) r.2) := qv_callv (n := 1) mdc_65 dX2_leadGoneInto_13 mdo_65 (by decide) qfc_2_136 ⟨rfl, by decide, rfl⟩ rfl ⟨rfl, rfl, by simp only [List.length_cons]; omega⟩ h8 hb
theorem eX2_leadGoneInto_16 {d : Nat} {a0 a1 a2 a3 : Value} {x : Int32} {st : List Value} {hp : qzH} : qzV d 65 16 [a0, a1, a2, a3] (.int x :: st) hp = qzV d 65 17 [a0, a1, .int x, a3] (st) hp := qv_istore (i := 2) mdc_65 dX2_leadGoneInto_16 rfl (Nat.le_of_ble_eq_true rfl) rfl rfl
theorem eX2_leadGoneInto_17 {d : Nat} {a0 a2 a3 : Value} {x : Nat} {st : List Value} {hp : qzH} : qzV d 65 17 [a0, .ref x, a2, a3] (st) hp = qzV d 65 18 [a0, .ref x, a2, a3] (.ref x :: st) hp := qv_aload (i := 1) mdc_65 dX2_leadGoneInto_17 rfl rfl rfl
theorem eX2_leadGoneInto_18 {d : Nat} {a0 a1 a2 a3 : Value} {st : List Value} {hp : qzH} : qzV d 65 18 [a0, a1, a2, a3] (st) hp = qzV d 65 19 [a0, a1, a2, a3] (.int 1 :: st) hp := qv_iconst mdc_65 dX2_leadGoneInto_18 il_1 rfl
theorem eX2_leadGoneInto_19 {d : Nat} {a0 a2 a3 : Value} {x : Nat} {st : List Value} {hp : qzH} : qzV d 65 19 [a0, .ref x, a2, a3] (st) hp = qzV d 65 20 [a0, .ref x, a2, a3] (.ref x :: st) hp := qv_aload (i := 1) mdc_65 dX2_leadGoneInto_19 rfl rfl rfl
theorem eX2_leadGoneInto_20 {d : Nat} {a0 a1 a2 a3 : Value} {b : Nat} {st : List Value} {hp : qzH} (h8 : st.length ≤ 8) (hb : qzArr 0 b hp.1 = true) : qzV (d + 1) 65 20 [a0, a1, a2, a3] (.ref b :: st) hp = (qzC d 5 (.ref b :: []) hp).bind (fun r => qzV (d + 1) 65 23 [a0, a1, a2, a3] (r.1.toList ++ st) r.2) := qv_callv (n := 0) mdc_65 dX2_leadGoneInto_20 mdo_65 (by decide) qfc_2_162 ⟨rfl, by decide, rfl⟩ rfl ⟨rfl, rfl, by simp only [List.length_cons]; omega⟩ h8 hb
theorem eX2_leadGoneInto_23 {d : Nat} {a0 a1 a2 a3 : Value} {x y : Int32} {st : List Value} {hp : qzH} : qzV d 65 23 [a0, a1, a2, a3] (.int y :: .int x :: st) hp = qzV d 65 24 [a0, a1, a2, a3] (.int (x - y) :: st) hp := qv_bin (f := fun x y => x - y) mdc_65 dX2_leadGoneInto_23 rfl rfl
theorem eX2_leadGoneInto_24 {d : Nat} {a0 a1 a2 a3 : Value} {w0 : Value} {b : Nat} {st : List Value} {hp : qzH} (h8 : st.length ≤ 8) (hb : qzArr 0 b hp.1 = true) : qzV (d + 1) 65 24 [a0, a1, a2, a3] (w0 :: .ref b :: st) hp = (qzC d 11 (.ref b :: [w0]) hp).bind (fun r => qzV (d + 1) 65 27 [a0, a1, a2, a3] (r.1.toList ++ st) r.2) := qv_callv (n := 1) mdc_65 dX2_leadGoneInto_24 mdo_65 (by decide) qfc_2_136 ⟨rfl, by decide, rfl⟩ rfl ⟨rfl, rfl, by simp only [List.length_cons]; omega⟩ h8 hb
theorem eX2_leadGoneInto_27 {d : Nat} {a0 a1 a2 a3 : Value} {x : Int32} {st : List Value} {hp : qzH} : qzV d 65 27 [a0, a1, a2, a3] (.int x :: st) hp = qzV d 65 28 [a0, a1, a2, .int x] (st) hp := qv_istore (i := 3) mdc_65 dX2_leadGoneInto_27 rfl (Nat.le_of_ble_eq_true rfl) rfl rfl
theorem eX2_leadGoneInto_28 {d : Nat} {a1 a2 a3 : Value} {x : Nat} {st : List Value} {hp : qzH} : qzV d 65 28 [.ref x, a1, a2, a3] (st) hp = qzV d 65 29 [.ref x, a1, a2, a3] (.ref x :: st) hp := qv_aload (i := 0) mdc_65 dX2_leadGoneInto_28 rfl rfl rfl
theorem eX2_leadGoneInto_29 {d : Nat} {a0 a1 a2 a3 : Value} {a : Nat} {st : List Value} {hp : qzH} (ha : qzArr 2 a hp.1 = true) : qzV d 65 29 [a0, a1, a2, a3] (.ref a :: st) hp = qzV d 65 32 [a0, a1, a2, a3] (va_rf (hp.2.1 a 9) :: st) hp := qv_getR mdc_65 dX2_leadGoneInto_29 mdo_65 qff_2_37 ⟨by decide, rfl⟩ rfl ha
theorem eX2_leadGoneInto_32 {d : Nat} {a0 a2 a3 : Value} {x : Nat} {st : List Value} {hp : qzH} : qzV d 65 32 [a0, .ref x, a2, a3] (st) hp = qzV d 65 33 [a0, .ref x, a2, a3] (.ref x :: st) hp := qv_aload (i := 1) mdc_65 dX2_leadGoneInto_32 rfl rfl rfl
theorem eX2_leadGoneInto_33 {d : Nat} {a0 a1 a2 a3 : Value} {a : Nat} {st : List Value} {hp : qzH} (ha : qzArr 0 a hp.1 = true) : qzV d 65 33 [a0, a1, a2, a3] (.ref a :: st) hp = qzV d 65 36 [a0, a1, a2, a3] (.int (hp.2.2 a 7) :: st) hp := qv_getI mdc_65 dX2_leadGoneInto_33 mdo_65 qff_2_156 ⟨by decide, rfl⟩ rfl ha
theorem eX2_leadGoneInto_36 {d : Nat} {a0 a2 a3 : Value} {x : Nat} {st : List Value} {hp : qzH} : qzV d 65 36 [a0, .ref x, a2, a3] (st) hp = qzV d 65 37 [a0, .ref x, a2, a3] (.ref x :: st) hp := qv_aload (i := 1) mdc_65 dX2_leadGoneInto_36 rfl rfl rfl
theorem eX2_leadGoneInto_37 {d : Nat} {a0 a1 a2 a3 : Value} {a : Nat} {st : List Value} {hp : qzH} (ha : qzArr 0 a hp.1 = true) : qzV d 65 37 [a0, a1, a2, a3] (.ref a :: st) hp = qzV d 65 40 [a0, a1, a2, a3] (.int (hp.2.2 a 8) :: st) hp := qv_getI mdc_65 dX2_leadGoneInto_37 mdo_65 qff_2_159 ⟨by decide, rfl⟩ rfl ha
theorem eX2_leadGoneInto_40 {d : Nat} {a0 a1 a3 : Value} {x : Int32} {st : List Value} {hp : qzH} : qzV d 65 40 [a0, a1, .int x, a3] (st) hp = qzV d 65 41 [a0, a1, .int x, a3] (.int x :: st) hp := qv_iload (i := 2) mdc_65 dX2_leadGoneInto_40 rfl rfl rfl
theorem eX2_leadGoneInto_41 {d : Nat} {a0 a1 a2 : Value} {x : Int32} {st : List Value} {hp : qzH} : qzV d 65 41 [a0, a1, a2, .int x] (st) hp = qzV d 65 42 [a0, a1, a2, .int x] (.int x :: st) hp := qv_iload (i := 3) mdc_65 dX2_leadGoneInto_41 rfl rfl rfl
theorem eX2_leadGoneInto_42 {d : Nat} {a0 a1 a2 a3 : Value} {st : List Value} {hp : qzH} : qzV d 65 42 [a0, a1, a2, a3] (st) hp = qzV d 65 43 [a0, a1, a2, a3] (.int 0 :: st) hp := qv_iconst mdc_65 dX2_leadGoneInto_42 il_0 rfl
theorem eX2_leadGoneInto_43 {d : Nat} {a0 a1 a2 a3 : Value} {w0 w1 w2 w3 w4 w5 : Value} {st : List Value} {hp : qzH} (h8 : st.length ≤ 8) : qzV (d + 1) 65 43 [a0, a1, a2, a3] (w5 :: w4 :: w3 :: w2 :: w1 :: w0 :: st) hp = (qzC d 67 [w0, w1, w2, w3, w4, w5] hp).bind (fun r => qzV (d + 1) 65 46 [a0, a1, a2, a3] (r.1.toList ++ st) r.2) := qv_calls (n := 6) mdc_65 dX2_leadGoneInto_43 mdo_65 (by decide) qfc_2_268 ⟨rfl, by decide, rfl⟩ rfl ⟨rfl, rfl, by simp only [List.length_cons]; omega⟩ h8
theorem eX2_leadGoneInto_46 {d : Nat} {a0 a1 a2 a3 : Value} {v : Int32} {hp : qzH} : qzV d 65 46 [a0, a1, a2, a3] [.int v] hp = some (some (.int v), hp) := qv_iret mdc_65 dX2_leadGoneInto_46 mdr_65 rfl
theorem dX2_leadOfCut_0 : decode cX2_leadOfCut 0 = .ok (.aload_n 0, 1) := by decide +kernel
theorem dX2_leadOfCut_1 : decode cX2_leadOfCut 1 = .ok (.getfield 37, 3) := by decide +kernel
theorem dX2_leadOfCut_4 : decode cX2_leadOfCut 4 = .ok (.aload_n 1, 1) := by decide +kernel
theorem dX2_leadOfCut_5 : decode cX2_leadOfCut 5 = .ok (.invokevirtual 224, 3) := by decide +kernel
theorem dX2_leadOfCut_8 : decode cX2_leadOfCut 8 = .ok (.aload_n 1, 1) := by decide +kernel
theorem dX2_leadOfCut_9 : decode cX2_leadOfCut 9 = .ok (.aload_n 1, 1) := by decide +kernel
theorem dX2_leadOfCut_10 : decode cX2_leadOfCut 10 = .ok (.invokevirtual 162, 3) := by decide +kernel
theorem dX2_leadOfCut_13 : decode cX2_leadOfCut 13 = .ok (.invokevirtual 136, 3) := by decide +kernel
theorem dX2_leadOfCut_16 : decode cX2_leadOfCut 16 = .ok (.istore_n 3, 1) := by decide +kernel
theorem dX2_leadOfCut_17 : decode cX2_leadOfCut 17 = .ok (.aload_n 1, 1) := by decide +kernel
theorem dX2_leadOfCut_18 : decode cX2_leadOfCut 18 = .ok (.iconst 1, 1) := by decide +kernel
theorem dX2_leadOfCut_19 : decode cX2_leadOfCut 19 = .ok (.aload_n 1, 1) := by decide +kernel
theorem dX2_leadOfCut_20 : decode cX2_leadOfCut 20 = .ok (.invokevirtual 162, 3) := by decide +kernel
theorem dX2_leadOfCut_23 : decode cX2_leadOfCut 23 = .ok (.isub, 1) := by decide +kernel
theorem dX2_leadOfCut_24 : decode cX2_leadOfCut 24 = .ok (.invokevirtual 136, 3) := by decide +kernel
theorem dX2_leadOfCut_27 : decode cX2_leadOfCut 27 = .ok (.istore 4, 2) := by decide +kernel
theorem dX2_leadOfCut_29 : decode cX2_leadOfCut 29 = .ok (.aload_n 0, 1) := by decide +kernel
theorem dX2_leadOfCut_30 : decode cX2_leadOfCut 30 = .ok (.getfield 37, 3) := by decide +kernel
theorem dX2_leadOfCut_33 : decode cX2_leadOfCut 33 = .ok (.aload_n 1, 1) := by decide +kernel
theorem dX2_leadOfCut_34 : decode cX2_leadOfCut 34 = .ok (.getfield 156, 3) := by decide +kernel
theorem dX2_leadOfCut_37 : decode cX2_leadOfCut 37 = .ok (.aload_n 1, 1) := by decide +kernel
theorem dX2_leadOfCut_38 : decode cX2_leadOfCut 38 = .ok (.getfield 159, 3) := by decide +kernel
theorem dX2_leadOfCut_41 : decode cX2_leadOfCut 41 = .ok (.iload_n 3, 1) := by decide +kernel
theorem dX2_leadOfCut_42 : decode cX2_leadOfCut 42 = .ok (.iload 4, 2) := by decide +kernel
theorem dX2_leadOfCut_44 : decode cX2_leadOfCut 44 = .ok (.iload_n 2, 1) := by decide +kernel
theorem dX2_leadOfCut_45 : decode cX2_leadOfCut 45 = .ok (.iconst 0, 1) := by decide +kernel
theorem dX2_leadOfCut_46 : decode cX2_leadOfCut 46 = .ok (.invokestatic 228, 3) := by decide +kernel
theorem dX2_leadOfCut_49 : decode cX2_leadOfCut 49 = .ok (.ireturn, 1) := by decide +kernel
theorem eX2_leadOfCut_0 {d : Nat} {a1 a2 a3 a4 : Value} {x : Nat} {st : List Value} {hp : qzH} : qzV d 66 0 [.ref x, a1, a2, a3, a4] (st) hp = qzV d 66 1 [.ref x, a1, a2, a3, a4] (.ref x :: st) hp := qv_aload (i := 0) mdc_66 dX2_leadOfCut_0 rfl rfl rfl
theorem eX2_leadOfCut_1 {d : Nat} {a0 a1 a2 a3 a4 : Value} {a : Nat} {st : List Value} {hp : qzH} (ha : qzArr 2 a hp.1 = true) : qzV d 66 1 [a0, a1, a2, a3, a4] (.ref a :: st) hp = qzV d 66 4 [a0, a1, a2, a3, a4] (va_rf (hp.2.1 a 9) :: st) hp := qv_getR mdc_66 dX2_leadOfCut_1 mdo_66 qff_2_37 ⟨by decide, rfl⟩ rfl ha
theorem eX2_leadOfCut_4 {d : Nat} {a0 a2 a3 a4 : Value} {x : Nat} {st : List Value} {hp : qzH} : qzV d 66 4 [a0, .ref x, a2, a3, a4] (st) hp = qzV d 66 5 [a0, .ref x, a2, a3, a4] (.ref x :: st) hp := qv_aload (i := 1) mdc_66 dX2_leadOfCut_4 rfl rfl rfl
theorem eX2_leadOfCut_5 {d : Nat} {a0 a1 a2 a3 a4 : Value} {w0 : Value} {b : Nat} {st : List Value} {hp : qzH} (h8 : st.length ≤ 8) (hb : qzArr 1 b hp.1 = true) : qzV (d + 1) 66 5 [a0, a1, a2, a3, a4] (w0 :: .ref b :: st) hp = (qzC d 19 (.ref b :: [w0]) hp).bind (fun r => qzV (d + 1) 66 8 [a0, a1, a2, a3, a4] (r.1.toList ++ st) r.2) := qv_callv (n := 1) mdc_66 dX2_leadOfCut_5 mdo_66 (by decide) qfc_2_224 ⟨rfl, by decide, rfl⟩ rfl ⟨rfl, rfl, by simp only [List.length_cons]; omega⟩ h8 hb
theorem eX2_leadOfCut_8 {d : Nat} {a0 a2 a3 a4 : Value} {x : Nat} {st : List Value} {hp : qzH} : qzV d 66 8 [a0, .ref x, a2, a3, a4] (st) hp = qzV d 66 9 [a0, .ref x, a2, a3, a4] (.ref x :: st) hp := qv_aload (i := 1) mdc_66 dX2_leadOfCut_8 rfl rfl rfl
theorem eX2_leadOfCut_9 {d : Nat} {a0 a2 a3 a4 : Value} {x : Nat} {st : List Value} {hp : qzH} : qzV d 66 9 [a0, .ref x, a2, a3, a4] (st) hp = qzV d 66 10 [a0, .ref x, a2, a3, a4] (.ref x :: st) hp := qv_aload (i := 1) mdc_66 dX2_leadOfCut_9 rfl rfl rfl
theorem eX2_leadOfCut_10 {d : Nat} {a0 a1 a2 a3 a4 : Value} {b : Nat} {st : List Value} {hp : qzH} (h8 : st.length ≤ 8) (hb : qzArr 0 b hp.1 = true) : qzV (d + 1) 66 10 [a0, a1, a2, a3, a4] (.ref b :: st) hp = (qzC d 5 (.ref b :: []) hp).bind (fun r => qzV (d + 1) 66 13 [a0, a1, a2, a3, a4] (r.1.toList ++ st) r.2) := qv_callv (n := 0) mdc_66 dX2_leadOfCut_10 mdo_66 (by decide) qfc_2_162 ⟨rfl, by decide, rfl⟩ rfl ⟨rfl, rfl, by simp only [List.length_cons]; omega⟩ h8 hb
theorem eX2_leadOfCut_13 {d : Nat} {a0 a1 a2 a3 a4 : Value} {w0 : Value} {b : Nat} {st : List Value} {hp : qzH} (h8 : st.length ≤ 8) (hb : qzArr 0 b hp.1 = true) : qzV (d + 1) 66 13 [a0, a1, a2, a3, a4] (w0 :: .ref b :: st) hp = (qzC d 11 (.ref b :: [w0]) hp).bind (fun r => qzV (d + 1) 66 16 [a0, a1, a2, a3, a4] (r.1.toList ++ st) r.2) := qv_callv (n := 1) mdc_66 dX2_leadOfCut_13 mdo_66 (by decide) qfc_2_136 ⟨rfl, by decide, rfl⟩ rfl ⟨rfl, rfl, by simp only [List.length_cons]; omega⟩ h8 hb
theorem eX2_leadOfCut_16 {d : Nat} {a0 a1 a2 a3 a4 : Value} {x : Int32} {st : List Value} {hp : qzH} : qzV d 66 16 [a0, a1, a2, a3, a4] (.int x :: st) hp = qzV d 66 17 [a0, a1, a2, .int x, a4] (st) hp := qv_istore (i := 3) mdc_66 dX2_leadOfCut_16 rfl (Nat.le_of_ble_eq_true rfl) rfl rfl
theorem eX2_leadOfCut_17 {d : Nat} {a0 a2 a3 a4 : Value} {x : Nat} {st : List Value} {hp : qzH} : qzV d 66 17 [a0, .ref x, a2, a3, a4] (st) hp = qzV d 66 18 [a0, .ref x, a2, a3, a4] (.ref x :: st) hp := qv_aload (i := 1) mdc_66 dX2_leadOfCut_17 rfl rfl rfl
theorem eX2_leadOfCut_18 {d : Nat} {a0 a1 a2 a3 a4 : Value} {st : List Value} {hp : qzH} : qzV d 66 18 [a0, a1, a2, a3, a4] (st) hp = qzV d 66 19 [a0, a1, a2, a3, a4] (.int 1 :: st) hp := qv_iconst mdc_66 dX2_leadOfCut_18 il_1 rfl
theorem eX2_leadOfCut_19 {d : Nat} {a0 a2 a3 a4 : Value} {x : Nat} {st : List Value} {hp : qzH} : qzV d 66 19 [a0, .ref x, a2, a3, a4] (st) hp = qzV d 66 20 [a0, .ref x, a2, a3, a4] (.ref x :: st) hp := qv_aload (i := 1) mdc_66 dX2_leadOfCut_19 rfl rfl rfl
theorem eX2_leadOfCut_20 {d : Nat} {a0 a1 a2 a3 a4 : Value} {b : Nat} {st : List Value} {hp : qzH} (h8 : st.length ≤ 8) (hb : qzArr 0 b hp.1 = true) : qzV (d + 1) 66 20 [a0, a1, a2, a3, a4] (.ref b :: st) hp = (qzC d 5 (.ref b :: []) hp).bind (fun r => qzV (d + 1) 66 23 [a0, a1, a2, a3, a4] (r.1.toList ++ st) r.2) := qv_callv (n := 0) mdc_66 dX2_leadOfCut_20 mdo_66 (by decide) qfc_2_162 ⟨rfl, by decide, rfl⟩ rfl ⟨rfl, rfl, by simp only [List.length_cons]; omega⟩ h8 hb
theorem eX2_leadOfCut_23 {d : Nat} {a0 a1 a2 a3 a4 : Value} {x y : Int32} {st : List Value} {hp : qzH} : qzV d 66 23 [a0, a1, a2, a3, a4] (.int y :: .int x :: st) hp = qzV d 66 24 [a0, a1, a2, a3, a4] (.int (x - y) :: st) hp := qv_bin (f := fun x y => x - y) mdc_66 dX2_leadOfCut_23 rfl rfl
theorem eX2_leadOfCut_24 {d : Nat} {a0 a1 a2 a3 a4 : Value} {w0 : Value} {b : Nat} {st : List Value} {hp : qzH} (h8 : st.length ≤ 8) (hb : qzArr 0 b hp.1 = true) : qzV (d + 1) 66 24 [a0, a1, a2, a3, a4] (w0 :: .ref b :: st) hp = (qzC d 11 (.ref b :: [w0]) hp).bind (fun r => qzV (d + 1) 66 27 [a0, a1, a2, a3, a4] (r.1.toList ++ st) r.2) := qv_callv (n := 1) mdc_66 dX2_leadOfCut_24 mdo_66 (by decide) qfc_2_136 ⟨rfl, by decide, rfl⟩ rfl ⟨rfl, rfl, by simp only [List.length_cons]; omega⟩ h8 hb
theorem eX2_leadOfCut_27 {d : Nat} {a0 a1 a2 a3 a4 : Value} {x : Int32} {st : List Value} {hp : qzH} : qzV d 66 27 [a0, a1, a2, a3, a4] (.int x :: st) hp = qzV d 66 29 [a0, a1, a2, a3, .int x] (st) hp := qv_istore (i := 4) mdc_66 dX2_leadOfCut_27 rfl (Nat.le_of_ble_eq_true rfl) rfl rfl
theorem eX2_leadOfCut_29 {d : Nat} {a1 a2 a3 a4 : Value} {x : Nat} {st : List Value} {hp : qzH} : qzV d 66 29 [.ref x, a1, a2, a3, a4] (st) hp = qzV d 66 30 [.ref x, a1, a2, a3, a4] (.ref x :: st) hp := qv_aload (i := 0) mdc_66 dX2_leadOfCut_29 rfl rfl rfl
theorem eX2_leadOfCut_30 {d : Nat} {a0 a1 a2 a3 a4 : Value} {a : Nat} {st : List Value} {hp : qzH} (ha : qzArr 2 a hp.1 = true) : qzV d 66 30 [a0, a1, a2, a3, a4] (.ref a :: st) hp = qzV d 66 33 [a0, a1, a2, a3, a4] (va_rf (hp.2.1 a 9) :: st) hp := qv_getR mdc_66 dX2_leadOfCut_30 mdo_66 qff_2_37 ⟨by decide, rfl⟩ rfl ha
theorem eX2_leadOfCut_33 {d : Nat} {a0 a2 a3 a4 : Value} {x : Nat} {st : List Value} {hp : qzH} : qzV d 66 33 [a0, .ref x, a2, a3, a4] (st) hp = qzV d 66 34 [a0, .ref x, a2, a3, a4] (.ref x :: st) hp := qv_aload (i := 1) mdc_66 dX2_leadOfCut_33 rfl rfl rfl
theorem eX2_leadOfCut_34 {d : Nat} {a0 a1 a2 a3 a4 : Value} {a : Nat} {st : List Value} {hp : qzH} (ha : qzArr 0 a hp.1 = true) : qzV d 66 34 [a0, a1, a2, a3, a4] (.ref a :: st) hp = qzV d 66 37 [a0, a1, a2, a3, a4] (.int (hp.2.2 a 7) :: st) hp := qv_getI mdc_66 dX2_leadOfCut_34 mdo_66 qff_2_156 ⟨by decide, rfl⟩ rfl ha
theorem eX2_leadOfCut_37 {d : Nat} {a0 a2 a3 a4 : Value} {x : Nat} {st : List Value} {hp : qzH} : qzV d 66 37 [a0, .ref x, a2, a3, a4] (st) hp = qzV d 66 38 [a0, .ref x, a2, a3, a4] (.ref x :: st) hp := qv_aload (i := 1) mdc_66 dX2_leadOfCut_37 rfl rfl rfl
theorem eX2_leadOfCut_38 {d : Nat} {a0 a1 a2 a3 a4 : Value} {a : Nat} {st : List Value} {hp : qzH} (ha : qzArr 0 a hp.1 = true) : qzV d 66 38 [a0, a1, a2, a3, a4] (.ref a :: st) hp = qzV d 66 41 [a0, a1, a2, a3, a4] (.int (hp.2.2 a 8) :: st) hp := qv_getI mdc_66 dX2_leadOfCut_38 mdo_66 qff_2_159 ⟨by decide, rfl⟩ rfl ha
theorem eX2_leadOfCut_41 {d : Nat} {a0 a1 a2 a4 : Value} {x : Int32} {st : List Value} {hp : qzH} : qzV d 66 41 [a0, a1, a2, .int x, a4] (st) hp = qzV d 66 42 [a0, a1, a2, .int x, a4] (.int x :: st) hp := qv_iload (i := 3) mdc_66 dX2_leadOfCut_41 rfl rfl rfl
theorem eX2_leadOfCut_42 {d : Nat} {a0 a1 a2 a3 : Value} {x : Int32} {st : List Value} {hp : qzH} : qzV d 66 42 [a0, a1, a2, a3, .int x] (st) hp = qzV d 66 44 [a0, a1, a2, a3, .int x] (.int x :: st) hp := qv_iload (i := 4) mdc_66 dX2_leadOfCut_42 rfl rfl rfl
theorem eX2_leadOfCut_44 {d : Nat} {a0 a1 a3 a4 : Value} {x : Int32} {st : List Value} {hp : qzH} : qzV d 66 44 [a0, a1, .int x, a3, a4] (st) hp = qzV d 66 45 [a0, a1, .int x, a3, a4] (.int x :: st) hp := qv_iload (i := 2) mdc_66 dX2_leadOfCut_44 rfl rfl rfl
theorem eX2_leadOfCut_45 {d : Nat} {a0 a1 a2 a3 a4 : Value} {st : List Value} {hp : qzH} : qzV d 66 45 [a0, a1, a2, a3, a4] (st) hp = qzV d 66 46 [a0, a1, a2, a3, a4] (.int 0 :: st) hp := qv_iconst mdc_66 dX2_leadOfCut_45 il_0 rfl
theorem eX2_leadOfCut_46 {d : Nat} {a0 a1 a2 a3 a4 : Value} {w0 w1 w2 w3 w4 w5 w6 : Value} {st : List Value} {hp : qzH} (h8 : st.length ≤ 8) : qzV (d + 1) 66 46 [a0, a1, a2, a3, a4] (w6 :: w5 :: w4 :: w3 :: w2 :: w1 :: w0 :: st) hp = (qzC d 68 [w0, w1, w2, w3, w4, w5, w6] hp).bind (fun r => qzV (d + 1) 66 49 [a0, a1, a2, a3, a4] (r.1.toList ++ st) r.2) := qv_calls (n := 7) mdc_66 dX2_leadOfCut_46 mdo_66 (by decide) qfc_2_228 ⟨rfl, by decide, rfl⟩ rfl ⟨rfl, rfl, by simp only [List.length_cons]; omega⟩ h8
theorem eX2_leadOfCut_49 {d : Nat} {a0 a1 a2 a3 a4 : Value} {v : Int32} {hp : qzH} : qzV d 66 49 [a0, a1, a2, a3, a4] [.int v] hp = some (some (.int v), hp) := qv_iret mdc_66 dX2_leadOfCut_49 mdr_66 rfl
theorem dX2_goInto_0 : decode cX2_goInto 0 = .ok (.iload_n 1, 1) := by decide +kernel
theorem dX2_goInto_1 : decode cX2_goInto 1 = .ok (.iload_n 2, 1) := by decide +kernel
theorem dX2_goInto_2 : decode cX2_goInto 2 = .ok (.if_icmp .ge 10, 3) := by decide +kernel
theorem dX2_goInto_5 : decode cX2_goInto 5 = .ok (.iload 5, 2) := by decide +kernel
theorem dX2_goInto_7 : decode cX2_goInto 7 = .ok (.bipush 20, 2) := by decide +kernel
theorem dX2_goInto_9 : decode cX2_goInto 9 = .ok (.if_icmp .le 5, 3) := by decide +kernel
theorem dX2_goInto_12 : decode cX2_goInto 12 = .ok (.iconst 0, 1) := by decide +kernel
theorem dX2_goInto_13 : decode cX2_goInto 13 = .ok (.ireturn, 1) := by decide +kernel
theorem dX2_goInto_14 : decode cX2_goInto 14 = .ok (.aload_n 0, 1) := by decide +kernel
theorem dX2_goInto_15 : decode cX2_goInto 15 = .ok (.iload_n 1, 1) := by decide +kernel
theorem dX2_goInto_16 : decode cX2_goInto 16 = .ok (.iload_n 2, 1) := by decide +kernel
theorem dX2_goInto_17 : decode cX2_goInto 17 = .ok (.iload_n 3, 1) := by decide +kernel
theorem dX2_goInto_18 : decode cX2_goInto 18 = .ok (.iload 4, 2) := by decide +kernel
theorem dX2_goInto_20 : decode cX2_goInto 20 = .ok (.invokevirtual 232, 3) := by decide +kernel
theorem dX2_goInto_23 : decode cX2_goInto 23 = .ok (.istore 6, 2) := by decide +kernel
theorem dX2_goInto_25 : decode cX2_goInto 25 = .ok (.iload 6, 2) := by decide +kernel
theorem dX2_goInto_27 : decode cX2_goInto 27 = .ok (.ldc 227, 2) := by decide +kernel
theorem dX2_goInto_29 : decode cX2_goInto 29 = .ok (.if_icmp .eq 6, 3) := by decide +kernel
theorem dX2_goInto_32 : decode cX2_goInto 32 = .ok (.iload 6, 2) := by decide +kernel
theorem dX2_goInto_34 : decode cX2_goInto 34 = .ok (.ireturn, 1) := by decide +kernel
theorem dX2_goInto_35 : decode cX2_goInto 35 = .ok (.aload_n 0, 1) := by decide +kernel
theorem dX2_goInto_36 : decode cX2_goInto 36 = .ok (.getfield 240, 3) := by decide +kernel
theorem dX2_goInto_39 : decode cX2_goInto 39 = .ok (.iconst 0, 1) := by decide +kernel
theorem dX2_goInto_40 : decode cX2_goInto 40 = .ok (.invokestatic 72, 3) := by decide +kernel
theorem dX2_goInto_43 : decode cX2_goInto 43 = .ok (.iload_n 2, 1) := by decide +kernel
theorem dX2_goInto_44 : decode cX2_goInto 44 = .ok (.iload_n 1, 1) := by decide +kernel
theorem dX2_goInto_45 : decode cX2_goInto 45 = .ok (.isub, 1) := by decide +kernel
theorem dX2_goInto_46 : decode cX2_goInto 46 = .ok (.invokestatic 272, 3) := by decide +kernel
theorem dX2_goInto_49 : decode cX2_goInto 49 = .ok (.istore 7, 2) := by decide +kernel
theorem dX2_goInto_51 : decode cX2_goInto 51 = .ok (.iconst 1, 1) := by decide +kernel
theorem dX2_goInto_52 : decode cX2_goInto 52 = .ok (.istore 8, 2) := by decide +kernel
theorem dX2_goInto_54 : decode cX2_goInto 54 = .ok (.iload 8, 2) := by decide +kernel
theorem dX2_goInto_56 : decode cX2_goInto 56 = .ok (.iload 7, 2) := by decide +kernel
theorem dX2_goInto_58 : decode cX2_goInto 58 = .ok (.if_icmp .gt 57, 3) := by decide +kernel
theorem dX2_goInto_61 : decode cX2_goInto 61 = .ok (.iload 6, 2) := by decide +kernel
theorem dX2_goInto_63 : decode cX2_goInto 63 = .ok (.aload_n 0, 1) := by decide +kernel
theorem dX2_goInto_64 : decode cX2_goInto 64 = .ok (.iload_n 1, 1) := by decide +kernel
theorem dX2_goInto_65 : decode cX2_goInto 65 = .ok (.iload_n 2, 1) := by decide +kernel
theorem dX2_goInto_66 : decode cX2_goInto 66 = .ok (.iload_n 3, 1) := by decide +kernel
theorem dX2_goInto_67 : decode cX2_goInto 67 = .ok (.iload 4, 2) := by decide +kernel
theorem dX2_goInto_69 : decode cX2_goInto 69 = .ok (.iload 8, 2) := by decide +kernel
theorem dX2_goInto_71 : decode cX2_goInto 71 = .ok (.iconst 1, 1) := by decide +kernel
theorem dX2_goInto_72 : decode cX2_goInto 72 = .ok (.invokestatic 47, 3) := by decide +kernel
theorem dX2_goInto_75 : decode cX2_goInto 75 = .ok (.iload 5, 2) := by decide +kernel
theorem dX2_goInto_77 : decode cX2_goInto 77 = .ok (.invokestatic 228, 3) := by decide +kernel
theorem dX2_goInto_80 : decode cX2_goInto 80 = .ok (.invokestatic 277, 3) := by decide +kernel
theorem dX2_goInto_83 : decode cX2_goInto 83 = .ok (.istore 6, 2) := by decide +kernel
theorem dX2_goInto_85 : decode cX2_goInto 85 = .ok (.iload 6, 2) := by decide +kernel
theorem dX2_goInto_87 : decode cX2_goInto 87 = .ok (.aload_n 0, 1) := by decide +kernel
theorem dX2_goInto_88 : decode cX2_goInto 88 = .ok (.iload_n 1, 1) := by decide +kernel
theorem dX2_goInto_89 : decode cX2_goInto 89 = .ok (.iload_n 2, 1) := by decide +kernel
theorem dX2_goInto_90 : decode cX2_goInto 90 = .ok (.iload_n 3, 1) := by decide +kernel
theorem dX2_goInto_91 : decode cX2_goInto 91 = .ok (.iload 4, 2) := by decide +kernel
theorem dX2_goInto_93 : decode cX2_goInto 93 = .ok (.iload 8, 2) := by decide +kernel
theorem dX2_goInto_95 : decode cX2_goInto 95 = .ok (.iconst 0, 1) := by decide +kernel
theorem dX2_goInto_96 : decode cX2_goInto 96 = .ok (.invokestatic 47, 3) := by decide +kernel
theorem dX2_goInto_99 : decode cX2_goInto 99 = .ok (.iload 5, 2) := by decide +kernel
theorem dX2_goInto_101 : decode cX2_goInto 101 = .ok (.invokestatic 228, 3) := by decide +kernel
theorem dX2_goInto_104 : decode cX2_goInto 104 = .ok (.invokestatic 277, 3) := by decide +kernel
theorem dX2_goInto_107 : decode cX2_goInto 107 = .ok (.istore 6, 2) := by decide +kernel
theorem dX2_goInto_109 : decode cX2_goInto 109 = .ok (.iinc 8 1, 3) := by decide +kernel
theorem dX2_goInto_112 : decode cX2_goInto 112 = .ok (.goto (-58), 3) := by decide +kernel
theorem dX2_goInto_115 : decode cX2_goInto 115 = .ok (.aload_n 0, 1) := by decide +kernel
theorem dX2_goInto_116 : decode cX2_goInto 116 = .ok (.iload_n 1, 1) := by decide +kernel
theorem dX2_goInto_117 : decode cX2_goInto 117 = .ok (.iload_n 2, 1) := by decide +kernel
theorem dX2_goInto_118 : decode cX2_goInto 118 = .ok (.iload_n 3, 1) := by decide +kernel
theorem dX2_goInto_119 : decode cX2_goInto 119 = .ok (.iload 4, 2) := by decide +kernel
theorem dX2_goInto_121 : decode cX2_goInto 121 = .ok (.iload 6, 2) := by decide +kernel
theorem dX2_goInto_123 : decode cX2_goInto 123 = .ok (.invokevirtual 264, 3) := by decide +kernel
theorem dX2_goInto_126 : decode cX2_goInto 126 = .ok (.iload 6, 2) := by decide +kernel
theorem dX2_goInto_128 : decode cX2_goInto 128 = .ok (.ireturn, 1) := by decide +kernel
theorem eX2_goInto_0 {d : Nat} {a0 a2 a3 a4 a5 a6 a7 a8 : Value} {x : Int32} {st : List Value} {hp : qzH} : qzV d 67 0 [a0, .int x, a2, a3, a4, a5, a6, a7, a8] (st) hp = qzV d 67 1 [a0, .int x, a2, a3, a4, a5, a6, a7, a8] (.int x :: st) hp := qv_iload (i := 1) mdc_67 dX2_goInto_0 rfl rfl rfl
theorem eX2_goInto_1 {d : Nat} {a0 a1 a3 a4 a5 a6 a7 a8 : Value} {x : Int32} {st : List Value} {hp : qzH} : qzV d 67 1 [a0, a1, .int x, a3, a4, a5, a6, a7, a8] (st) hp = qzV d 67 2 [a0, a1, .int x, a3, a4, a5, a6, a7, a8] (.int x :: st) hp := qv_iload (i := 2) mdc_67 dX2_goInto_1 rfl rfl rfl
theorem eX2_goInto_2 {d : Nat} {a0 a1 a2 a3 a4 a5 a6 a7 a8 : Value} {x y : Int32} {st : List Value} {hp : qzH} : qzV d 67 2 [a0, a1, a2, a3, a4, a5, a6, a7, a8] (.int y :: .int x :: st) hp = if y ≤ x then qzV d 67 12 [a0, a1, a2, a3, a4, a5, a6, a7, a8] (st) hp else qzV d 67 5 [a0, a1, a2, a3, a4, a5, a6, a7, a8] (st) hp := qv_if2 mdc_67 dX2_goInto_2 rfl rfl rfl
theorem eX2_goInto_5 {d : Nat} {a0 a1 a2 a3 a4 a6 a7 a8 : Value} {x : Int32} {st : List Value} {hp : qzH} : qzV d 67 5 [a0, a1, a2, a3, a4, .int x, a6, a7, a8] (st) hp = qzV d 67 7 [a0, a1, a2, a3, a4, .int x, a6, a7, a8] (.int x :: st) hp := qv_iload (i := 5) mdc_67 dX2_goInto_5 rfl rfl rfl
theorem eX2_goInto_7 {d : Nat} {a0 a1 a2 a3 a4 a5 a6 a7 a8 : Value} {st : List Value} {hp : qzH} : qzV d 67 7 [a0, a1, a2, a3, a4, a5, a6, a7, a8] (st) hp = qzV d 67 9 [a0, a1, a2, a3, a4, a5, a6, a7, a8] (.int 20 :: st) hp := qv_bipush mdc_67 dX2_goInto_7 ib_20 rfl
theorem eX2_goInto_9 {d : Nat} {a0 a1 a2 a3 a4 a5 a6 a7 a8 : Value} {x y : Int32} {st : List Value} {hp : qzH} : qzV d 67 9 [a0, a1, a2, a3, a4, a5, a6, a7, a8] (.int y :: .int x :: st) hp = if x ≤ y then qzV d 67 14 [a0, a1, a2, a3, a4, a5, a6, a7, a8] (st) hp else qzV d 67 12 [a0, a1, a2, a3, a4, a5, a6, a7, a8] (st) hp := qv_if2 mdc_67 dX2_goInto_9 rfl rfl rfl
theorem eX2_goInto_12 {d : Nat} {a0 a1 a2 a3 a4 a5 a6 a7 a8 : Value} {st : List Value} {hp : qzH} : qzV d 67 12 [a0, a1, a2, a3, a4, a5, a6, a7, a8] (st) hp = qzV d 67 13 [a0, a1, a2, a3, a4, a5, a6, a7, a8] (.int 0 :: st) hp := qv_iconst mdc_67 dX2_goInto_12 il_0 rfl
theorem eX2_goInto_13 {d : Nat} {a0 a1 a2 a3 a4 a5 a6 a7 a8 : Value} {v : Int32} {hp : qzH} : qzV d 67 13 [a0, a1, a2, a3, a4, a5, a6, a7, a8] [.int v] hp = some (some (.int v), hp) := qv_iret mdc_67 dX2_goInto_13 mdr_67 rfl
theorem eX2_goInto_14 {d : Nat} {a1 a2 a3 a4 a5 a6 a7 a8 : Value} {x : Nat} {st : List Value} {hp : qzH} : qzV d 67 14 [.ref x, a1, a2, a3, a4, a5, a6, a7, a8] (st) hp = qzV d 67 15 [.ref x, a1, a2, a3, a4, a5, a6, a7, a8] (.ref x :: st) hp := qv_aload (i := 0) mdc_67 dX2_goInto_14 rfl rfl rfl
theorem eX2_goInto_15 {d : Nat} {a0 a2 a3 a4 a5 a6 a7 a8 : Value} {x : Int32} {st : List Value} {hp : qzH} : qzV d 67 15 [a0, .int x, a2, a3, a4, a5, a6, a7, a8] (st) hp = qzV d 67 16 [a0, .int x, a2, a3, a4, a5, a6, a7, a8] (.int x :: st) hp := qv_iload (i := 1) mdc_67 dX2_goInto_15 rfl rfl rfl
theorem eX2_goInto_16 {d : Nat} {a0 a1 a3 a4 a5 a6 a7 a8 : Value} {x : Int32} {st : List Value} {hp : qzH} : qzV d 67 16 [a0, a1, .int x, a3, a4, a5, a6, a7, a8] (st) hp = qzV d 67 17 [a0, a1, .int x, a3, a4, a5, a6, a7, a8] (.int x :: st) hp := qv_iload (i := 2) mdc_67 dX2_goInto_16 rfl rfl rfl
theorem eX2_goInto_17 {d : Nat} {a0 a1 a2 a4 a5 a6 a7 a8 : Value} {x : Int32} {st : List Value} {hp : qzH} : qzV d 67 17 [a0, a1, a2, .int x, a4, a5, a6, a7, a8] (st) hp = qzV d 67 18 [a0, a1, a2, .int x, a4, a5, a6, a7, a8] (.int x :: st) hp := qv_iload (i := 3) mdc_67 dX2_goInto_17 rfl rfl rfl
theorem eX2_goInto_18 {d : Nat} {a0 a1 a2 a3 a5 a6 a7 a8 : Value} {x : Int32} {st : List Value} {hp : qzH} : qzV d 67 18 [a0, a1, a2, a3, .int x, a5, a6, a7, a8] (st) hp = qzV d 67 20 [a0, a1, a2, a3, .int x, a5, a6, a7, a8] (.int x :: st) hp := qv_iload (i := 4) mdc_67 dX2_goInto_18 rfl rfl rfl
theorem eX2_goInto_20 {d : Nat} {a0 a1 a2 a3 a4 a5 a6 a7 a8 : Value} {w0 w1 w2 w3 : Value} {b : Nat} {st : List Value} {hp : qzH} (h8 : st.length ≤ 8) (hb : qzArr 1 b hp.1 = true) : qzV (d + 1) 67 20 [a0, a1, a2, a3, a4, a5, a6, a7, a8] (w3 :: w2 :: w1 :: w0 :: .ref b :: st) hp = (qzC d 21 (.ref b :: [w0, w1, w2, w3]) hp).bind (fun r => qzV (d + 1) 67 23 [a0, a1, a2, a3, a4, a5, a6, a7, a8] (r.1.toList ++ st) r.2) := qv_callv (n := 4) mdc_67 dX2_goInto_20 mdo_67 (by decide) qfc_2_232 ⟨rfl, by decide, rfl⟩ rfl ⟨rfl, rfl, by simp only [List.length_cons]; omega⟩ h8 hb
theorem eX2_goInto_23 {d : Nat} {a0 a1 a2 a3 a4 a5 a6 a7 a8 : Value} {x : Int32} {st : List Value} {hp : qzH} : qzV d 67 23 [a0, a1, a2, a3, a4, a5, a6, a7, a8] (.int x :: st) hp = qzV d 67 25 [a0, a1, a2, a3, a4, a5, .int x, a7, a8] (st) hp := qv_istore (i := 6) mdc_67 dX2_goInto_23 rfl (Nat.le_of_ble_eq_true rfl) rfl rfl
theorem eX2_goInto_25 {d : Nat} {a0 a1 a2 a3 a4 a5 a7 a8 : Value} {x : Int32} {st : List Value} {hp : qzH} : qzV d 67 25 [a0, a1, a2, a3, a4, a5, .int x, a7, a8] (st) hp = qzV d 67 27 [a0, a1, a2, a3, a4, a5, .int x, a7, a8] (.int x :: st) hp := qv_iload (i := 6) mdc_67 dX2_goInto_25 rfl rfl rfl
theorem eX2_goInto_27 {d : Nat} {a0 a1 a2 a3 a4 a5 a6 a7 a8 : Value} {st : List Value} {hp : qzH} : qzV d 67 27 [a0, a1, a2, a3, a4, a5, a6, a7, a8] (st) hp = qzV d 67 29 [a0, a1, a2, a3, a4, a5, a6, a7, a8] (.int (-1000000) :: st) hp := qv_ldc mdc_67 dX2_goInto_27 mdo_67 rfl rfl
theorem eX2_goInto_29 {d : Nat} {a0 a1 a2 a3 a4 a5 a6 a7 a8 : Value} {x y : Int32} {st : List Value} {hp : qzH} : qzV d 67 29 [a0, a1, a2, a3, a4, a5, a6, a7, a8] (.int y :: .int x :: st) hp = if x = y then qzV d 67 35 [a0, a1, a2, a3, a4, a5, a6, a7, a8] (st) hp else qzV d 67 32 [a0, a1, a2, a3, a4, a5, a6, a7, a8] (st) hp := qv_if2 mdc_67 dX2_goInto_29 rfl rfl rfl
theorem eX2_goInto_32 {d : Nat} {a0 a1 a2 a3 a4 a5 a7 a8 : Value} {x : Int32} {st : List Value} {hp : qzH} : qzV d 67 32 [a0, a1, a2, a3, a4, a5, .int x, a7, a8] (st) hp = qzV d 67 34 [a0, a1, a2, a3, a4, a5, .int x, a7, a8] (.int x :: st) hp := qv_iload (i := 6) mdc_67 dX2_goInto_32 rfl rfl rfl
theorem eX2_goInto_34 {d : Nat} {a0 a1 a2 a3 a4 a5 a6 a7 a8 : Value} {v : Int32} {hp : qzH} : qzV d 67 34 [a0, a1, a2, a3, a4, a5, a6, a7, a8] [.int v] hp = some (some (.int v), hp) := qv_iret mdc_67 dX2_goInto_34 mdr_67 rfl
theorem eX2_goInto_35 {d : Nat} {a1 a2 a3 a4 a5 a6 a7 a8 : Value} {x : Nat} {st : List Value} {hp : qzH} : qzV d 67 35 [.ref x, a1, a2, a3, a4, a5, a6, a7, a8] (st) hp = qzV d 67 36 [.ref x, a1, a2, a3, a4, a5, a6, a7, a8] (.ref x :: st) hp := qv_aload (i := 0) mdc_67 dX2_goInto_35 rfl rfl rfl
theorem eX2_goInto_36 {d : Nat} {a0 a1 a2 a3 a4 a5 a6 a7 a8 : Value} {a : Nat} {st : List Value} {hp : qzH} (ha : qzArr 1 a hp.1 = true) : qzV d 67 36 [a0, a1, a2, a3, a4, a5, a6, a7, a8] (.ref a :: st) hp = qzV d 67 39 [a0, a1, a2, a3, a4, a5, a6, a7, a8] (va_rf (hp.2.1 a 1) :: st) hp := qv_getR mdc_67 dX2_goInto_36 mdo_67 qff_2_240 ⟨by decide, rfl⟩ rfl ha
theorem eX2_goInto_39 {d : Nat} {a0 a1 a2 a3 a4 a5 a6 a7 a8 : Value} {st : List Value} {hp : qzH} : qzV d 67 39 [a0, a1, a2, a3, a4, a5, a6, a7, a8] (st) hp = qzV d 67 40 [a0, a1, a2, a3, a4, a5, a6, a7, a8] (.int 0 :: st) hp := qv_iconst mdc_67 dX2_goInto_39 il_0 rfl
theorem eX2_goInto_40 {d : Nat} {a0 a1 a2 a3 a4 a5 a6 a7 a8 : Value} {w0 w1 : Value} {st : List Value} {hp : qzH} (h8 : st.length ≤ 8) : qzV (d + 1) 67 40 [a0, a1, a2, a3, a4, a5, a6, a7, a8] (w1 :: w0 :: st) hp = (qzC d 84 [w0, w1] hp).bind (fun r => qzV (d + 1) 67 43 [a0, a1, a2, a3, a4, a5, a6, a7, a8] (r.1.toList ++ st) r.2) := qv_calls (n := 2) mdc_67 dX2_goInto_40 mdo_67 (by decide) qfc_2_72 ⟨rfl, by decide, rfl⟩ rfl ⟨rfl, rfl, by simp only [List.length_cons]; omega⟩ h8
theorem eX2_goInto_43 {d : Nat} {a0 a1 a3 a4 a5 a6 a7 a8 : Value} {x : Int32} {st : List Value} {hp : qzH} : qzV d 67 43 [a0, a1, .int x, a3, a4, a5, a6, a7, a8] (st) hp = qzV d 67 44 [a0, a1, .int x, a3, a4, a5, a6, a7, a8] (.int x :: st) hp := qv_iload (i := 2) mdc_67 dX2_goInto_43 rfl rfl rfl
theorem eX2_goInto_44 {d : Nat} {a0 a2 a3 a4 a5 a6 a7 a8 : Value} {x : Int32} {st : List Value} {hp : qzH} : qzV d 67 44 [a0, .int x, a2, a3, a4, a5, a6, a7, a8] (st) hp = qzV d 67 45 [a0, .int x, a2, a3, a4, a5, a6, a7, a8] (.int x :: st) hp := qv_iload (i := 1) mdc_67 dX2_goInto_44 rfl rfl rfl
theorem eX2_goInto_45 {d : Nat} {a0 a1 a2 a3 a4 a5 a6 a7 a8 : Value} {x y : Int32} {st : List Value} {hp : qzH} : qzV d 67 45 [a0, a1, a2, a3, a4, a5, a6, a7, a8] (.int y :: .int x :: st) hp = qzV d 67 46 [a0, a1, a2, a3, a4, a5, a6, a7, a8] (.int (x - y) :: st) hp := qv_bin (f := fun x y => x - y) mdc_67 dX2_goInto_45 rfl rfl
theorem eX2_goInto_46 {d : Nat} {a0 a1 a2 a3 a4 a5 a6 a7 a8 : Value} {x y : Int32} {st : List Value} {hp : qzH} (h8 : st.length ≤ 8) : qzV d 67 46 [a0, a1, a2, a3, a4, a5, a6, a7, a8] (.int y :: .int x :: st) hp = qzV d 67 49 [a0, a1, a2, a3, a4, a5, a6, a7, a8] (.int (if y < x then y else x) :: st) hp := qv_min mdc_67 dX2_goInto_46 mdo_67 (by decide) rfl h8
theorem eX2_goInto_49 {d : Nat} {a0 a1 a2 a3 a4 a5 a6 a7 a8 : Value} {x : Int32} {st : List Value} {hp : qzH} : qzV d 67 49 [a0, a1, a2, a3, a4, a5, a6, a7, a8] (.int x :: st) hp = qzV d 67 51 [a0, a1, a2, a3, a4, a5, a6, .int x, a8] (st) hp := qv_istore (i := 7) mdc_67 dX2_goInto_49 rfl (Nat.le_of_ble_eq_true rfl) rfl rfl
theorem eX2_goInto_51 {d : Nat} {a0 a1 a2 a3 a4 a5 a6 a7 a8 : Value} {st : List Value} {hp : qzH} : qzV d 67 51 [a0, a1, a2, a3, a4, a5, a6, a7, a8] (st) hp = qzV d 67 52 [a0, a1, a2, a3, a4, a5, a6, a7, a8] (.int 1 :: st) hp := qv_iconst mdc_67 dX2_goInto_51 il_1 rfl
theorem eX2_goInto_52 {d : Nat} {a0 a1 a2 a3 a4 a5 a6 a7 a8 : Value} {x : Int32} {st : List Value} {hp : qzH} : qzV d 67 52 [a0, a1, a2, a3, a4, a5, a6, a7, a8] (.int x :: st) hp = qzV d 67 54 [a0, a1, a2, a3, a4, a5, a6, a7, .int x] (st) hp := qv_istore (i := 8) mdc_67 dX2_goInto_52 rfl (Nat.le_of_ble_eq_true rfl) rfl rfl
theorem eX2_goInto_54 {d : Nat} {a0 a1 a2 a3 a4 a5 a6 a7 : Value} {x : Int32} {st : List Value} {hp : qzH} : qzV d 67 54 [a0, a1, a2, a3, a4, a5, a6, a7, .int x] (st) hp = qzV d 67 56 [a0, a1, a2, a3, a4, a5, a6, a7, .int x] (.int x :: st) hp := qv_iload (i := 8) mdc_67 dX2_goInto_54 rfl rfl rfl
theorem eX2_goInto_56 {d : Nat} {a0 a1 a2 a3 a4 a5 a6 a8 : Value} {x : Int32} {st : List Value} {hp : qzH} : qzV d 67 56 [a0, a1, a2, a3, a4, a5, a6, .int x, a8] (st) hp = qzV d 67 58 [a0, a1, a2, a3, a4, a5, a6, .int x, a8] (.int x :: st) hp := qv_iload (i := 7) mdc_67 dX2_goInto_56 rfl rfl rfl
theorem eX2_goInto_58 {d : Nat} {a0 a1 a2 a3 a4 a5 a6 a7 a8 : Value} {x y : Int32} {st : List Value} {hp : qzH} : qzV d 67 58 [a0, a1, a2, a3, a4, a5, a6, a7, a8] (.int y :: .int x :: st) hp = if y < x then qzV d 67 115 [a0, a1, a2, a3, a4, a5, a6, a7, a8] (st) hp else qzV d 67 61 [a0, a1, a2, a3, a4, a5, a6, a7, a8] (st) hp := qv_if2 mdc_67 dX2_goInto_58 rfl rfl rfl
theorem eX2_goInto_61 {d : Nat} {a0 a1 a2 a3 a4 a5 a7 a8 : Value} {x : Int32} {st : List Value} {hp : qzH} : qzV d 67 61 [a0, a1, a2, a3, a4, a5, .int x, a7, a8] (st) hp = qzV d 67 63 [a0, a1, a2, a3, a4, a5, .int x, a7, a8] (.int x :: st) hp := qv_iload (i := 6) mdc_67 dX2_goInto_61 rfl rfl rfl
theorem eX2_goInto_63 {d : Nat} {a1 a2 a3 a4 a5 a6 a7 a8 : Value} {x : Nat} {st : List Value} {hp : qzH} : qzV d 67 63 [.ref x, a1, a2, a3, a4, a5, a6, a7, a8] (st) hp = qzV d 67 64 [.ref x, a1, a2, a3, a4, a5, a6, a7, a8] (.ref x :: st) hp := qv_aload (i := 0) mdc_67 dX2_goInto_63 rfl rfl rfl
theorem eX2_goInto_64 {d : Nat} {a0 a2 a3 a4 a5 a6 a7 a8 : Value} {x : Int32} {st : List Value} {hp : qzH} : qzV d 67 64 [a0, .int x, a2, a3, a4, a5, a6, a7, a8] (st) hp = qzV d 67 65 [a0, .int x, a2, a3, a4, a5, a6, a7, a8] (.int x :: st) hp := qv_iload (i := 1) mdc_67 dX2_goInto_64 rfl rfl rfl
theorem eX2_goInto_65 {d : Nat} {a0 a1 a3 a4 a5 a6 a7 a8 : Value} {x : Int32} {st : List Value} {hp : qzH} : qzV d 67 65 [a0, a1, .int x, a3, a4, a5, a6, a7, a8] (st) hp = qzV d 67 66 [a0, a1, .int x, a3, a4, a5, a6, a7, a8] (.int x :: st) hp := qv_iload (i := 2) mdc_67 dX2_goInto_65 rfl rfl rfl
theorem eX2_goInto_66 {d : Nat} {a0 a1 a2 a4 a5 a6 a7 a8 : Value} {x : Int32} {st : List Value} {hp : qzH} : qzV d 67 66 [a0, a1, a2, .int x, a4, a5, a6, a7, a8] (st) hp = qzV d 67 67 [a0, a1, a2, .int x, a4, a5, a6, a7, a8] (.int x :: st) hp := qv_iload (i := 3) mdc_67 dX2_goInto_66 rfl rfl rfl
theorem eX2_goInto_67 {d : Nat} {a0 a1 a2 a3 a5 a6 a7 a8 : Value} {x : Int32} {st : List Value} {hp : qzH} : qzV d 67 67 [a0, a1, a2, a3, .int x, a5, a6, a7, a8] (st) hp = qzV d 67 69 [a0, a1, a2, a3, .int x, a5, a6, a7, a8] (.int x :: st) hp := qv_iload (i := 4) mdc_67 dX2_goInto_67 rfl rfl rfl
theorem eX2_goInto_69 {d : Nat} {a0 a1 a2 a3 a4 a5 a6 a7 : Value} {x : Int32} {st : List Value} {hp : qzH} : qzV d 67 69 [a0, a1, a2, a3, a4, a5, a6, a7, .int x] (st) hp = qzV d 67 71 [a0, a1, a2, a3, a4, a5, a6, a7, .int x] (.int x :: st) hp := qv_iload (i := 8) mdc_67 dX2_goInto_69 rfl rfl rfl
theorem eX2_goInto_71 {d : Nat} {a0 a1 a2 a3 a4 a5 a6 a7 a8 : Value} {st : List Value} {hp : qzH} : qzV d 67 71 [a0, a1, a2, a3, a4, a5, a6, a7, a8] (st) hp = qzV d 67 72 [a0, a1, a2, a3, a4, a5, a6, a7, a8] (.int 1 :: st) hp := qv_iconst mdc_67 dX2_goInto_71 il_1 rfl
theorem eX2_goInto_72 {d : Nat} {a0 a1 a2 a3 a4 a5 a6 a7 a8 : Value} {w0 w1 : Value} {st : List Value} {hp : qzH} (h8 : st.length ≤ 8) : qzV (d + 1) 67 72 [a0, a1, a2, a3, a4, a5, a6, a7, a8] (w1 :: w0 :: st) hp = (qzC d 53 [w0, w1] hp).bind (fun r => qzV (d + 1) 67 75 [a0, a1, a2, a3, a4, a5, a6, a7, a8] (r.1.toList ++ st) r.2) := qv_calls (n := 2) mdc_67 dX2_goInto_72 mdo_67 (by decide) qfc_2_47 ⟨rfl, by decide, rfl⟩ rfl ⟨rfl, rfl, by simp only [List.length_cons]; omega⟩ h8
theorem eX2_goInto_75 {d : Nat} {a0 a1 a2 a3 a4 a6 a7 a8 : Value} {x : Int32} {st : List Value} {hp : qzH} : qzV d 67 75 [a0, a1, a2, a3, a4, .int x, a6, a7, a8] (st) hp = qzV d 67 77 [a0, a1, a2, a3, a4, .int x, a6, a7, a8] (.int x :: st) hp := qv_iload (i := 5) mdc_67 dX2_goInto_75 rfl rfl rfl
theorem eX2_goInto_77 {d : Nat} {a0 a1 a2 a3 a4 a5 a6 a7 a8 : Value} {w0 w1 w2 w3 w4 w5 w6 : Value} {st : List Value} {hp : qzH} (h8 : st.length ≤ 8) : qzV (d + 1) 67 77 [a0, a1, a2, a3, a4, a5, a6, a7, a8] (w6 :: w5 :: w4 :: w3 :: w2 :: w1 :: w0 :: st) hp = (qzC d 68 [w0, w1, w2, w3, w4, w5, w6] hp).bind (fun r => qzV (d + 1) 67 80 [a0, a1, a2, a3, a4, a5, a6, a7, a8] (r.1.toList ++ st) r.2) := qv_calls (n := 7) mdc_67 dX2_goInto_77 mdo_67 (by decide) qfc_2_228 ⟨rfl, by decide, rfl⟩ rfl ⟨rfl, rfl, by simp only [List.length_cons]; omega⟩ h8
theorem eX2_goInto_80 {d : Nat} {a0 a1 a2 a3 a4 a5 a6 a7 a8 : Value} {x y : Int32} {st : List Value} {hp : qzH} (h8 : st.length ≤ 8) : qzV d 67 80 [a0, a1, a2, a3, a4, a5, a6, a7, a8] (.int y :: .int x :: st) hp = qzV d 67 83 [a0, a1, a2, a3, a4, a5, a6, a7, a8] (.int (if x < y then y else x) :: st) hp := qv_max mdc_67 dX2_goInto_80 mdo_67 (by decide) rfl h8
theorem eX2_goInto_83 {d : Nat} {a0 a1 a2 a3 a4 a5 a6 a7 a8 : Value} {x : Int32} {st : List Value} {hp : qzH} : qzV d 67 83 [a0, a1, a2, a3, a4, a5, a6, a7, a8] (.int x :: st) hp = qzV d 67 85 [a0, a1, a2, a3, a4, a5, .int x, a7, a8] (st) hp := qv_istore (i := 6) mdc_67 dX2_goInto_83 rfl (Nat.le_of_ble_eq_true rfl) rfl rfl
theorem eX2_goInto_85 {d : Nat} {a0 a1 a2 a3 a4 a5 a7 a8 : Value} {x : Int32} {st : List Value} {hp : qzH} : qzV d 67 85 [a0, a1, a2, a3, a4, a5, .int x, a7, a8] (st) hp = qzV d 67 87 [a0, a1, a2, a3, a4, a5, .int x, a7, a8] (.int x :: st) hp := qv_iload (i := 6) mdc_67 dX2_goInto_85 rfl rfl rfl
theorem eX2_goInto_87 {d : Nat} {a1 a2 a3 a4 a5 a6 a7 a8 : Value} {x : Nat} {st : List Value} {hp : qzH} : qzV d 67 87 [.ref x, a1, a2, a3, a4, a5, a6, a7, a8] (st) hp = qzV d 67 88 [.ref x, a1, a2, a3, a4, a5, a6, a7, a8] (.ref x :: st) hp := qv_aload (i := 0) mdc_67 dX2_goInto_87 rfl rfl rfl
theorem eX2_goInto_88 {d : Nat} {a0 a2 a3 a4 a5 a6 a7 a8 : Value} {x : Int32} {st : List Value} {hp : qzH} : qzV d 67 88 [a0, .int x, a2, a3, a4, a5, a6, a7, a8] (st) hp = qzV d 67 89 [a0, .int x, a2, a3, a4, a5, a6, a7, a8] (.int x :: st) hp := qv_iload (i := 1) mdc_67 dX2_goInto_88 rfl rfl rfl
theorem eX2_goInto_89 {d : Nat} {a0 a1 a3 a4 a5 a6 a7 a8 : Value} {x : Int32} {st : List Value} {hp : qzH} : qzV d 67 89 [a0, a1, .int x, a3, a4, a5, a6, a7, a8] (st) hp = qzV d 67 90 [a0, a1, .int x, a3, a4, a5, a6, a7, a8] (.int x :: st) hp := qv_iload (i := 2) mdc_67 dX2_goInto_89 rfl rfl rfl
theorem eX2_goInto_90 {d : Nat} {a0 a1 a2 a4 a5 a6 a7 a8 : Value} {x : Int32} {st : List Value} {hp : qzH} : qzV d 67 90 [a0, a1, a2, .int x, a4, a5, a6, a7, a8] (st) hp = qzV d 67 91 [a0, a1, a2, .int x, a4, a5, a6, a7, a8] (.int x :: st) hp := qv_iload (i := 3) mdc_67 dX2_goInto_90 rfl rfl rfl
theorem eX2_goInto_91 {d : Nat} {a0 a1 a2 a3 a5 a6 a7 a8 : Value} {x : Int32} {st : List Value} {hp : qzH} : qzV d 67 91 [a0, a1, a2, a3, .int x, a5, a6, a7, a8] (st) hp = qzV d 67 93 [a0, a1, a2, a3, .int x, a5, a6, a7, a8] (.int x :: st) hp := qv_iload (i := 4) mdc_67 dX2_goInto_91 rfl rfl rfl
theorem eX2_goInto_93 {d : Nat} {a0 a1 a2 a3 a4 a5 a6 a7 : Value} {x : Int32} {st : List Value} {hp : qzH} : qzV d 67 93 [a0, a1, a2, a3, a4, a5, a6, a7, .int x] (st) hp = qzV d 67 95 [a0, a1, a2, a3, a4, a5, a6, a7, .int x] (.int x :: st) hp := qv_iload (i := 8) mdc_67 dX2_goInto_93 rfl rfl rfl
theorem eX2_goInto_95 {d : Nat} {a0 a1 a2 a3 a4 a5 a6 a7 a8 : Value} {st : List Value} {hp : qzH} : qzV d 67 95 [a0, a1, a2, a3, a4, a5, a6, a7, a8] (st) hp = qzV d 67 96 [a0, a1, a2, a3, a4, a5, a6, a7, a8] (.int 0 :: st) hp := qv_iconst mdc_67 dX2_goInto_95 il_0 rfl
theorem eX2_goInto_96 {d : Nat} {a0 a1 a2 a3 a4 a5 a6 a7 a8 : Value} {w0 w1 : Value} {st : List Value} {hp : qzH} (h8 : st.length ≤ 8) : qzV (d + 1) 67 96 [a0, a1, a2, a3, a4, a5, a6, a7, a8] (w1 :: w0 :: st) hp = (qzC d 53 [w0, w1] hp).bind (fun r => qzV (d + 1) 67 99 [a0, a1, a2, a3, a4, a5, a6, a7, a8] (r.1.toList ++ st) r.2) := qv_calls (n := 2) mdc_67 dX2_goInto_96 mdo_67 (by decide) qfc_2_47 ⟨rfl, by decide, rfl⟩ rfl ⟨rfl, rfl, by simp only [List.length_cons]; omega⟩ h8
theorem eX2_goInto_99 {d : Nat} {a0 a1 a2 a3 a4 a6 a7 a8 : Value} {x : Int32} {st : List Value} {hp : qzH} : qzV d 67 99 [a0, a1, a2, a3, a4, .int x, a6, a7, a8] (st) hp = qzV d 67 101 [a0, a1, a2, a3, a4, .int x, a6, a7, a8] (.int x :: st) hp := qv_iload (i := 5) mdc_67 dX2_goInto_99 rfl rfl rfl
theorem eX2_goInto_101 {d : Nat} {a0 a1 a2 a3 a4 a5 a6 a7 a8 : Value} {w0 w1 w2 w3 w4 w5 w6 : Value} {st : List Value} {hp : qzH} (h8 : st.length ≤ 8) : qzV (d + 1) 67 101 [a0, a1, a2, a3, a4, a5, a6, a7, a8] (w6 :: w5 :: w4 :: w3 :: w2 :: w1 :: w0 :: st) hp = (qzC d 68 [w0, w1, w2, w3, w4, w5, w6] hp).bind (fun r => qzV (d + 1) 67 104 [a0, a1, a2, a3, a4, a5, a6, a7, a8] (r.1.toList ++ st) r.2) := qv_calls (n := 7) mdc_67 dX2_goInto_101 mdo_67 (by decide) qfc_2_228 ⟨rfl, by decide, rfl⟩ rfl ⟨rfl, rfl, by simp only [List.length_cons]; omega⟩ h8
theorem eX2_goInto_104 {d : Nat} {a0 a1 a2 a3 a4 a5 a6 a7 a8 : Value} {x y : Int32} {st : List Value} {hp : qzH} (h8 : st.length ≤ 8) : qzV d 67 104 [a0, a1, a2, a3, a4, a5, a6, a7, a8] (.int y :: .int x :: st) hp = qzV d 67 107 [a0, a1, a2, a3, a4, a5, a6, a7, a8] (.int (if x < y then y else x) :: st) hp := qv_max mdc_67 dX2_goInto_104 mdo_67 (by decide) rfl h8
theorem eX2_goInto_107 {d : Nat} {a0 a1 a2 a3 a4 a5 a6 a7 a8 : Value} {x : Int32} {st : List Value} {hp : qzH} : qzV d 67 107 [a0, a1, a2, a3, a4, a5, a6, a7, a8] (.int x :: st) hp = qzV d 67 109 [a0, a1, a2, a3, a4, a5, .int x, a7, a8] (st) hp := qv_istore (i := 6) mdc_67 dX2_goInto_107 rfl (Nat.le_of_ble_eq_true rfl) rfl rfl
theorem eX2_goInto_109 {d : Nat} {a0 a1 a2 a3 a4 a5 a6 a7 : Value} {x : Int32} {st : List Value} {hp : qzH} : qzV d 67 109 [a0, a1, a2, a3, a4, a5, a6, a7, .int x] (st) hp = qzV d 67 112 [a0, a1, a2, a3, a4, a5, a6, a7, .int (x + 1)] (st) hp := qv_iinc mdc_67 dX2_goInto_109 rfl il_1 rfl rfl
theorem eX2_goInto_112 {d : Nat} {a0 a1 a2 a3 a4 a5 a6 a7 a8 : Value} {st : List Value} {hp : qzH} : qzV d 67 112 [a0, a1, a2, a3, a4, a5, a6, a7, a8] (st) hp = qzV d 67 54 [a0, a1, a2, a3, a4, a5, a6, a7, a8] (st) hp := qv_goto mdc_67 dX2_goInto_112 rfl
theorem eX2_goInto_115 {d : Nat} {a1 a2 a3 a4 a5 a6 a7 a8 : Value} {x : Nat} {st : List Value} {hp : qzH} : qzV d 67 115 [.ref x, a1, a2, a3, a4, a5, a6, a7, a8] (st) hp = qzV d 67 116 [.ref x, a1, a2, a3, a4, a5, a6, a7, a8] (.ref x :: st) hp := qv_aload (i := 0) mdc_67 dX2_goInto_115 rfl rfl rfl
theorem eX2_goInto_116 {d : Nat} {a0 a2 a3 a4 a5 a6 a7 a8 : Value} {x : Int32} {st : List Value} {hp : qzH} : qzV d 67 116 [a0, .int x, a2, a3, a4, a5, a6, a7, a8] (st) hp = qzV d 67 117 [a0, .int x, a2, a3, a4, a5, a6, a7, a8] (.int x :: st) hp := qv_iload (i := 1) mdc_67 dX2_goInto_116 rfl rfl rfl
theorem eX2_goInto_117 {d : Nat} {a0 a1 a3 a4 a5 a6 a7 a8 : Value} {x : Int32} {st : List Value} {hp : qzH} : qzV d 67 117 [a0, a1, .int x, a3, a4, a5, a6, a7, a8] (st) hp = qzV d 67 118 [a0, a1, .int x, a3, a4, a5, a6, a7, a8] (.int x :: st) hp := qv_iload (i := 2) mdc_67 dX2_goInto_117 rfl rfl rfl
theorem eX2_goInto_118 {d : Nat} {a0 a1 a2 a4 a5 a6 a7 a8 : Value} {x : Int32} {st : List Value} {hp : qzH} : qzV d 67 118 [a0, a1, a2, .int x, a4, a5, a6, a7, a8] (st) hp = qzV d 67 119 [a0, a1, a2, .int x, a4, a5, a6, a7, a8] (.int x :: st) hp := qv_iload (i := 3) mdc_67 dX2_goInto_118 rfl rfl rfl
theorem eX2_goInto_119 {d : Nat} {a0 a1 a2 a3 a5 a6 a7 a8 : Value} {x : Int32} {st : List Value} {hp : qzH} : qzV d 67 119 [a0, a1, a2, a3, .int x, a5, a6, a7, a8] (st) hp = qzV d 67 121 [a0, a1, a2, a3, .int x, a5, a6, a7, a8] (.int x :: st) hp := qv_iload (i := 4) mdc_67 dX2_goInto_119 rfl rfl rfl
theorem eX2_goInto_121 {d : Nat} {a0 a1 a2 a3 a4 a5 a7 a8 : Value} {x : Int32} {st : List Value} {hp : qzH} : qzV d 67 121 [a0, a1, a2, a3, a4, a5, .int x, a7, a8] (st) hp = qzV d 67 123 [a0, a1, a2, a3, a4, a5, .int x, a7, a8] (.int x :: st) hp := qv_iload (i := 6) mdc_67 dX2_goInto_121 rfl rfl rfl
theorem eX2_goInto_123 {d : Nat} {a0 a1 a2 a3 a4 a5 a6 a7 a8 : Value} {w0 w1 w2 w3 w4 : Value} {b : Nat} {st : List Value} {hp : qzH} (h8 : st.length ≤ 8) (hb : qzArr 1 b hp.1 = true) : qzV (d + 1) 67 123 [a0, a1, a2, a3, a4, a5, a6, a7, a8] (w4 :: w3 :: w2 :: w1 :: w0 :: .ref b :: st) hp = (qzC d 22 (.ref b :: [w0, w1, w2, w3, w4]) hp).bind (fun r => qzV (d + 1) 67 126 [a0, a1, a2, a3, a4, a5, a6, a7, a8] (r.1.toList ++ st) r.2) := qv_callv (n := 5) mdc_67 dX2_goInto_123 mdo_67 (by decide) qfc_2_264 ⟨rfl, by decide, rfl⟩ rfl ⟨rfl, rfl, by simp only [List.length_cons]; omega⟩ h8 hb
theorem eX2_goInto_126 {d : Nat} {a0 a1 a2 a3 a4 a5 a7 a8 : Value} {x : Int32} {st : List Value} {hp : qzH} : qzV d 67 126 [a0, a1, a2, a3, a4, a5, .int x, a7, a8] (st) hp = qzV d 67 128 [a0, a1, a2, a3, a4, a5, .int x, a7, a8] (.int x :: st) hp := qv_iload (i := 6) mdc_67 dX2_goInto_126 rfl rfl rfl
theorem eX2_goInto_128 {d : Nat} {a0 a1 a2 a3 a4 a5 a6 a7 a8 : Value} {v : Int32} {hp : qzH} : qzV d 67 128 [a0, a1, a2, a3, a4, a5, a6, a7, a8] [.int v] hp = some (some (.int v), hp) := qv_iret mdc_67 dX2_goInto_128 mdr_67 rfl
theorem dX2_goThrough_0 : decode cX2_goThrough 0 = .ok (.iload 5, 2) := by decide +kernel
theorem dX2_goThrough_2 : decode cX2_goThrough 2 = .ok (.invokestatic 218, 3) := by decide +kernel
theorem dX2_goThrough_5 : decode cX2_goThrough 5 = .ok (.istore 7, 2) := by decide +kernel
theorem dX2_goThrough_7 : decode cX2_goThrough 7 = .ok (.iload_n 1, 1) := by decide +kernel
theorem dX2_goThrough_8 : decode cX2_goThrough 8 = .ok (.iload_n 2, 1) := by decide +kernel
theorem dX2_goThrough_9 : decode cX2_goThrough 9 = .ok (.iload 5, 2) := by decide +kernel
theorem dX2_goThrough_11 : decode cX2_goThrough 11 = .ok (.invokestatic 245, 3) := by decide +kernel
theorem dX2_goThrough_14 : decode cX2_goThrough 14 = .ok (.istore 8, 2) := by decide +kernel
theorem dX2_goThrough_16 : decode cX2_goThrough 16 = .ok (.iload 7, 2) := by decide +kernel
theorem dX2_goThrough_18 : decode cX2_goThrough 18 = .ok (.aload_n 0, 1) := by decide +kernel
theorem dX2_goThrough_19 : decode cX2_goThrough 19 = .ok (.getfield 249, 3) := by decide +kernel
theorem dX2_goThrough_22 : decode cX2_goThrough 22 = .ok (.iload 8, 2) := by decide +kernel
theorem dX2_goThrough_24 : decode cX2_goThrough 24 = .ok (.iload 7, 2) := by decide +kernel
theorem dX2_goThrough_26 : decode cX2_goThrough 26 = .ok (.iload_n 3, 1) := by decide +kernel
theorem dX2_goThrough_27 : decode cX2_goThrough 27 = .ok (.invokestatic 250, 3) := by decide +kernel
theorem dX2_goThrough_30 : decode cX2_goThrough 30 = .ok (.aload_n 0, 1) := by decide +kernel
theorem dX2_goThrough_31 : decode cX2_goThrough 31 = .ok (.getfield 240, 3) := by decide +kernel
theorem dX2_goThrough_34 : decode cX2_goThrough 34 = .ok (.invokestatic 254, 3) := by decide +kernel
theorem dX2_goThrough_37 : decode cX2_goThrough 37 = .ok (.istore 9, 2) := by decide +kernel
theorem dX2_goThrough_39 : decode cX2_goThrough 39 = .ok (.aload_n 0, 1) := by decide +kernel
theorem dX2_goThrough_40 : decode cX2_goThrough 40 = .ok (.getfield 249, 3) := by decide +kernel
theorem dX2_goThrough_43 : decode cX2_goThrough 43 = .ok (.iload 8, 2) := by decide +kernel
theorem dX2_goThrough_45 : decode cX2_goThrough 45 = .ok (.iload 7, 2) := by decide +kernel
theorem dX2_goThrough_47 : decode cX2_goThrough 47 = .ok (.iadd, 1) := by decide +kernel
theorem dX2_goThrough_48 : decode cX2_goThrough 48 = .ok (.iconst 1, 1) := by decide +kernel
theorem dX2_goThrough_49 : decode cX2_goThrough 49 = .ok (.isub, 1) := by decide +kernel
theorem dX2_goThrough_50 : decode cX2_goThrough 50 = .ok (.invokestatic 72, 3) := by decide +kernel
theorem dX2_goThrough_53 : decode cX2_goThrough 53 = .ok (.istore 10, 2) := by decide +kernel
theorem dX2_goThrough_55 : decode cX2_goThrough 55 = .ok (.iload 9, 2) := by decide +kernel
theorem dX2_goThrough_57 : decode cX2_goThrough 57 = .ok (.aload_n 0, 1) := by decide +kernel
theorem dX2_goThrough_58 : decode cX2_goThrough 58 = .ok (.iload_n 1, 1) := by decide +kernel
theorem dX2_goThrough_59 : decode cX2_goThrough 59 = .ok (.iload 5, 2) := by decide +kernel
theorem dX2_goThrough_61 : decode cX2_goThrough 61 = .ok (.invokestatic 258, 3) := by decide +kernel
theorem dX2_goThrough_64 : decode cX2_goThrough 64 = .ok (.iload_n 2, 1) := by decide +kernel
theorem dX2_goThrough_65 : decode cX2_goThrough 65 = .ok (.iload 5, 2) := by decide +kernel
theorem dX2_goThrough_67 : decode cX2_goThrough 67 = .ok (.invokestatic 261, 3) := by decide +kernel
theorem dX2_goThrough_70 : decode cX2_goThrough 70 = .ok (.iload 4, 2) := by decide +kernel
theorem dX2_goThrough_72 : decode cX2_goThrough 72 = .ok (.iload 10, 2) := by decide +kernel
theorem dX2_goThrough_74 : decode cX2_goThrough 74 = .ok (.iload 6, 2) := by decide +kernel
theorem dX2_goThrough_76 : decode cX2_goThrough 76 = .ok (.iconst 1, 1) := by decide +kernel
theorem dX2_goThrough_77 : decode cX2_goThrough 77 = .ok (.iadd, 1) := by decide +kernel
theorem dX2_goThrough_78 : decode cX2_goThrough 78 = .ok (.invokestatic 268, 3) := by decide +kernel
theorem dX2_goThrough_81 : decode cX2_goThrough 81 = .ok (.isub, 1) := by decide +kernel
theorem dX2_goThrough_82 : decode cX2_goThrough 82 = .ok (.ireturn, 1) := by decide +kernel
theorem eX2_goThrough_0 {d : Nat} {a0 a1 a2 a3 a4 a6 a7 a8 a9 a10 : Value} {x : Int32} {st : List Value} {hp : qzH} : qzV d 68 0 [a0, a1, a2, a3, a4, .int x, a6, a7, a8, a9, a10] (st) hp = qzV d 68 2 [a0, a1, a2, a3, a4, .int x, a6, a7, a8, a9, a10] (.int x :: st) hp := qv_iload (i := 5) mdc_68 dX2_goThrough_0 rfl rfl rfl
theorem eX2_goThrough_2 {d : Nat} {a0 a1 a2 a3 a4 a5 a6 a7 a8 a9 a10 : Value} {w0 : Value} {st : List Value} {hp : qzH} (h8 : st.length ≤ 8) : qzV (d + 1) 68 2 [a0, a1, a2, a3, a4, a5, a6, a7, a8, a9, a10] (w0 :: st) hp = (qzC d 55 [w0] hp).bind (fun r => qzV (d + 1) 68 5 [a0, a1, a2, a3, a4, a5, a6, a7, a8, a9, a10] (r.1.toList ++ st) r.2) := qv_calls (n := 1) mdc_68 dX2_goThrough_2 mdo_68 (by decide) qfc_2_218 ⟨rfl, by decide, rfl⟩ rfl ⟨rfl, rfl, by simp only [List.length_cons]; omega⟩ h8
theorem eX2_goThrough_5 {d : Nat} {a0 a1 a2 a3 a4 a5 a6 a7 a8 a9 a10 : Value} {x : Int32} {st : List Value} {hp : qzH} : qzV d 68 5 [a0, a1, a2, a3, a4, a5, a6, a7, a8, a9, a10] (.int x :: st) hp = qzV d 68 7 [a0, a1, a2, a3, a4, a5, a6, .int x, a8, a9, a10] (st) hp := qv_istore (i := 7) mdc_68 dX2_goThrough_5 rfl (Nat.le_of_ble_eq_true rfl) rfl rfl
theorem eX2_goThrough_7 {d : Nat} {a0 a2 a3 a4 a5 a6 a7 a8 a9 a10 : Value} {x : Int32} {st : List Value} {hp : qzH} : qzV d 68 7 [a0, .int x, a2, a3, a4, a5, a6, a7, a8, a9, a10] (st) hp = qzV d 68 8 [a0, .int x, a2, a3, a4, a5, a6, a7, a8, a9, a10] (.int x :: st) hp := qv_iload (i := 1) mdc_68 dX2_goThrough_7 rfl rfl rfl
theorem eX2_goThrough_8 {d : Nat} {a0 a1 a3 a4 a5 a6 a7 a8 a9 a10 : Value} {x : Int32} {st : List Value} {hp : qzH} : qzV d 68 8 [a0, a1, .int x, a3, a4, a5, a6, a7, a8, a9, a10] (st) hp = qzV d 68 9 [a0, a1, .int x, a3, a4, a5, a6, a7, a8, a9, a10] (.int x :: st) hp := qv_iload (i := 2) mdc_68 dX2_goThrough_8 rfl rfl rfl
theorem eX2_goThrough_9 {d : Nat} {a0 a1 a2 a3 a4 a6 a7 a8 a9 a10 : Value} {x : Int32} {st : List Value} {hp : qzH} : qzV d 68 9 [a0, a1, a2, a3, a4, .int x, a6, a7, a8, a9, a10] (st) hp = qzV d 68 11 [a0, a1, a2, a3, a4, .int x, a6, a7, a8, a9, a10] (.int x :: st) hp := qv_iload (i := 5) mdc_68 dX2_goThrough_9 rfl rfl rfl
theorem eX2_goThrough_11 {d : Nat} {a0 a1 a2 a3 a4 a5 a6 a7 a8 a9 a10 : Value} {w0 w1 w2 : Value} {st : List Value} {hp : qzH} (h8 : st.length ≤ 8) : qzV (d + 1) 68 11 [a0, a1, a2, a3, a4, a5, a6, a7, a8, a9, a10] (w2 :: w1 :: w0 :: st) hp = (qzC d 56 [w0, w1, w2] hp).bind (fun r => qzV (d + 1) 68 14 [a0, a1, a2, a3, a4, a5, a6, a7, a8, a9, a10] (r.1.toList ++ st) r.2) := qv_calls (n := 3) mdc_68 dX2_goThrough_11 mdo_68 (by decide) qfc_2_245 ⟨rfl, by decide, rfl⟩ rfl ⟨rfl, rfl, by simp only [List.length_cons]; omega⟩ h8
theorem eX2_goThrough_14 {d : Nat} {a0 a1 a2 a3 a4 a5 a6 a7 a8 a9 a10 : Value} {x : Int32} {st : List Value} {hp : qzH} : qzV d 68 14 [a0, a1, a2, a3, a4, a5, a6, a7, a8, a9, a10] (.int x :: st) hp = qzV d 68 16 [a0, a1, a2, a3, a4, a5, a6, a7, .int x, a9, a10] (st) hp := qv_istore (i := 8) mdc_68 dX2_goThrough_14 rfl (Nat.le_of_ble_eq_true rfl) rfl rfl
theorem eX2_goThrough_16 {d : Nat} {a0 a1 a2 a3 a4 a5 a6 a8 a9 a10 : Value} {x : Int32} {st : List Value} {hp : qzH} : qzV d 68 16 [a0, a1, a2, a3, a4, a5, a6, .int x, a8, a9, a10] (st) hp = qzV d 68 18 [a0, a1, a2, a3, a4, a5, a6, .int x, a8, a9, a10] (.int x :: st) hp := qv_iload (i := 7) mdc_68 dX2_goThrough_16 rfl rfl rfl
theorem eX2_goThrough_18 {d : Nat} {a1 a2 a3 a4 a5 a6 a7 a8 a9 a10 : Value} {x : Nat} {st : List Value} {hp : qzH} : qzV d 68 18 [.ref x, a1, a2, a3, a4, a5, a6, a7, a8, a9, a10] (st) hp = qzV d 68 19 [.ref x, a1, a2, a3, a4, a5, a6, a7, a8, a9, a10] (.ref x :: st) hp := qv_aload (i := 0) mdc_68 dX2_goThrough_18 rfl rfl rfl
theorem eX2_goThrough_19 {d : Nat} {a0 a1 a2 a3 a4 a5 a6 a7 a8 a9 a10 : Value} {a : Nat} {st : List Value} {hp : qzH} (ha : qzArr 1 a hp.1 = true) : qzV d 68 19 [a0, a1, a2, a3, a4, a5, a6, a7, a8, a9, a10] (.ref a :: st) hp = qzV d 68 22 [a0, a1, a2, a3, a4, a5, a6, a7, a8, a9, a10] (va_rf (hp.2.1 a 0) :: st) hp := qv_getR mdc_68 dX2_goThrough_19 mdo_68 qff_2_249 ⟨by decide, rfl⟩ rfl ha
theorem eX2_goThrough_22 {d : Nat} {a0 a1 a2 a3 a4 a5 a6 a7 a9 a10 : Value} {x : Int32} {st : List Value} {hp : qzH} : qzV d 68 22 [a0, a1, a2, a3, a4, a5, a6, a7, .int x, a9, a10] (st) hp = qzV d 68 24 [a0, a1, a2, a3, a4, a5, a6, a7, .int x, a9, a10] (.int x :: st) hp := qv_iload (i := 8) mdc_68 dX2_goThrough_22 rfl rfl rfl
theorem eX2_goThrough_24 {d : Nat} {a0 a1 a2 a3 a4 a5 a6 a8 a9 a10 : Value} {x : Int32} {st : List Value} {hp : qzH} : qzV d 68 24 [a0, a1, a2, a3, a4, a5, a6, .int x, a8, a9, a10] (st) hp = qzV d 68 26 [a0, a1, a2, a3, a4, a5, a6, .int x, a8, a9, a10] (.int x :: st) hp := qv_iload (i := 7) mdc_68 dX2_goThrough_24 rfl rfl rfl
theorem eX2_goThrough_26 {d : Nat} {a0 a1 a2 a4 a5 a6 a7 a8 a9 a10 : Value} {x : Int32} {st : List Value} {hp : qzH} : qzV d 68 26 [a0, a1, a2, .int x, a4, a5, a6, a7, a8, a9, a10] (st) hp = qzV d 68 27 [a0, a1, a2, .int x, a4, a5, a6, a7, a8, a9, a10] (.int x :: st) hp := qv_iload (i := 3) mdc_68 dX2_goThrough_26 rfl rfl rfl
theorem eX2_goThrough_27 {d : Nat} {a0 a1 a2 a3 a4 a5 a6 a7 a8 a9 a10 : Value} {w0 w1 w2 w3 : Value} {st : List Value} {hp : qzH} (h8 : st.length ≤ 8) : qzV (d + 1) 68 27 [a0, a1, a2, a3, a4, a5, a6, a7, a8, a9, a10] (w3 :: w2 :: w1 :: w0 :: st) hp = (qzC d 69 [w0, w1, w2, w3] hp).bind (fun r => qzV (d + 1) 68 30 [a0, a1, a2, a3, a4, a5, a6, a7, a8, a9, a10] (r.1.toList ++ st) r.2) := qv_calls (n := 4) mdc_68 dX2_goThrough_27 mdo_68 (by decide) qfc_2_250 ⟨rfl, by decide, rfl⟩ rfl ⟨rfl, rfl, by simp only [List.length_cons]; omega⟩ h8
theorem eX2_goThrough_30 {d : Nat} {a1 a2 a3 a4 a5 a6 a7 a8 a9 a10 : Value} {x : Nat} {st : List Value} {hp : qzH} : qzV d 68 30 [.ref x, a1, a2, a3, a4, a5, a6, a7, a8, a9, a10] (st) hp = qzV d 68 31 [.ref x, a1, a2, a3, a4, a5, a6, a7, a8, a9, a10] (.ref x :: st) hp := qv_aload (i := 0) mdc_68 dX2_goThrough_30 rfl rfl rfl
theorem eX2_goThrough_31 {d : Nat} {a0 a1 a2 a3 a4 a5 a6 a7 a8 a9 a10 : Value} {a : Nat} {st : List Value} {hp : qzH} (ha : qzArr 1 a hp.1 = true) : qzV d 68 31 [a0, a1, a2, a3, a4, a5, a6, a7, a8, a9, a10] (.ref a :: st) hp = qzV d 68 34 [a0, a1, a2, a3, a4, a5, a6, a7, a8, a9, a10] (va_rf (hp.2.1 a 1) :: st) hp := qv_getR mdc_68 dX2_goThrough_31 mdo_68 qff_2_240 ⟨by decide, rfl⟩ rfl ha
theorem eX2_goThrough_34 {d : Nat} {a0 a1 a2 a3 a4 a5 a6 a7 a8 a9 a10 : Value} {w0 w1 w2 : Value} {st : List Value} {hp : qzH} (h8 : st.length ≤ 8) : qzV (d + 1) 68 34 [a0, a1, a2, a3, a4, a5, a6, a7, a8, a9, a10] (w2 :: w1 :: w0 :: st) hp = (qzC d 70 [w0, w1, w2] hp).bind (fun r => qzV (d + 1) 68 37 [a0, a1, a2, a3, a4, a5, a6, a7, a8, a9, a10] (r.1.toList ++ st) r.2) := qv_calls (n := 3) mdc_68 dX2_goThrough_34 mdo_68 (by decide) qfc_2_254 ⟨rfl, by decide, rfl⟩ rfl ⟨rfl, rfl, by simp only [List.length_cons]; omega⟩ h8
theorem eX2_goThrough_37 {d : Nat} {a0 a1 a2 a3 a4 a5 a6 a7 a8 a9 a10 : Value} {x : Int32} {st : List Value} {hp : qzH} : qzV d 68 37 [a0, a1, a2, a3, a4, a5, a6, a7, a8, a9, a10] (.int x :: st) hp = qzV d 68 39 [a0, a1, a2, a3, a4, a5, a6, a7, a8, .int x, a10] (st) hp := qv_istore (i := 9) mdc_68 dX2_goThrough_37 rfl (Nat.le_of_ble_eq_true rfl) rfl rfl
theorem eX2_goThrough_39 {d : Nat} {a1 a2 a3 a4 a5 a6 a7 a8 a9 a10 : Value} {x : Nat} {st : List Value} {hp : qzH} : qzV d 68 39 [.ref x, a1, a2, a3, a4, a5, a6, a7, a8, a9, a10] (st) hp = qzV d 68 40 [.ref x, a1, a2, a3, a4, a5, a6, a7, a8, a9, a10] (.ref x :: st) hp := qv_aload (i := 0) mdc_68 dX2_goThrough_39 rfl rfl rfl
theorem eX2_goThrough_40 {d : Nat} {a0 a1 a2 a3 a4 a5 a6 a7 a8 a9 a10 : Value} {a : Nat} {st : List Value} {hp : qzH} (ha : qzArr 1 a hp.1 = true) : qzV d 68 40 [a0, a1, a2, a3, a4, a5, a6, a7, a8, a9, a10] (.ref a :: st) hp = qzV d 68 43 [a0, a1, a2, a3, a4, a5, a6, a7, a8, a9, a10] (va_rf (hp.2.1 a 0) :: st) hp := qv_getR mdc_68 dX2_goThrough_40 mdo_68 qff_2_249 ⟨by decide, rfl⟩ rfl ha
theorem eX2_goThrough_43 {d : Nat} {a0 a1 a2 a3 a4 a5 a6 a7 a9 a10 : Value} {x : Int32} {st : List Value} {hp : qzH} : qzV d 68 43 [a0, a1, a2, a3, a4, a5, a6, a7, .int x, a9, a10] (st) hp = qzV d 68 45 [a0, a1, a2, a3, a4, a5, a6, a7, .int x, a9, a10] (.int x :: st) hp := qv_iload (i := 8) mdc_68 dX2_goThrough_43 rfl rfl rfl
theorem eX2_goThrough_45 {d : Nat} {a0 a1 a2 a3 a4 a5 a6 a8 a9 a10 : Value} {x : Int32} {st : List Value} {hp : qzH} : qzV d 68 45 [a0, a1, a2, a3, a4, a5, a6, .int x, a8, a9, a10] (st) hp = qzV d 68 47 [a0, a1, a2, a3, a4, a5, a6, .int x, a8, a9, a10] (.int x :: st) hp := qv_iload (i := 7) mdc_68 dX2_goThrough_45 rfl rfl rfl
theorem eX2_goThrough_47 {d : Nat} {a0 a1 a2 a3 a4 a5 a6 a7 a8 a9 a10 : Value} {x y : Int32} {st : List Value} {hp : qzH} : qzV d 68 47 [a0, a1, a2, a3, a4, a5, a6, a7, a8, a9, a10] (.int y :: .int x :: st) hp = qzV d 68 48 [a0, a1, a2, a3, a4, a5, a6, a7, a8, a9, a10] (.int (x + y) :: st) hp := qv_bin (f := fun x y => x + y) mdc_68 dX2_goThrough_47 rfl rfl
theorem eX2_goThrough_48 {d : Nat} {a0 a1 a2 a3 a4 a5 a6 a7 a8 a9 a10 : Value} {st : List Value} {hp : qzH} : qzV d 68 48 [a0, a1, a2, a3, a4, a5, a6, a7, a8, a9, a10] (st) hp = qzV d 68 49 [a0, a1, a2, a3, a4, a5, a6, a7, a8, a9, a10] (.int 1 :: st) hp := qv_iconst mdc_68 dX2_goThrough_48 il_1 rfl
theorem eX2_goThrough_49 {d : Nat} {a0 a1 a2 a3 a4 a5 a6 a7 a8 a9 a10 : Value} {x y : Int32} {st : List Value} {hp : qzH} : qzV d 68 49 [a0, a1, a2, a3, a4, a5, a6, a7, a8, a9, a10] (.int y :: .int x :: st) hp = qzV d 68 50 [a0, a1, a2, a3, a4, a5, a6, a7, a8, a9, a10] (.int (x - y) :: st) hp := qv_bin (f := fun x y => x - y) mdc_68 dX2_goThrough_49 rfl rfl
theorem eX2_goThrough_50 {d : Nat} {a0 a1 a2 a3 a4 a5 a6 a7 a8 a9 a10 : Value} {w0 w1 : Value} {st : List Value} {hp : qzH} (h8 : st.length ≤ 8) : qzV (d + 1) 68 50 [a0, a1, a2, a3, a4, a5, a6, a7, a8, a9, a10] (w1 :: w0 :: st) hp = (qzC d 84 [w0, w1] hp).bind (fun r => qzV (d + 1) 68 53 [a0, a1, a2, a3, a4, a5, a6, a7, a8, a9, a10] (r.1.toList ++ st) r.2) := qv_calls (n := 2) mdc_68 dX2_goThrough_50 mdo_68 (by decide) qfc_2_72 ⟨rfl, by decide, rfl⟩ rfl ⟨rfl, rfl, by simp only [List.length_cons]; omega⟩ h8
theorem eX2_goThrough_53 {d : Nat} {a0 a1 a2 a3 a4 a5 a6 a7 a8 a9 a10 : Value} {x : Int32} {st : List Value} {hp : qzH} : qzV d 68 53 [a0, a1, a2, a3, a4, a5, a6, a7, a8, a9, a10] (.int x :: st) hp = qzV d 68 55 [a0, a1, a2, a3, a4, a5, a6, a7, a8, a9, .int x] (st) hp := qv_istore (i := 10) mdc_68 dX2_goThrough_53 rfl (Nat.le_of_ble_eq_true rfl) rfl rfl
theorem eX2_goThrough_55 {d : Nat} {a0 a1 a2 a3 a4 a5 a6 a7 a8 a10 : Value} {x : Int32} {st : List Value} {hp : qzH} : qzV d 68 55 [a0, a1, a2, a3, a4, a5, a6, a7, a8, .int x, a10] (st) hp = qzV d 68 57 [a0, a1, a2, a3, a4, a5, a6, a7, a8, .int x, a10] (.int x :: st) hp := qv_iload (i := 9) mdc_68 dX2_goThrough_55 rfl rfl rfl
theorem eX2_goThrough_57 {d : Nat} {a1 a2 a3 a4 a5 a6 a7 a8 a9 a10 : Value} {x : Nat} {st : List Value} {hp : qzH} : qzV d 68 57 [.ref x, a1, a2, a3, a4, a5, a6, a7, a8, a9, a10] (st) hp = qzV d 68 58 [.ref x, a1, a2, a3, a4, a5, a6, a7, a8, a9, a10] (.ref x :: st) hp := qv_aload (i := 0) mdc_68 dX2_goThrough_57 rfl rfl rfl
theorem eX2_goThrough_58 {d : Nat} {a0 a2 a3 a4 a5 a6 a7 a8 a9 a10 : Value} {x : Int32} {st : List Value} {hp : qzH} : qzV d 68 58 [a0, .int x, a2, a3, a4, a5, a6, a7, a8, a9, a10] (st) hp = qzV d 68 59 [a0, .int x, a2, a3, a4, a5, a6, a7, a8, a9, a10] (.int x :: st) hp := qv_iload (i := 1) mdc_68 dX2_goThrough_58 rfl rfl rfl
theorem eX2_goThrough_59 {d : Nat} {a0 a1 a2 a3 a4 a6 a7 a8 a9 a10 : Value} {x : Int32} {st : List Value} {hp : qzH} : qzV d 68 59 [a0, a1, a2, a3, a4, .int x, a6, a7, a8, a9, a10] (st) hp = qzV d 68 61 [a0, a1, a2, a3, a4, .int x, a6, a7, a8, a9, a10] (.int x :: st) hp := qv_iload (i := 5) mdc_68 dX2_goThrough_59 rfl rfl rfl
theorem eX2_goThrough_61 {d : Nat} {a0 a1 a2 a3 a4 a5 a6 a7 a8 a9 a10 : Value} {w0 w1 : Value} {st : List Value} {hp : qzH} (h8 : st.length ≤ 8) : qzV (d + 1) 68 61 [a0, a1, a2, a3, a4, a5, a6, a7, a8, a9, a10] (w1 :: w0 :: st) hp = (qzC d 57 [w0, w1] hp).bind (fun r => qzV (d + 1) 68 64 [a0, a1, a2, a3, a4, a5, a6, a7, a8, a9, a10] (r.1.toList ++ st) r.2) := qv_calls (n := 2) mdc_68 dX2_goThrough_61 mdo_68 (by decide) qfc_2_258 ⟨rfl, by decide, rfl⟩ rfl ⟨rfl, rfl, by simp only [List.length_cons]; omega⟩ h8
theorem eX2_goThrough_64 {d : Nat} {a0 a1 a3 a4 a5 a6 a7 a8 a9 a10 : Value} {x : Int32} {st : List Value} {hp : qzH} : qzV d 68 64 [a0, a1, .int x, a3, a4, a5, a6, a7, a8, a9, a10] (st) hp = qzV d 68 65 [a0, a1, .int x, a3, a4, a5, a6, a7, a8, a9, a10] (.int x :: st) hp := qv_iload (i := 2) mdc_68 dX2_goThrough_64 rfl rfl rfl
theorem eX2_goThrough_65 {d : Nat} {a0 a1 a2 a3 a4 a6 a7 a8 a9 a10 : Value} {x : Int32} {st : List Value} {hp : qzH} : qzV d 68 65 [a0, a1, a2, a3, a4, .int x, a6, a7, a8, a9, a10] (st) hp = qzV d 68 67 [a0, a1, a2, a3, a4, .int x, a6, a7, a8, a9, a10] (.int x :: st) hp := qv_iload (i := 5) mdc_68 dX2_goThrough_65 rfl rfl rfl
theorem eX2_goThrough_67 {d : Nat} {a0 a1 a2 a3 a4 a5 a6 a7 a8 a9 a10 : Value} {w0 w1 : Value} {st : List Value} {hp : qzH} (h8 : st.length ≤ 8) : qzV (d + 1) 68 67 [a0, a1, a2, a3, a4, a5, a6, a7, a8, a9, a10] (w1 :: w0 :: st) hp = (qzC d 58 [w0, w1] hp).bind (fun r => qzV (d + 1) 68 70 [a0, a1, a2, a3, a4, a5, a6, a7, a8, a9, a10] (r.1.toList ++ st) r.2) := qv_calls (n := 2) mdc_68 dX2_goThrough_67 mdo_68 (by decide) qfc_2_261 ⟨rfl, by decide, rfl⟩ rfl ⟨rfl, rfl, by simp only [List.length_cons]; omega⟩ h8
theorem eX2_goThrough_70 {d : Nat} {a0 a1 a2 a3 a5 a6 a7 a8 a9 a10 : Value} {x : Int32} {st : List Value} {hp : qzH} : qzV d 68 70 [a0, a1, a2, a3, .int x, a5, a6, a7, a8, a9, a10] (st) hp = qzV d 68 72 [a0, a1, a2, a3, .int x, a5, a6, a7, a8, a9, a10] (.int x :: st) hp := qv_iload (i := 4) mdc_68 dX2_goThrough_70 rfl rfl rfl
theorem eX2_goThrough_72 {d : Nat} {a0 a1 a2 a3 a4 a5 a6 a7 a8 a9 : Value} {x : Int32} {st : List Value} {hp : qzH} : qzV d 68 72 [a0, a1, a2, a3, a4, a5, a6, a7, a8, a9, .int x] (st) hp = qzV d 68 74 [a0, a1, a2, a3, a4, a5, a6, a7, a8, a9, .int x] (.int x :: st) hp := qv_iload (i := 10) mdc_68 dX2_goThrough_72 rfl rfl rfl
theorem eX2_goThrough_74 {d : Nat} {a0 a1 a2 a3 a4 a5 a7 a8 a9 a10 : Value} {x : Int32} {st : List Value} {hp : qzH} : qzV d 68 74 [a0, a1, a2, a3, a4, a5, .int x, a7, a8, a9, a10] (st) hp = qzV d 68 76 [a0, a1, a2, a3, a4, a5, .int x, a7, a8, a9, a10] (.int x :: st) hp := qv_iload (i := 6) mdc_68 dX2_goThrough_74 rfl rfl rfl
theorem eX2_goThrough_76 {d : Nat} {a0 a1 a2 a3 a4 a5 a6 a7 a8 a9 a10 : Value} {st : List Value} {hp : qzH} : qzV d 68 76 [a0, a1, a2, a3, a4, a5, a6, a7, a8, a9, a10] (st) hp = qzV d 68 77 [a0, a1, a2, a3, a4, a5, a6, a7, a8, a9, a10] (.int 1 :: st) hp := qv_iconst mdc_68 dX2_goThrough_76 il_1 rfl
theorem eX2_goThrough_77 {d : Nat} {a0 a1 a2 a3 a4 a5 a6 a7 a8 a9 a10 : Value} {x y : Int32} {st : List Value} {hp : qzH} : qzV d 68 77 [a0, a1, a2, a3, a4, a5, a6, a7, a8, a9, a10] (.int y :: .int x :: st) hp = qzV d 68 78 [a0, a1, a2, a3, a4, a5, a6, a7, a8, a9, a10] (.int (x + y) :: st) hp := qv_bin (f := fun x y => x + y) mdc_68 dX2_goThrough_77 rfl rfl
theorem eX2_goThrough_78 {d : Nat} {a0 a1 a2 a3 a4 a5 a6 a7 a8 a9 a10 : Value} {w0 w1 w2 w3 w4 w5 : Value} {st : List Value} {hp : qzH} (h8 : st.length ≤ 8) : qzV (d + 1) 68 78 [a0, a1, a2, a3, a4, a5, a6, a7, a8, a9, a10] (w5 :: w4 :: w3 :: w2 :: w1 :: w0 :: st) hp = (qzC d 67 [w0, w1, w2, w3, w4, w5] hp).bind (fun r => qzV (d + 1) 68 81 [a0, a1, a2, a3, a4, a5, a6, a7, a8, a9, a10] (r.1.toList ++ st) r.2) := qv_calls (n := 6) mdc_68 dX2_goThrough_78 mdo_68 (by decide) qfc_2_268 ⟨rfl, by decide, rfl⟩ rfl ⟨rfl, rfl, by simp only [List.length_cons]; omega⟩ h8
theorem eX2_goThrough_81 {d : Nat} {a0 a1 a2 a3 a4 a5 a6 a7 a8 a9 a10 : Value} {x y : Int32} {st : List Value} {hp : qzH} : qzV d 68 81 [a0, a1, a2, a3, a4, a5, a6, a7, a8, a9, a10] (.int y :: .int x :: st) hp = qzV d 68 82 [a0, a1, a2, a3, a4, a5, a6, a7, a8, a9, a10] (.int (x - y) :: st) hp := qv_bin (f := fun x y => x - y) mdc_68 dX2_goThrough_81 rfl rfl
theorem eX2_goThrough_82 {d : Nat} {a0 a1 a2 a3 a4 a5 a6 a7 a8 a9 a10 : Value} {v : Int32} {hp : qzH} : qzV d 68 82 [a0, a1, a2, a3, a4, a5, a6, a7, a8, a9, a10] [.int v] hp = some (some (.int v), hp) := qv_iret mdc_68 dX2_goThrough_82 mdr_68 rfl
theorem dX2_traitsOf_0 : decode cX2_traitsOf 0 = .ok (.aload_n 0, 1) := by decide +kernel
theorem dX2_traitsOf_1 : decode cX2_traitsOf 1 = .ok (.iload_n 1, 1) := by decide +kernel
theorem dX2_traitsOf_2 : decode cX2_traitsOf 2 = .ok (.invokestatic 72, 3) := by decide +kernel
theorem dX2_traitsOf_5 : decode cX2_traitsOf 5 = .ok (.iload_n 3, 1) := by decide +kernel
theorem dX2_traitsOf_6 : decode cX2_traitsOf 6 = .ok (.if_icmp .ne 7, 3) := by decide +kernel
theorem dX2_traitsOf_9 : decode cX2_traitsOf 9 = .ok (.iconst 2, 1) := by decide +kernel
theorem dX2_traitsOf_10 : decode cX2_traitsOf 10 = .ok (.goto 4, 3) := by decide +kernel
theorem dX2_traitsOf_13 : decode cX2_traitsOf 13 = .ok (.iconst 0, 1) := by decide +kernel
theorem dX2_traitsOf_14 : decode cX2_traitsOf 14 = .ok (.istore 4, 2) := by decide +kernel
theorem dX2_traitsOf_16 : decode cX2_traitsOf 16 = .ok (.iload_n 2, 1) := by decide +kernel
theorem dX2_traitsOf_17 : decode cX2_traitsOf 17 = .ok (.iconst 2, 1) := by decide +kernel
theorem dX2_traitsOf_18 : decode cX2_traitsOf 18 = .ok (.if_icmp .lt 19, 3) := by decide +kernel
theorem dX2_traitsOf_21 : decode cX2_traitsOf 21 = .ok (.aload_n 0, 1) := by decide +kernel
theorem dX2_traitsOf_22 : decode cX2_traitsOf 22 = .ok (.iload_n 1, 1) := by decide +kernel
theorem dX2_traitsOf_23 : decode cX2_traitsOf 23 = .ok (.iload_n 2, 1) := by decide +kernel
theorem dX2_traitsOf_24 : decode cX2_traitsOf 24 = .ok (.invokestatic 280, 3) := by decide +kernel
theorem dX2_traitsOf_27 : decode cX2_traitsOf 27 = .ok (.ifCond .eq 10, 3) := by decide +kernel
theorem dX2_traitsOf_30 : decode cX2_traitsOf 30 = .ok (.iload 4, 2) := by decide +kernel
theorem dX2_traitsOf_32 : decode cX2_traitsOf 32 = .ok (.iconst 4, 1) := by decide +kernel
theorem dX2_traitsOf_33 : decode cX2_traitsOf 33 = .ok (.ior, 1) := by decide +kernel
theorem dX2_traitsOf_34 : decode cX2_traitsOf 34 = .ok (.goto 5, 3) := by decide +kernel
theorem dX2_traitsOf_37 : decode cX2_traitsOf 37 = .ok (.iload 4, 2) := by decide +kernel
theorem dX2_traitsOf_39 : decode cX2_traitsOf 39 = .ok (.ireturn, 1) := by decide +kernel
theorem eX2_traitsOf_0 {d : Nat} {a1 a2 a3 a4 : Value} {x : Nat} {st : List Value} {hp : qzH} : qzV d 69 0 [.ref x, a1, a2, a3, a4] (st) hp = qzV d 69 1 [.ref x, a1, a2, a3, a4] (.ref x :: st) hp := qv_aload (i := 0) mdc_69 dX2_traitsOf_0 rfl rfl rfl
theorem eX2_traitsOf_1 {d : Nat} {a0 a2 a3 a4 : Value} {x : Int32} {st : List Value} {hp : qzH} : qzV d 69 1 [a0, .int x, a2, a3, a4] (st) hp = qzV d 69 2 [a0, .int x, a2, a3, a4] (.int x :: st) hp := qv_iload (i := 1) mdc_69 dX2_traitsOf_1 rfl rfl rfl
theorem eX2_traitsOf_2 {d : Nat} {a0 a1 a2 a3 a4 : Value} {w0 w1 : Value} {st : List Value} {hp : qzH} (h8 : st.length ≤ 8) : qzV (d + 1) 69 2 [a0, a1, a2, a3, a4] (w1 :: w0 :: st) hp = (qzC d 84 [w0, w1] hp).bind (fun r => qzV (d + 1) 69 5 [a0, a1, a2, a3, a4] (r.1.toList ++ st) r.2) := qv_calls (n := 2) mdc_69 dX2_traitsOf_2 mdo_69 (by decide) qfc_2_72 ⟨rfl, by decide, rfl⟩ rfl ⟨rfl, rfl, by simp only [List.length_cons]; omega⟩ h8
theorem eX2_traitsOf_5 {d : Nat} {a0 a1 a2 a4 : Value} {x : Int32} {st : List Value} {hp : qzH} : qzV d 69 5 [a0, a1, a2, .int x, a4] (st) hp = qzV d 69 6 [a0, a1, a2, .int x, a4] (.int x :: st) hp := qv_iload (i := 3) mdc_69 dX2_traitsOf_5 rfl rfl rfl
theorem eX2_traitsOf_6 {d : Nat} {a0 a1 a2 a3 a4 : Value} {x y : Int32} {st : List Value} {hp : qzH} : qzV d 69 6 [a0, a1, a2, a3, a4] (.int y :: .int x :: st) hp = if ¬ x = y then qzV d 69 13 [a0, a1, a2, a3, a4] (st) hp else qzV d 69 9 [a0, a1, a2, a3, a4] (st) hp := qv_if2 mdc_69 dX2_traitsOf_6 rfl rfl rfl
theorem eX2_traitsOf_9 {d : Nat} {a0 a1 a2 a3 a4 : Value} {st : List Value} {hp : qzH} : qzV d 69 9 [a0, a1, a2, a3, a4] (st) hp = qzV d 69 10 [a0, a1, a2, a3, a4] (.int 2 :: st) hp := qv_iconst mdc_69 dX2_traitsOf_9 il_2 rfl
theorem eX2_traitsOf_10 {d : Nat} {a0 a1 a2 a3 a4 : Value} {st : List Value} {hp : qzH} : qzV d 69 10 [a0, a1, a2, a3, a4] (st) hp = qzV d 69 14 [a0, a1, a2, a3, a4] (st) hp := qv_goto mdc_69 dX2_traitsOf_10 rfl
theorem eX2_traitsOf_13 {d : Nat} {a0 a1 a2 a3 a4 : Value} {st : List Value} {hp : qzH} : qzV d 69 13 [a0, a1, a2, a3, a4] (st) hp = qzV d 69 14 [a0, a1, a2, a3, a4] (.int 0 :: st) hp := qv_iconst mdc_69 dX2_traitsOf_13 il_0 rfl
theorem eX2_traitsOf_14 {d : Nat} {a0 a1 a2 a3 a4 : Value} {x : Int32} {st : List Value} {hp : qzH} : qzV d 69 14 [a0, a1, a2, a3, a4] (.int x :: st) hp = qzV d 69 16 [a0, a1, a2, a3, .int x] (st) hp := qv_istore (i := 4) mdc_69 dX2_traitsOf_14 rfl (Nat.le_of_ble_eq_true rfl) rfl rfl
theorem eX2_traitsOf_16 {d : Nat} {a0 a1 a3 a4 : Value} {x : Int32} {st : List Value} {hp : qzH} : qzV d 69 16 [a0, a1, .int x, a3, a4] (st) hp = qzV d 69 17 [a0, a1, .int x, a3, a4] (.int x :: st) hp := qv_iload (i := 2) mdc_69 dX2_traitsOf_16 rfl rfl rfl
theorem eX2_traitsOf_17 {d : Nat} {a0 a1 a2 a3 a4 : Value} {st : List Value} {hp : qzH} : qzV d 69 17 [a0, a1, a2, a3, a4] (st) hp = qzV d 69 18 [a0, a1, a2, a3, a4] (.int 2 :: st) hp := qv_iconst mdc_69 dX2_traitsOf_17 il_2 rfl
theorem eX2_traitsOf_18 {d : Nat} {a0 a1 a2 a3 a4 : Value} {x y : Int32} {st : List Value} {hp : qzH} : qzV d 69 18 [a0, a1, a2, a3, a4] (.int y :: .int x :: st) hp = if x < y then qzV d 69 37 [a0, a1, a2, a3, a4] (st) hp else qzV d 69 21 [a0, a1, a2, a3, a4] (st) hp := qv_if2 mdc_69 dX2_traitsOf_18 rfl rfl rfl
theorem eX2_traitsOf_21 {d : Nat} {a1 a2 a3 a4 : Value} {x : Nat} {st : List Value} {hp : qzH} : qzV d 69 21 [.ref x, a1, a2, a3, a4] (st) hp = qzV d 69 22 [.ref x, a1, a2, a3, a4] (.ref x :: st) hp := qv_aload (i := 0) mdc_69 dX2_traitsOf_21 rfl rfl rfl
theorem eX2_traitsOf_22 {d : Nat} {a0 a2 a3 a4 : Value} {x : Int32} {st : List Value} {hp : qzH} : qzV d 69 22 [a0, .int x, a2, a3, a4] (st) hp = qzV d 69 23 [a0, .int x, a2, a3, a4] (.int x :: st) hp := qv_iload (i := 1) mdc_69 dX2_traitsOf_22 rfl rfl rfl
theorem eX2_traitsOf_23 {d : Nat} {a0 a1 a3 a4 : Value} {x : Int32} {st : List Value} {hp : qzH} : qzV d 69 23 [a0, a1, .int x, a3, a4] (st) hp = qzV d 69 24 [a0, a1, .int x, a3, a4] (.int x :: st) hp := qv_iload (i := 2) mdc_69 dX2_traitsOf_23 rfl rfl rfl
theorem eX2_traitsOf_24 {d : Nat} {a0 a1 a2 a3 a4 : Value} {w0 w1 w2 : Value} {st : List Value} {hp : qzH} (h8 : st.length ≤ 8) : qzV (d + 1) 69 24 [a0, a1, a2, a3, a4] (w2 :: w1 :: w0 :: st) hp = (qzC d 71 [w0, w1, w2] hp).bind (fun r => qzV (d + 1) 69 27 [a0, a1, a2, a3, a4] (r.1.toList ++ st) r.2) := qv_calls (n := 3) mdc_69 dX2_traitsOf_24 mdo_69 (by decide) qfc_2_280 ⟨rfl, by decide, rfl⟩ rfl ⟨rfl, rfl, by simp only [List.length_cons]; omega⟩ h8
theorem eX2_traitsOf_27 {d : Nat} {a0 a1 a2 a3 a4 : Value} {x : Int32} {st : List Value} {hp : qzH} : qzV d 69 27 [a0, a1, a2, a3, a4] (.int x :: st) hp = if x = 0 then qzV d 69 37 [a0, a1, a2, a3, a4] (st) hp else qzV d 69 30 [a0, a1, a2, a3, a4] (st) hp := qv_if1 mdc_69 dX2_traitsOf_27 rfl rfl rfl
theorem eX2_traitsOf_30 {d : Nat} {a0 a1 a2 a3 : Value} {x : Int32} {st : List Value} {hp : qzH} : qzV d 69 30 [a0, a1, a2, a3, .int x] (st) hp = qzV d 69 32 [a0, a1, a2, a3, .int x] (.int x :: st) hp := qv_iload (i := 4) mdc_69 dX2_traitsOf_30 rfl rfl rfl
theorem eX2_traitsOf_32 {d : Nat} {a0 a1 a2 a3 a4 : Value} {st : List Value} {hp : qzH} : qzV d 69 32 [a0, a1, a2, a3, a4] (st) hp = qzV d 69 33 [a0, a1, a2, a3, a4] (.int 4 :: st) hp := qv_iconst mdc_69 dX2_traitsOf_32 il_4 rfl
theorem eX2_traitsOf_33 {d : Nat} {a0 a1 a2 a3 a4 : Value} {x y : Int32} {st : List Value} {hp : qzH} : qzV d 69 33 [a0, a1, a2, a3, a4] (.int y :: .int x :: st) hp = qzV d 69 34 [a0, a1, a2, a3, a4] (.int (x ||| y) :: st) hp := qv_bin (f := fun x y => x ||| y) mdc_69 dX2_traitsOf_33 rfl rfl
theorem eX2_traitsOf_34 {d : Nat} {a0 a1 a2 a3 a4 : Value} {st : List Value} {hp : qzH} : qzV d 69 34 [a0, a1, a2, a3, a4] (st) hp = qzV d 69 39 [a0, a1, a2, a3, a4] (st) hp := qv_goto mdc_69 dX2_traitsOf_34 rfl
theorem eX2_traitsOf_37 {d : Nat} {a0 a1 a2 a3 : Value} {x : Int32} {st : List Value} {hp : qzH} : qzV d 69 37 [a0, a1, a2, a3, .int x] (st) hp = qzV d 69 39 [a0, a1, a2, a3, .int x] (.int x :: st) hp := qv_iload (i := 4) mdc_69 dX2_traitsOf_37 rfl rfl rfl
theorem eX2_traitsOf_39 {d : Nat} {a0 a1 a2 a3 a4 : Value} {v : Int32} {hp : qzH} : qzV d 69 39 [a0, a1, a2, a3, a4] [.int v] hp = some (some (.int v), hp) := qv_iret mdc_69 dX2_traitsOf_39 mdr_69 rfl
theorem dX2_worthOf_0 : decode cX2_worthOf 0 = .ok (.iload_n 1, 1) := by decide +kernel
theorem dX2_worthOf_1 : decode cX2_worthOf 1 = .ok (.iconst 4, 1) := by decide +kernel
theorem dX2_worthOf_2 : decode cX2_worthOf 2 = .ok (.iand, 1) := by decide +kernel
theorem dX2_worthOf_3 : decode cX2_worthOf 3 = .ok (.ifCond .eq 11, 3) := by decide +kernel
theorem dX2_worthOf_6 : decode cX2_worthOf 6 = .ok (.aload_n 2, 1) := by decide +kernel
theorem dX2_worthOf_7 : decode cX2_worthOf 7 = .ok (.iconst 1, 1) := by decide +kernel
theorem dX2_worthOf_8 : decode cX2_worthOf 8 = .ok (.invokestatic 72, 3) := by decide +kernel
theorem dX2_worthOf_11 : decode cX2_worthOf 11 = .ok (.goto 4, 3) := by decide +kernel
theorem dX2_worthOf_14 : decode cX2_worthOf 14 = .ok (.iconst 0, 1) := by decide +kernel
theorem dX2_worthOf_15 : decode cX2_worthOf 15 = .ok (.istore_n 3, 1) := by decide +kernel
theorem dX2_worthOf_16 : decode cX2_worthOf 16 = .ok (.iload_n 1, 1) := by decide +kernel
theorem dX2_worthOf_17 : decode cX2_worthOf 17 = .ok (.iconst 2, 1) := by decide +kernel
theorem dX2_worthOf_18 : decode cX2_worthOf 18 = .ok (.iand, 1) := by decide +kernel
theorem dX2_worthOf_19 : decode cX2_worthOf 19 = .ok (.ifCond .eq 11, 3) := by decide +kernel
theorem dX2_worthOf_22 : decode cX2_worthOf 22 = .ok (.aload_n 2, 1) := by decide +kernel
theorem dX2_worthOf_23 : decode cX2_worthOf 23 = .ok (.iconst 2, 1) := by decide +kernel
theorem dX2_worthOf_24 : decode cX2_worthOf 24 = .ok (.invokestatic 72, 3) := by decide +kernel
theorem dX2_worthOf_27 : decode cX2_worthOf 27 = .ok (.goto 4, 3) := by decide +kernel
theorem dX2_worthOf_30 : decode cX2_worthOf 30 = .ok (.iconst 0, 1) := by decide +kernel
theorem dX2_worthOf_31 : decode cX2_worthOf 31 = .ok (.istore 4, 2) := by decide +kernel
theorem dX2_worthOf_33 : decode cX2_worthOf 33 = .ok (.iload_n 0, 1) := by decide +kernel
theorem dX2_worthOf_34 : decode cX2_worthOf 34 = .ok (.iload_n 3, 1) := by decide +kernel
theorem dX2_worthOf_35 : decode cX2_worthOf 35 = .ok (.iadd, 1) := by decide +kernel
theorem dX2_worthOf_36 : decode cX2_worthOf 36 = .ok (.iload 4, 2) := by decide +kernel
theorem dX2_worthOf_38 : decode cX2_worthOf 38 = .ok (.iadd, 1) := by decide +kernel
theorem dX2_worthOf_39 : decode cX2_worthOf 39 = .ok (.ireturn, 1) := by decide +kernel
theorem eX2_worthOf_0 {d : Nat} {a0 a2 a3 a4 : Value} {x : Int32} {st : List Value} {hp : qzH} : qzV d 70 0 [a0, .int x, a2, a3, a4] (st) hp = qzV d 70 1 [a0, .int x, a2, a3, a4] (.int x :: st) hp := qv_iload (i := 1) mdc_70 dX2_worthOf_0 rfl rfl rfl
theorem eX2_worthOf_1 {d : Nat} {a0 a1 a2 a3 a4 : Value} {st : List Value} {hp : qzH} : qzV d 70 1 [a0, a1, a2, a3, a4] (st) hp = qzV d 70 2 [a0, a1, a2, a3, a4] (.int 4 :: st) hp := qv_iconst mdc_70 dX2_worthOf_1 il_4 rfl
theorem eX2_worthOf_2 {d : Nat} {a0 a1 a2 a3 a4 : Value} {x y : Int32} {st : List Value} {hp : qzH} : qzV d 70 2 [a0, a1, a2, a3, a4] (.int y :: .int x :: st) hp = qzV d 70 3 [a0, a1, a2, a3, a4] (.int (x &&& y) :: st) hp := qv_bin (f := fun x y => x &&& y) mdc_70 dX2_worthOf_2 rfl rfl
theorem eX2_worthOf_3 {d : Nat} {a0 a1 a2 a3 a4 : Value} {x : Int32} {st : List Value} {hp : qzH} : qzV d 70 3 [a0, a1, a2, a3, a4] (.int x :: st) hp = if x = 0 then qzV d 70 14 [a0, a1, a2, a3, a4] (st) hp else qzV d 70 6 [a0, a1, a2, a3, a4] (st) hp := qv_if1 mdc_70 dX2_worthOf_3 rfl rfl rfl
theorem eX2_worthOf_6 {d : Nat} {a0 a1 a3 a4 : Value} {x : Nat} {st : List Value} {hp : qzH} : qzV d 70 6 [a0, a1, .ref x, a3, a4] (st) hp = qzV d 70 7 [a0, a1, .ref x, a3, a4] (.ref x :: st) hp := qv_aload (i := 2) mdc_70 dX2_worthOf_6 rfl rfl rfl
theorem eX2_worthOf_7 {d : Nat} {a0 a1 a2 a3 a4 : Value} {st : List Value} {hp : qzH} : qzV d 70 7 [a0, a1, a2, a3, a4] (st) hp = qzV d 70 8 [a0, a1, a2, a3, a4] (.int 1 :: st) hp := qv_iconst mdc_70 dX2_worthOf_7 il_1 rfl
theorem eX2_worthOf_8 {d : Nat} {a0 a1 a2 a3 a4 : Value} {w0 w1 : Value} {st : List Value} {hp : qzH} (h8 : st.length ≤ 8) : qzV (d + 1) 70 8 [a0, a1, a2, a3, a4] (w1 :: w0 :: st) hp = (qzC d 84 [w0, w1] hp).bind (fun r => qzV (d + 1) 70 11 [a0, a1, a2, a3, a4] (r.1.toList ++ st) r.2) := qv_calls (n := 2) mdc_70 dX2_worthOf_8 mdo_70 (by decide) qfc_2_72 ⟨rfl, by decide, rfl⟩ rfl ⟨rfl, rfl, by simp only [List.length_cons]; omega⟩ h8
theorem eX2_worthOf_11 {d : Nat} {a0 a1 a2 a3 a4 : Value} {st : List Value} {hp : qzH} : qzV d 70 11 [a0, a1, a2, a3, a4] (st) hp = qzV d 70 15 [a0, a1, a2, a3, a4] (st) hp := qv_goto mdc_70 dX2_worthOf_11 rfl
theorem eX2_worthOf_14 {d : Nat} {a0 a1 a2 a3 a4 : Value} {st : List Value} {hp : qzH} : qzV d 70 14 [a0, a1, a2, a3, a4] (st) hp = qzV d 70 15 [a0, a1, a2, a3, a4] (.int 0 :: st) hp := qv_iconst mdc_70 dX2_worthOf_14 il_0 rfl
theorem eX2_worthOf_15 {d : Nat} {a0 a1 a2 a3 a4 : Value} {x : Int32} {st : List Value} {hp : qzH} : qzV d 70 15 [a0, a1, a2, a3, a4] (.int x :: st) hp = qzV d 70 16 [a0, a1, a2, .int x, a4] (st) hp := qv_istore (i := 3) mdc_70 dX2_worthOf_15 rfl (Nat.le_of_ble_eq_true rfl) rfl rfl
theorem eX2_worthOf_16 {d : Nat} {a0 a2 a3 a4 : Value} {x : Int32} {st : List Value} {hp : qzH} : qzV d 70 16 [a0, .int x, a2, a3, a4] (st) hp = qzV d 70 17 [a0, .int x, a2, a3, a4] (.int x :: st) hp := qv_iload (i := 1) mdc_70 dX2_worthOf_16 rfl rfl rfl
theorem eX2_worthOf_17 {d : Nat} {a0 a1 a2 a3 a4 : Value} {st : List Value} {hp : qzH} : qzV d 70 17 [a0, a1, a2, a3, a4] (st) hp = qzV d 70 18 [a0, a1, a2, a3, a4] (.int 2 :: st) hp := qv_iconst mdc_70 dX2_worthOf_17 il_2 rfl
theorem eX2_worthOf_18 {d : Nat} {a0 a1 a2 a3 a4 : Value} {x y : Int32} {st : List Value} {hp : qzH} : qzV d 70 18 [a0, a1, a2, a3, a4] (.int y :: .int x :: st) hp = qzV d 70 19 [a0, a1, a2, a3, a4] (.int (x &&& y) :: st) hp := qv_bin (f := fun x y => x &&& y) mdc_70 dX2_worthOf_18 rfl rfl
theorem eX2_worthOf_19 {d : Nat} {a0 a1 a2 a3 a4 : Value} {x : Int32} {st : List Value} {hp : qzH} : qzV d 70 19 [a0, a1, a2, a3, a4] (.int x :: st) hp = if x = 0 then qzV d 70 30 [a0, a1, a2, a3, a4] (st) hp else qzV d 70 22 [a0, a1, a2, a3, a4] (st) hp := qv_if1 mdc_70 dX2_worthOf_19 rfl rfl rfl
theorem eX2_worthOf_22 {d : Nat} {a0 a1 a3 a4 : Value} {x : Nat} {st : List Value} {hp : qzH} : qzV d 70 22 [a0, a1, .ref x, a3, a4] (st) hp = qzV d 70 23 [a0, a1, .ref x, a3, a4] (.ref x :: st) hp := qv_aload (i := 2) mdc_70 dX2_worthOf_22 rfl rfl rfl
theorem eX2_worthOf_23 {d : Nat} {a0 a1 a2 a3 a4 : Value} {st : List Value} {hp : qzH} : qzV d 70 23 [a0, a1, a2, a3, a4] (st) hp = qzV d 70 24 [a0, a1, a2, a3, a4] (.int 2 :: st) hp := qv_iconst mdc_70 dX2_worthOf_23 il_2 rfl
theorem eX2_worthOf_24 {d : Nat} {a0 a1 a2 a3 a4 : Value} {w0 w1 : Value} {st : List Value} {hp : qzH} (h8 : st.length ≤ 8) : qzV (d + 1) 70 24 [a0, a1, a2, a3, a4] (w1 :: w0 :: st) hp = (qzC d 84 [w0, w1] hp).bind (fun r => qzV (d + 1) 70 27 [a0, a1, a2, a3, a4] (r.1.toList ++ st) r.2) := qv_calls (n := 2) mdc_70 dX2_worthOf_24 mdo_70 (by decide) qfc_2_72 ⟨rfl, by decide, rfl⟩ rfl ⟨rfl, rfl, by simp only [List.length_cons]; omega⟩ h8
theorem eX2_worthOf_27 {d : Nat} {a0 a1 a2 a3 a4 : Value} {st : List Value} {hp : qzH} : qzV d 70 27 [a0, a1, a2, a3, a4] (st) hp = qzV d 70 31 [a0, a1, a2, a3, a4] (st) hp := qv_goto mdc_70 dX2_worthOf_27 rfl
theorem eX2_worthOf_30 {d : Nat} {a0 a1 a2 a3 a4 : Value} {st : List Value} {hp : qzH} : qzV d 70 30 [a0, a1, a2, a3, a4] (st) hp = qzV d 70 31 [a0, a1, a2, a3, a4] (.int 0 :: st) hp := qv_iconst mdc_70 dX2_worthOf_30 il_0 rfl
theorem eX2_worthOf_31 {d : Nat} {a0 a1 a2 a3 a4 : Value} {x : Int32} {st : List Value} {hp : qzH} : qzV d 70 31 [a0, a1, a2, a3, a4] (.int x :: st) hp = qzV d 70 33 [a0, a1, a2, a3, .int x] (st) hp := qv_istore (i := 4) mdc_70 dX2_worthOf_31 rfl (Nat.le_of_ble_eq_true rfl) rfl rfl
theorem eX2_worthOf_33 {d : Nat} {a1 a2 a3 a4 : Value} {x : Int32} {st : List Value} {hp : qzH} : qzV d 70 33 [.int x, a1, a2, a3, a4] (st) hp = qzV d 70 34 [.int x, a1, a2, a3, a4] (.int x :: st) hp := qv_iload (i := 0) mdc_70 dX2_worthOf_33 rfl rfl rfl
theorem eX2_worthOf_34 {d : Nat} {a0 a1 a2 a4 : Value} {x : Int32} {st : List Value} {hp : qzH} : qzV d 70 34 [a0, a1, a2, .int x, a4] (st) hp = qzV d 70 35 [a0, a1, a2, .int x, a4] (.int x :: st) hp := qv_iload (i := 3) mdc_70 dX2_worthOf_34 rfl rfl rfl
theorem eX2_worthOf_35 {d : Nat} {a0 a1 a2 a3 a4 : Value} {x y : Int32} {st : List Value} {hp : qzH} : qzV d 70 35 [a0, a1, a2, a3, a4] (.int y :: .int x :: st) hp = qzV d 70 36 [a0, a1, a2, a3, a4] (.int (x + y) :: st) hp := qv_bin (f := fun x y => x + y) mdc_70 dX2_worthOf_35 rfl rfl
theorem eX2_worthOf_36 {d : Nat} {a0 a1 a2 a3 : Value} {x : Int32} {st : List Value} {hp : qzH} : qzV d 70 36 [a0, a1, a2, a3, .int x] (st) hp = qzV d 70 38 [a0, a1, a2, a3, .int x] (.int x :: st) hp := qv_iload (i := 4) mdc_70 dX2_worthOf_36 rfl rfl rfl
theorem eX2_worthOf_38 {d : Nat} {a0 a1 a2 a3 a4 : Value} {x y : Int32} {st : List Value} {hp : qzH} : qzV d 70 38 [a0, a1, a2, a3, a4] (.int y :: .int x :: st) hp = qzV d 70 39 [a0, a1, a2, a3, a4] (.int (x + y) :: st) hp := qv_bin (f := fun x y => x + y) mdc_70 dX2_worthOf_38 rfl rfl
theorem eX2_worthOf_39 {d : Nat} {a0 a1 a2 a3 a4 : Value} {v : Int32} {hp : qzH} : qzV d 70 39 [a0, a1, a2, a3, a4] [.int v] hp = some (some (.int v), hp) := qv_iret mdc_70 dX2_worthOf_39 mdr_70 rfl
theorem dX2_isFold_0 : decode cX2_isFold 0 = .ok (.iconst 0, 1) := by decide +kernel
theorem dX2_isFold_1 : decode cX2_isFold 1 = .ok (.istore_n 3, 1) := by decide +kernel
theorem dX2_isFold_2 : decode cX2_isFold 2 = .ok (.iload_n 3, 1) := by decide +kernel
theorem dX2_isFold_3 : decode cX2_isFold 3 = .ok (.iload_n 2, 1) := by decide +kernel
theorem dX2_isFold_4 : decode cX2_isFold 4 = .ok (.iconst 2, 1) := by decide +kernel
theorem dX2_isFold_5 : decode cX2_isFold 5 = .ok (.idiv, 1) := by decide +kernel
theorem dX2_isFold_6 : decode cX2_isFold 6 = .ok (.if_icmp .ge 32, 3) := by decide +kernel
theorem dX2_isFold_9 : decode cX2_isFold 9 = .ok (.aload_n 0, 1) := by decide +kernel
theorem dX2_isFold_10 : decode cX2_isFold 10 = .ok (.iload_n 1, 1) := by decide +kernel
theorem dX2_isFold_11 : decode cX2_isFold 11 = .ok (.iload_n 3, 1) := by decide +kernel
theorem dX2_isFold_12 : decode cX2_isFold 12 = .ok (.iadd, 1) := by decide +kernel
theorem dX2_isFold_13 : decode cX2_isFold 13 = .ok (.invokestatic 72, 3) := by decide +kernel
theorem dX2_isFold_16 : decode cX2_isFold 16 = .ok (.aload_n 0, 1) := by decide +kernel
theorem dX2_isFold_17 : decode cX2_isFold 17 = .ok (.iload_n 1, 1) := by decide +kernel
theorem dX2_isFold_18 : decode cX2_isFold 18 = .ok (.iload_n 2, 1) := by decide +kernel
theorem dX2_isFold_19 : decode cX2_isFold 19 = .ok (.iadd, 1) := by decide +kernel
theorem dX2_isFold_20 : decode cX2_isFold 20 = .ok (.iconst 1, 1) := by decide +kernel
theorem dX2_isFold_21 : decode cX2_isFold 21 = .ok (.isub, 1) := by decide +kernel
theorem dX2_isFold_22 : decode cX2_isFold 22 = .ok (.iload_n 3, 1) := by decide +kernel
theorem dX2_isFold_23 : decode cX2_isFold 23 = .ok (.isub, 1) := by decide +kernel
theorem dX2_isFold_24 : decode cX2_isFold 24 = .ok (.invokestatic 72, 3) := by decide +kernel
theorem dX2_isFold_27 : decode cX2_isFold 27 = .ok (.if_icmp .eq 5, 3) := by decide +kernel
theorem dX2_isFold_30 : decode cX2_isFold 30 = .ok (.iconst 0, 1) := by decide +kernel
theorem dX2_isFold_31 : decode cX2_isFold 31 = .ok (.ireturn, 1) := by decide +kernel
theorem dX2_isFold_32 : decode cX2_isFold 32 = .ok (.iinc 3 1, 3) := by decide +kernel
theorem dX2_isFold_35 : decode cX2_isFold 35 = .ok (.goto (-33), 3) := by decide +kernel
theorem dX2_isFold_38 : decode cX2_isFold 38 = .ok (.iconst 1, 1) := by decide +kernel
theorem dX2_isFold_39 : decode cX2_isFold 39 = .ok (.ireturn, 1) := by decide +kernel
theorem eX2_isFold_0 {d : Nat} {a0 a1 a2 a3 : Value} {st : List Value} {hp : qzH} : qzV d 71 0 [a0, a1, a2, a3] (st) hp = qzV d 71 1 [a0, a1, a2, a3] (.int 0 :: st) hp := qv_iconst mdc_71 dX2_isFold_0 il_0 rfl
theorem eX2_isFold_1 {d : Nat} {a0 a1 a2 a3 : Value} {x : Int32} {st : List Value} {hp : qzH} : qzV d 71 1 [a0, a1, a2, a3] (.int x :: st) hp = qzV d 71 2 [a0, a1, a2, .int x] (st) hp := qv_istore (i := 3) mdc_71 dX2_isFold_1 rfl (Nat.le_of_ble_eq_true rfl) rfl rfl
theorem eX2_isFold_2 {d : Nat} {a0 a1 a2 : Value} {x : Int32} {st : List Value} {hp : qzH} : qzV d 71 2 [a0, a1, a2, .int x] (st) hp = qzV d 71 3 [a0, a1, a2, .int x] (.int x :: st) hp := qv_iload (i := 3) mdc_71 dX2_isFold_2 rfl rfl rfl
theorem eX2_isFold_3 {d : Nat} {a0 a1 a3 : Value} {x : Int32} {st : List Value} {hp : qzH} : qzV d 71 3 [a0, a1, .int x, a3] (st) hp = qzV d 71 4 [a0, a1, .int x, a3] (.int x :: st) hp := qv_iload (i := 2) mdc_71 dX2_isFold_3 rfl rfl rfl
theorem eX2_isFold_4 {d : Nat} {a0 a1 a2 a3 : Value} {st : List Value} {hp : qzH} : qzV d 71 4 [a0, a1, a2, a3] (st) hp = qzV d 71 5 [a0, a1, a2, a3] (.int 2 :: st) hp := qv_iconst mdc_71 dX2_isFold_4 il_2 rfl
theorem eX2_isFold_5 {d : Nat} {a0 a1 a2 a3 : Value} {x y : Int32} {st : List Value} {hp : qzH} (hy : ¬ y = 0) : qzV d 71 5 [a0, a1, a2, a3] (.int y :: .int x :: st) hp = qzV d 71 6 [a0, a1, a2, a3] (.int (x / y) :: st) hp := qv_binD (f := fun x y => x / y) mdc_71 dX2_isFold_5 rfl rfl hy
theorem eX2_isFold_6 {d : Nat} {a0 a1 a2 a3 : Value} {x y : Int32} {st : List Value} {hp : qzH} : qzV d 71 6 [a0, a1, a2, a3] (.int y :: .int x :: st) hp = if y ≤ x then qzV d 71 38 [a0, a1, a2, a3] (st) hp else qzV d 71 9 [a0, a1, a2, a3] (st) hp := qv_if2 mdc_71 dX2_isFold_6 rfl rfl rfl
theorem eX2_isFold_9 {d : Nat} {a1 a2 a3 : Value} {x : Nat} {st : List Value} {hp : qzH} : qzV d 71 9 [.ref x, a1, a2, a3] (st) hp = qzV d 71 10 [.ref x, a1, a2, a3] (.ref x :: st) hp := qv_aload (i := 0) mdc_71 dX2_isFold_9 rfl rfl rfl
theorem eX2_isFold_10 {d : Nat} {a0 a2 a3 : Value} {x : Int32} {st : List Value} {hp : qzH} : qzV d 71 10 [a0, .int x, a2, a3] (st) hp = qzV d 71 11 [a0, .int x, a2, a3] (.int x :: st) hp := qv_iload (i := 1) mdc_71 dX2_isFold_10 rfl rfl rfl
theorem eX2_isFold_11 {d : Nat} {a0 a1 a2 : Value} {x : Int32} {st : List Value} {hp : qzH} : qzV d 71 11 [a0, a1, a2, .int x] (st) hp = qzV d 71 12 [a0, a1, a2, .int x] (.int x :: st) hp := qv_iload (i := 3) mdc_71 dX2_isFold_11 rfl rfl rfl
theorem eX2_isFold_12 {d : Nat} {a0 a1 a2 a3 : Value} {x y : Int32} {st : List Value} {hp : qzH} : qzV d 71 12 [a0, a1, a2, a3] (.int y :: .int x :: st) hp = qzV d 71 13 [a0, a1, a2, a3] (.int (x + y) :: st) hp := qv_bin (f := fun x y => x + y) mdc_71 dX2_isFold_12 rfl rfl
theorem eX2_isFold_13 {d : Nat} {a0 a1 a2 a3 : Value} {w0 w1 : Value} {st : List Value} {hp : qzH} (h8 : st.length ≤ 8) : qzV (d + 1) 71 13 [a0, a1, a2, a3] (w1 :: w0 :: st) hp = (qzC d 84 [w0, w1] hp).bind (fun r => qzV (d + 1) 71 16 [a0, a1, a2, a3] (r.1.toList ++ st) r.2) := qv_calls (n := 2) mdc_71 dX2_isFold_13 mdo_71 (by decide) qfc_2_72 ⟨rfl, by decide, rfl⟩ rfl ⟨rfl, rfl, by simp only [List.length_cons]; omega⟩ h8
theorem eX2_isFold_16 {d : Nat} {a1 a2 a3 : Value} {x : Nat} {st : List Value} {hp : qzH} : qzV d 71 16 [.ref x, a1, a2, a3] (st) hp = qzV d 71 17 [.ref x, a1, a2, a3] (.ref x :: st) hp := qv_aload (i := 0) mdc_71 dX2_isFold_16 rfl rfl rfl
theorem eX2_isFold_17 {d : Nat} {a0 a2 a3 : Value} {x : Int32} {st : List Value} {hp : qzH} : qzV d 71 17 [a0, .int x, a2, a3] (st) hp = qzV d 71 18 [a0, .int x, a2, a3] (.int x :: st) hp := qv_iload (i := 1) mdc_71 dX2_isFold_17 rfl rfl rfl
theorem eX2_isFold_18 {d : Nat} {a0 a1 a3 : Value} {x : Int32} {st : List Value} {hp : qzH} : qzV d 71 18 [a0, a1, .int x, a3] (st) hp = qzV d 71 19 [a0, a1, .int x, a3] (.int x :: st) hp := qv_iload (i := 2) mdc_71 dX2_isFold_18 rfl rfl rfl
theorem eX2_isFold_19 {d : Nat} {a0 a1 a2 a3 : Value} {x y : Int32} {st : List Value} {hp : qzH} : qzV d 71 19 [a0, a1, a2, a3] (.int y :: .int x :: st) hp = qzV d 71 20 [a0, a1, a2, a3] (.int (x + y) :: st) hp := qv_bin (f := fun x y => x + y) mdc_71 dX2_isFold_19 rfl rfl
theorem eX2_isFold_20 {d : Nat} {a0 a1 a2 a3 : Value} {st : List Value} {hp : qzH} : qzV d 71 20 [a0, a1, a2, a3] (st) hp = qzV d 71 21 [a0, a1, a2, a3] (.int 1 :: st) hp := qv_iconst mdc_71 dX2_isFold_20 il_1 rfl
theorem eX2_isFold_21 {d : Nat} {a0 a1 a2 a3 : Value} {x y : Int32} {st : List Value} {hp : qzH} : qzV d 71 21 [a0, a1, a2, a3] (.int y :: .int x :: st) hp = qzV d 71 22 [a0, a1, a2, a3] (.int (x - y) :: st) hp := qv_bin (f := fun x y => x - y) mdc_71 dX2_isFold_21 rfl rfl
theorem eX2_isFold_22 {d : Nat} {a0 a1 a2 : Value} {x : Int32} {st : List Value} {hp : qzH} : qzV d 71 22 [a0, a1, a2, .int x] (st) hp = qzV d 71 23 [a0, a1, a2, .int x] (.int x :: st) hp := qv_iload (i := 3) mdc_71 dX2_isFold_22 rfl rfl rfl
theorem eX2_isFold_23 {d : Nat} {a0 a1 a2 a3 : Value} {x y : Int32} {st : List Value} {hp : qzH} : qzV d 71 23 [a0, a1, a2, a3] (.int y :: .int x :: st) hp = qzV d 71 24 [a0, a1, a2, a3] (.int (x - y) :: st) hp := qv_bin (f := fun x y => x - y) mdc_71 dX2_isFold_23 rfl rfl
theorem eX2_isFold_24 {d : Nat} {a0 a1 a2 a3 : Value} {w0 w1 : Value} {st : List Value} {hp : qzH} (h8 : st.length ≤ 8) : qzV (d + 1) 71 24 [a0, a1, a2, a3] (w1 :: w0 :: st) hp = (qzC d 84 [w0, w1] hp).bind (fun r => qzV (d + 1) 71 27 [a0, a1, a2, a3] (r.1.toList ++ st) r.2) := qv_calls (n := 2) mdc_71 dX2_isFold_24 mdo_71 (by decide) qfc_2_72 ⟨rfl, by decide, rfl⟩ rfl ⟨rfl, rfl, by simp only [List.length_cons]; omega⟩ h8
theorem eX2_isFold_27 {d : Nat} {a0 a1 a2 a3 : Value} {x y : Int32} {st : List Value} {hp : qzH} : qzV d 71 27 [a0, a1, a2, a3] (.int y :: .int x :: st) hp = if x = y then qzV d 71 32 [a0, a1, a2, a3] (st) hp else qzV d 71 30 [a0, a1, a2, a3] (st) hp := qv_if2 mdc_71 dX2_isFold_27 rfl rfl rfl
theorem eX2_isFold_30 {d : Nat} {a0 a1 a2 a3 : Value} {st : List Value} {hp : qzH} : qzV d 71 30 [a0, a1, a2, a3] (st) hp = qzV d 71 31 [a0, a1, a2, a3] (.int 0 :: st) hp := qv_iconst mdc_71 dX2_isFold_30 il_0 rfl
theorem eX2_isFold_31 {d : Nat} {a0 a1 a2 a3 : Value} {v : Int32} {hp : qzH} (hn : narrow .boolean (.int v) = .int v) : qzV d 71 31 [a0, a1, a2, a3] [.int v] hp = some (some (.int v), hp) := qv_iret mdc_71 dX2_isFold_31 mdr_71 hn
theorem eX2_isFold_32 {d : Nat} {a0 a1 a2 : Value} {x : Int32} {st : List Value} {hp : qzH} : qzV d 71 32 [a0, a1, a2, .int x] (st) hp = qzV d 71 35 [a0, a1, a2, .int (x + 1)] (st) hp := qv_iinc mdc_71 dX2_isFold_32 rfl il_1 rfl rfl
theorem eX2_isFold_35 {d : Nat} {a0 a1 a2 a3 : Value} {st : List Value} {hp : qzH} : qzV d 71 35 [a0, a1, a2, a3] (st) hp = qzV d 71 2 [a0, a1, a2, a3] (st) hp := qv_goto mdc_71 dX2_isFold_35 rfl
theorem eX2_isFold_38 {d : Nat} {a0 a1 a2 a3 : Value} {st : List Value} {hp : qzH} : qzV d 71 38 [a0, a1, a2, a3] (st) hp = qzV d 71 39 [a0, a1, a2, a3] (.int 1 :: st) hp := qv_iconst mdc_71 dX2_isFold_38 il_1 rfl
theorem eX2_isFold_39 {d : Nat} {a0 a1 a2 a3 : Value} {v : Int32} {hp : qzH} (hn : narrow .boolean (.int v) = .int v) : qzV d 71 39 [a0, a1, a2, a3] [.int v] hp = some (some (.int v), hp) := qv_iret mdc_71 dX2_isFold_39 mdr_71 hn
theorem dX2_signAt_0 : decode cX2_signAt 0 = .ok (.iload_n 1, 1) := by decide +kernel
theorem dX2_signAt_1 : decode cX2_signAt 1 = .ok (.ifCond .lt 29, 3) := by decide +kernel
theorem dX2_signAt_4 : decode cX2_signAt 4 = .ok (.iload_n 1, 1) := by decide +kernel
theorem dX2_signAt_5 : decode cX2_signAt 5 = .ok (.aload_n 0, 1) := by decide +kernel
theorem dX2_signAt_6 : decode cX2_signAt 6 = .ok (.getfield 86, 3) := by decide +kernel
theorem dX2_signAt_9 : decode cX2_signAt 9 = .ok (.if_icmp .ge 21, 3) := by decide +kernel
theorem dX2_signAt_12 : decode cX2_signAt 12 = .ok (.iload_n 1, 1) := by decide +kernel
theorem dX2_signAt_13 : decode cX2_signAt 13 = .ok (.aload_n 0, 1) := by decide +kernel
theorem dX2_signAt_14 : decode cX2_signAt 14 = .ok (.getfield 26, 3) := by decide +kernel
theorem dX2_signAt_17 : decode cX2_signAt 17 = .ok (.arraylength, 1) := by decide +kernel
theorem dX2_signAt_18 : decode cX2_signAt 18 = .ok (.if_icmp .ge 12, 3) := by decide +kernel
theorem dX2_signAt_21 : decode cX2_signAt 21 = .ok (.aload_n 0, 1) := by decide +kernel
theorem dX2_signAt_22 : decode cX2_signAt 22 = .ok (.getfield 26, 3) := by decide +kernel
theorem dX2_signAt_25 : decode cX2_signAt 25 = .ok (.iload_n 1, 1) := by decide +kernel
theorem dX2_signAt_26 : decode cX2_signAt 26 = .ok (.caload, 1) := by decide +kernel
theorem dX2_signAt_27 : decode cX2_signAt 27 = .ok (.goto 4, 3) := by decide +kernel
theorem dX2_signAt_30 : decode cX2_signAt 30 = .ok (.iconst 0, 1) := by decide +kernel
theorem dX2_signAt_31 : decode cX2_signAt 31 = .ok (.ireturn, 1) := by decide +kernel
theorem eX2_signAt_0 {d : Nat} {a0 : Value} {x : Int32} {st : List Value} {hp : qzH} : qzV d 72 0 [a0, .int x] (st) hp = qzV d 72 1 [a0, .int x] (.int x :: st) hp := qv_iload (i := 1) mdc_72 dX2_signAt_0 rfl rfl rfl
theorem eX2_signAt_1 {d : Nat} {a0 a1 : Value} {x : Int32} {st : List Value} {hp : qzH} : qzV d 72 1 [a0, a1] (.int x :: st) hp = if x < 0 then qzV d 72 30 [a0, a1] (st) hp else qzV d 72 4 [a0, a1] (st) hp := qv_if1 mdc_72 dX2_signAt_1 rfl rfl rfl
theorem eX2_signAt_4 {d : Nat} {a0 : Value} {x : Int32} {st : List Value} {hp : qzH} : qzV d 72 4 [a0, .int x] (st) hp = qzV d 72 5 [a0, .int x] (.int x :: st) hp := qv_iload (i := 1) mdc_72 dX2_signAt_4 rfl rfl rfl
theorem eX2_signAt_5 {d : Nat} {a1 : Value} {x : Nat} {st : List Value} {hp : qzH} : qzV d 72 5 [.ref x, a1] (st) hp = qzV d 72 6 [.ref x, a1] (.ref x :: st) hp := qv_aload (i := 0) mdc_72 dX2_signAt_5 rfl rfl rfl
theorem eX2_signAt_6 {d : Nat} {a0 a1 : Value} {a : Nat} {st : List Value} {hp : qzH} (ha : qzArr 2 a hp.1 = true) : qzV d 72 6 [a0, a1] (.ref a :: st) hp = qzV d 72 9 [a0, a1] (.int (hp.2.2 a 7) :: st) hp := qv_getI mdc_72 dX2_signAt_6 mdo_72 qff_2_86 ⟨by decide, rfl⟩ rfl ha
theorem eX2_signAt_9 {d : Nat} {a0 a1 : Value} {x y : Int32} {st : List Value} {hp : qzH} : qzV d 72 9 [a0, a1] (.int y :: .int x :: st) hp = if y ≤ x then qzV d 72 30 [a0, a1] (st) hp else qzV d 72 12 [a0, a1] (st) hp := qv_if2 mdc_72 dX2_signAt_9 rfl rfl rfl
theorem eX2_signAt_12 {d : Nat} {a0 : Value} {x : Int32} {st : List Value} {hp : qzH} : qzV d 72 12 [a0, .int x] (st) hp = qzV d 72 13 [a0, .int x] (.int x :: st) hp := qv_iload (i := 1) mdc_72 dX2_signAt_12 rfl rfl rfl
theorem eX2_signAt_13 {d : Nat} {a1 : Value} {x : Nat} {st : List Value} {hp : qzH} : qzV d 72 13 [.ref x, a1] (st) hp = qzV d 72 14 [.ref x, a1] (.ref x :: st) hp := qv_aload (i := 0) mdc_72 dX2_signAt_13 rfl rfl rfl
theorem eX2_signAt_14 {d : Nat} {a0 a1 : Value} {a : Nat} {st : List Value} {hp : qzH} (ha : qzArr 2 a hp.1 = true) : qzV d 72 14 [a0, a1] (.ref a :: st) hp = qzV d 72 17 [a0, a1] (va_rf (hp.2.1 a 6) :: st) hp := qv_getR mdc_72 dX2_signAt_14 mdo_72 qff_2_26 ⟨by decide, rfl⟩ rfl ha
theorem eX2_signAt_17 {d : Nat} {a0 a1 : Value} {a : Nat} {st : List Value} {hp : qzH} (ha : qzArr 4 a hp.1 = true ∨ qzArr 5 a hp.1 = true ∨ qzArr 6 a hp.1 = true) : qzV d 72 17 [a0, a1] (.ref a :: st) hp = qzV d 72 18 [a0, a1] (.int (Int32.ofNat (qzk a).2) :: st) hp := qv_alen mdc_72 dX2_signAt_17 rfl ha
theorem eX2_signAt_18 {d : Nat} {a0 a1 : Value} {x y : Int32} {st : List Value} {hp : qzH} : qzV d 72 18 [a0, a1] (.int y :: .int x :: st) hp = if y ≤ x then qzV d 72 30 [a0, a1] (st) hp else qzV d 72 21 [a0, a1] (st) hp := qv_if2 mdc_72 dX2_signAt_18 rfl rfl rfl
theorem eX2_signAt_21 {d : Nat} {a1 : Value} {x : Nat} {st : List Value} {hp : qzH} : qzV d 72 21 [.ref x, a1] (st) hp = qzV d 72 22 [.ref x, a1] (.ref x :: st) hp := qv_aload (i := 0) mdc_72 dX2_signAt_21 rfl rfl rfl
theorem eX2_signAt_22 {d : Nat} {a0 a1 : Value} {a : Nat} {st : List Value} {hp : qzH} (ha : qzArr 2 a hp.1 = true) : qzV d 72 22 [a0, a1] (.ref a :: st) hp = qzV d 72 25 [a0, a1] (va_rf (hp.2.1 a 6) :: st) hp := qv_getR mdc_72 dX2_signAt_22 mdo_72 qff_2_26 ⟨by decide, rfl⟩ rfl ha
theorem eX2_signAt_25 {d : Nat} {a0 : Value} {x : Int32} {st : List Value} {hp : qzH} : qzV d 72 25 [a0, .int x] (st) hp = qzV d 72 26 [a0, .int x] (.int x :: st) hp := qv_iload (i := 1) mdc_72 dX2_signAt_25 rfl rfl rfl
theorem eX2_signAt_26 {d : Nat} {a0 a1 : Value} {i : Int32} {a : Nat} {st : List Value} {hp : qzH} (ha : qzArr 5 a hp.1 = true) (hi : qzIn i (qzk a).2 = true) : qzV d 72 26 [a0, a1] (.int i :: .ref a :: st) hp = qzV d 72 27 [a0, a1] (.int (hp.2.2 a i.toNatClampNeg) :: st) hp := qv_cald mdc_72 dX2_signAt_26 rfl ha hi
theorem eX2_signAt_27 {d : Nat} {a0 a1 : Value} {st : List Value} {hp : qzH} : qzV d 72 27 [a0, a1] (st) hp = qzV d 72 31 [a0, a1] (st) hp := qv_goto mdc_72 dX2_signAt_27 rfl
theorem eX2_signAt_30 {d : Nat} {a0 a1 : Value} {st : List Value} {hp : qzH} : qzV d 72 30 [a0, a1] (st) hp = qzV d 72 31 [a0, a1] (.int 0 :: st) hp := qv_iconst mdc_72 dX2_signAt_30 il_0 rfl
theorem eX2_signAt_31 {d : Nat} {a0 a1 : Value} {v : Int32} {hp : qzH} (hn : narrow .char (.int v) = .int v) : qzV d 72 31 [a0, a1] [.int v] hp = some (some (.int v), hp) := qv_iret mdc_72 dX2_signAt_31 mdr_72 hn
theorem dX2_digitAt_0 : decode cX2_digitAt 0 = .ok (.aload_n 0, 1) := by decide +kernel
theorem dX2_digitAt_1 : decode cX2_digitAt 1 = .ok (.iload_n 1, 1) := by decide +kernel
theorem dX2_digitAt_2 : decode cX2_digitAt 2 = .ok (.invokevirtual 98, 3) := by decide +kernel
theorem dX2_digitAt_5 : decode cX2_digitAt 5 = .ok (.istore_n 2, 1) := by decide +kernel
theorem dX2_digitAt_6 : decode cX2_digitAt 6 = .ok (.iload_n 2, 1) := by decide +kernel
theorem dX2_digitAt_7 : decode cX2_digitAt 7 = .ok (.bipush 48, 2) := by decide +kernel
theorem dX2_digitAt_9 : decode cX2_digitAt 9 = .ok (.if_icmp .lt 16, 3) := by decide +kernel
theorem dX2_digitAt_12 : decode cX2_digitAt 12 = .ok (.iload_n 2, 1) := by decide +kernel
theorem dX2_digitAt_13 : decode cX2_digitAt 13 = .ok (.bipush 57, 2) := by decide +kernel
theorem dX2_digitAt_15 : decode cX2_digitAt 15 = .ok (.if_icmp .gt 10, 3) := by decide +kernel
theorem dX2_digitAt_18 : decode cX2_digitAt 18 = .ok (.iload_n 2, 1) := by decide +kernel
theorem dX2_digitAt_19 : decode cX2_digitAt 19 = .ok (.bipush 48, 2) := by decide +kernel
theorem dX2_digitAt_21 : decode cX2_digitAt 21 = .ok (.isub, 1) := by decide +kernel
theorem dX2_digitAt_22 : decode cX2_digitAt 22 = .ok (.goto 5, 3) := by decide +kernel
theorem dX2_digitAt_25 : decode cX2_digitAt 25 = .ok (.bipush (-4), 2) := by decide +kernel
theorem dX2_digitAt_27 : decode cX2_digitAt 27 = .ok (.ireturn, 1) := by decide +kernel
theorem eX2_digitAt_0 {d : Nat} {a1 a2 : Value} {x : Nat} {st : List Value} {hp : qzH} : qzV d 73 0 [.ref x, a1, a2] (st) hp = qzV d 73 1 [.ref x, a1, a2] (.ref x :: st) hp := qv_aload (i := 0) mdc_73 dX2_digitAt_0 rfl rfl rfl
theorem eX2_digitAt_1 {d : Nat} {a0 a2 : Value} {x : Int32} {st : List Value} {hp : qzH} : qzV d 73 1 [a0, .int x, a2] (st) hp = qzV d 73 2 [a0, .int x, a2] (.int x :: st) hp := qv_iload (i := 1) mdc_73 dX2_digitAt_1 rfl rfl rfl
theorem eX2_digitAt_2 {d : Nat} {a0 a1 a2 : Value} {w0 : Value} {b : Nat} {st : List Value} {hp : qzH} (h8 : st.length ≤ 8) (hb : qzArr 2 b hp.1 = true) : qzV (d + 1) 73 2 [a0, a1, a2] (w0 :: .ref b :: st) hp = (qzC d 72 (.ref b :: [w0]) hp).bind (fun r => qzV (d + 1) 73 5 [a0, a1, a2] (r.1.toList ++ st) r.2) := qv_callv (n := 1) mdc_73 dX2_digitAt_2 mdo_73 (by decide) qfc_2_98 ⟨rfl, by decide, rfl⟩ rfl ⟨rfl, rfl, by simp only [List.length_cons]; omega⟩ h8 hb
theorem eX2_digitAt_5 {d : Nat} {a0 a1 a2 : Value} {x : Int32} {st : List Value} {hp : qzH} : qzV d 73 5 [a0, a1, a2] (.int x :: st) hp = qzV d 73 6 [a0, a1, .int x] (st) hp := qv_istore (i := 2) mdc_73 dX2_digitAt_5 rfl (Nat.le_of_ble_eq_true rfl) rfl rfl
theorem eX2_digitAt_6 {d : Nat} {a0 a1 : Value} {x : Int32} {st : List Value} {hp : qzH} : qzV d 73 6 [a0, a1, .int x] (st) hp = qzV d 73 7 [a0, a1, .int x] (.int x :: st) hp := qv_iload (i := 2) mdc_73 dX2_digitAt_6 rfl rfl rfl
theorem eX2_digitAt_7 {d : Nat} {a0 a1 a2 : Value} {st : List Value} {hp : qzH} : qzV d 73 7 [a0, a1, a2] (st) hp = qzV d 73 9 [a0, a1, a2] (.int 48 :: st) hp := qv_bipush mdc_73 dX2_digitAt_7 ib_48 rfl
theorem eX2_digitAt_9 {d : Nat} {a0 a1 a2 : Value} {x y : Int32} {st : List Value} {hp : qzH} : qzV d 73 9 [a0, a1, a2] (.int y :: .int x :: st) hp = if x < y then qzV d 73 25 [a0, a1, a2] (st) hp else qzV d 73 12 [a0, a1, a2] (st) hp := qv_if2 mdc_73 dX2_digitAt_9 rfl rfl rfl
theorem eX2_digitAt_12 {d : Nat} {a0 a1 : Value} {x : Int32} {st : List Value} {hp : qzH} : qzV d 73 12 [a0, a1, .int x] (st) hp = qzV d 73 13 [a0, a1, .int x] (.int x :: st) hp := qv_iload (i := 2) mdc_73 dX2_digitAt_12 rfl rfl rfl
theorem eX2_digitAt_13 {d : Nat} {a0 a1 a2 : Value} {st : List Value} {hp : qzH} : qzV d 73 13 [a0, a1, a2] (st) hp = qzV d 73 15 [a0, a1, a2] (.int 57 :: st) hp := qv_bipush mdc_73 dX2_digitAt_13 ib_57 rfl
theorem eX2_digitAt_15 {d : Nat} {a0 a1 a2 : Value} {x y : Int32} {st : List Value} {hp : qzH} : qzV d 73 15 [a0, a1, a2] (.int y :: .int x :: st) hp = if y < x then qzV d 73 25 [a0, a1, a2] (st) hp else qzV d 73 18 [a0, a1, a2] (st) hp := qv_if2 mdc_73 dX2_digitAt_15 rfl rfl rfl
theorem eX2_digitAt_18 {d : Nat} {a0 a1 : Value} {x : Int32} {st : List Value} {hp : qzH} : qzV d 73 18 [a0, a1, .int x] (st) hp = qzV d 73 19 [a0, a1, .int x] (.int x :: st) hp := qv_iload (i := 2) mdc_73 dX2_digitAt_18 rfl rfl rfl
theorem eX2_digitAt_19 {d : Nat} {a0 a1 a2 : Value} {st : List Value} {hp : qzH} : qzV d 73 19 [a0, a1, a2] (st) hp = qzV d 73 21 [a0, a1, a2] (.int 48 :: st) hp := qv_bipush mdc_73 dX2_digitAt_19 ib_48 rfl
theorem eX2_digitAt_21 {d : Nat} {a0 a1 a2 : Value} {x y : Int32} {st : List Value} {hp : qzH} : qzV d 73 21 [a0, a1, a2] (.int y :: .int x :: st) hp = qzV d 73 22 [a0, a1, a2] (.int (x - y) :: st) hp := qv_bin (f := fun x y => x - y) mdc_73 dX2_digitAt_21 rfl rfl
theorem eX2_digitAt_22 {d : Nat} {a0 a1 a2 : Value} {st : List Value} {hp : qzH} : qzV d 73 22 [a0, a1, a2] (st) hp = qzV d 73 27 [a0, a1, a2] (st) hp := qv_goto mdc_73 dX2_digitAt_22 rfl
theorem eX2_digitAt_25 {d : Nat} {a0 a1 a2 : Value} {st : List Value} {hp : qzH} : qzV d 73 25 [a0, a1, a2] (st) hp = qzV d 73 27 [a0, a1, a2] (.int (-4) :: st) hp := qv_bipush mdc_73 dX2_digitAt_25 ib_m4 rfl
theorem eX2_digitAt_27 {d : Nat} {a0 a1 a2 : Value} {v : Int32} {hp : qzH} : qzV d 73 27 [a0, a1, a2] [.int v] hp = some (some (.int v), hp) := qv_iret mdc_73 dX2_digitAt_27 mdr_73 rfl
theorem dX2_isSide_0 : decode cX2_isSide 0 = .ok (.iload_n 0, 1) := by decide +kernel
theorem dX2_isSide_1 : decode cX2_isSide 1 = .ok (.bipush 108, 2) := by decide +kernel
theorem dX2_isSide_3 : decode cX2_isSide 3 = .ok (.if_icmp .eq 9, 3) := by decide +kernel
theorem dX2_isSide_6 : decode cX2_isSide 6 = .ok (.iload_n 0, 1) := by decide +kernel
theorem dX2_isSide_7 : decode cX2_isSide 7 = .ok (.bipush 114, 2) := by decide +kernel
theorem dX2_isSide_9 : decode cX2_isSide 9 = .ok (.if_icmp .ne 7, 3) := by decide +kernel
theorem dX2_isSide_12 : decode cX2_isSide 12 = .ok (.iconst 1, 1) := by decide +kernel
theorem dX2_isSide_13 : decode cX2_isSide 13 = .ok (.goto 4, 3) := by decide +kernel
theorem dX2_isSide_16 : decode cX2_isSide 16 = .ok (.iconst 0, 1) := by decide +kernel
theorem dX2_isSide_17 : decode cX2_isSide 17 = .ok (.ireturn, 1) := by decide +kernel
theorem eX2_isSide_0 {d : Nat} {x : Int32} {st : List Value} {hp : qzH} : qzV d 74 0 [.int x] (st) hp = qzV d 74 1 [.int x] (.int x :: st) hp := qv_iload (i := 0) mdc_74 dX2_isSide_0 rfl rfl rfl
theorem eX2_isSide_1 {d : Nat} {a0 : Value} {st : List Value} {hp : qzH} : qzV d 74 1 [a0] (st) hp = qzV d 74 3 [a0] (.int 108 :: st) hp := qv_bipush mdc_74 dX2_isSide_1 ib_108 rfl
theorem eX2_isSide_3 {d : Nat} {a0 : Value} {x y : Int32} {st : List Value} {hp : qzH} : qzV d 74 3 [a0] (.int y :: .int x :: st) hp = if x = y then qzV d 74 12 [a0] (st) hp else qzV d 74 6 [a0] (st) hp := qv_if2 mdc_74 dX2_isSide_3 rfl rfl rfl
theorem eX2_isSide_6 {d : Nat} {x : Int32} {st : List Value} {hp : qzH} : qzV d 74 6 [.int x] (st) hp = qzV d 74 7 [.int x] (.int x :: st) hp := qv_iload (i := 0) mdc_74 dX2_isSide_6 rfl rfl rfl
theorem eX2_isSide_7 {d : Nat} {a0 : Value} {st : List Value} {hp : qzH} : qzV d 74 7 [a0] (st) hp = qzV d 74 9 [a0] (.int 114 :: st) hp := qv_bipush mdc_74 dX2_isSide_7 ib_114 rfl
theorem eX2_isSide_9 {d : Nat} {a0 : Value} {x y : Int32} {st : List Value} {hp : qzH} : qzV d 74 9 [a0] (.int y :: .int x :: st) hp = if ¬ x = y then qzV d 74 16 [a0] (st) hp else qzV d 74 12 [a0] (st) hp := qv_if2 mdc_74 dX2_isSide_9 rfl rfl rfl
theorem eX2_isSide_12 {d : Nat} {a0 : Value} {st : List Value} {hp : qzH} : qzV d 74 12 [a0] (st) hp = qzV d 74 13 [a0] (.int 1 :: st) hp := qv_iconst mdc_74 dX2_isSide_12 il_1 rfl
theorem eX2_isSide_13 {d : Nat} {a0 : Value} {st : List Value} {hp : qzH} : qzV d 74 13 [a0] (st) hp = qzV d 74 17 [a0] (st) hp := qv_goto mdc_74 dX2_isSide_13 rfl
theorem eX2_isSide_16 {d : Nat} {a0 : Value} {st : List Value} {hp : qzH} : qzV d 74 16 [a0] (st) hp = qzV d 74 17 [a0] (.int 0 :: st) hp := qv_iconst mdc_74 dX2_isSide_16 il_0 rfl
theorem eX2_isSide_17 {d : Nat} {a0 : Value} {v : Int32} {hp : qzH} (hn : narrow .boolean (.int v) = .int v) : qzV d 74 17 [a0] [.int v] hp = some (some (.int v), hp) := qv_iret mdc_74 dX2_isSide_17 mdr_74 hn
theorem dX2_lettersAhead_0 : decode cX2_lettersAhead 0 = .ok (.iconst 0, 1) := by decide +kernel
theorem dX2_lettersAhead_1 : decode cX2_lettersAhead 1 = .ok (.istore_n 1, 1) := by decide +kernel
theorem dX2_lettersAhead_2 : decode cX2_lettersAhead 2 = .ok (.iload_n 1, 1) := by decide +kernel
theorem dX2_lettersAhead_3 : decode cX2_lettersAhead 3 = .ok (.bipush 20, 2) := by decide +kernel
theorem dX2_lettersAhead_5 : decode cX2_lettersAhead 5 = .ok (.if_icmp .ge 29, 3) := by decide +kernel
theorem dX2_lettersAhead_8 : decode cX2_lettersAhead 8 = .ok (.aload_n 0, 1) := by decide +kernel
theorem dX2_lettersAhead_9 : decode cX2_lettersAhead 9 = .ok (.iload_n 1, 1) := by decide +kernel
theorem dX2_lettersAhead_10 : decode cX2_lettersAhead 10 = .ok (.invokevirtual 98, 3) := by decide +kernel
theorem dX2_lettersAhead_13 : decode cX2_lettersAhead 13 = .ok (.bipush 97, 2) := by decide +kernel
theorem dX2_lettersAhead_15 : decode cX2_lettersAhead 15 = .ok (.if_icmp .lt 19, 3) := by decide +kernel
theorem dX2_lettersAhead_18 : decode cX2_lettersAhead 18 = .ok (.aload_n 0, 1) := by decide +kernel
theorem dX2_lettersAhead_19 : decode cX2_lettersAhead 19 = .ok (.iload_n 1, 1) := by decide +kernel
theorem dX2_lettersAhead_20 : decode cX2_lettersAhead 20 = .ok (.invokevirtual 98, 3) := by decide +kernel
theorem dX2_lettersAhead_23 : decode cX2_lettersAhead 23 = .ok (.bipush 102, 2) := by decide +kernel
theorem dX2_lettersAhead_25 : decode cX2_lettersAhead 25 = .ok (.if_icmp .gt 9, 3) := by decide +kernel
theorem dX2_lettersAhead_28 : decode cX2_lettersAhead 28 = .ok (.iinc 1 1, 3) := by decide +kernel
theorem dX2_lettersAhead_31 : decode cX2_lettersAhead 31 = .ok (.goto (-29), 3) := by decide +kernel
theorem dX2_lettersAhead_34 : decode cX2_lettersAhead 34 = .ok (.iload_n 1, 1) := by decide +kernel
theorem dX2_lettersAhead_35 : decode cX2_lettersAhead 35 = .ok (.ireturn, 1) := by decide +kernel
theorem eX2_lettersAhead_0 {d : Nat} {a0 a1 : Value} {st : List Value} {hp : qzH} : qzV d 75 0 [a0, a1] (st) hp = qzV d 75 1 [a0, a1] (.int 0 :: st) hp := qv_iconst mdc_75 dX2_lettersAhead_0 il_0 rfl
theorem eX2_lettersAhead_1 {d : Nat} {a0 a1 : Value} {x : Int32} {st : List Value} {hp : qzH} : qzV d 75 1 [a0, a1] (.int x :: st) hp = qzV d 75 2 [a0, .int x] (st) hp := qv_istore (i := 1) mdc_75 dX2_lettersAhead_1 rfl (Nat.le_of_ble_eq_true rfl) rfl rfl
theorem eX2_lettersAhead_2 {d : Nat} {a0 : Value} {x : Int32} {st : List Value} {hp : qzH} : qzV d 75 2 [a0, .int x] (st) hp = qzV d 75 3 [a0, .int x] (.int x :: st) hp := qv_iload (i := 1) mdc_75 dX2_lettersAhead_2 rfl rfl rfl
theorem eX2_lettersAhead_3 {d : Nat} {a0 a1 : Value} {st : List Value} {hp : qzH} : qzV d 75 3 [a0, a1] (st) hp = qzV d 75 5 [a0, a1] (.int 20 :: st) hp := qv_bipush mdc_75 dX2_lettersAhead_3 ib_20 rfl
theorem eX2_lettersAhead_5 {d : Nat} {a0 a1 : Value} {x y : Int32} {st : List Value} {hp : qzH} : qzV d 75 5 [a0, a1] (.int y :: .int x :: st) hp = if y ≤ x then qzV d 75 34 [a0, a1] (st) hp else qzV d 75 8 [a0, a1] (st) hp := qv_if2 mdc_75 dX2_lettersAhead_5 rfl rfl rfl
theorem eX2_lettersAhead_8 {d : Nat} {a1 : Value} {x : Nat} {st : List Value} {hp : qzH} : qzV d 75 8 [.ref x, a1] (st) hp = qzV d 75 9 [.ref x, a1] (.ref x :: st) hp := qv_aload (i := 0) mdc_75 dX2_lettersAhead_8 rfl rfl rfl
theorem eX2_lettersAhead_9 {d : Nat} {a0 : Value} {x : Int32} {st : List Value} {hp : qzH} : qzV d 75 9 [a0, .int x] (st) hp = qzV d 75 10 [a0, .int x] (.int x :: st) hp := qv_iload (i := 1) mdc_75 dX2_lettersAhead_9 rfl rfl rfl
theorem eX2_lettersAhead_10 {d : Nat} {a0 a1 : Value} {w0 : Value} {b : Nat} {st : List Value} {hp : qzH} (h8 : st.length ≤ 8) (hb : qzArr 2 b hp.1 = true) : qzV (d + 1) 75 10 [a0, a1] (w0 :: .ref b :: st) hp = (qzC d 72 (.ref b :: [w0]) hp).bind (fun r => qzV (d + 1) 75 13 [a0, a1] (r.1.toList ++ st) r.2) := qv_callv (n := 1) mdc_75 dX2_lettersAhead_10 mdo_75 (by decide) qfc_2_98 ⟨rfl, by decide, rfl⟩ rfl ⟨rfl, rfl, by simp only [List.length_cons]; omega⟩ h8 hb
theorem eX2_lettersAhead_13 {d : Nat} {a0 a1 : Value} {st : List Value} {hp : qzH} : qzV d 75 13 [a0, a1] (st) hp = qzV d 75 15 [a0, a1] (.int 97 :: st) hp := qv_bipush mdc_75 dX2_lettersAhead_13 ib_97 rfl
theorem eX2_lettersAhead_15 {d : Nat} {a0 a1 : Value} {x y : Int32} {st : List Value} {hp : qzH} : qzV d 75 15 [a0, a1] (.int y :: .int x :: st) hp = if x < y then qzV d 75 34 [a0, a1] (st) hp else qzV d 75 18 [a0, a1] (st) hp := qv_if2 mdc_75 dX2_lettersAhead_15 rfl rfl rfl
theorem eX2_lettersAhead_18 {d : Nat} {a1 : Value} {x : Nat} {st : List Value} {hp : qzH} : qzV d 75 18 [.ref x, a1] (st) hp = qzV d 75 19 [.ref x, a1] (.ref x :: st) hp := qv_aload (i := 0) mdc_75 dX2_lettersAhead_18 rfl rfl rfl
theorem eX2_lettersAhead_19 {d : Nat} {a0 : Value} {x : Int32} {st : List Value} {hp : qzH} : qzV d 75 19 [a0, .int x] (st) hp = qzV d 75 20 [a0, .int x] (.int x :: st) hp := qv_iload (i := 1) mdc_75 dX2_lettersAhead_19 rfl rfl rfl
theorem eX2_lettersAhead_20 {d : Nat} {a0 a1 : Value} {w0 : Value} {b : Nat} {st : List Value} {hp : qzH} (h8 : st.length ≤ 8) (hb : qzArr 2 b hp.1 = true) : qzV (d + 1) 75 20 [a0, a1] (w0 :: .ref b :: st) hp = (qzC d 72 (.ref b :: [w0]) hp).bind (fun r => qzV (d + 1) 75 23 [a0, a1] (r.1.toList ++ st) r.2) := qv_callv (n := 1) mdc_75 dX2_lettersAhead_20 mdo_75 (by decide) qfc_2_98 ⟨rfl, by decide, rfl⟩ rfl ⟨rfl, rfl, by simp only [List.length_cons]; omega⟩ h8 hb
theorem eX2_lettersAhead_23 {d : Nat} {a0 a1 : Value} {st : List Value} {hp : qzH} : qzV d 75 23 [a0, a1] (st) hp = qzV d 75 25 [a0, a1] (.int 102 :: st) hp := qv_bipush mdc_75 dX2_lettersAhead_23 ib_102 rfl
theorem eX2_lettersAhead_25 {d : Nat} {a0 a1 : Value} {x y : Int32} {st : List Value} {hp : qzH} : qzV d 75 25 [a0, a1] (.int y :: .int x :: st) hp = if y < x then qzV d 75 34 [a0, a1] (st) hp else qzV d 75 28 [a0, a1] (st) hp := qv_if2 mdc_75 dX2_lettersAhead_25 rfl rfl rfl
theorem eX2_lettersAhead_28 {d : Nat} {a0 : Value} {x : Int32} {st : List Value} {hp : qzH} : qzV d 75 28 [a0, .int x] (st) hp = qzV d 75 31 [a0, .int (x + 1)] (st) hp := qv_iinc mdc_75 dX2_lettersAhead_28 rfl il_1 rfl rfl
theorem eX2_lettersAhead_31 {d : Nat} {a0 a1 : Value} {st : List Value} {hp : qzH} : qzV d 75 31 [a0, a1] (st) hp = qzV d 75 2 [a0, a1] (st) hp := qv_goto mdc_75 dX2_lettersAhead_31 rfl
theorem eX2_lettersAhead_34 {d : Nat} {a0 : Value} {x : Int32} {st : List Value} {hp : qzH} : qzV d 75 34 [a0, .int x] (st) hp = qzV d 75 35 [a0, .int x] (.int x :: st) hp := qv_iload (i := 1) mdc_75 dX2_lettersAhead_34 rfl rfl rfl
theorem eX2_lettersAhead_35 {d : Nat} {a0 a1 : Value} {v : Int32} {hp : qzH} : qzV d 75 35 [a0, a1] [.int v] hp = some (some (.int v), hp) := qv_iret mdc_75 dX2_lettersAhead_35 mdr_75 rfl
theorem dX2_faultAsBolt_0 : decode cX2_faultAsBolt 0 = .ok (.aload_n 0, 1) := by decide +kernel
theorem dX2_faultAsBolt_1 : decode cX2_faultAsBolt 1 = .ok (.invokevirtual 95, 3) := by decide +kernel
theorem dX2_faultAsBolt_4 : decode cX2_faultAsBolt 4 = .ok (.istore_n 1, 1) := by decide +kernel
theorem dX2_faultAsBolt_5 : decode cX2_faultAsBolt 5 = .ok (.iload_n 1, 1) := by decide +kernel
theorem dX2_faultAsBolt_6 : decode cX2_faultAsBolt 6 = .ok (.iconst 1, 1) := by decide +kernel
theorem dX2_faultAsBolt_7 : decode cX2_faultAsBolt 7 = .ok (.if_icmp .lt 25, 3) := by decide +kernel
theorem dX2_faultAsBolt_10 : decode cX2_faultAsBolt 10 = .ok (.iload_n 1, 1) := by decide +kernel
theorem dX2_faultAsBolt_11 : decode cX2_faultAsBolt 11 = .ok (.bipush 6, 2) := by decide +kernel
theorem dX2_faultAsBolt_13 : decode cX2_faultAsBolt 13 = .ok (.if_icmp .gt 19, 3) := by decide +kernel
theorem dX2_faultAsBolt_16 : decode cX2_faultAsBolt 16 = .ok (.aload_n 0, 1) := by decide +kernel
theorem dX2_faultAsBolt_17 : decode cX2_faultAsBolt 17 = .ok (.iload_n 1, 1) := by decide +kernel
theorem dX2_faultAsBolt_18 : decode cX2_faultAsBolt 18 = .ok (.invokevirtual 98, 3) := by decide +kernel
theorem dX2_faultAsBolt_21 : decode cX2_faultAsBolt 21 = .ok (.bipush 42, 2) := by decide +kernel
theorem dX2_faultAsBolt_23 : decode cX2_faultAsBolt 23 = .ok (.if_icmp .ne 9, 3) := by decide +kernel
theorem dX2_faultAsBolt_26 : decode cX2_faultAsBolt 26 = .ok (.aload_n 0, 1) := by decide +kernel
theorem dX2_faultAsBolt_27 : decode cX2_faultAsBolt 27 = .ok (.iload_n 1, 1) := by decide +kernel
theorem dX2_faultAsBolt_28 : decode cX2_faultAsBolt 28 = .ok (.invokevirtual 284, 3) := by decide +kernel
theorem dX2_faultAsBolt_31 : decode cX2_faultAsBolt 31 = .ok (.ireturn, 1) := by decide +kernel
theorem dX2_faultAsBolt_32 : decode cX2_faultAsBolt 32 = .ok (.iload_n 1, 1) := by decide +kernel
theorem dX2_faultAsBolt_33 : decode cX2_faultAsBolt 33 = .ok (.ifCond .eq 11, 3) := by decide +kernel
theorem dX2_faultAsBolt_36 : decode cX2_faultAsBolt 36 = .ok (.iload_n 1, 1) := by decide +kernel
theorem dX2_faultAsBolt_37 : decode cX2_faultAsBolt 37 = .ok (.aload_n 0, 1) := by decide +kernel
theorem dX2_faultAsBolt_38 : decode cX2_faultAsBolt 38 = .ok (.getfield 86, 3) := by decide +kernel
theorem dX2_faultAsBolt_41 : decode cX2_faultAsBolt 41 = .ok (.if_icmp .ge 7, 3) := by decide +kernel
theorem dX2_faultAsBolt_44 : decode cX2_faultAsBolt 44 = .ok (.iload_n 1, 1) := by decide +kernel
theorem dX2_faultAsBolt_45 : decode cX2_faultAsBolt 45 = .ok (.goto 5, 3) := by decide +kernel
theorem dX2_faultAsBolt_48 : decode cX2_faultAsBolt 48 = .ok (.bipush (-4), 2) := by decide +kernel
theorem dX2_faultAsBolt_50 : decode cX2_faultAsBolt 50 = .ok (.ireturn, 1) := by decide +kernel
theorem eX2_faultAsBolt_0 {d : Nat} {a1 : Value} {x : Nat} {st : List Value} {hp : qzH} : qzV d 76 0 [.ref x, a1] (st) hp = qzV d 76 1 [.ref x, a1] (.ref x :: st) hp := qv_aload (i := 0) mdc_76 dX2_faultAsBolt_0 rfl rfl rfl
theorem eX2_faultAsBolt_1 {d : Nat} {a0 a1 : Value} {b : Nat} {st : List Value} {hp : qzH} (h8 : st.length ≤ 8) (hb : qzArr 2 b hp.1 = true) : qzV (d + 1) 76 1 [a0, a1] (.ref b :: st) hp = (qzC d 75 (.ref b :: []) hp).bind (fun r => qzV (d + 1) 76 4 [a0, a1] (r.1.toList ++ st) r.2) := qv_callv (n := 0) mdc_76 dX2_faultAsBolt_1 mdo_76 (by decide) qfc_2_95 ⟨rfl, by decide, rfl⟩ rfl ⟨rfl, rfl, by simp only [List.length_cons]; omega⟩ h8 hb
theorem eX2_faultAsBolt_4 {d : Nat} {a0 a1 : Value} {x : Int32} {st : List Value} {hp : qzH} : qzV d 76 4 [a0, a1] (.int x :: st) hp = qzV d 76 5 [a0, .int x] (st) hp := qv_istore (i := 1) mdc_76 dX2_faultAsBolt_4 rfl (Nat.le_of_ble_eq_true rfl) rfl rfl
theorem eX2_faultAsBolt_5 {d : Nat} {a0 : Value} {x : Int32} {st : List Value} {hp : qzH} : qzV d 76 5 [a0, .int x] (st) hp = qzV d 76 6 [a0, .int x] (.int x :: st) hp := qv_iload (i := 1) mdc_76 dX2_faultAsBolt_5 rfl rfl rfl
theorem eX2_faultAsBolt_6 {d : Nat} {a0 a1 : Value} {st : List Value} {hp : qzH} : qzV d 76 6 [a0, a1] (st) hp = qzV d 76 7 [a0, a1] (.int 1 :: st) hp := qv_iconst mdc_76 dX2_faultAsBolt_6 il_1 rfl
theorem eX2_faultAsBolt_7 {d : Nat} {a0 a1 : Value} {x y : Int32} {st : List Value} {hp : qzH} : qzV d 76 7 [a0, a1] (.int y :: .int x :: st) hp = if x < y then qzV d 76 32 [a0, a1] (st) hp else qzV d 76 10 [a0, a1] (st) hp := qv_if2 mdc_76 dX2_faultAsBolt_7 rfl rfl rfl
theorem eX2_faultAsBolt_10 {d : Nat} {a0 : Value} {x : Int32} {st : List Value} {hp : qzH} : qzV d 76 10 [a0, .int x] (st) hp = qzV d 76 11 [a0, .int x] (.int x :: st) hp := qv_iload (i := 1) mdc_76 dX2_faultAsBolt_10 rfl rfl rfl
theorem eX2_faultAsBolt_11 {d : Nat} {a0 a1 : Value} {st : List Value} {hp : qzH} : qzV d 76 11 [a0, a1] (st) hp = qzV d 76 13 [a0, a1] (.int 6 :: st) hp := qv_bipush mdc_76 dX2_faultAsBolt_11 ib_6 rfl
theorem eX2_faultAsBolt_13 {d : Nat} {a0 a1 : Value} {x y : Int32} {st : List Value} {hp : qzH} : qzV d 76 13 [a0, a1] (.int y :: .int x :: st) hp = if y < x then qzV d 76 32 [a0, a1] (st) hp else qzV d 76 16 [a0, a1] (st) hp := qv_if2 mdc_76 dX2_faultAsBolt_13 rfl rfl rfl
theorem eX2_faultAsBolt_16 {d : Nat} {a1 : Value} {x : Nat} {st : List Value} {hp : qzH} : qzV d 76 16 [.ref x, a1] (st) hp = qzV d 76 17 [.ref x, a1] (.ref x :: st) hp := qv_aload (i := 0) mdc_76 dX2_faultAsBolt_16 rfl rfl rfl
theorem eX2_faultAsBolt_17 {d : Nat} {a0 : Value} {x : Int32} {st : List Value} {hp : qzH} : qzV d 76 17 [a0, .int x] (st) hp = qzV d 76 18 [a0, .int x] (.int x :: st) hp := qv_iload (i := 1) mdc_76 dX2_faultAsBolt_17 rfl rfl rfl
theorem eX2_faultAsBolt_18 {d : Nat} {a0 a1 : Value} {w0 : Value} {b : Nat} {st : List Value} {hp : qzH} (h8 : st.length ≤ 8) (hb : qzArr 2 b hp.1 = true) : qzV (d + 1) 76 18 [a0, a1] (w0 :: .ref b :: st) hp = (qzC d 72 (.ref b :: [w0]) hp).bind (fun r => qzV (d + 1) 76 21 [a0, a1] (r.1.toList ++ st) r.2) := qv_callv (n := 1) mdc_76 dX2_faultAsBolt_18 mdo_76 (by decide) qfc_2_98 ⟨rfl, by decide, rfl⟩ rfl ⟨rfl, rfl, by simp only [List.length_cons]; omega⟩ h8 hb
theorem eX2_faultAsBolt_21 {d : Nat} {a0 a1 : Value} {st : List Value} {hp : qzH} : qzV d 76 21 [a0, a1] (st) hp = qzV d 76 23 [a0, a1] (.int 42 :: st) hp := qv_bipush mdc_76 dX2_faultAsBolt_21 ib_42 rfl
theorem eX2_faultAsBolt_23 {d : Nat} {a0 a1 : Value} {x y : Int32} {st : List Value} {hp : qzH} : qzV d 76 23 [a0, a1] (.int y :: .int x :: st) hp = if ¬ x = y then qzV d 76 32 [a0, a1] (st) hp else qzV d 76 26 [a0, a1] (st) hp := qv_if2 mdc_76 dX2_faultAsBolt_23 rfl rfl rfl
theorem eX2_faultAsBolt_26 {d : Nat} {a1 : Value} {x : Nat} {st : List Value} {hp : qzH} : qzV d 76 26 [.ref x, a1] (st) hp = qzV d 76 27 [.ref x, a1] (.ref x :: st) hp := qv_aload (i := 0) mdc_76 dX2_faultAsBolt_26 rfl rfl rfl
theorem eX2_faultAsBolt_27 {d : Nat} {a0 : Value} {x : Int32} {st : List Value} {hp : qzH} : qzV d 76 27 [a0, .int x] (st) hp = qzV d 76 28 [a0, .int x] (.int x :: st) hp := qv_iload (i := 1) mdc_76 dX2_faultAsBolt_27 rfl rfl rfl
theorem eX2_faultAsBolt_28 {d : Nat} {a0 a1 : Value} {w0 : Value} {b : Nat} {st : List Value} {hp : qzH} (h8 : st.length ≤ 8) (hb : qzArr 2 b hp.1 = true) : qzV (d + 1) 76 28 [a0, a1] (w0 :: .ref b :: st) hp = (qzC d 77 (.ref b :: [w0]) hp).bind (fun r => qzV (d + 1) 76 31 [a0, a1] (r.1.toList ++ st) r.2) := qv_callv (n := 1) mdc_76 dX2_faultAsBolt_28 mdo_76 (by decide) qfc_2_284 ⟨rfl, by decide, rfl⟩ rfl ⟨rfl, rfl, by simp only [List.length_cons]; omega⟩ h8 hb
theorem eX2_faultAsBolt_31 {d : Nat} {a0 a1 : Value} {v : Int32} {hp : qzH} : qzV d 76 31 [a0, a1] [.int v] hp = some (some (.int v), hp) := qv_iret mdc_76 dX2_faultAsBolt_31 mdr_76 rfl
theorem eX2_faultAsBolt_32 {d : Nat} {a0 : Value} {x : Int32} {st : List Value} {hp : qzH} : qzV d 76 32 [a0, .int x] (st) hp = qzV d 76 33 [a0, .int x] (.int x :: st) hp := qv_iload (i := 1) mdc_76 dX2_faultAsBolt_32 rfl rfl rfl
theorem eX2_faultAsBolt_33 {d : Nat} {a0 a1 : Value} {x : Int32} {st : List Value} {hp : qzH} : qzV d 76 33 [a0, a1] (.int x :: st) hp = if x = 0 then qzV d 76 44 [a0, a1] (st) hp else qzV d 76 36 [a0, a1] (st) hp := qv_if1 mdc_76 dX2_faultAsBolt_33 rfl rfl rfl
theorem eX2_faultAsBolt_36 {d : Nat} {a0 : Value} {x : Int32} {st : List Value} {hp : qzH} : qzV d 76 36 [a0, .int x] (st) hp = qzV d 76 37 [a0, .int x] (.int x :: st) hp := qv_iload (i := 1) mdc_76 dX2_faultAsBolt_36 rfl rfl rfl
theorem eX2_faultAsBolt_37 {d : Nat} {a1 : Value} {x : Nat} {st : List Value} {hp : qzH} : qzV d 76 37 [.ref x, a1] (st) hp = qzV d 76 38 [.ref x, a1] (.ref x :: st) hp := qv_aload (i := 0) mdc_76 dX2_faultAsBolt_37 rfl rfl rfl
theorem eX2_faultAsBolt_38 {d : Nat} {a0 a1 : Value} {a : Nat} {st : List Value} {hp : qzH} (ha : qzArr 2 a hp.1 = true) : qzV d 76 38 [a0, a1] (.ref a :: st) hp = qzV d 76 41 [a0, a1] (.int (hp.2.2 a 7) :: st) hp := qv_getI mdc_76 dX2_faultAsBolt_38 mdo_76 qff_2_86 ⟨by decide, rfl⟩ rfl ha
theorem eX2_faultAsBolt_41 {d : Nat} {a0 a1 : Value} {x y : Int32} {st : List Value} {hp : qzH} : qzV d 76 41 [a0, a1] (.int y :: .int x :: st) hp = if y ≤ x then qzV d 76 48 [a0, a1] (st) hp else qzV d 76 44 [a0, a1] (st) hp := qv_if2 mdc_76 dX2_faultAsBolt_41 rfl rfl rfl
theorem eX2_faultAsBolt_44 {d : Nat} {a0 : Value} {x : Int32} {st : List Value} {hp : qzH} : qzV d 76 44 [a0, .int x] (st) hp = qzV d 76 45 [a0, .int x] (.int x :: st) hp := qv_iload (i := 1) mdc_76 dX2_faultAsBolt_44 rfl rfl rfl
theorem eX2_faultAsBolt_45 {d : Nat} {a0 a1 : Value} {st : List Value} {hp : qzH} : qzV d 76 45 [a0, a1] (st) hp = qzV d 76 50 [a0, a1] (st) hp := qv_goto mdc_76 dX2_faultAsBolt_45 rfl
theorem eX2_faultAsBolt_48 {d : Nat} {a0 a1 : Value} {st : List Value} {hp : qzH} : qzV d 76 48 [a0, a1] (st) hp = qzV d 76 50 [a0, a1] (.int (-4) :: st) hp := qv_bipush mdc_76 dX2_faultAsBolt_48 ib_m4 rfl
theorem eX2_faultAsBolt_50 {d : Nat} {a0 a1 : Value} {v : Int32} {hp : qzH} : qzV d 76 50 [a0, a1] [.int v] hp = some (some (.int v), hp) := qv_iret mdc_76 dX2_faultAsBolt_50 mdr_76 rfl
theorem dX2_faultBehindStar_0 : decode cX2_faultBehindStar 0 = .ok (.iload_n 1, 1) := by decide +kernel
theorem dX2_faultBehindStar_1 : decode cX2_faultBehindStar 1 = .ok (.iconst 1, 1) := by decide +kernel
theorem dX2_faultBehindStar_2 : decode cX2_faultBehindStar 2 = .ok (.iadd, 1) := by decide +kernel
theorem dX2_faultBehindStar_3 : decode cX2_faultBehindStar 3 = .ok (.istore_n 2, 1) := by decide +kernel
theorem dX2_faultBehindStar_4 : decode cX2_faultBehindStar 4 = .ok (.aload_n 0, 1) := by decide +kernel
theorem dX2_faultBehindStar_5 : decode cX2_faultBehindStar 5 = .ok (.iload_n 2, 1) := by decide +kernel
theorem dX2_faultBehindStar_6 : decode cX2_faultBehindStar 6 = .ok (.invokevirtual 287, 3) := by decide +kernel
theorem dX2_faultBehindStar_9 : decode cX2_faultBehindStar 9 = .ok (.istore_n 3, 1) := by decide +kernel
theorem dX2_faultBehindStar_10 : decode cX2_faultBehindStar 10 = .ok (.iload_n 3, 1) := by decide +kernel
theorem dX2_faultBehindStar_11 : decode cX2_faultBehindStar 11 = .ok (.ifCond .ne 5, 3) := by decide +kernel
theorem dX2_faultBehindStar_14 : decode cX2_faultBehindStar 14 = .ok (.iload_n 2, 1) := by decide +kernel
theorem dX2_faultBehindStar_15 : decode cX2_faultBehindStar 15 = .ok (.ireturn, 1) := by decide +kernel
theorem dX2_faultBehindStar_16 : decode cX2_faultBehindStar 16 = .ok (.iload_n 2, 1) := by decide +kernel
theorem dX2_faultBehindStar_17 : decode cX2_faultBehindStar 17 = .ok (.iload_n 3, 1) := by decide +kernel
theorem dX2_faultBehindStar_18 : decode cX2_faultBehindStar 18 = .ok (.iadd, 1) := by decide +kernel
theorem dX2_faultBehindStar_19 : decode cX2_faultBehindStar 19 = .ok (.istore_n 2, 1) := by decide +kernel
theorem dX2_faultBehindStar_20 : decode cX2_faultBehindStar 20 = .ok (.iload_n 2, 1) := by decide +kernel
theorem dX2_faultBehindStar_21 : decode cX2_faultBehindStar 21 = .ok (.aload_n 0, 1) := by decide +kernel
theorem dX2_faultBehindStar_22 : decode cX2_faultBehindStar 22 = .ok (.getfield 86, 3) := by decide +kernel
theorem dX2_faultBehindStar_25 : decode cX2_faultBehindStar 25 = .ok (.if_icmp .lt 6, 3) := by decide +kernel
theorem dX2_faultBehindStar_28 : decode cX2_faultBehindStar 28 = .ok (.bipush (-4), 2) := by decide +kernel
theorem dX2_faultBehindStar_30 : decode cX2_faultBehindStar 30 = .ok (.ireturn, 1) := by decide +kernel
theorem dX2_faultBehindStar_31 : decode cX2_faultBehindStar 31 = .ok (.aload_n 0, 1) := by decide +kernel
theorem dX2_faultBehindStar_32 : decode cX2_faultBehindStar 32 = .ok (.iload_n 2, 1) := by decide +kernel
theorem dX2_faultBehindStar_33 : decode cX2_faultBehindStar 33 = .ok (.invokevirtual 98, 3) := by decide +kernel
theorem dX2_faultBehindStar_36 : decode cX2_faultBehindStar 36 = .ok (.bipush 43, 2) := by decide +kernel
theorem dX2_faultBehindStar_38 : decode cX2_faultBehindStar 38 = .ok (.if_icmp .eq 5, 3) := by decide +kernel
theorem dX2_faultBehindStar_41 : decode cX2_faultBehindStar 41 = .ok (.iload_n 2, 1) := by decide +kernel
theorem dX2_faultBehindStar_42 : decode cX2_faultBehindStar 42 = .ok (.ireturn, 1) := by decide +kernel
theorem dX2_faultBehindStar_43 : decode cX2_faultBehindStar 43 = .ok (.iinc 2 1, 3) := by decide +kernel
theorem dX2_faultBehindStar_46 : decode cX2_faultBehindStar 46 = .ok (.aload_n 0, 1) := by decide +kernel
theorem dX2_faultBehindStar_47 : decode cX2_faultBehindStar 47 = .ok (.iload_n 2, 1) := by decide +kernel
theorem dX2_faultBehindStar_48 : decode cX2_faultBehindStar 48 = .ok (.invokevirtual 290, 3) := by decide +kernel
theorem dX2_faultBehindStar_51 : decode cX2_faultBehindStar 51 = .ok (.istore 4, 2) := by decide +kernel
theorem dX2_faultBehindStar_53 : decode cX2_faultBehindStar 53 = .ok (.iload 4, 2) := by decide +kernel
theorem dX2_faultBehindStar_55 : decode cX2_faultBehindStar 55 = .ok (.bipush (-4), 2) := by decide +kernel
theorem dX2_faultBehindStar_57 : decode cX2_faultBehindStar 57 = .ok (.if_icmp .eq 9, 3) := by decide +kernel
theorem dX2_faultBehindStar_60 : decode cX2_faultBehindStar 60 = .ok (.iload 4, 2) := by decide +kernel
theorem dX2_faultBehindStar_62 : decode cX2_faultBehindStar 62 = .ok (.iload_n 1, 1) := by decide +kernel
theorem dX2_faultBehindStar_63 : decode cX2_faultBehindStar 63 = .ok (.if_icmp .lt 5, 3) := by decide +kernel
theorem dX2_faultBehindStar_66 : decode cX2_faultBehindStar 66 = .ok (.iload_n 2, 1) := by decide +kernel
theorem dX2_faultBehindStar_67 : decode cX2_faultBehindStar 67 = .ok (.ireturn, 1) := by decide +kernel
theorem dX2_faultBehindStar_68 : decode cX2_faultBehindStar 68 = .ok (.iinc 2 1, 3) := by decide +kernel
theorem dX2_faultBehindStar_71 : decode cX2_faultBehindStar 71 = .ok (.iload_n 2, 1) := by decide +kernel
theorem dX2_faultBehindStar_72 : decode cX2_faultBehindStar 72 = .ok (.aload_n 0, 1) := by decide +kernel
theorem dX2_faultBehindStar_73 : decode cX2_faultBehindStar 73 = .ok (.getfield 86, 3) := by decide +kernel
theorem dX2_faultBehindStar_76 : decode cX2_faultBehindStar 76 = .ok (.if_icmp .ge 7, 3) := by decide +kernel
theorem dX2_faultBehindStar_79 : decode cX2_faultBehindStar 79 = .ok (.iload_n 2, 1) := by decide +kernel
theorem dX2_faultBehindStar_80 : decode cX2_faultBehindStar 80 = .ok (.goto 5, 3) := by decide +kernel
theorem dX2_faultBehindStar_83 : decode cX2_faultBehindStar 83 = .ok (.bipush (-4), 2) := by decide +kernel
theorem dX2_faultBehindStar_85 : decode cX2_faultBehindStar 85 = .ok (.ireturn, 1) := by decide +kernel
theorem eX2_faultBehindStar_0 {d : Nat} {a0 a2 a3 a4 : Value} {x : Int32} {st : List Value} {hp : qzH} : qzV d 77 0 [a0, .int x, a2, a3, a4] (st) hp = qzV d 77 1 [a0, .int x, a2, a3, a4] (.int x :: st) hp := qv_iload (i := 1) mdc_77 dX2_faultBehindStar_0 rfl rfl rfl
theorem eX2_faultBehindStar_1 {d : Nat} {a0 a1 a2 a3 a4 : Value} {st : List Value} {hp : qzH} : qzV d 77 1 [a0, a1, a2, a3, a4] (st) hp = qzV d 77 2 [a0, a1, a2, a3, a4] (.int 1 :: st) hp := qv_iconst mdc_77 dX2_faultBehindStar_1 il_1 rfl
theorem eX2_faultBehindStar_2 {d : Nat} {a0 a1 a2 a3 a4 : Value} {x y : Int32} {st : List Value} {hp : qzH} : qzV d 77 2 [a0, a1, a2, a3, a4] (.int y :: .int x :: st) hp = qzV d 77 3 [a0, a1, a2, a3, a4] (.int (x + y) :: st) hp := qv_bin (f := fun x y => x + y) mdc_77 dX2_faultBehindStar_2 rfl rfl
theorem eX2_faultBehindStar_3 {d : Nat} {a0 a1 a2 a3 a4 : Value} {x : Int32} {st : List Value} {hp : qzH} : qzV d 77 3 [a0, a1, a2, a3, a4] (.int x :: st) hp = qzV d 77 4 [a0, a1, .int x, a3, a4] (st) hp := qv_istore (i := 2) mdc_77 dX2_faultBehindStar_3 rfl (Nat.le_of_ble_eq_true rfl) rfl rfl
theorem eX2_faultBehindStar_4 {d : Nat} {a1 a2 a3 a4 : Value} {x : Nat} {st : List Value} {hp : qzH} : qzV d 77 4 [.ref x, a1, a2, a3, a4] (st) hp = qzV d 77 5 [.ref x, a1, a2, a3, a4] (.ref x :: st) hp := qv_aload (i := 0) mdc_77 dX2_faultBehindStar_4 rfl rfl rfl
theorem eX2_faultBehindStar_5 {d : Nat} {a0 a1 a3 a4 : Value} {x : Int32} {st : List Value} {hp : qzH} : qzV d 77 5 [a0, a1, .int x, a3, a4] (st) hp = qzV d 77 6 [a0, a1, .int x, a3, a4] (.int x :: st) hp := qv_iload (i := 2) mdc_77 dX2_faultBehindStar_5 rfl rfl rfl
theorem eX2_faultBehindStar_6 {d : Nat} {a0 a1 a2 a3 a4 : Value} {w0 : Value} {b : Nat} {st : List Value} {hp : qzH} (h8 : st.length ≤ 8) (hb : qzArr 2 b hp.1 = true) : qzV (d + 1) 77 6 [a0, a1, a2, a3, a4] (w0 :: .ref b :: st) hp = (qzC d 78 (.ref b :: [w0]) hp).bind (fun r => qzV (d + 1) 77 9 [a0, a1, a2, a3, a4] (r.1.toList ++ st) r.2) := qv_callv (n := 1) mdc_77 dX2_faultBehindStar_6 mdo_77 (by decide) qfc_2_287 ⟨rfl, by decide, rfl⟩ rfl ⟨rfl, rfl, by simp only [List.length_cons]; omega⟩ h8 hb
theorem eX2_faultBehindStar_9 {d : Nat} {a0 a1 a2 a3 a4 : Value} {x : Int32} {st : List Value} {hp : qzH} : qzV d 77 9 [a0, a1, a2, a3, a4] (.int x :: st) hp = qzV d 77 10 [a0, a1, a2, .int x, a4] (st) hp := qv_istore (i := 3) mdc_77 dX2_faultBehindStar_9 rfl (Nat.le_of_ble_eq_true rfl) rfl rfl
theorem eX2_faultBehindStar_10 {d : Nat} {a0 a1 a2 a4 : Value} {x : Int32} {st : List Value} {hp : qzH} : qzV d 77 10 [a0, a1, a2, .int x, a4] (st) hp = qzV d 77 11 [a0, a1, a2, .int x, a4] (.int x :: st) hp := qv_iload (i := 3) mdc_77 dX2_faultBehindStar_10 rfl rfl rfl
theorem eX2_faultBehindStar_11 {d : Nat} {a0 a1 a2 a3 a4 : Value} {x : Int32} {st : List Value} {hp : qzH} : qzV d 77 11 [a0, a1, a2, a3, a4] (.int x :: st) hp = if ¬ x = 0 then qzV d 77 16 [a0, a1, a2, a3, a4] (st) hp else qzV d 77 14 [a0, a1, a2, a3, a4] (st) hp := qv_if1 mdc_77 dX2_faultBehindStar_11 rfl rfl rfl
theorem eX2_faultBehindStar_14 {d : Nat} {a0 a1 a3 a4 : Value} {x : Int32} {st : List Value} {hp : qzH} : qzV d 77 14 [a0, a1, .int x, a3, a4] (st) hp = qzV d 77 15 [a0, a1, .int x, a3, a4] (.int x :: st) hp := qv_iload (i := 2) mdc_77 dX2_faultBehindStar_14 rfl rfl rfl
theorem eX2_faultBehindStar_15 {d : Nat} {a0 a1 a2 a3 a4 : Value} {v : Int32} {hp : qzH} : qzV d 77 15 [a0, a1, a2, a3, a4] [.int v] hp = some (some (.int v), hp) := qv_iret mdc_77 dX2_faultBehindStar_15 mdr_77 rfl
theorem eX2_faultBehindStar_16 {d : Nat} {a0 a1 a3 a4 : Value} {x : Int32} {st : List Value} {hp : qzH} : qzV d 77 16 [a0, a1, .int x, a3, a4] (st) hp = qzV d 77 17 [a0, a1, .int x, a3, a4] (.int x :: st) hp := qv_iload (i := 2) mdc_77 dX2_faultBehindStar_16 rfl rfl rfl
theorem eX2_faultBehindStar_17 {d : Nat} {a0 a1 a2 a4 : Value} {x : Int32} {st : List Value} {hp : qzH} : qzV d 77 17 [a0, a1, a2, .int x, a4] (st) hp = qzV d 77 18 [a0, a1, a2, .int x, a4] (.int x :: st) hp := qv_iload (i := 3) mdc_77 dX2_faultBehindStar_17 rfl rfl rfl
theorem eX2_faultBehindStar_18 {d : Nat} {a0 a1 a2 a3 a4 : Value} {x y : Int32} {st : List Value} {hp : qzH} : qzV d 77 18 [a0, a1, a2, a3, a4] (.int y :: .int x :: st) hp = qzV d 77 19 [a0, a1, a2, a3, a4] (.int (x + y) :: st) hp := qv_bin (f := fun x y => x + y) mdc_77 dX2_faultBehindStar_18 rfl rfl
theorem eX2_faultBehindStar_19 {d : Nat} {a0 a1 a2 a3 a4 : Value} {x : Int32} {st : List Value} {hp : qzH} : qzV d 77 19 [a0, a1, a2, a3, a4] (.int x :: st) hp = qzV d 77 20 [a0, a1, .int x, a3, a4] (st) hp := qv_istore (i := 2) mdc_77 dX2_faultBehindStar_19 rfl (Nat.le_of_ble_eq_true rfl) rfl rfl
theorem eX2_faultBehindStar_20 {d : Nat} {a0 a1 a3 a4 : Value} {x : Int32} {st : List Value} {hp : qzH} : qzV d 77 20 [a0, a1, .int x, a3, a4] (st) hp = qzV d 77 21 [a0, a1, .int x, a3, a4] (.int x :: st) hp := qv_iload (i := 2) mdc_77 dX2_faultBehindStar_20 rfl rfl rfl
theorem eX2_faultBehindStar_21 {d : Nat} {a1 a2 a3 a4 : Value} {x : Nat} {st : List Value} {hp : qzH} : qzV d 77 21 [.ref x, a1, a2, a3, a4] (st) hp = qzV d 77 22 [.ref x, a1, a2, a3, a4] (.ref x :: st) hp := qv_aload (i := 0) mdc_77 dX2_faultBehindStar_21 rfl rfl rfl
theorem eX2_faultBehindStar_22 {d : Nat} {a0 a1 a2 a3 a4 : Value} {a : Nat} {st : List Value} {hp : qzH} (ha : qzArr 2 a hp.1 = true) : qzV d 77 22 [a0, a1, a2, a3, a4] (.ref a :: st) hp = qzV d 77 25 [a0, a1, a2, a3, a4] (.int (hp.2.2 a 7) :: st) hp := qv_getI mdc_77 dX2_faultBehindStar_22 mdo_77 qff_2_86 ⟨by decide, rfl⟩ rfl ha
theorem eX2_faultBehindStar_25 {d : Nat} {a0 a1 a2 a3 a4 : Value} {x y : Int32} {st : List Value} {hp : qzH} : qzV d 77 25 [a0, a1, a2, a3, a4] (.int y :: .int x :: st) hp = if x < y then qzV d 77 31 [a0, a1, a2, a3, a4] (st) hp else qzV d 77 28 [a0, a1, a2, a3, a4] (st) hp := qv_if2 mdc_77 dX2_faultBehindStar_25 rfl rfl rfl
theorem eX2_faultBehindStar_28 {d : Nat} {a0 a1 a2 a3 a4 : Value} {st : List Value} {hp : qzH} : qzV d 77 28 [a0, a1, a2, a3, a4] (st) hp = qzV d 77 30 [a0, a1, a2, a3, a4] (.int (-4) :: st) hp := qv_bipush mdc_77 dX2_faultBehindStar_28 ib_m4 rfl
theorem eX2_faultBehindStar_30 {d : Nat} {a0 a1 a2 a3 a4 : Value} {v : Int32} {hp : qzH} : qzV d 77 30 [a0, a1, a2, a3, a4] [.int v] hp = some (some (.int v), hp) := qv_iret mdc_77 dX2_faultBehindStar_30 mdr_77 rfl
theorem eX2_faultBehindStar_31 {d : Nat} {a1 a2 a3 a4 : Value} {x : Nat} {st : List Value} {hp : qzH} : qzV d 77 31 [.ref x, a1, a2, a3, a4] (st) hp = qzV d 77 32 [.ref x, a1, a2, a3, a4] (.ref x :: st) hp := qv_aload (i := 0) mdc_77 dX2_faultBehindStar_31 rfl rfl rfl
theorem eX2_faultBehindStar_32 {d : Nat} {a0 a1 a3 a4 : Value} {x : Int32} {st : List Value} {hp : qzH} : qzV d 77 32 [a0, a1, .int x, a3, a4] (st) hp = qzV d 77 33 [a0, a1, .int x, a3, a4] (.int x :: st) hp := qv_iload (i := 2) mdc_77 dX2_faultBehindStar_32 rfl rfl rfl
theorem eX2_faultBehindStar_33 {d : Nat} {a0 a1 a2 a3 a4 : Value} {w0 : Value} {b : Nat} {st : List Value} {hp : qzH} (h8 : st.length ≤ 8) (hb : qzArr 2 b hp.1 = true) : qzV (d + 1) 77 33 [a0, a1, a2, a3, a4] (w0 :: .ref b :: st) hp = (qzC d 72 (.ref b :: [w0]) hp).bind (fun r => qzV (d + 1) 77 36 [a0, a1, a2, a3, a4] (r.1.toList ++ st) r.2) := qv_callv (n := 1) mdc_77 dX2_faultBehindStar_33 mdo_77 (by decide) qfc_2_98 ⟨rfl, by decide, rfl⟩ rfl ⟨rfl, rfl, by simp only [List.length_cons]; omega⟩ h8 hb
theorem eX2_faultBehindStar_36 {d : Nat} {a0 a1 a2 a3 a4 : Value} {st : List Value} {hp : qzH} : qzV d 77 36 [a0, a1, a2, a3, a4] (st) hp = qzV d 77 38 [a0, a1, a2, a3, a4] (.int 43 :: st) hp := qv_bipush mdc_77 dX2_faultBehindStar_36 ib_43 rfl
theorem eX2_faultBehindStar_38 {d : Nat} {a0 a1 a2 a3 a4 : Value} {x y : Int32} {st : List Value} {hp : qzH} : qzV d 77 38 [a0, a1, a2, a3, a4] (.int y :: .int x :: st) hp = if x = y then qzV d 77 43 [a0, a1, a2, a3, a4] (st) hp else qzV d 77 41 [a0, a1, a2, a3, a4] (st) hp := qv_if2 mdc_77 dX2_faultBehindStar_38 rfl rfl rfl
theorem eX2_faultBehindStar_41 {d : Nat} {a0 a1 a3 a4 : Value} {x : Int32} {st : List Value} {hp : qzH} : qzV d 77 41 [a0, a1, .int x, a3, a4] (st) hp = qzV d 77 42 [a0, a1, .int x, a3, a4] (.int x :: st) hp := qv_iload (i := 2) mdc_77 dX2_faultBehindStar_41 rfl rfl rfl
theorem eX2_faultBehindStar_42 {d : Nat} {a0 a1 a2 a3 a4 : Value} {v : Int32} {hp : qzH} : qzV d 77 42 [a0, a1, a2, a3, a4] [.int v] hp = some (some (.int v), hp) := qv_iret mdc_77 dX2_faultBehindStar_42 mdr_77 rfl
theorem eX2_faultBehindStar_43 {d : Nat} {a0 a1 a3 a4 : Value} {x : Int32} {st : List Value} {hp : qzH} : qzV d 77 43 [a0, a1, .int x, a3, a4] (st) hp = qzV d 77 46 [a0, a1, .int (x + 1), a3, a4] (st) hp := qv_iinc mdc_77 dX2_faultBehindStar_43 rfl il_1 rfl rfl
theorem eX2_faultBehindStar_46 {d : Nat} {a1 a2 a3 a4 : Value} {x : Nat} {st : List Value} {hp : qzH} : qzV d 77 46 [.ref x, a1, a2, a3, a4] (st) hp = qzV d 77 47 [.ref x, a1, a2, a3, a4] (.ref x :: st) hp := qv_aload (i := 0) mdc_77 dX2_faultBehindStar_46 rfl rfl rfl
theorem eX2_faultBehindStar_47 {d : Nat} {a0 a1 a3 a4 : Value} {x : Int32} {st : List Value} {hp : qzH} : qzV d 77 47 [a0, a1, .int x, a3, a4] (st) hp = qzV d 77 48 [a0, a1, .int x, a3, a4] (.int x :: st) hp := qv_iload (i := 2) mdc_77 dX2_faultBehindStar_47 rfl rfl rfl
theorem eX2_faultBehindStar_48 {d : Nat} {a0 a1 a2 a3 a4 : Value} {w0 : Value} {b : Nat} {st : List Value} {hp : qzH} (h8 : st.length ≤ 8) (hb : qzArr 2 b hp.1 = true) : qzV (d + 1) 77 48 [a0, a1, a2, a3, a4] (w0 :: .ref b :: st) hp = (qzC d 73 (.ref b :: [w0]) hp).bind (fun r => qzV (d + 1) 77 51 [a0, a1, a2, a3, a4] (r.1.toList ++ st) r.2) := qv_callv (n := 1) mdc_77 dX2_faultBehindStar_48 mdo_77 (by decide) qfc_2_290 ⟨rfl, by decide, rfl⟩ rfl ⟨rfl, rfl, by simp only [List.length_cons]; omega⟩ h8 hb
theorem eX2_faultBehindStar_51 {d : Nat} {a0 a1 a2 a3 a4 : Value} {x : Int32} {st : List Value} {hp : qzH} : qzV d 77 51 [a0, a1, a2, a3, a4] (.int x :: st) hp = qzV d 77 53 [a0, a1, a2, a3, .int x] (st) hp := qv_istore (i := 4) mdc_77 dX2_faultBehindStar_51 rfl (Nat.le_of_ble_eq_true rfl) rfl rfl
theorem eX2_faultBehindStar_53 {d : Nat} {a0 a1 a2 a3 : Value} {x : Int32} {st : List Value} {hp : qzH} : qzV d 77 53 [a0, a1, a2, a3, .int x] (st) hp = qzV d 77 55 [a0, a1, a2, a3, .int x] (.int x :: st) hp := qv_iload (i := 4) mdc_77 dX2_faultBehindStar_53 rfl rfl rfl
theorem eX2_faultBehindStar_55 {d : Nat} {a0 a1 a2 a3 a4 : Value} {st : List Value} {hp : qzH} : qzV d 77 55 [a0, a1, a2, a3, a4] (st) hp = qzV d 77 57 [a0, a1, a2, a3, a4] (.int (-4) :: st) hp := qv_bipush mdc_77 dX2_faultBehindStar_55 ib_m4 rfl
theorem eX2_faultBehindStar_57 {d : Nat} {a0 a1 a2 a3 a4 : Value} {x y : Int32} {st : List Value} {hp : qzH} : qzV d 77 57 [a0, a1, a2, a3, a4] (.int y :: .int x :: st) hp = if x = y then qzV d 77 66 [a0, a1, a2, a3, a4] (st) hp else qzV d 77 60 [a0, a1, a2, a3, a4] (st) hp := qv_if2 mdc_77 dX2_faultBehindStar_57 rfl rfl rfl
theorem eX2_faultBehindStar_60 {d : Nat} {a0 a1 a2 a3 : Value} {x : Int32} {st : List Value} {hp : qzH} : qzV d 77 60 [a0, a1, a2, a3, .int x] (st) hp = qzV d 77 62 [a0, a1, a2, a3, .int x] (.int x :: st) hp := qv_iload (i := 4) mdc_77 dX2_faultBehindStar_60 rfl rfl rfl
theorem eX2_faultBehindStar_62 {d : Nat} {a0 a2 a3 a4 : Value} {x : Int32} {st : List Value} {hp : qzH} : qzV d 77 62 [a0, .int x, a2, a3, a4] (st) hp = qzV d 77 63 [a0, .int x, a2, a3, a4] (.int x :: st) hp := qv_iload (i := 1) mdc_77 dX2_faultBehindStar_62 rfl rfl rfl
theorem eX2_faultBehindStar_63 {d : Nat} {a0 a1 a2 a3 a4 : Value} {x y : Int32} {st : List Value} {hp : qzH} : qzV d 77 63 [a0, a1, a2, a3, a4] (.int y :: .int x :: st) hp = if x < y then qzV d 77 68 [a0, a1, a2, a3, a4] (st) hp else qzV d 77 66 [a0, a1, a2, a3, a4] (st) hp := qv_if2 mdc_77 dX2_faultBehindStar_63 rfl rfl rfl
theorem eX2_faultBehindStar_66 {d : Nat} {a0 a1 a3 a4 : Value} {x : Int32} {st : List Value} {hp : qzH} : qzV d 77 66 [a0, a1, .int x, a3, a4] (st) hp = qzV d 77 67 [a0, a1, .int x, a3, a4] (.int x :: st) hp := qv_iload (i := 2) mdc_77 dX2_faultBehindStar_66 rfl rfl rfl
theorem eX2_faultBehindStar_67 {d : Nat} {a0 a1 a2 a3 a4 : Value} {v : Int32} {hp : qzH} : qzV d 77 67 [a0, a1, a2, a3, a4] [.int v] hp = some (some (.int v), hp) := qv_iret mdc_77 dX2_faultBehindStar_67 mdr_77 rfl
theorem eX2_faultBehindStar_68 {d : Nat} {a0 a1 a3 a4 : Value} {x : Int32} {st : List Value} {hp : qzH} : qzV d 77 68 [a0, a1, .int x, a3, a4] (st) hp = qzV d 77 71 [a0, a1, .int (x + 1), a3, a4] (st) hp := qv_iinc mdc_77 dX2_faultBehindStar_68 rfl il_1 rfl rfl
theorem eX2_faultBehindStar_71 {d : Nat} {a0 a1 a3 a4 : Value} {x : Int32} {st : List Value} {hp : qzH} : qzV d 77 71 [a0, a1, .int x, a3, a4] (st) hp = qzV d 77 72 [a0, a1, .int x, a3, a4] (.int x :: st) hp := qv_iload (i := 2) mdc_77 dX2_faultBehindStar_71 rfl rfl rfl
theorem eX2_faultBehindStar_72 {d : Nat} {a1 a2 a3 a4 : Value} {x : Nat} {st : List Value} {hp : qzH} : qzV d 77 72 [.ref x, a1, a2, a3, a4] (st) hp = qzV d 77 73 [.ref x, a1, a2, a3, a4] (.ref x :: st) hp := qv_aload (i := 0) mdc_77 dX2_faultBehindStar_72 rfl rfl rfl
theorem eX2_faultBehindStar_73 {d : Nat} {a0 a1 a2 a3 a4 : Value} {a : Nat} {st : List Value} {hp : qzH} (ha : qzArr 2 a hp.1 = true) : qzV d 77 73 [a0, a1, a2, a3, a4] (.ref a :: st) hp = qzV d 77 76 [a0, a1, a2, a3, a4] (.int (hp.2.2 a 7) :: st) hp := qv_getI mdc_77 dX2_faultBehindStar_73 mdo_77 qff_2_86 ⟨by decide, rfl⟩ rfl ha
theorem eX2_faultBehindStar_76 {d : Nat} {a0 a1 a2 a3 a4 : Value} {x y : Int32} {st : List Value} {hp : qzH} : qzV d 77 76 [a0, a1, a2, a3, a4] (.int y :: .int x :: st) hp = if y ≤ x then qzV d 77 83 [a0, a1, a2, a3, a4] (st) hp else qzV d 77 79 [a0, a1, a2, a3, a4] (st) hp := qv_if2 mdc_77 dX2_faultBehindStar_76 rfl rfl rfl
theorem eX2_faultBehindStar_79 {d : Nat} {a0 a1 a3 a4 : Value} {x : Int32} {st : List Value} {hp : qzH} : qzV d 77 79 [a0, a1, .int x, a3, a4] (st) hp = qzV d 77 80 [a0, a1, .int x, a3, a4] (.int x :: st) hp := qv_iload (i := 2) mdc_77 dX2_faultBehindStar_79 rfl rfl rfl
theorem eX2_faultBehindStar_80 {d : Nat} {a0 a1 a2 a3 a4 : Value} {st : List Value} {hp : qzH} : qzV d 77 80 [a0, a1, a2, a3, a4] (st) hp = qzV d 77 85 [a0, a1, a2, a3, a4] (st) hp := qv_goto mdc_77 dX2_faultBehindStar_80 rfl
theorem eX2_faultBehindStar_83 {d : Nat} {a0 a1 a2 a3 a4 : Value} {st : List Value} {hp : qzH} : qzV d 77 83 [a0, a1, a2, a3, a4] (st) hp = qzV d 77 85 [a0, a1, a2, a3, a4] (.int (-4) :: st) hp := qv_bipush mdc_77 dX2_faultBehindStar_83 ib_m4 rfl
theorem eX2_faultBehindStar_85 {d : Nat} {a0 a1 a2 a3 a4 : Value} {v : Int32} {hp : qzH} : qzV d 77 85 [a0, a1, a2, a3, a4] [.int v] hp = some (some (.int v), hp) := qv_iret mdc_77 dX2_faultBehindStar_85 mdr_77 rfl
theorem dX2_digitsOfNumber_0 : decode cX2_digitsOfNumber 0 = .ok (.aload_n 0, 1) := by decide +kernel
theorem dX2_digitsOfNumber_1 : decode cX2_digitsOfNumber 1 = .ok (.iload_n 1, 1) := by decide +kernel
theorem dX2_digitsOfNumber_2 : decode cX2_digitsOfNumber 2 = .ok (.invokevirtual 290, 3) := by decide +kernel
theorem dX2_digitsOfNumber_5 : decode cX2_digitsOfNumber 5 = .ok (.istore_n 2, 1) := by decide +kernel
theorem dX2_digitsOfNumber_6 : decode cX2_digitsOfNumber 6 = .ok (.iload_n 2, 1) := by decide +kernel
theorem dX2_digitsOfNumber_7 : decode cX2_digitsOfNumber 7 = .ok (.bipush (-4), 2) := by decide +kernel
theorem dX2_digitsOfNumber_9 : decode cX2_digitsOfNumber 9 = .ok (.if_icmp .eq 7, 3) := by decide +kernel
theorem dX2_digitsOfNumber_12 : decode cX2_digitsOfNumber 12 = .ok (.iload_n 2, 1) := by decide +kernel
theorem dX2_digitsOfNumber_13 : decode cX2_digitsOfNumber 13 = .ok (.ifCond .ne 5, 3) := by decide +kernel
theorem dX2_digitsOfNumber_16 : decode cX2_digitsOfNumber 16 = .ok (.iconst 0, 1) := by decide +kernel
theorem dX2_digitsOfNumber_17 : decode cX2_digitsOfNumber 17 = .ok (.ireturn, 1) := by decide +kernel
theorem dX2_digitsOfNumber_18 : decode cX2_digitsOfNumber 18 = .ok (.aload_n 0, 1) := by decide +kernel
theorem dX2_digitsOfNumber_19 : decode cX2_digitsOfNumber 19 = .ok (.iload_n 1, 1) := by decide +kernel
theorem dX2_digitsOfNumber_20 : decode cX2_digitsOfNumber 20 = .ok (.iconst 1, 1) := by decide +kernel
theorem dX2_digitsOfNumber_21 : decode cX2_digitsOfNumber 21 = .ok (.iadd, 1) := by decide +kernel
theorem dX2_digitsOfNumber_22 : decode cX2_digitsOfNumber 22 = .ok (.invokevirtual 290, 3) := by decide +kernel
theorem dX2_digitsOfNumber_25 : decode cX2_digitsOfNumber 25 = .ok (.istore_n 3, 1) := by decide +kernel
theorem dX2_digitsOfNumber_26 : decode cX2_digitsOfNumber 26 = .ok (.iload_n 3, 1) := by decide +kernel
theorem dX2_digitsOfNumber_27 : decode cX2_digitsOfNumber 27 = .ok (.bipush (-4), 2) := by decide +kernel
theorem dX2_digitsOfNumber_29 : decode cX2_digitsOfNumber 29 = .ok (.if_icmp .eq 18, 3) := by decide +kernel
theorem dX2_digitsOfNumber_32 : decode cX2_digitsOfNumber 32 = .ok (.bipush 10, 2) := by decide +kernel
theorem dX2_digitsOfNumber_34 : decode cX2_digitsOfNumber 34 = .ok (.iload_n 2, 1) := by decide +kernel
theorem dX2_digitsOfNumber_35 : decode cX2_digitsOfNumber 35 = .ok (.imul, 1) := by decide +kernel
theorem dX2_digitsOfNumber_36 : decode cX2_digitsOfNumber 36 = .ok (.iload_n 3, 1) := by decide +kernel
theorem dX2_digitsOfNumber_37 : decode cX2_digitsOfNumber 37 = .ok (.iadd, 1) := by decide +kernel
theorem dX2_digitsOfNumber_38 : decode cX2_digitsOfNumber 38 = .ok (.bipush 20, 2) := by decide +kernel
theorem dX2_digitsOfNumber_40 : decode cX2_digitsOfNumber 40 = .ok (.if_icmp .gt 7, 3) := by decide +kernel
theorem dX2_digitsOfNumber_43 : decode cX2_digitsOfNumber 43 = .ok (.iconst 2, 1) := by decide +kernel
theorem dX2_digitsOfNumber_44 : decode cX2_digitsOfNumber 44 = .ok (.goto 4, 3) := by decide +kernel
theorem dX2_digitsOfNumber_47 : decode cX2_digitsOfNumber 47 = .ok (.iconst 1, 1) := by decide +kernel
theorem dX2_digitsOfNumber_48 : decode cX2_digitsOfNumber 48 = .ok (.ireturn, 1) := by decide +kernel
theorem eX2_digitsOfNumber_0 {d : Nat} {a1 a2 a3 : Value} {x : Nat} {st : List Value} {hp : qzH} : qzV d 78 0 [.ref x, a1, a2, a3] (st) hp = qzV d 78 1 [.ref x, a1, a2, a3] (.ref x :: st) hp := qv_aload (i := 0) mdc_78 dX2_digitsOfNumber_0 rfl rfl rfl
theorem eX2_digitsOfNumber_1 {d : Nat} {a0 a2 a3 : Value} {x : Int32} {st : List Value} {hp : qzH} : qzV d 78 1 [a0, .int x, a2, a3] (st) hp = qzV d 78 2 [a0, .int x, a2, a3] (.int x :: st) hp := qv_iload (i := 1) mdc_78 dX2_digitsOfNumber_1 rfl rfl rfl
theorem eX2_digitsOfNumber_2 {d : Nat} {a0 a1 a2 a3 : Value} {w0 : Value} {b : Nat} {st : List Value} {hp : qzH} (h8 : st.length ≤ 8) (hb : qzArr 2 b hp.1 = true) : qzV (d + 1) 78 2 [a0, a1, a2, a3] (w0 :: .ref b :: st) hp = (qzC d 73 (.ref b :: [w0]) hp).bind (fun r => qzV (d + 1) 78 5 [a0, a1, a2, a3] (r.1.toList ++ st) r.2) := qv_callv (n := 1) mdc_78 dX2_digitsOfNumber_2 mdo_78 (by decide) qfc_2_290 ⟨rfl, by decide, rfl⟩ rfl ⟨rfl, rfl, by simp only [List.length_cons]; omega⟩ h8 hb
theorem eX2_digitsOfNumber_5 {d : Nat} {a0 a1 a2 a3 : Value} {x : Int32} {st : List Value} {hp : qzH} : qzV d 78 5 [a0, a1, a2, a3] (.int x :: st) hp = qzV d 78 6 [a0, a1, .int x, a3] (st) hp := qv_istore (i := 2) mdc_78 dX2_digitsOfNumber_5 rfl (Nat.le_of_ble_eq_true rfl) rfl rfl
theorem eX2_digitsOfNumber_6 {d : Nat} {a0 a1 a3 : Value} {x : Int32} {st : List Value} {hp : qzH} : qzV d 78 6 [a0, a1, .int x, a3] (st) hp = qzV d 78 7 [a0, a1, .int x, a3] (.int x :: st) hp := qv_iload (i := 2) mdc_78 dX2_digitsOfNumber_6 rfl rfl rfl
theorem eX2_digitsOfNumber_7 {d : Nat} {a0 a1 a2 a3 : Value} {st : List Value} {hp : qzH} : qzV d 78 7 [a0, a1, a2, a3] (st) hp = qzV d 78 9 [a0, a1, a2, a3] (.int (-4) :: st) hp := qv_bipush mdc_78 dX2_digitsOfNumber_7 ib_m4 rfl
theorem eX2_digitsOfNumber_9 {d : Nat} {a0 a1 a2 a3 : Value} {x y : Int32} {st : List Value} {hp : qzH} : qzV d 78 9 [a0, a1, a2, a3] (.int y :: .int x :: st) hp = if x = y then qzV d 78 16 [a0, a1, a2, a3] (st) hp else qzV d 78 12 [a0, a1, a2, a3] (st) hp := qv_if2 mdc_78 dX2_digitsOfNumber_9 rfl rfl rfl
theorem eX2_digitsOfNumber_12 {d : Nat} {a0 a1 a3 : Value} {x : Int32} {st : List Value} {hp : qzH} : qzV d 78 12 [a0, a1, .int x, a3] (st) hp = qzV d 78 13 [a0, a1, .int x, a3] (.int x :: st) hp := qv_iload (i := 2) mdc_78 dX2_digitsOfNumber_12 rfl rfl rfl
theorem eX2_digitsOfNumber_13 {d : Nat} {a0 a1 a2 a3 : Value} {x : Int32} {st : List Value} {hp : qzH} : qzV d 78 13 [a0, a1, a2, a3] (.int x :: st) hp = if ¬ x = 0 then qzV d 78 18 [a0, a1, a2, a3] (st) hp else qzV d 78 16 [a0, a1, a2, a3] (st) hp := qv_if1 mdc_78 dX2_digitsOfNumber_13 rfl rfl rfl
theorem eX2_digitsOfNumber_16 {d : Nat} {a0 a1 a2 a3 : Value} {st : List Value} {hp : qzH} : qzV d 78 16 [a0, a1, a2, a3] (st) hp = qzV d 78 17 [a0, a1, a2, a3] (.int 0 :: st) hp := qv_iconst mdc_78 dX2_digitsOfNumber_16 il_0 rfl
theorem eX2_digitsOfNumber_17 {d : Nat} {a0 a1 a2 a3 : Value} {v : Int32} {hp : qzH} : qzV d 78 17 [a0, a1, a2, a3] [.int v] hp = some (some (.int v), hp) := qv_iret mdc_78 dX2_digitsOfNumber_17 mdr_78 rfl
theorem eX2_digitsOfNumber_18 {d : Nat} {a1 a2 a3 : Value} {x : Nat} {st : List Value} {hp : qzH} : qzV d 78 18 [.ref x, a1, a2, a3] (st) hp = qzV d 78 19 [.ref x, a1, a2, a3] (.ref x :: st) hp := qv_aload (i := 0) mdc_78 dX2_digitsOfNumber_18 rfl rfl rfl
theorem eX2_digitsOfNumber_19 {d : Nat} {a0 a2 a3 : Value} {x : Int32} {st : List Value} {hp : qzH} : qzV d 78 19 [a0, .int x, a2, a3] (st) hp = qzV d 78 20 [a0, .int x, a2, a3] (.int x :: st) hp := qv_iload (i := 1) mdc_78 dX2_digitsOfNumber_19 rfl rfl rfl
theorem eX2_digitsOfNumber_20 {d : Nat} {a0 a1 a2 a3 : Value} {st : List Value} {hp : qzH} : qzV d 78 20 [a0, a1, a2, a3] (st) hp = qzV d 78 21 [a0, a1, a2, a3] (.int 1 :: st) hp := qv_iconst mdc_78 dX2_digitsOfNumber_20 il_1 rfl
theorem eX2_digitsOfNumber_21 {d : Nat} {a0 a1 a2 a3 : Value} {x y : Int32} {st : List Value} {hp : qzH} : qzV d 78 21 [a0, a1, a2, a3] (.int y :: .int x :: st) hp = qzV d 78 22 [a0, a1, a2, a3] (.int (x + y) :: st) hp := qv_bin (f := fun x y => x + y) mdc_78 dX2_digitsOfNumber_21 rfl rfl
theorem eX2_digitsOfNumber_22 {d : Nat} {a0 a1 a2 a3 : Value} {w0 : Value} {b : Nat} {st : List Value} {hp : qzH} (h8 : st.length ≤ 8) (hb : qzArr 2 b hp.1 = true) : qzV (d + 1) 78 22 [a0, a1, a2, a3] (w0 :: .ref b :: st) hp = (qzC d 73 (.ref b :: [w0]) hp).bind (fun r => qzV (d + 1) 78 25 [a0, a1, a2, a3] (r.1.toList ++ st) r.2) := qv_callv (n := 1) mdc_78 dX2_digitsOfNumber_22 mdo_78 (by decide) qfc_2_290 ⟨rfl, by decide, rfl⟩ rfl ⟨rfl, rfl, by simp only [List.length_cons]; omega⟩ h8 hb
theorem eX2_digitsOfNumber_25 {d : Nat} {a0 a1 a2 a3 : Value} {x : Int32} {st : List Value} {hp : qzH} : qzV d 78 25 [a0, a1, a2, a3] (.int x :: st) hp = qzV d 78 26 [a0, a1, a2, .int x] (st) hp := qv_istore (i := 3) mdc_78 dX2_digitsOfNumber_25 rfl (Nat.le_of_ble_eq_true rfl) rfl rfl
theorem eX2_digitsOfNumber_26 {d : Nat} {a0 a1 a2 : Value} {x : Int32} {st : List Value} {hp : qzH} : qzV d 78 26 [a0, a1, a2, .int x] (st) hp = qzV d 78 27 [a0, a1, a2, .int x] (.int x :: st) hp := qv_iload (i := 3) mdc_78 dX2_digitsOfNumber_26 rfl rfl rfl
theorem eX2_digitsOfNumber_27 {d : Nat} {a0 a1 a2 a3 : Value} {st : List Value} {hp : qzH} : qzV d 78 27 [a0, a1, a2, a3] (st) hp = qzV d 78 29 [a0, a1, a2, a3] (.int (-4) :: st) hp := qv_bipush mdc_78 dX2_digitsOfNumber_27 ib_m4 rfl
theorem eX2_digitsOfNumber_29 {d : Nat} {a0 a1 a2 a3 : Value} {x y : Int32} {st : List Value} {hp : qzH} : qzV d 78 29 [a0, a1, a2, a3] (.int y :: .int x :: st) hp = if x = y then qzV d 78 47 [a0, a1, a2, a3] (st) hp else qzV d 78 32 [a0, a1, a2, a3] (st) hp := qv_if2 mdc_78 dX2_digitsOfNumber_29 rfl rfl rfl
theorem eX2_digitsOfNumber_32 {d : Nat} {a0 a1 a2 a3 : Value} {st : List Value} {hp : qzH} : qzV d 78 32 [a0, a1, a2, a3] (st) hp = qzV d 78 34 [a0, a1, a2, a3] (.int 10 :: st) hp := qv_bipush mdc_78 dX2_digitsOfNumber_32 ib_10 rfl
theorem eX2_digitsOfNumber_34 {d : Nat} {a0 a1 a3 : Value} {x : Int32} {st : List Value} {hp : qzH} : qzV d 78 34 [a0, a1, .int x, a3] (st) hp = qzV d 78 35 [a0, a1, .int x, a3] (.int x :: st) hp := qv_iload (i := 2) mdc_78 dX2_digitsOfNumber_34 rfl rfl rfl
theorem eX2_digitsOfNumber_35 {d : Nat} {a0 a1 a2 a3 : Value} {x y : Int32} {st : List Value} {hp : qzH} : qzV d 78 35 [a0, a1, a2, a3] (.int y :: .int x :: st) hp = qzV d 78 36 [a0, a1, a2, a3] (.int (x * y) :: st) hp := qv_bin (f := fun x y => x * y) mdc_78 dX2_digitsOfNumber_35 rfl rfl
theorem eX2_digitsOfNumber_36 {d : Nat} {a0 a1 a2 : Value} {x : Int32} {st : List Value} {hp : qzH} : qzV d 78 36 [a0, a1, a2, .int x] (st) hp = qzV d 78 37 [a0, a1, a2, .int x] (.int x :: st) hp := qv_iload (i := 3) mdc_78 dX2_digitsOfNumber_36 rfl rfl rfl
theorem eX2_digitsOfNumber_37 {d : Nat} {a0 a1 a2 a3 : Value} {x y : Int32} {st : List Value} {hp : qzH} : qzV d 78 37 [a0, a1, a2, a3] (.int y :: .int x :: st) hp = qzV d 78 38 [a0, a1, a2, a3] (.int (x + y) :: st) hp := qv_bin (f := fun x y => x + y) mdc_78 dX2_digitsOfNumber_37 rfl rfl
theorem eX2_digitsOfNumber_38 {d : Nat} {a0 a1 a2 a3 : Value} {st : List Value} {hp : qzH} : qzV d 78 38 [a0, a1, a2, a3] (st) hp = qzV d 78 40 [a0, a1, a2, a3] (.int 20 :: st) hp := qv_bipush mdc_78 dX2_digitsOfNumber_38 ib_20 rfl
theorem eX2_digitsOfNumber_40 {d : Nat} {a0 a1 a2 a3 : Value} {x y : Int32} {st : List Value} {hp : qzH} : qzV d 78 40 [a0, a1, a2, a3] (.int y :: .int x :: st) hp = if y < x then qzV d 78 47 [a0, a1, a2, a3] (st) hp else qzV d 78 43 [a0, a1, a2, a3] (st) hp := qv_if2 mdc_78 dX2_digitsOfNumber_40 rfl rfl rfl
theorem eX2_digitsOfNumber_43 {d : Nat} {a0 a1 a2 a3 : Value} {st : List Value} {hp : qzH} : qzV d 78 43 [a0, a1, a2, a3] (st) hp = qzV d 78 44 [a0, a1, a2, a3] (.int 2 :: st) hp := qv_iconst mdc_78 dX2_digitsOfNumber_43 il_2 rfl
theorem eX2_digitsOfNumber_44 {d : Nat} {a0 a1 a2 a3 : Value} {st : List Value} {hp : qzH} : qzV d 78 44 [a0, a1, a2, a3] (st) hp = qzV d 78 48 [a0, a1, a2, a3] (st) hp := qv_goto mdc_78 dX2_digitsOfNumber_44 rfl
theorem eX2_digitsOfNumber_47 {d : Nat} {a0 a1 a2 a3 : Value} {st : List Value} {hp : qzH} : qzV d 78 47 [a0, a1, a2, a3] (st) hp = qzV d 78 48 [a0, a1, a2, a3] (.int 1 :: st) hp := qv_iconst mdc_78 dX2_digitsOfNumber_47 il_1 rfl
theorem eX2_digitsOfNumber_48 {d : Nat} {a0 a1 a2 a3 : Value} {v : Int32} {hp : qzH} : qzV d 78 48 [a0, a1, a2, a3] [.int v] hp = some (some (.int v), hp) := qv_iret mdc_78 dX2_digitsOfNumber_48 mdr_78 rfl
theorem dX2_faultAsCuts_0 : decode cX2_faultAsCuts 0 = .ok (.iconst 0, 1) := by decide +kernel
theorem dX2_faultAsCuts_1 : decode cX2_faultAsCuts 1 = .ok (.istore_n 1, 1) := by decide +kernel
theorem dX2_faultAsCuts_2 : decode cX2_faultAsCuts 2 = .ok (.iconst 0, 1) := by decide +kernel
theorem dX2_faultAsCuts_3 : decode cX2_faultAsCuts 3 = .ok (.istore_n 2, 1) := by decide +kernel
theorem dX2_faultAsCuts_4 : decode cX2_faultAsCuts 4 = .ok (.iload_n 2, 1) := by decide +kernel
theorem dX2_faultAsCuts_5 : decode cX2_faultAsCuts 5 = .ok (.aload_n 0, 1) := by decide +kernel
theorem dX2_faultAsCuts_6 : decode cX2_faultAsCuts 6 = .ok (.getfield 86, 3) := by decide +kernel
theorem dX2_faultAsCuts_9 : decode cX2_faultAsCuts 9 = .ok (.if_icmp .ge 84, 3) := by decide +kernel
theorem dX2_faultAsCuts_12 : decode cX2_faultAsCuts 12 = .ok (.iload_n 1, 1) := by decide +kernel
theorem dX2_faultAsCuts_13 : decode cX2_faultAsCuts 13 = .ok (.ifCond .eq 26, 3) := by decide +kernel
theorem dX2_faultAsCuts_16 : decode cX2_faultAsCuts 16 = .ok (.aload_n 0, 1) := by decide +kernel
theorem dX2_faultAsCuts_17 : decode cX2_faultAsCuts 17 = .ok (.iload_n 2, 1) := by decide +kernel
theorem dX2_faultAsCuts_18 : decode cX2_faultAsCuts 18 = .ok (.invokevirtual 290, 3) := by decide +kernel
theorem dX2_faultAsCuts_21 : decode cX2_faultAsCuts 21 = .ok (.istore_n 3, 1) := by decide +kernel
theorem dX2_faultAsCuts_22 : decode cX2_faultAsCuts 22 = .ok (.iload_n 3, 1) := by decide +kernel
theorem dX2_faultAsCuts_23 : decode cX2_faultAsCuts 23 = .ok (.iconst 1, 1) := by decide +kernel
theorem dX2_faultAsCuts_24 : decode cX2_faultAsCuts 24 = .ok (.if_icmp .lt 8, 3) := by decide +kernel
theorem dX2_faultAsCuts_27 : decode cX2_faultAsCuts 27 = .ok (.iload_n 3, 1) := by decide +kernel
theorem dX2_faultAsCuts_28 : decode cX2_faultAsCuts 28 = .ok (.iconst 5, 1) := by decide +kernel
theorem dX2_faultAsCuts_29 : decode cX2_faultAsCuts 29 = .ok (.if_icmp .le 5, 3) := by decide +kernel
theorem dX2_faultAsCuts_32 : decode cX2_faultAsCuts 32 = .ok (.iload_n 2, 1) := by decide +kernel
theorem dX2_faultAsCuts_33 : decode cX2_faultAsCuts 33 = .ok (.ireturn, 1) := by decide +kernel
theorem dX2_faultAsCuts_34 : decode cX2_faultAsCuts 34 = .ok (.iconst 0, 1) := by decide +kernel
theorem dX2_faultAsCuts_35 : decode cX2_faultAsCuts 35 = .ok (.istore_n 1, 1) := by decide +kernel
theorem dX2_faultAsCuts_36 : decode cX2_faultAsCuts 36 = .ok (.goto 51, 3) := by decide +kernel
theorem dX2_faultAsCuts_39 : decode cX2_faultAsCuts 39 = .ok (.aload_n 0, 1) := by decide +kernel
theorem dX2_faultAsCuts_40 : decode cX2_faultAsCuts 40 = .ok (.iload_n 2, 1) := by decide +kernel
theorem dX2_faultAsCuts_41 : decode cX2_faultAsCuts 41 = .ok (.invokevirtual 98, 3) := by decide +kernel
theorem dX2_faultAsCuts_44 : decode cX2_faultAsCuts 44 = .ok (.invokestatic 113, 3) := by decide +kernel
theorem dX2_faultAsCuts_47 : decode cX2_faultAsCuts 47 = .ok (.ifCond .eq 18, 3) := by decide +kernel
theorem dX2_faultAsCuts_50 : decode cX2_faultAsCuts 50 = .ok (.iload_n 2, 1) := by decide +kernel
theorem dX2_faultAsCuts_51 : decode cX2_faultAsCuts 51 = .ok (.iconst 1, 1) := by decide +kernel
theorem dX2_faultAsCuts_52 : decode cX2_faultAsCuts 52 = .ok (.iadd, 1) := by decide +kernel
theorem dX2_faultAsCuts_53 : decode cX2_faultAsCuts 53 = .ok (.bipush 60, 2) := by decide +kernel
theorem dX2_faultAsCuts_55 : decode cX2_faultAsCuts 55 = .ok (.if_icmp .lt 5, 3) := by decide +kernel
theorem dX2_faultAsCuts_58 : decode cX2_faultAsCuts 58 = .ok (.iload_n 2, 1) := by decide +kernel
theorem dX2_faultAsCuts_59 : decode cX2_faultAsCuts 59 = .ok (.ireturn, 1) := by decide +kernel
theorem dX2_faultAsCuts_60 : decode cX2_faultAsCuts 60 = .ok (.iconst 1, 1) := by decide +kernel
theorem dX2_faultAsCuts_61 : decode cX2_faultAsCuts 61 = .ok (.istore_n 1, 1) := by decide +kernel
theorem dX2_faultAsCuts_62 : decode cX2_faultAsCuts 62 = .ok (.goto 25, 3) := by decide +kernel
theorem dX2_faultAsCuts_65 : decode cX2_faultAsCuts 65 = .ok (.aload_n 0, 1) := by decide +kernel
theorem dX2_faultAsCuts_66 : decode cX2_faultAsCuts 66 = .ok (.iload_n 2, 1) := by decide +kernel
theorem dX2_faultAsCuts_67 : decode cX2_faultAsCuts 67 = .ok (.invokevirtual 98, 3) := by decide +kernel
theorem dX2_faultAsCuts_70 : decode cX2_faultAsCuts 70 = .ok (.bipush 98, 2) := by decide +kernel
theorem dX2_faultAsCuts_72 : decode cX2_faultAsCuts 72 = .ok (.if_icmp .eq 15, 3) := by decide +kernel
theorem dX2_faultAsCuts_75 : decode cX2_faultAsCuts 75 = .ok (.aload_n 0, 1) := by decide +kernel
theorem dX2_faultAsCuts_76 : decode cX2_faultAsCuts 76 = .ok (.iload_n 2, 1) := by decide +kernel
theorem dX2_faultAsCuts_77 : decode cX2_faultAsCuts 77 = .ok (.invokevirtual 98, 3) := by decide +kernel
theorem dX2_faultAsCuts_80 : decode cX2_faultAsCuts 80 = .ok (.bipush 103, 2) := by decide +kernel
theorem dX2_faultAsCuts_82 : decode cX2_faultAsCuts 82 = .ok (.if_icmp .eq 5, 3) := by decide +kernel
theorem dX2_faultAsCuts_85 : decode cX2_faultAsCuts 85 = .ok (.iload_n 2, 1) := by decide +kernel
theorem dX2_faultAsCuts_86 : decode cX2_faultAsCuts 86 = .ok (.ireturn, 1) := by decide +kernel
theorem dX2_faultAsCuts_87 : decode cX2_faultAsCuts 87 = .ok (.iinc 2 1, 3) := by decide +kernel
theorem dX2_faultAsCuts_90 : decode cX2_faultAsCuts 90 = .ok (.goto (-86), 3) := by decide +kernel
theorem dX2_faultAsCuts_93 : decode cX2_faultAsCuts 93 = .ok (.iload_n 1, 1) := by decide +kernel
theorem dX2_faultAsCuts_94 : decode cX2_faultAsCuts 94 = .ok (.ifCond .ne 10, 3) := by decide +kernel
theorem dX2_faultAsCuts_97 : decode cX2_faultAsCuts 97 = .ok (.aload_n 0, 1) := by decide +kernel
theorem dX2_faultAsCuts_98 : decode cX2_faultAsCuts 98 = .ok (.getfield 86, 3) := by decide +kernel
theorem dX2_faultAsCuts_101 : decode cX2_faultAsCuts 101 = .ok (.ifCond .ne 10, 3) := by decide +kernel
theorem dX2_faultAsCuts_104 : decode cX2_faultAsCuts 104 = .ok (.aload_n 0, 1) := by decide +kernel
theorem dX2_faultAsCuts_105 : decode cX2_faultAsCuts 105 = .ok (.getfield 86, 3) := by decide +kernel
theorem dX2_faultAsCuts_108 : decode cX2_faultAsCuts 108 = .ok (.goto 5, 3) := by decide +kernel
theorem dX2_faultAsCuts_111 : decode cX2_faultAsCuts 111 = .ok (.bipush (-4), 2) := by decide +kernel
theorem dX2_faultAsCuts_113 : decode cX2_faultAsCuts 113 = .ok (.ireturn, 1) := by decide +kernel
theorem eX2_faultAsCuts_0 {d : Nat} {a0 a1 a2 a3 : Value} {st : List Value} {hp : qzH} : qzV d 79 0 [a0, a1, a2, a3] (st) hp = qzV d 79 1 [a0, a1, a2, a3] (.int 0 :: st) hp := qv_iconst mdc_79 dX2_faultAsCuts_0 il_0 rfl
theorem eX2_faultAsCuts_1 {d : Nat} {a0 a1 a2 a3 : Value} {x : Int32} {st : List Value} {hp : qzH} : qzV d 79 1 [a0, a1, a2, a3] (.int x :: st) hp = qzV d 79 2 [a0, .int x, a2, a3] (st) hp := qv_istore (i := 1) mdc_79 dX2_faultAsCuts_1 rfl (Nat.le_of_ble_eq_true rfl) rfl rfl
theorem eX2_faultAsCuts_2 {d : Nat} {a0 a1 a2 a3 : Value} {st : List Value} {hp : qzH} : qzV d 79 2 [a0, a1, a2, a3] (st) hp = qzV d 79 3 [a0, a1, a2, a3] (.int 0 :: st) hp := qv_iconst mdc_79 dX2_faultAsCuts_2 il_0 rfl
theorem eX2_faultAsCuts_3 {d : Nat} {a0 a1 a2 a3 : Value} {x : Int32} {st : List Value} {hp : qzH} : qzV d 79 3 [a0, a1, a2, a3] (.int x :: st) hp = qzV d 79 4 [a0, a1, .int x, a3] (st) hp := qv_istore (i := 2) mdc_79 dX2_faultAsCuts_3 rfl (Nat.le_of_ble_eq_true rfl) rfl rfl
theorem eX2_faultAsCuts_4 {d : Nat} {a0 a1 a3 : Value} {x : Int32} {st : List Value} {hp : qzH} : qzV d 79 4 [a0, a1, .int x, a3] (st) hp = qzV d 79 5 [a0, a1, .int x, a3] (.int x :: st) hp := qv_iload (i := 2) mdc_79 dX2_faultAsCuts_4 rfl rfl rfl
theorem eX2_faultAsCuts_5 {d : Nat} {a1 a2 a3 : Value} {x : Nat} {st : List Value} {hp : qzH} : qzV d 79 5 [.ref x, a1, a2, a3] (st) hp = qzV d 79 6 [.ref x, a1, a2, a3] (.ref x :: st) hp := qv_aload (i := 0) mdc_79 dX2_faultAsCuts_5 rfl rfl rfl
theorem eX2_faultAsCuts_6 {d : Nat} {a0 a1 a2 a3 : Value} {a : Nat} {st : List Value} {hp : qzH} (ha : qzArr 2 a hp.1 = true) : qzV d 79 6 [a0, a1, a2, a3] (.ref a :: st) hp = qzV d 79 9 [a0, a1, a2, a3] (.int (hp.2.2 a 7) :: st) hp := qv_getI mdc_79 dX2_faultAsCuts_6 mdo_79 qff_2_86 ⟨by decide, rfl⟩ rfl ha
theorem eX2_faultAsCuts_9 {d : Nat} {a0 a1 a2 a3 : Value} {x y : Int32} {st : List Value} {hp : qzH} : qzV d 79 9 [a0, a1, a2, a3] (.int y :: .int x :: st) hp = if y ≤ x then qzV d 79 93 [a0, a1, a2, a3] (st) hp else qzV d 79 12 [a0, a1, a2, a3] (st) hp := qv_if2 mdc_79 dX2_faultAsCuts_9 rfl rfl rfl
theorem eX2_faultAsCuts_12 {d : Nat} {a0 a2 a3 : Value} {x : Int32} {st : List Value} {hp : qzH} : qzV d 79 12 [a0, .int x, a2, a3] (st) hp = qzV d 79 13 [a0, .int x, a2, a3] (.int x :: st) hp := qv_iload (i := 1) mdc_79 dX2_faultAsCuts_12 rfl rfl rfl
theorem eX2_faultAsCuts_13 {d : Nat} {a0 a1 a2 a3 : Value} {x : Int32} {st : List Value} {hp : qzH} : qzV d 79 13 [a0, a1, a2, a3] (.int x :: st) hp = if x = 0 then qzV d 79 39 [a0, a1, a2, a3] (st) hp else qzV d 79 16 [a0, a1, a2, a3] (st) hp := qv_if1 mdc_79 dX2_faultAsCuts_13 rfl rfl rfl
theorem eX2_faultAsCuts_16 {d : Nat} {a1 a2 a3 : Value} {x : Nat} {st : List Value} {hp : qzH} : qzV d 79 16 [.ref x, a1, a2, a3] (st) hp = qzV d 79 17 [.ref x, a1, a2, a3] (.ref x :: st) hp := qv_aload (i := 0) mdc_79 dX2_faultAsCuts_16 rfl rfl rfl
theorem eX2_faultAsCuts_17 {d : Nat} {a0 a1 a3 : Value} {x : Int32} {st : List Value} {hp : qzH} : qzV d 79 17 [a0, a1, .int x, a3] (st) hp = qzV d 79 18 [a0, a1, .int x, a3] (.int x :: st) hp := qv_iload (i := 2) mdc_79 dX2_faultAsCuts_17 rfl rfl rfl
theorem eX2_faultAsCuts_18 {d : Nat} {a0 a1 a2 a3 : Value} {w0 : Value} {b : Nat} {st : List Value} {hp : qzH} (h8 : st.length ≤ 8) (hb : qzArr 2 b hp.1 = true) : qzV (d + 1) 79 18 [a0, a1, a2, a3] (w0 :: .ref b :: st) hp = (qzC d 73 (.ref b :: [w0]) hp).bind (fun r => qzV (d + 1) 79 21 [a0, a1, a2, a3] (r.1.toList ++ st) r.2) := qv_callv (n := 1) mdc_79 dX2_faultAsCuts_18 mdo_79 (by decide) qfc_2_290 ⟨rfl, by decide, rfl⟩ rfl ⟨rfl, rfl, by simp only [List.length_cons]; omega⟩ h8 hb
theorem eX2_faultAsCuts_21 {d : Nat} {a0 a1 a2 a3 : Value} {x : Int32} {st : List Value} {hp : qzH} : qzV d 79 21 [a0, a1, a2, a3] (.int x :: st) hp = qzV d 79 22 [a0, a1, a2, .int x] (st) hp := qv_istore (i := 3) mdc_79 dX2_faultAsCuts_21 rfl (Nat.le_of_ble_eq_true rfl) rfl rfl
theorem eX2_faultAsCuts_22 {d : Nat} {a0 a1 a2 : Value} {x : Int32} {st : List Value} {hp : qzH} : qzV d 79 22 [a0, a1, a2, .int x] (st) hp = qzV d 79 23 [a0, a1, a2, .int x] (.int x :: st) hp := qv_iload (i := 3) mdc_79 dX2_faultAsCuts_22 rfl rfl rfl
theorem eX2_faultAsCuts_23 {d : Nat} {a0 a1 a2 a3 : Value} {st : List Value} {hp : qzH} : qzV d 79 23 [a0, a1, a2, a3] (st) hp = qzV d 79 24 [a0, a1, a2, a3] (.int 1 :: st) hp := qv_iconst mdc_79 dX2_faultAsCuts_23 il_1 rfl
theorem eX2_faultAsCuts_24 {d : Nat} {a0 a1 a2 a3 : Value} {x y : Int32} {st : List Value} {hp : qzH} : qzV d 79 24 [a0, a1, a2, a3] (.int y :: .int x :: st) hp = if x < y then qzV d 79 32 [a0, a1, a2, a3] (st) hp else qzV d 79 27 [a0, a1, a2, a3] (st) hp := qv_if2 mdc_79 dX2_faultAsCuts_24 rfl rfl rfl
theorem eX2_faultAsCuts_27 {d : Nat} {a0 a1 a2 : Value} {x : Int32} {st : List Value} {hp : qzH} : qzV d 79 27 [a0, a1, a2, .int x] (st) hp = qzV d 79 28 [a0, a1, a2, .int x] (.int x :: st) hp := qv_iload (i := 3) mdc_79 dX2_faultAsCuts_27 rfl rfl rfl
theorem eX2_faultAsCuts_28 {d : Nat} {a0 a1 a2 a3 : Value} {st : List Value} {hp : qzH} : qzV d 79 28 [a0, a1, a2, a3] (st) hp = qzV d 79 29 [a0, a1, a2, a3] (.int 5 :: st) hp := qv_iconst mdc_79 dX2_faultAsCuts_28 il_5 rfl
theorem eX2_faultAsCuts_29 {d : Nat} {a0 a1 a2 a3 : Value} {x y : Int32} {st : List Value} {hp : qzH} : qzV d 79 29 [a0, a1, a2, a3] (.int y :: .int x :: st) hp = if x ≤ y then qzV d 79 34 [a0, a1, a2, a3] (st) hp else qzV d 79 32 [a0, a1, a2, a3] (st) hp := qv_if2 mdc_79 dX2_faultAsCuts_29 rfl rfl rfl
theorem eX2_faultAsCuts_32 {d : Nat} {a0 a1 a3 : Value} {x : Int32} {st : List Value} {hp : qzH} : qzV d 79 32 [a0, a1, .int x, a3] (st) hp = qzV d 79 33 [a0, a1, .int x, a3] (.int x :: st) hp := qv_iload (i := 2) mdc_79 dX2_faultAsCuts_32 rfl rfl rfl
theorem eX2_faultAsCuts_33 {d : Nat} {a0 a1 a2 a3 : Value} {v : Int32} {hp : qzH} : qzV d 79 33 [a0, a1, a2, a3] [.int v] hp = some (some (.int v), hp) := qv_iret mdc_79 dX2_faultAsCuts_33 mdr_79 rfl
theorem eX2_faultAsCuts_34 {d : Nat} {a0 a1 a2 a3 : Value} {st : List Value} {hp : qzH} : qzV d 79 34 [a0, a1, a2, a3] (st) hp = qzV d 79 35 [a0, a1, a2, a3] (.int 0 :: st) hp := qv_iconst mdc_79 dX2_faultAsCuts_34 il_0 rfl
theorem eX2_faultAsCuts_35 {d : Nat} {a0 a1 a2 a3 : Value} {x : Int32} {st : List Value} {hp : qzH} : qzV d 79 35 [a0, a1, a2, a3] (.int x :: st) hp = qzV d 79 36 [a0, .int x, a2, a3] (st) hp := qv_istore (i := 1) mdc_79 dX2_faultAsCuts_35 rfl (Nat.le_of_ble_eq_true rfl) rfl rfl
theorem eX2_faultAsCuts_36 {d : Nat} {a0 a1 a2 a3 : Value} {st : List Value} {hp : qzH} : qzV d 79 36 [a0, a1, a2, a3] (st) hp = qzV d 79 87 [a0, a1, a2, a3] (st) hp := qv_goto mdc_79 dX2_faultAsCuts_36 rfl
theorem eX2_faultAsCuts_39 {d : Nat} {a1 a2 a3 : Value} {x : Nat} {st : List Value} {hp : qzH} : qzV d 79 39 [.ref x, a1, a2, a3] (st) hp = qzV d 79 40 [.ref x, a1, a2, a3] (.ref x :: st) hp := qv_aload (i := 0) mdc_79 dX2_faultAsCuts_39 rfl rfl rfl
theorem eX2_faultAsCuts_40 {d : Nat} {a0 a1 a3 : Value} {x : Int32} {st : List Value} {hp : qzH} : qzV d 79 40 [a0, a1, .int x, a3] (st) hp = qzV d 79 41 [a0, a1, .int x, a3] (.int x :: st) hp := qv_iload (i := 2) mdc_79 dX2_faultAsCuts_40 rfl rfl rfl
theorem eX2_faultAsCuts_41 {d : Nat} {a0 a1 a2 a3 : Value} {w0 : Value} {b : Nat} {st : List Value} {hp : qzH} (h8 : st.length ≤ 8) (hb : qzArr 2 b hp.1 = true) : qzV (d + 1) 79 41 [a0, a1, a2, a3] (w0 :: .ref b :: st) hp = (qzC d 72 (.ref b :: [w0]) hp).bind (fun r => qzV (d + 1) 79 44 [a0, a1, a2, a3] (r.1.toList ++ st) r.2) := qv_callv (n := 1) mdc_79 dX2_faultAsCuts_41 mdo_79 (by decide) qfc_2_98 ⟨rfl, by decide, rfl⟩ rfl ⟨rfl, rfl, by simp only [List.length_cons]; omega⟩ h8 hb
theorem eX2_faultAsCuts_44 {d : Nat} {a0 a1 a2 a3 : Value} {w0 : Value} {st : List Value} {hp : qzH} (h8 : st.length ≤ 8) : qzV (d + 1) 79 44 [a0, a1, a2, a3] (w0 :: st) hp = (qzC d 74 [w0] hp).bind (fun r => qzV (d + 1) 79 47 [a0, a1, a2, a3] (r.1.toList ++ st) r.2) := qv_calls (n := 1) mdc_79 dX2_faultAsCuts_44 mdo_79 (by decide) qfc_2_113 ⟨rfl, by decide, rfl⟩ rfl ⟨rfl, rfl, by simp only [List.length_cons]; omega⟩ h8
theorem eX2_faultAsCuts_47 {d : Nat} {a0 a1 a2 a3 : Value} {x : Int32} {st : List Value} {hp : qzH} : qzV d 79 47 [a0, a1, a2, a3] (.int x :: st) hp = if x = 0 then qzV d 79 65 [a0, a1, a2, a3] (st) hp else qzV d 79 50 [a0, a1, a2, a3] (st) hp := qv_if1 mdc_79 dX2_faultAsCuts_47 rfl rfl rfl
theorem eX2_faultAsCuts_50 {d : Nat} {a0 a1 a3 : Value} {x : Int32} {st : List Value} {hp : qzH} : qzV d 79 50 [a0, a1, .int x, a3] (st) hp = qzV d 79 51 [a0, a1, .int x, a3] (.int x :: st) hp := qv_iload (i := 2) mdc_79 dX2_faultAsCuts_50 rfl rfl rfl
theorem eX2_faultAsCuts_51 {d : Nat} {a0 a1 a2 a3 : Value} {st : List Value} {hp : qzH} : qzV d 79 51 [a0, a1, a2, a3] (st) hp = qzV d 79 52 [a0, a1, a2, a3] (.int 1 :: st) hp := qv_iconst mdc_79 dX2_faultAsCuts_51 il_1 rfl
theorem eX2_faultAsCuts_52 {d : Nat} {a0 a1 a2 a3 : Value} {x y : Int32} {st : List Value} {hp : qzH} : qzV d 79 52 [a0, a1, a2, a3] (.int y :: .int x :: st) hp = qzV d 79 53 [a0, a1, a2, a3] (.int (x + y) :: st) hp := qv_bin (f := fun x y => x + y) mdc_79 dX2_faultAsCuts_52 rfl rfl
theorem eX2_faultAsCuts_53 {d : Nat} {a0 a1 a2 a3 : Value} {st : List Value} {hp : qzH} : qzV d 79 53 [a0, a1, a2, a3] (st) hp = qzV d 79 55 [a0, a1, a2, a3] (.int 60 :: st) hp := qv_bipush mdc_79 dX2_faultAsCuts_53 ib_60 rfl
theorem eX2_faultAsCuts_55 {d : Nat} {a0 a1 a2 a3 : Value} {x y : Int32} {st : List Value} {hp : qzH} : qzV d 79 55 [a0, a1, a2, a3] (.int y :: .int x :: st) hp = if x < y then qzV d 79 60 [a0, a1, a2, a3] (st) hp else qzV d 79 58 [a0, a1, a2, a3] (st) hp := qv_if2 mdc_79 dX2_faultAsCuts_55 rfl rfl rfl
theorem eX2_faultAsCuts_58 {d : Nat} {a0 a1 a3 : Value} {x : Int32} {st : List Value} {hp : qzH} : qzV d 79 58 [a0, a1, .int x, a3] (st) hp = qzV d 79 59 [a0, a1, .int x, a3] (.int x :: st) hp := qv_iload (i := 2) mdc_79 dX2_faultAsCuts_58 rfl rfl rfl
theorem eX2_faultAsCuts_59 {d : Nat} {a0 a1 a2 a3 : Value} {v : Int32} {hp : qzH} : qzV d 79 59 [a0, a1, a2, a3] [.int v] hp = some (some (.int v), hp) := qv_iret mdc_79 dX2_faultAsCuts_59 mdr_79 rfl
theorem eX2_faultAsCuts_60 {d : Nat} {a0 a1 a2 a3 : Value} {st : List Value} {hp : qzH} : qzV d 79 60 [a0, a1, a2, a3] (st) hp = qzV d 79 61 [a0, a1, a2, a3] (.int 1 :: st) hp := qv_iconst mdc_79 dX2_faultAsCuts_60 il_1 rfl
theorem eX2_faultAsCuts_61 {d : Nat} {a0 a1 a2 a3 : Value} {x : Int32} {st : List Value} {hp : qzH} : qzV d 79 61 [a0, a1, a2, a3] (.int x :: st) hp = qzV d 79 62 [a0, .int x, a2, a3] (st) hp := qv_istore (i := 1) mdc_79 dX2_faultAsCuts_61 rfl (Nat.le_of_ble_eq_true rfl) rfl rfl
theorem eX2_faultAsCuts_62 {d : Nat} {a0 a1 a2 a3 : Value} {st : List Value} {hp : qzH} : qzV d 79 62 [a0, a1, a2, a3] (st) hp = qzV d 79 87 [a0, a1, a2, a3] (st) hp := qv_goto mdc_79 dX2_faultAsCuts_62 rfl
theorem eX2_faultAsCuts_65 {d : Nat} {a1 a2 a3 : Value} {x : Nat} {st : List Value} {hp : qzH} : qzV d 79 65 [.ref x, a1, a2, a3] (st) hp = qzV d 79 66 [.ref x, a1, a2, a3] (.ref x :: st) hp := qv_aload (i := 0) mdc_79 dX2_faultAsCuts_65 rfl rfl rfl
theorem eX2_faultAsCuts_66 {d : Nat} {a0 a1 a3 : Value} {x : Int32} {st : List Value} {hp : qzH} : qzV d 79 66 [a0, a1, .int x, a3] (st) hp = qzV d 79 67 [a0, a1, .int x, a3] (.int x :: st) hp := qv_iload (i := 2) mdc_79 dX2_faultAsCuts_66 rfl rfl rfl
theorem eX2_faultAsCuts_67 {d : Nat} {a0 a1 a2 a3 : Value} {w0 : Value} {b : Nat} {st : List Value} {hp : qzH} (h8 : st.length ≤ 8) (hb : qzArr 2 b hp.1 = true) : qzV (d + 1) 79 67 [a0, a1, a2, a3] (w0 :: .ref b :: st) hp = (qzC d 72 (.ref b :: [w0]) hp).bind (fun r => qzV (d + 1) 79 70 [a0, a1, a2, a3] (r.1.toList ++ st) r.2) := qv_callv (n := 1) mdc_79 dX2_faultAsCuts_67 mdo_79 (by decide) qfc_2_98 ⟨rfl, by decide, rfl⟩ rfl ⟨rfl, rfl, by simp only [List.length_cons]; omega⟩ h8 hb
theorem eX2_faultAsCuts_70 {d : Nat} {a0 a1 a2 a3 : Value} {st : List Value} {hp : qzH} : qzV d 79 70 [a0, a1, a2, a3] (st) hp = qzV d 79 72 [a0, a1, a2, a3] (.int 98 :: st) hp := qv_bipush mdc_79 dX2_faultAsCuts_70 ib_98 rfl
theorem eX2_faultAsCuts_72 {d : Nat} {a0 a1 a2 a3 : Value} {x y : Int32} {st : List Value} {hp : qzH} : qzV d 79 72 [a0, a1, a2, a3] (.int y :: .int x :: st) hp = if x = y then qzV d 79 87 [a0, a1, a2, a3] (st) hp else qzV d 79 75 [a0, a1, a2, a3] (st) hp := qv_if2 mdc_79 dX2_faultAsCuts_72 rfl rfl rfl
theorem eX2_faultAsCuts_75 {d : Nat} {a1 a2 a3 : Value} {x : Nat} {st : List Value} {hp : qzH} : qzV d 79 75 [.ref x, a1, a2, a3] (st) hp = qzV d 79 76 [.ref x, a1, a2, a3] (.ref x :: st) hp := qv_aload (i := 0) mdc_79 dX2_faultAsCuts_75 rfl rfl rfl
theorem eX2_faultAsCuts_76 {d : Nat} {a0 a1 a3 : Value} {x : Int32} {st : List Value} {hp : qzH} : qzV d 79 76 [a0, a1, .int x, a3] (st) hp = qzV d 79 77 [a0, a1, .int x, a3] (.int x :: st) hp := qv_iload (i := 2) mdc_79 dX2_faultAsCuts_76 rfl rfl rfl
theorem eX2_faultAsCuts_77 {d : Nat} {a0 a1 a2 a3 : Value} {w0 : Value} {b : Nat} {st : List Value} {hp : qzH} (h8 : st.length ≤ 8) (hb : qzArr 2 b hp.1 = true) : qzV (d + 1) 79 77 [a0, a1, a2, a3] (w0 :: .ref b :: st) hp = (qzC d 72 (.ref b :: [w0]) hp).bind (fun r => qzV (d + 1) 79 80 [a0, a1, a2, a3] (r.1.toList ++ st) r.2) := qv_callv (n := 1) mdc_79 dX2_faultAsCuts_77 mdo_79 (by decide) qfc_2_98 ⟨rfl, by decide, rfl⟩ rfl ⟨rfl, rfl, by simp only [List.length_cons]; omega⟩ h8 hb
theorem eX2_faultAsCuts_80 {d : Nat} {a0 a1 a2 a3 : Value} {st : List Value} {hp : qzH} : qzV d 79 80 [a0, a1, a2, a3] (st) hp = qzV d 79 82 [a0, a1, a2, a3] (.int 103 :: st) hp := qv_bipush mdc_79 dX2_faultAsCuts_80 ib_103 rfl
theorem eX2_faultAsCuts_82 {d : Nat} {a0 a1 a2 a3 : Value} {x y : Int32} {st : List Value} {hp : qzH} : qzV d 79 82 [a0, a1, a2, a3] (.int y :: .int x :: st) hp = if x = y then qzV d 79 87 [a0, a1, a2, a3] (st) hp else qzV d 79 85 [a0, a1, a2, a3] (st) hp := qv_if2 mdc_79 dX2_faultAsCuts_82 rfl rfl rfl
theorem eX2_faultAsCuts_85 {d : Nat} {a0 a1 a3 : Value} {x : Int32} {st : List Value} {hp : qzH} : qzV d 79 85 [a0, a1, .int x, a3] (st) hp = qzV d 79 86 [a0, a1, .int x, a3] (.int x :: st) hp := qv_iload (i := 2) mdc_79 dX2_faultAsCuts_85 rfl rfl rfl
theorem eX2_faultAsCuts_86 {d : Nat} {a0 a1 a2 a3 : Value} {v : Int32} {hp : qzH} : qzV d 79 86 [a0, a1, a2, a3] [.int v] hp = some (some (.int v), hp) := qv_iret mdc_79 dX2_faultAsCuts_86 mdr_79 rfl
theorem eX2_faultAsCuts_87 {d : Nat} {a0 a1 a3 : Value} {x : Int32} {st : List Value} {hp : qzH} : qzV d 79 87 [a0, a1, .int x, a3] (st) hp = qzV d 79 90 [a0, a1, .int (x + 1), a3] (st) hp := qv_iinc mdc_79 dX2_faultAsCuts_87 rfl il_1 rfl rfl
theorem eX2_faultAsCuts_90 {d : Nat} {a0 a1 a2 a3 : Value} {st : List Value} {hp : qzH} : qzV d 79 90 [a0, a1, a2, a3] (st) hp = qzV d 79 4 [a0, a1, a2, a3] (st) hp := qv_goto mdc_79 dX2_faultAsCuts_90 rfl
theorem eX2_faultAsCuts_93 {d : Nat} {a0 a2 a3 : Value} {x : Int32} {st : List Value} {hp : qzH} : qzV d 79 93 [a0, .int x, a2, a3] (st) hp = qzV d 79 94 [a0, .int x, a2, a3] (.int x :: st) hp := qv_iload (i := 1) mdc_79 dX2_faultAsCuts_93 rfl rfl rfl
theorem eX2_faultAsCuts_94 {d : Nat} {a0 a1 a2 a3 : Value} {x : Int32} {st : List Value} {hp : qzH} : qzV d 79 94 [a0, a1, a2, a3] (.int x :: st) hp = if ¬ x = 0 then qzV d 79 104 [a0, a1, a2, a3] (st) hp else qzV d 79 97 [a0, a1, a2, a3] (st) hp := qv_if1 mdc_79 dX2_faultAsCuts_94 rfl rfl rfl
theorem eX2_faultAsCuts_97 {d : Nat} {a1 a2 a3 : Value} {x : Nat} {st : List Value} {hp : qzH} : qzV d 79 97 [.ref x, a1, a2, a3] (st) hp = qzV d 79 98 [.ref x, a1, a2, a3] (.ref x :: st) hp := qv_aload (i := 0) mdc_79 dX2_faultAsCuts_97 rfl rfl rfl
theorem eX2_faultAsCuts_98 {d : Nat} {a0 a1 a2 a3 : Value} {a : Nat} {st : List Value} {hp : qzH} (ha : qzArr 2 a hp.1 = true) : qzV d 79 98 [a0, a1, a2, a3] (.ref a :: st) hp = qzV d 79 101 [a0, a1, a2, a3] (.int (hp.2.2 a 7) :: st) hp := qv_getI mdc_79 dX2_faultAsCuts_98 mdo_79 qff_2_86 ⟨by decide, rfl⟩ rfl ha
theorem eX2_faultAsCuts_101 {d : Nat} {a0 a1 a2 a3 : Value} {x : Int32} {st : List Value} {hp : qzH} : qzV d 79 101 [a0, a1, a2, a3] (.int x :: st) hp = if ¬ x = 0 then qzV d 79 111 [a0, a1, a2, a3] (st) hp else qzV d 79 104 [a0, a1, a2, a3] (st) hp := qv_if1 mdc_79 dX2_faultAsCuts_101 rfl rfl rfl
theorem eX2_faultAsCuts_104 {d : Nat} {a1 a2 a3 : Value} {x : Nat} {st : List Value} {hp : qzH} : qzV d 79 104 [.ref x, a1, a2, a3] (st) hp = qzV d 79 105 [.ref x, a1, a2, a3] (.ref x :: st) hp := qv_aload (i := 0) mdc_79 dX2_faultAsCuts_104 rfl rfl rfl
theorem eX2_faultAsCuts_105 {d : Nat} {a0 a1 a2 a3 : Value} {a : Nat} {st : List Value} {hp : qzH} (ha : qzArr 2 a hp.1 = true) : qzV d 79 105 [a0, a1, a2, a3] (.ref a :: st) hp = qzV d 79 108 [a0, a1, a2, a3] (.int (hp.2.2 a 7) :: st) hp := qv_getI mdc_79 dX2_faultAsCuts_105 mdo_79 qff_2_86 ⟨by decide, rfl⟩ rfl ha
theorem eX2_faultAsCuts_108 {d : Nat} {a0 a1 a2 a3 : Value} {st : List Value} {hp : qzH} : qzV d 79 108 [a0, a1, a2, a3] (st) hp = qzV d 79 113 [a0, a1, a2, a3] (st) hp := qv_goto mdc_79 dX2_faultAsCuts_108 rfl
theorem eX2_faultAsCuts_111 {d : Nat} {a0 a1 a2 a3 : Value} {st : List Value} {hp : qzH} : qzV d 79 111 [a0, a1, a2, a3] (st) hp = qzV d 79 113 [a0, a1, a2, a3] (.int (-4) :: st) hp := qv_bipush mdc_79 dX2_faultAsCuts_111 ib_m4 rfl
theorem eX2_faultAsCuts_113 {d : Nat} {a0 a1 a2 a3 : Value} {v : Int32} {hp : qzH} : qzV d 79 113 [a0, a1, a2, a3] [.int v] hp = some (some (.int v), hp) := qv_iret mdc_79 dX2_faultAsCuts_113 mdr_79 rfl
theorem dX2_layPattern_0 : decode cX2_layPattern 0 = .ok (.iload_n 1, 1) := by decide +kernel
theorem dX2_layPattern_1 : decode cX2_layPattern 1 = .ok (.iconst 1, 1) := by decide +kernel
theorem dX2_layPattern_2 : decode cX2_layPattern 2 = .ok (.iadd, 1) := by decide +kernel
theorem dX2_layPattern_3 : decode cX2_layPattern 3 = .ok (.istore_n 2, 1) := by decide +kernel
theorem dX2_layPattern_4 : decode cX2_layPattern 4 = .ok (.aload_n 0, 1) := by decide +kernel
theorem dX2_layPattern_5 : decode cX2_layPattern 5 = .ok (.iload_n 2, 1) := by decide +kernel
theorem dX2_layPattern_6 : decode cX2_layPattern 6 = .ok (.invokevirtual 287, 3) := by decide +kernel
theorem dX2_layPattern_9 : decode cX2_layPattern 9 = .ok (.istore_n 3, 1) := by decide +kernel
theorem dX2_layPattern_10 : decode cX2_layPattern 10 = .ok (.aload_n 0, 1) := by decide +kernel
theorem dX2_layPattern_11 : decode cX2_layPattern 11 = .ok (.iload_n 2, 1) := by decide +kernel
theorem dX2_layPattern_12 : decode cX2_layPattern 12 = .ok (.invokevirtual 290, 3) := by decide +kernel
theorem dX2_layPattern_15 : decode cX2_layPattern 15 = .ok (.istore 4, 2) := by decide +kernel
theorem dX2_layPattern_17 : decode cX2_layPattern 17 = .ok (.iload_n 3, 1) := by decide +kernel
theorem dX2_layPattern_18 : decode cX2_layPattern 18 = .ok (.iconst 2, 1) := by decide +kernel
theorem dX2_layPattern_19 : decode cX2_layPattern 19 = .ok (.if_icmp .ne 18, 3) := by decide +kernel
theorem dX2_layPattern_22 : decode cX2_layPattern 22 = .ok (.bipush 10, 2) := by decide +kernel
theorem dX2_layPattern_24 : decode cX2_layPattern 24 = .ok (.iload 4, 2) := by decide +kernel
theorem dX2_layPattern_26 : decode cX2_layPattern 26 = .ok (.imul, 1) := by decide +kernel
theorem dX2_layPattern_27 : decode cX2_layPattern 27 = .ok (.aload_n 0, 1) := by decide +kernel
theorem dX2_layPattern_28 : decode cX2_layPattern 28 = .ok (.iload_n 2, 1) := by decide +kernel
theorem dX2_layPattern_29 : decode cX2_layPattern 29 = .ok (.iconst 1, 1) := by decide +kernel
theorem dX2_layPattern_30 : decode cX2_layPattern 30 = .ok (.iadd, 1) := by decide +kernel
theorem dX2_layPattern_31 : decode cX2_layPattern 31 = .ok (.invokevirtual 290, 3) := by decide +kernel
theorem dX2_layPattern_34 : decode cX2_layPattern 34 = .ok (.iadd, 1) := by decide +kernel
theorem dX2_layPattern_35 : decode cX2_layPattern 35 = .ok (.istore 4, 2) := by decide +kernel
theorem dX2_layPattern_37 : decode cX2_layPattern 37 = .ok (.aload_n 0, 1) := by decide +kernel
theorem dX2_layPattern_38 : decode cX2_layPattern 38 = .ok (.iload_n 2, 1) := by decide +kernel
theorem dX2_layPattern_39 : decode cX2_layPattern 39 = .ok (.iload_n 3, 1) := by decide +kernel
theorem dX2_layPattern_40 : decode cX2_layPattern 40 = .ok (.iadd, 1) := by decide +kernel
theorem dX2_layPattern_41 : decode cX2_layPattern 41 = .ok (.invokevirtual 98, 3) := by decide +kernel
theorem dX2_layPattern_44 : decode cX2_layPattern 44 = .ok (.bipush 43, 2) := by decide +kernel
theorem dX2_layPattern_46 : decode cX2_layPattern 46 = .ok (.if_icmp .ne 15, 3) := by decide +kernel
theorem dX2_layPattern_49 : decode cX2_layPattern 49 = .ok (.aload_n 0, 1) := by decide +kernel
theorem dX2_layPattern_50 : decode cX2_layPattern 50 = .ok (.iload_n 2, 1) := by decide +kernel
theorem dX2_layPattern_51 : decode cX2_layPattern 51 = .ok (.iload_n 3, 1) := by decide +kernel
theorem dX2_layPattern_52 : decode cX2_layPattern 52 = .ok (.iadd, 1) := by decide +kernel
theorem dX2_layPattern_53 : decode cX2_layPattern 53 = .ok (.iconst 1, 1) := by decide +kernel
theorem dX2_layPattern_54 : decode cX2_layPattern 54 = .ok (.iadd, 1) := by decide +kernel
theorem dX2_layPattern_55 : decode cX2_layPattern 55 = .ok (.invokevirtual 290, 3) := by decide +kernel
theorem dX2_layPattern_58 : decode cX2_layPattern 58 = .ok (.goto 4, 3) := by decide +kernel
theorem dX2_layPattern_61 : decode cX2_layPattern 61 = .ok (.iconst 0, 1) := by decide +kernel
theorem dX2_layPattern_62 : decode cX2_layPattern 62 = .ok (.istore 5, 2) := by decide +kernel
theorem dX2_layPattern_64 : decode cX2_layPattern 64 = .ok (.aload_n 0, 1) := by decide +kernel
theorem dX2_layPattern_65 : decode cX2_layPattern 65 = .ok (.iload_n 1, 1) := by decide +kernel
theorem dX2_layPattern_66 : decode cX2_layPattern 66 = .ok (.iload 4, 2) := by decide +kernel
theorem dX2_layPattern_68 : decode cX2_layPattern 68 = .ok (.iload 5, 2) := by decide +kernel
theorem dX2_layPattern_70 : decode cX2_layPattern 70 = .ok (.invokevirtual 106, 3) := by decide +kernel
theorem dX2_layPattern_73 : decode cX2_layPattern 73 = .ok (.return_, 1) := by decide +kernel
theorem eX2_layPattern_0 {d : Nat} {a0 a2 a3 a4 a5 : Value} {x : Int32} {st : List Value} {hp : qzH} : qzV d 80 0 [a0, .int x, a2, a3, a4, a5] (st) hp = qzV d 80 1 [a0, .int x, a2, a3, a4, a5] (.int x :: st) hp := qv_iload (i := 1) mdc_80 dX2_layPattern_0 rfl rfl rfl
theorem eX2_layPattern_1 {d : Nat} {a0 a1 a2 a3 a4 a5 : Value} {st : List Value} {hp : qzH} : qzV d 80 1 [a0, a1, a2, a3, a4, a5] (st) hp = qzV d 80 2 [a0, a1, a2, a3, a4, a5] (.int 1 :: st) hp := qv_iconst mdc_80 dX2_layPattern_1 il_1 rfl
theorem eX2_layPattern_2 {d : Nat} {a0 a1 a2 a3 a4 a5 : Value} {x y : Int32} {st : List Value} {hp : qzH} : qzV d 80 2 [a0, a1, a2, a3, a4, a5] (.int y :: .int x :: st) hp = qzV d 80 3 [a0, a1, a2, a3, a4, a5] (.int (x + y) :: st) hp := qv_bin (f := fun x y => x + y) mdc_80 dX2_layPattern_2 rfl rfl
theorem eX2_layPattern_3 {d : Nat} {a0 a1 a2 a3 a4 a5 : Value} {x : Int32} {st : List Value} {hp : qzH} : qzV d 80 3 [a0, a1, a2, a3, a4, a5] (.int x :: st) hp = qzV d 80 4 [a0, a1, .int x, a3, a4, a5] (st) hp := qv_istore (i := 2) mdc_80 dX2_layPattern_3 rfl (Nat.le_of_ble_eq_true rfl) rfl rfl
theorem eX2_layPattern_4 {d : Nat} {a1 a2 a3 a4 a5 : Value} {x : Nat} {st : List Value} {hp : qzH} : qzV d 80 4 [.ref x, a1, a2, a3, a4, a5] (st) hp = qzV d 80 5 [.ref x, a1, a2, a3, a4, a5] (.ref x :: st) hp := qv_aload (i := 0) mdc_80 dX2_layPattern_4 rfl rfl rfl
theorem eX2_layPattern_5 {d : Nat} {a0 a1 a3 a4 a5 : Value} {x : Int32} {st : List Value} {hp : qzH} : qzV d 80 5 [a0, a1, .int x, a3, a4, a5] (st) hp = qzV d 80 6 [a0, a1, .int x, a3, a4, a5] (.int x :: st) hp := qv_iload (i := 2) mdc_80 dX2_layPattern_5 rfl rfl rfl
theorem eX2_layPattern_6 {d : Nat} {a0 a1 a2 a3 a4 a5 : Value} {w0 : Value} {b : Nat} {st : List Value} {hp : qzH} (h8 : st.length ≤ 8) (hb : qzArr 2 b hp.1 = true) : qzV (d + 1) 80 6 [a0, a1, a2, a3, a4, a5] (w0 :: .ref b :: st) hp = (qzC d 78 (.ref b :: [w0]) hp).bind (fun r => qzV (d + 1) 80 9 [a0, a1, a2, a3, a4, a5] (r.1.toList ++ st) r.2) := qv_callv (n := 1) mdc_80 dX2_layPattern_6 mdo_80 (by decide) qfc_2_287 ⟨rfl, by decide, rfl⟩ rfl ⟨rfl, rfl, by simp only [List.length_cons]; omega⟩ h8 hb
theorem eX2_layPattern_9 {d : Nat} {a0 a1 a2 a3 a4 a5 : Value} {x : Int32} {st : List Value} {hp : qzH} : qzV d 80 9 [a0, a1, a2, a3, a4, a5] (.int x :: st) hp = qzV d 80 10 [a0, a1, a2, .int x, a4, a5] (st) hp := qv_istore (i := 3) mdc_80 dX2_layPattern_9 rfl (Nat.le_of_ble_eq_true rfl) rfl rfl
theorem eX2_layPattern_10 {d : Nat} {a1 a2 a3 a4 a5 : Value} {x : Nat} {st : List Value} {hp : qzH} : qzV d 80 10 [.ref x, a1, a2, a3, a4, a5] (st) hp = qzV d 80 11 [.ref x, a1, a2, a3, a4, a5] (.ref x :: st) hp := qv_aload (i := 0) mdc_80 dX2_layPattern_10 rfl rfl rfl
theorem eX2_layPattern_11 {d : Nat} {a0 a1 a3 a4 a5 : Value} {x : Int32} {st : List Value} {hp : qzH} : qzV d 80 11 [a0, a1, .int x, a3, a4, a5] (st) hp = qzV d 80 12 [a0, a1, .int x, a3, a4, a5] (.int x :: st) hp := qv_iload (i := 2) mdc_80 dX2_layPattern_11 rfl rfl rfl
theorem eX2_layPattern_12 {d : Nat} {a0 a1 a2 a3 a4 a5 : Value} {w0 : Value} {b : Nat} {st : List Value} {hp : qzH} (h8 : st.length ≤ 8) (hb : qzArr 2 b hp.1 = true) : qzV (d + 1) 80 12 [a0, a1, a2, a3, a4, a5] (w0 :: .ref b :: st) hp = (qzC d 73 (.ref b :: [w0]) hp).bind (fun r => qzV (d + 1) 80 15 [a0, a1, a2, a3, a4, a5] (r.1.toList ++ st) r.2) := qv_callv (n := 1) mdc_80 dX2_layPattern_12 mdo_80 (by decide) qfc_2_290 ⟨rfl, by decide, rfl⟩ rfl ⟨rfl, rfl, by simp only [List.length_cons]; omega⟩ h8 hb
theorem eX2_layPattern_15 {d : Nat} {a0 a1 a2 a3 a4 a5 : Value} {x : Int32} {st : List Value} {hp : qzH} : qzV d 80 15 [a0, a1, a2, a3, a4, a5] (.int x :: st) hp = qzV d 80 17 [a0, a1, a2, a3, .int x, a5] (st) hp := qv_istore (i := 4) mdc_80 dX2_layPattern_15 rfl (Nat.le_of_ble_eq_true rfl) rfl rfl
theorem eX2_layPattern_17 {d : Nat} {a0 a1 a2 a4 a5 : Value} {x : Int32} {st : List Value} {hp : qzH} : qzV d 80 17 [a0, a1, a2, .int x, a4, a5] (st) hp = qzV d 80 18 [a0, a1, a2, .int x, a4, a5] (.int x :: st) hp := qv_iload (i := 3) mdc_80 dX2_layPattern_17 rfl rfl rfl
theorem eX2_layPattern_18 {d : Nat} {a0 a1 a2 a3 a4 a5 : Value} {st : List Value} {hp : qzH} : qzV d 80 18 [a0, a1, a2, a3, a4, a5] (st) hp = qzV d 80 19 [a0, a1, a2, a3, a4, a5] (.int 2 :: st) hp := qv_iconst mdc_80 dX2_layPattern_18 il_2 rfl
theorem eX2_layPattern_19 {d : Nat} {a0 a1 a2 a3 a4 a5 : Value} {x y : Int32} {st : List Value} {hp : qzH} : qzV d 80 19 [a0, a1, a2, a3, a4, a5] (.int y :: .int x :: st) hp = if ¬ x = y then qzV d 80 37 [a0, a1, a2, a3, a4, a5] (st) hp else qzV d 80 22 [a0, a1, a2, a3, a4, a5] (st) hp := qv_if2 mdc_80 dX2_layPattern_19 rfl rfl rfl
theorem eX2_layPattern_22 {d : Nat} {a0 a1 a2 a3 a4 a5 : Value} {st : List Value} {hp : qzH} : qzV d 80 22 [a0, a1, a2, a3, a4, a5] (st) hp = qzV d 80 24 [a0, a1, a2, a3, a4, a5] (.int 10 :: st) hp := qv_bipush mdc_80 dX2_layPattern_22 ib_10 rfl
theorem eX2_layPattern_24 {d : Nat} {a0 a1 a2 a3 a5 : Value} {x : Int32} {st : List Value} {hp : qzH} : qzV d 80 24 [a0, a1, a2, a3, .int x, a5] (st) hp = qzV d 80 26 [a0, a1, a2, a3, .int x, a5] (.int x :: st) hp := qv_iload (i := 4) mdc_80 dX2_layPattern_24 rfl rfl rfl
theorem eX2_layPattern_26 {d : Nat} {a0 a1 a2 a3 a4 a5 : Value} {x y : Int32} {st : List Value} {hp : qzH} : qzV d 80 26 [a0, a1, a2, a3, a4, a5] (.int y :: .int x :: st) hp = qzV d 80 27 [a0, a1, a2, a3, a4, a5] (.int (x * y) :: st) hp := qv_bin (f := fun x y => x * y) mdc_80 dX2_layPattern_26 rfl rfl
theorem eX2_layPattern_27 {d : Nat} {a1 a2 a3 a4 a5 : Value} {x : Nat} {st : List Value} {hp : qzH} : qzV d 80 27 [.ref x, a1, a2, a3, a4, a5] (st) hp = qzV d 80 28 [.ref x, a1, a2, a3, a4, a5] (.ref x :: st) hp := qv_aload (i := 0) mdc_80 dX2_layPattern_27 rfl rfl rfl
theorem eX2_layPattern_28 {d : Nat} {a0 a1 a3 a4 a5 : Value} {x : Int32} {st : List Value} {hp : qzH} : qzV d 80 28 [a0, a1, .int x, a3, a4, a5] (st) hp = qzV d 80 29 [a0, a1, .int x, a3, a4, a5] (.int x :: st) hp := qv_iload (i := 2) mdc_80 dX2_layPattern_28 rfl rfl rfl
theorem eX2_layPattern_29 {d : Nat} {a0 a1 a2 a3 a4 a5 : Value} {st : List Value} {hp : qzH} : qzV d 80 29 [a0, a1, a2, a3, a4, a5] (st) hp = qzV d 80 30 [a0, a1, a2, a3, a4, a5] (.int 1 :: st) hp := qv_iconst mdc_80 dX2_layPattern_29 il_1 rfl
theorem eX2_layPattern_30 {d : Nat} {a0 a1 a2 a3 a4 a5 : Value} {x y : Int32} {st : List Value} {hp : qzH} : qzV d 80 30 [a0, a1, a2, a3, a4, a5] (.int y :: .int x :: st) hp = qzV d 80 31 [a0, a1, a2, a3, a4, a5] (.int (x + y) :: st) hp := qv_bin (f := fun x y => x + y) mdc_80 dX2_layPattern_30 rfl rfl
theorem eX2_layPattern_31 {d : Nat} {a0 a1 a2 a3 a4 a5 : Value} {w0 : Value} {b : Nat} {st : List Value} {hp : qzH} (h8 : st.length ≤ 8) (hb : qzArr 2 b hp.1 = true) : qzV (d + 1) 80 31 [a0, a1, a2, a3, a4, a5] (w0 :: .ref b :: st) hp = (qzC d 73 (.ref b :: [w0]) hp).bind (fun r => qzV (d + 1) 80 34 [a0, a1, a2, a3, a4, a5] (r.1.toList ++ st) r.2) := qv_callv (n := 1) mdc_80 dX2_layPattern_31 mdo_80 (by decide) qfc_2_290 ⟨rfl, by decide, rfl⟩ rfl ⟨rfl, rfl, by simp only [List.length_cons]; omega⟩ h8 hb
theorem eX2_layPattern_34 {d : Nat} {a0 a1 a2 a3 a4 a5 : Value} {x y : Int32} {st : List Value} {hp : qzH} : qzV d 80 34 [a0, a1, a2, a3, a4, a5] (.int y :: .int x :: st) hp = qzV d 80 35 [a0, a1, a2, a3, a4, a5] (.int (x + y) :: st) hp := qv_bin (f := fun x y => x + y) mdc_80 dX2_layPattern_34 rfl rfl
theorem eX2_layPattern_35 {d : Nat} {a0 a1 a2 a3 a4 a5 : Value} {x : Int32} {st : List Value} {hp : qzH} : qzV d 80 35 [a0, a1, a2, a3, a4, a5] (.int x :: st) hp = qzV d 80 37 [a0, a1, a2, a3, .int x, a5] (st) hp := qv_istore (i := 4) mdc_80 dX2_layPattern_35 rfl (Nat.le_of_ble_eq_true rfl) rfl rfl
theorem eX2_layPattern_37 {d : Nat} {a1 a2 a3 a4 a5 : Value} {x : Nat} {st : List Value} {hp : qzH} : qzV d 80 37 [.ref x, a1, a2, a3, a4, a5] (st) hp = qzV d 80 38 [.ref x, a1, a2, a3, a4, a5] (.ref x :: st) hp := qv_aload (i := 0) mdc_80 dX2_layPattern_37 rfl rfl rfl
theorem eX2_layPattern_38 {d : Nat} {a0 a1 a3 a4 a5 : Value} {x : Int32} {st : List Value} {hp : qzH} : qzV d 80 38 [a0, a1, .int x, a3, a4, a5] (st) hp = qzV d 80 39 [a0, a1, .int x, a3, a4, a5] (.int x :: st) hp := qv_iload (i := 2) mdc_80 dX2_layPattern_38 rfl rfl rfl
theorem eX2_layPattern_39 {d : Nat} {a0 a1 a2 a4 a5 : Value} {x : Int32} {st : List Value} {hp : qzH} : qzV d 80 39 [a0, a1, a2, .int x, a4, a5] (st) hp = qzV d 80 40 [a0, a1, a2, .int x, a4, a5] (.int x :: st) hp := qv_iload (i := 3) mdc_80 dX2_layPattern_39 rfl rfl rfl
theorem eX2_layPattern_40 {d : Nat} {a0 a1 a2 a3 a4 a5 : Value} {x y : Int32} {st : List Value} {hp : qzH} : qzV d 80 40 [a0, a1, a2, a3, a4, a5] (.int y :: .int x :: st) hp = qzV d 80 41 [a0, a1, a2, a3, a4, a5] (.int (x + y) :: st) hp := qv_bin (f := fun x y => x + y) mdc_80 dX2_layPattern_40 rfl rfl
theorem eX2_layPattern_41 {d : Nat} {a0 a1 a2 a3 a4 a5 : Value} {w0 : Value} {b : Nat} {st : List Value} {hp : qzH} (h8 : st.length ≤ 8) (hb : qzArr 2 b hp.1 = true) : qzV (d + 1) 80 41 [a0, a1, a2, a3, a4, a5] (w0 :: .ref b :: st) hp = (qzC d 72 (.ref b :: [w0]) hp).bind (fun r => qzV (d + 1) 80 44 [a0, a1, a2, a3, a4, a5] (r.1.toList ++ st) r.2) := qv_callv (n := 1) mdc_80 dX2_layPattern_41 mdo_80 (by decide) qfc_2_98 ⟨rfl, by decide, rfl⟩ rfl ⟨rfl, rfl, by simp only [List.length_cons]; omega⟩ h8 hb
theorem eX2_layPattern_44 {d : Nat} {a0 a1 a2 a3 a4 a5 : Value} {st : List Value} {hp : qzH} : qzV d 80 44 [a0, a1, a2, a3, a4, a5] (st) hp = qzV d 80 46 [a0, a1, a2, a3, a4, a5] (.int 43 :: st) hp := qv_bipush mdc_80 dX2_layPattern_44 ib_43 rfl
theorem eX2_layPattern_46 {d : Nat} {a0 a1 a2 a3 a4 a5 : Value} {x y : Int32} {st : List Value} {hp : qzH} : qzV d 80 46 [a0, a1, a2, a3, a4, a5] (.int y :: .int x :: st) hp = if ¬ x = y then qzV d 80 61 [a0, a1, a2, a3, a4, a5] (st) hp else qzV d 80 49 [a0, a1, a2, a3, a4, a5] (st) hp := qv_if2 mdc_80 dX2_layPattern_46 rfl rfl rfl
theorem eX2_layPattern_49 {d : Nat} {a1 a2 a3 a4 a5 : Value} {x : Nat} {st : List Value} {hp : qzH} : qzV d 80 49 [.ref x, a1, a2, a3, a4, a5] (st) hp = qzV d 80 50 [.ref x, a1, a2, a3, a4, a5] (.ref x :: st) hp := qv_aload (i := 0) mdc_80 dX2_layPattern_49 rfl rfl rfl
theorem eX2_layPattern_50 {d : Nat} {a0 a1 a3 a4 a5 : Value} {x : Int32} {st : List Value} {hp : qzH} : qzV d 80 50 [a0, a1, .int x, a3, a4, a5] (st) hp = qzV d 80 51 [a0, a1, .int x, a3, a4, a5] (.int x :: st) hp := qv_iload (i := 2) mdc_80 dX2_layPattern_50 rfl rfl rfl
theorem eX2_layPattern_51 {d : Nat} {a0 a1 a2 a4 a5 : Value} {x : Int32} {st : List Value} {hp : qzH} : qzV d 80 51 [a0, a1, a2, .int x, a4, a5] (st) hp = qzV d 80 52 [a0, a1, a2, .int x, a4, a5] (.int x :: st) hp := qv_iload (i := 3) mdc_80 dX2_layPattern_51 rfl rfl rfl
theorem eX2_layPattern_52 {d : Nat} {a0 a1 a2 a3 a4 a5 : Value} {x y : Int32} {st : List Value} {hp : qzH} : qzV d 80 52 [a0, a1, a2, a3, a4, a5] (.int y :: .int x :: st) hp = qzV d 80 53 [a0, a1, a2, a3, a4, a5] (.int (x + y) :: st) hp := qv_bin (f := fun x y => x + y) mdc_80 dX2_layPattern_52 rfl rfl
theorem eX2_layPattern_53 {d : Nat} {a0 a1 a2 a3 a4 a5 : Value} {st : List Value} {hp : qzH} : qzV d 80 53 [a0, a1, a2, a3, a4, a5] (st) hp = qzV d 80 54 [a0, a1, a2, a3, a4, a5] (.int 1 :: st) hp := qv_iconst mdc_80 dX2_layPattern_53 il_1 rfl
theorem eX2_layPattern_54 {d : Nat} {a0 a1 a2 a3 a4 a5 : Value} {x y : Int32} {st : List Value} {hp : qzH} : qzV d 80 54 [a0, a1, a2, a3, a4, a5] (.int y :: .int x :: st) hp = qzV d 80 55 [a0, a1, a2, a3, a4, a5] (.int (x + y) :: st) hp := qv_bin (f := fun x y => x + y) mdc_80 dX2_layPattern_54 rfl rfl
theorem eX2_layPattern_55 {d : Nat} {a0 a1 a2 a3 a4 a5 : Value} {w0 : Value} {b : Nat} {st : List Value} {hp : qzH} (h8 : st.length ≤ 8) (hb : qzArr 2 b hp.1 = true) : qzV (d + 1) 80 55 [a0, a1, a2, a3, a4, a5] (w0 :: .ref b :: st) hp = (qzC d 73 (.ref b :: [w0]) hp).bind (fun r => qzV (d + 1) 80 58 [a0, a1, a2, a3, a4, a5] (r.1.toList ++ st) r.2) := qv_callv (n := 1) mdc_80 dX2_layPattern_55 mdo_80 (by decide) qfc_2_290 ⟨rfl, by decide, rfl⟩ rfl ⟨rfl, rfl, by simp only [List.length_cons]; omega⟩ h8 hb
theorem eX2_layPattern_58 {d : Nat} {a0 a1 a2 a3 a4 a5 : Value} {st : List Value} {hp : qzH} : qzV d 80 58 [a0, a1, a2, a3, a4, a5] (st) hp = qzV d 80 62 [a0, a1, a2, a3, a4, a5] (st) hp := qv_goto mdc_80 dX2_layPattern_58 rfl
theorem eX2_layPattern_61 {d : Nat} {a0 a1 a2 a3 a4 a5 : Value} {st : List Value} {hp : qzH} : qzV d 80 61 [a0, a1, a2, a3, a4, a5] (st) hp = qzV d 80 62 [a0, a1, a2, a3, a4, a5] (.int 0 :: st) hp := qv_iconst mdc_80 dX2_layPattern_61 il_0 rfl
theorem eX2_layPattern_62 {d : Nat} {a0 a1 a2 a3 a4 a5 : Value} {x : Int32} {st : List Value} {hp : qzH} : qzV d 80 62 [a0, a1, a2, a3, a4, a5] (.int x :: st) hp = qzV d 80 64 [a0, a1, a2, a3, a4, .int x] (st) hp := qv_istore (i := 5) mdc_80 dX2_layPattern_62 rfl (Nat.le_of_ble_eq_true rfl) rfl rfl
theorem eX2_layPattern_64 {d : Nat} {a1 a2 a3 a4 a5 : Value} {x : Nat} {st : List Value} {hp : qzH} : qzV d 80 64 [.ref x, a1, a2, a3, a4, a5] (st) hp = qzV d 80 65 [.ref x, a1, a2, a3, a4, a5] (.ref x :: st) hp := qv_aload (i := 0) mdc_80 dX2_layPattern_64 rfl rfl rfl
theorem eX2_layPattern_65 {d : Nat} {a0 a2 a3 a4 a5 : Value} {x : Int32} {st : List Value} {hp : qzH} : qzV d 80 65 [a0, .int x, a2, a3, a4, a5] (st) hp = qzV d 80 66 [a0, .int x, a2, a3, a4, a5] (.int x :: st) hp := qv_iload (i := 1) mdc_80 dX2_layPattern_65 rfl rfl rfl
theorem eX2_layPattern_66 {d : Nat} {a0 a1 a2 a3 a5 : Value} {x : Int32} {st : List Value} {hp : qzH} : qzV d 80 66 [a0, a1, a2, a3, .int x, a5] (st) hp = qzV d 80 68 [a0, a1, a2, a3, .int x, a5] (.int x :: st) hp := qv_iload (i := 4) mdc_80 dX2_layPattern_66 rfl rfl rfl
theorem eX2_layPattern_68 {d : Nat} {a0 a1 a2 a3 a4 : Value} {x : Int32} {st : List Value} {hp : qzH} : qzV d 80 68 [a0, a1, a2, a3, a4, .int x] (st) hp = qzV d 80 70 [a0, a1, a2, a3, a4, .int x] (.int x :: st) hp := qv_iload (i := 5) mdc_80 dX2_layPattern_68 rfl rfl rfl
theorem eX2_layPattern_70 {d : Nat} {a0 a1 a2 a3 a4 a5 : Value} {w0 w1 w2 : Value} {b : Nat} {st : List Value} {hp : qzH} (h8 : st.length ≤ 8) (hb : qzArr 2 b hp.1 = true) : qzV (d + 1) 80 70 [a0, a1, a2, a3, a4, a5] (w2 :: w1 :: w0 :: .ref b :: st) hp = (qzC d 81 (.ref b :: [w0, w1, w2]) hp).bind (fun r => qzV (d + 1) 80 73 [a0, a1, a2, a3, a4, a5] (r.1.toList ++ st) r.2) := qv_callv (n := 3) mdc_80 dX2_layPattern_70 mdo_80 (by decide) qfc_2_106 ⟨rfl, by decide, rfl⟩ rfl ⟨rfl, rfl, by simp only [List.length_cons]; omega⟩ h8 hb
theorem eX2_layPattern_73 {d : Nat} {a0 a1 a2 a3 a4 a5 : Value} {hp : qzH} : qzV d 80 73 [a0, a1, a2, a3, a4, a5] [] hp = some (none, hp) := qv_vret mdc_80 dX2_layPattern_73 mdr_80
theorem dX2_layLetters_0 : decode cX2_layLetters 0 = .ok (.iload_n 1, 1) := by decide +kernel
theorem dX2_layLetters_1 : decode cX2_layLetters 1 = .ok (.ifCond .gt 4, 3) := by decide +kernel
theorem dX2_layLetters_4 : decode cX2_layLetters 4 = .ok (.return_, 1) := by decide +kernel
theorem dX2_layLetters_5 : decode cX2_layLetters 5 = .ok (.aload_n 0, 1) := by decide +kernel
theorem dX2_layLetters_6 : decode cX2_layLetters 6 = .ok (.getfield 10, 3) := by decide +kernel
theorem dX2_layLetters_9 : decode cX2_layLetters 9 = .ok (.iload_n 2, 1) := by decide +kernel
theorem dX2_layLetters_10 : decode cX2_layLetters 10 = .ok (.putfield 60, 3) := by decide +kernel
theorem dX2_layLetters_13 : decode cX2_layLetters 13 = .ok (.iconst 0, 1) := by decide +kernel
theorem dX2_layLetters_14 : decode cX2_layLetters 14 = .ok (.istore 4, 2) := by decide +kernel
theorem dX2_layLetters_16 : decode cX2_layLetters 16 = .ok (.iload 4, 2) := by decide +kernel
theorem dX2_layLetters_18 : decode cX2_layLetters 18 = .ok (.iload_n 2, 1) := by decide +kernel
theorem dX2_layLetters_19 : decode cX2_layLetters 19 = .ok (.if_icmp .ge 41, 3) := by decide +kernel
theorem dX2_layLetters_22 : decode cX2_layLetters 22 = .ok (.iload 4, 2) := by decide +kernel
theorem dX2_layLetters_24 : decode cX2_layLetters 24 = .ok (.bipush 20, 2) := by decide +kernel
theorem dX2_layLetters_26 : decode cX2_layLetters 26 = .ok (.if_icmp .ge 34, 3) := by decide +kernel
theorem dX2_layLetters_29 : decode cX2_layLetters 29 = .ok (.aload_n 0, 1) := by decide +kernel
theorem dX2_layLetters_30 : decode cX2_layLetters 30 = .ok (.getfield 10, 3) := by decide +kernel
theorem dX2_layLetters_33 : decode cX2_layLetters 33 = .ok (.getfield 117, 3) := by decide +kernel
theorem dX2_layLetters_36 : decode cX2_layLetters 36 = .ok (.iload 4, 2) := by decide +kernel
theorem dX2_layLetters_38 : decode cX2_layLetters 38 = .ok (.aload_n 0, 1) := by decide +kernel
theorem dX2_layLetters_39 : decode cX2_layLetters 39 = .ok (.iload 4, 2) := by decide +kernel
theorem dX2_layLetters_41 : decode cX2_layLetters 41 = .ok (.iload_n 3, 1) := by decide +kernel
theorem dX2_layLetters_42 : decode cX2_layLetters 42 = .ok (.iadd, 1) := by decide +kernel
theorem dX2_layLetters_43 : decode cX2_layLetters 43 = .ok (.iload_n 1, 1) := by decide +kernel
theorem dX2_layLetters_44 : decode cX2_layLetters 44 = .ok (.irem, 1) := by decide +kernel
theorem dX2_layLetters_45 : decode cX2_layLetters 45 = .ok (.invokevirtual 98, 3) := by decide +kernel
theorem dX2_layLetters_48 : decode cX2_layLetters 48 = .ok (.bipush 97, 2) := by decide +kernel
theorem dX2_layLetters_50 : decode cX2_layLetters 50 = .ok (.isub, 1) := by decide +kernel
theorem dX2_layLetters_51 : decode cX2_layLetters 51 = .ok (.invokestatic 82, 3) := by decide +kernel
theorem dX2_layLetters_54 : decode cX2_layLetters 54 = .ok (.iinc 4 1, 3) := by decide +kernel
theorem dX2_layLetters_57 : decode cX2_layLetters 57 = .ok (.goto (-41), 3) := by decide +kernel
theorem dX2_layLetters_60 : decode cX2_layLetters 60 = .ok (.return_, 1) := by decide +kernel
theorem eX2_layLetters_0 {d : Nat} {a0 a2 a3 a4 : Value} {x : Int32} {st : List Value} {hp : qzH} : qzV d 81 0 [a0, .int x, a2, a3, a4] (st) hp = qzV d 81 1 [a0, .int x, a2, a3, a4] (.int x :: st) hp := qv_iload (i := 1) mdc_81 dX2_layLetters_0 rfl rfl rfl
theorem eX2_layLetters_1 {d : Nat} {a0 a1 a2 a3 a4 : Value} {x : Int32} {st : List Value} {hp : qzH} : qzV d 81 1 [a0, a1, a2, a3, a4] (.int x :: st) hp = if 0 < x then qzV d 81 5 [a0, a1, a2, a3, a4] (st) hp else qzV d 81 4 [a0, a1, a2, a3, a4] (st) hp := qv_if1 mdc_81 dX2_layLetters_1 rfl rfl rfl
theorem eX2_layLetters_4 {d : Nat} {a0 a1 a2 a3 a4 : Value} {hp : qzH} : qzV d 81 4 [a0, a1, a2, a3, a4] [] hp = some (none, hp) := qv_vret mdc_81 dX2_layLetters_4 mdr_81
theorem eX2_layLetters_5 {d : Nat} {a1 a2 a3 a4 : Value} {x : Nat} {st : List Value} {hp : qzH} : qzV d 81 5 [.ref x, a1, a2, a3, a4] (st) hp = qzV d 81 6 [.ref x, a1, a2, a3, a4] (.ref x :: st) hp := qv_aload (i := 0) mdc_81 dX2_layLetters_5 rfl rfl rfl
theorem eX2_layLetters_6 {d : Nat} {a0 a1 a2 a3 a4 : Value} {a : Nat} {st : List Value} {hp : qzH} (ha : qzArr 2 a hp.1 = true) : qzV d 81 6 [a0, a1, a2, a3, a4] (.ref a :: st) hp = qzV d 81 9 [a0, a1, a2, a3, a4] (va_rf (hp.2.1 a 0) :: st) hp := qv_getR mdc_81 dX2_layLetters_6 mdo_81 qff_2_10 ⟨by decide, rfl⟩ rfl ha
theorem eX2_layLetters_9 {d : Nat} {a0 a1 a3 a4 : Value} {x : Int32} {st : List Value} {hp : qzH} : qzV d 81 9 [a0, a1, .int x, a3, a4] (st) hp = qzV d 81 10 [a0, a1, .int x, a3, a4] (.int x :: st) hp := qv_iload (i := 2) mdc_81 dX2_layLetters_9 rfl rfl rfl
theorem eX2_layLetters_10 {d : Nat} {a0 a1 a2 a3 a4 : Value} {a : Nat} {x : Int32} {st : List Value} {hp : qzH} (ha : qzArr 0 a hp.1 = true) : qzV d 81 10 [a0, a1, a2, a3, a4] (.int x :: .ref a :: st) hp = qzV d 81 13 [a0, a1, a2, a3, a4] st (hp.1, hp.2.1, qzUp hp.2.2 a 6 x) := qv_putI mdc_81 dX2_layLetters_10 mdo_81 qff_2_60 ⟨by decide, rfl, rfl⟩ rfl ha ⟨rfl, rfl⟩
theorem eX2_layLetters_13 {d : Nat} {a0 a1 a2 a3 a4 : Value} {st : List Value} {hp : qzH} : qzV d 81 13 [a0, a1, a2, a3, a4] (st) hp = qzV d 81 14 [a0, a1, a2, a3, a4] (.int 0 :: st) hp := qv_iconst mdc_81 dX2_layLetters_13 il_0 rfl
theorem eX2_layLetters_14 {d : Nat} {a0 a1 a2 a3 a4 : Value} {x : Int32} {st : List Value} {hp : qzH} : qzV d 81 14 [a0, a1, a2, a3, a4] (.int x :: st) hp = qzV d 81 16 [a0, a1, a2, a3, .int x] (st) hp := qv_istore (i := 4) mdc_81 dX2_layLetters_14 rfl (Nat.le_of_ble_eq_true rfl) rfl rfl
theorem eX2_layLetters_16 {d : Nat} {a0 a1 a2 a3 : Value} {x : Int32} {st : List Value} {hp : qzH} : qzV d 81 16 [a0, a1, a2, a3, .int x] (st) hp = qzV d 81 18 [a0, a1, a2, a3, .int x] (.int x :: st) hp := qv_iload (i := 4) mdc_81 dX2_layLetters_16 rfl rfl rfl
theorem eX2_layLetters_18 {d : Nat} {a0 a1 a3 a4 : Value} {x : Int32} {st : List Value} {hp : qzH} : qzV d 81 18 [a0, a1, .int x, a3, a4] (st) hp = qzV d 81 19 [a0, a1, .int x, a3, a4] (.int x :: st) hp := qv_iload (i := 2) mdc_81 dX2_layLetters_18 rfl rfl rfl
theorem eX2_layLetters_19 {d : Nat} {a0 a1 a2 a3 a4 : Value} {x y : Int32} {st : List Value} {hp : qzH} : qzV d 81 19 [a0, a1, a2, a3, a4] (.int y :: .int x :: st) hp = if y ≤ x then qzV d 81 60 [a0, a1, a2, a3, a4] (st) hp else qzV d 81 22 [a0, a1, a2, a3, a4] (st) hp := qv_if2 mdc_81 dX2_layLetters_19 rfl rfl rfl
theorem eX2_layLetters_22 {d : Nat} {a0 a1 a2 a3 : Value} {x : Int32} {st : List Value} {hp : qzH} : qzV d 81 22 [a0, a1, a2, a3, .int x] (st) hp = qzV d 81 24 [a0, a1, a2, a3, .int x] (.int x :: st) hp := qv_iload (i := 4) mdc_81 dX2_layLetters_22 rfl rfl rfl
theorem eX2_layLetters_24 {d : Nat} {a0 a1 a2 a3 a4 : Value} {st : List Value} {hp : qzH} : qzV d 81 24 [a0, a1, a2, a3, a4] (st) hp = qzV d 81 26 [a0, a1, a2, a3, a4] (.int 20 :: st) hp := qv_bipush mdc_81 dX2_layLetters_24 ib_20 rfl
theorem eX2_layLetters_26 {d : Nat} {a0 a1 a2 a3 a4 : Value} {x y : Int32} {st : List Value} {hp : qzH} : qzV d 81 26 [a0, a1, a2, a3, a4] (.int y :: .int x :: st) hp = if y ≤ x then qzV d 81 60 [a0, a1, a2, a3, a4] (st) hp else qzV d 81 29 [a0, a1, a2, a3, a4] (st) hp := qv_if2 mdc_81 dX2_layLetters_26 rfl rfl rfl
theorem eX2_layLetters_29 {d : Nat} {a1 a2 a3 a4 : Value} {x : Nat} {st : List Value} {hp : qzH} : qzV d 81 29 [.ref x, a1, a2, a3, a4] (st) hp = qzV d 81 30 [.ref x, a1, a2, a3, a4] (.ref x :: st) hp := qv_aload (i := 0) mdc_81 dX2_layLetters_29 rfl rfl rfl
theorem eX2_layLetters_30 {d : Nat} {a0 a1 a2 a3 a4 : Value} {a : Nat} {st : List Value} {hp : qzH} (ha : qzArr 2 a hp.1 = true) : qzV d 81 30 [a0, a1, a2, a3, a4] (.ref a :: st) hp = qzV d 81 33 [a0, a1, a2, a3, a4] (va_rf (hp.2.1 a 0) :: st) hp := qv_getR mdc_81 dX2_layLetters_30 mdo_81 qff_2_10 ⟨by decide, rfl⟩ rfl ha
theorem eX2_layLetters_33 {d : Nat} {a0 a1 a2 a3 a4 : Value} {a : Nat} {st : List Value} {hp : qzH} (ha : qzArr 0 a hp.1 = true) : qzV d 81 33 [a0, a1, a2, a3, a4] (.ref a :: st) hp = qzV d 81 36 [a0, a1, a2, a3, a4] (va_rf (hp.2.1 a 0) :: st) hp := qv_getR mdc_81 dX2_layLetters_33 mdo_81 qff_2_117 ⟨by decide, rfl⟩ rfl ha
theorem eX2_layLetters_36 {d : Nat} {a0 a1 a2 a3 : Value} {x : Int32} {st : List Value} {hp : qzH} : qzV d 81 36 [a0, a1, a2, a3, .int x] (st) hp = qzV d 81 38 [a0, a1, a2, a3, .int x] (.int x :: st) hp := qv_iload (i := 4) mdc_81 dX2_layLetters_36 rfl rfl rfl
theorem eX2_layLetters_38 {d : Nat} {a1 a2 a3 a4 : Value} {x : Nat} {st : List Value} {hp : qzH} : qzV d 81 38 [.ref x, a1, a2, a3, a4] (st) hp = qzV d 81 39 [.ref x, a1, a2, a3, a4] (.ref x :: st) hp := qv_aload (i := 0) mdc_81 dX2_layLetters_38 rfl rfl rfl
theorem eX2_layLetters_39 {d : Nat} {a0 a1 a2 a3 : Value} {x : Int32} {st : List Value} {hp : qzH} : qzV d 81 39 [a0, a1, a2, a3, .int x] (st) hp = qzV d 81 41 [a0, a1, a2, a3, .int x] (.int x :: st) hp := qv_iload (i := 4) mdc_81 dX2_layLetters_39 rfl rfl rfl
theorem eX2_layLetters_41 {d : Nat} {a0 a1 a2 a4 : Value} {x : Int32} {st : List Value} {hp : qzH} : qzV d 81 41 [a0, a1, a2, .int x, a4] (st) hp = qzV d 81 42 [a0, a1, a2, .int x, a4] (.int x :: st) hp := qv_iload (i := 3) mdc_81 dX2_layLetters_41 rfl rfl rfl
theorem eX2_layLetters_42 {d : Nat} {a0 a1 a2 a3 a4 : Value} {x y : Int32} {st : List Value} {hp : qzH} : qzV d 81 42 [a0, a1, a2, a3, a4] (.int y :: .int x :: st) hp = qzV d 81 43 [a0, a1, a2, a3, a4] (.int (x + y) :: st) hp := qv_bin (f := fun x y => x + y) mdc_81 dX2_layLetters_42 rfl rfl
theorem eX2_layLetters_43 {d : Nat} {a0 a2 a3 a4 : Value} {x : Int32} {st : List Value} {hp : qzH} : qzV d 81 43 [a0, .int x, a2, a3, a4] (st) hp = qzV d 81 44 [a0, .int x, a2, a3, a4] (.int x :: st) hp := qv_iload (i := 1) mdc_81 dX2_layLetters_43 rfl rfl rfl
theorem eX2_layLetters_44 {d : Nat} {a0 a1 a2 a3 a4 : Value} {x y : Int32} {st : List Value} {hp : qzH} (hy : ¬ y = 0) : qzV d 81 44 [a0, a1, a2, a3, a4] (.int y :: .int x :: st) hp = qzV d 81 45 [a0, a1, a2, a3, a4] (.int (x - x / y * y) :: st) hp := qv_binD (f := fun x y => x - x / y * y) mdc_81 dX2_layLetters_44 rfl rfl hy
theorem eX2_layLetters_45 {d : Nat} {a0 a1 a2 a3 a4 : Value} {w0 : Value} {b : Nat} {st : List Value} {hp : qzH} (h8 : st.length ≤ 8) (hb : qzArr 2 b hp.1 = true) : qzV (d + 1) 81 45 [a0, a1, a2, a3, a4] (w0 :: .ref b :: st) hp = (qzC d 72 (.ref b :: [w0]) hp).bind (fun r => qzV (d + 1) 81 48 [a0, a1, a2, a3, a4] (r.1.toList ++ st) r.2) := qv_callv (n := 1) mdc_81 dX2_layLetters_45 mdo_81 (by decide) qfc_2_98 ⟨rfl, by decide, rfl⟩ rfl ⟨rfl, rfl, by simp only [List.length_cons]; omega⟩ h8 hb
theorem eX2_layLetters_48 {d : Nat} {a0 a1 a2 a3 a4 : Value} {st : List Value} {hp : qzH} : qzV d 81 48 [a0, a1, a2, a3, a4] (st) hp = qzV d 81 50 [a0, a1, a2, a3, a4] (.int 97 :: st) hp := qv_bipush mdc_81 dX2_layLetters_48 ib_97 rfl
theorem eX2_layLetters_50 {d : Nat} {a0 a1 a2 a3 a4 : Value} {x y : Int32} {st : List Value} {hp : qzH} : qzV d 81 50 [a0, a1, a2, a3, a4] (.int y :: .int x :: st) hp = qzV d 81 51 [a0, a1, a2, a3, a4] (.int (x - y) :: st) hp := qv_bin (f := fun x y => x - y) mdc_81 dX2_layLetters_50 rfl rfl
theorem eX2_layLetters_51 {d : Nat} {a0 a1 a2 a3 a4 : Value} {w0 w1 w2 : Value} {st : List Value} {hp : qzH} (h8 : st.length ≤ 8) : qzV (d + 1) 81 51 [a0, a1, a2, a3, a4] (w2 :: w1 :: w0 :: st) hp = (qzC d 85 [w0, w1, w2] hp).bind (fun r => qzV (d + 1) 81 54 [a0, a1, a2, a3, a4] (r.1.toList ++ st) r.2) := qv_calls (n := 3) mdc_81 dX2_layLetters_51 mdo_81 (by decide) qfc_2_82 ⟨rfl, by decide, rfl⟩ rfl ⟨rfl, rfl, by simp only [List.length_cons]; omega⟩ h8
theorem eX2_layLetters_54 {d : Nat} {a0 a1 a2 a3 : Value} {x : Int32} {st : List Value} {hp : qzH} : qzV d 81 54 [a0, a1, a2, a3, .int x] (st) hp = qzV d 81 57 [a0, a1, a2, a3, .int (x + 1)] (st) hp := qv_iinc mdc_81 dX2_layLetters_54 rfl il_1 rfl rfl
theorem eX2_layLetters_57 {d : Nat} {a0 a1 a2 a3 a4 : Value} {st : List Value} {hp : qzH} : qzV d 81 57 [a0, a1, a2, a3, a4] (st) hp = qzV d 81 16 [a0, a1, a2, a3, a4] (st) hp := qv_goto mdc_81 dX2_layLetters_57 rfl
theorem eX2_layLetters_60 {d : Nat} {a0 a1 a2 a3 a4 : Value} {hp : qzH} : qzV d 81 60 [a0, a1, a2, a3, a4] [] hp = some (none, hp) := qv_vret mdc_81 dX2_layLetters_60 mdr_81
theorem dX2_codeOnPad_0 : decode cX2_codeOnPad 0 = .ok (.aload_n 0, 1) := by decide +kernel
theorem dX2_codeOnPad_1 : decode cX2_codeOnPad 1 = .ok (.iload_n 1, 1) := by decide +kernel
theorem dX2_codeOnPad_2 : decode cX2_codeOnPad 2 = .ok (.invokevirtual 98, 3) := by decide +kernel
theorem dX2_codeOnPad_5 : decode cX2_codeOnPad 5 = .ok (.istore_n 2, 1) := by decide +kernel
theorem dX2_codeOnPad_6 : decode cX2_codeOnPad 6 = .ok (.iload_n 2, 1) := by decide +kernel
theorem dX2_codeOnPad_7 : decode cX2_codeOnPad 7 = .ok (.invokestatic 113, 3) := by decide +kernel
theorem dX2_codeOnPad_10 : decode cX2_codeOnPad 10 = .ok (.ifCond .ne 23, 3) := by decide +kernel
theorem dX2_codeOnPad_13 : decode cX2_codeOnPad 13 = .ok (.aload_n 0, 1) := by decide +kernel
theorem dX2_codeOnPad_14 : decode cX2_codeOnPad 14 = .ok (.aload_n 0, 1) := by decide +kernel
theorem dX2_codeOnPad_15 : decode cX2_codeOnPad 15 = .ok (.getfield 10, 3) := by decide +kernel
theorem dX2_codeOnPad_18 : decode cX2_codeOnPad 18 = .ok (.iload_n 2, 1) := by decide +kernel
theorem dX2_codeOnPad_19 : decode cX2_codeOnPad 19 = .ok (.bipush 103, 2) := by decide +kernel
theorem dX2_codeOnPad_21 : decode cX2_codeOnPad 21 = .ok (.if_icmp .ne 7, 3) := by decide +kernel
theorem dX2_codeOnPad_24 : decode cX2_codeOnPad 24 = .ok (.iconst 1, 1) := by decide +kernel
theorem dX2_codeOnPad_25 : decode cX2_codeOnPad 25 = .ok (.goto 4, 3) := by decide +kernel
theorem dX2_codeOnPad_28 : decode cX2_codeOnPad 28 = .ok (.iconst 0, 1) := by decide +kernel
theorem dX2_codeOnPad_29 : decode cX2_codeOnPad 29 = .ok (.invokevirtual 197, 3) := by decide +kernel
theorem dX2_codeOnPad_32 : decode cX2_codeOnPad 32 = .ok (.ireturn, 1) := by decide +kernel
theorem dX2_codeOnPad_33 : decode cX2_codeOnPad 33 = .ok (.aload_n 0, 1) := by decide +kernel
theorem dX2_codeOnPad_34 : decode cX2_codeOnPad 34 = .ok (.iload_n 1, 1) := by decide +kernel
theorem dX2_codeOnPad_35 : decode cX2_codeOnPad 35 = .ok (.iconst 1, 1) := by decide +kernel
theorem dX2_codeOnPad_36 : decode cX2_codeOnPad 36 = .ok (.iadd, 1) := by decide +kernel
theorem dX2_codeOnPad_37 : decode cX2_codeOnPad 37 = .ok (.invokevirtual 290, 3) := by decide +kernel
theorem dX2_codeOnPad_40 : decode cX2_codeOnPad 40 = .ok (.istore_n 3, 1) := by decide +kernel
theorem dX2_codeOnPad_41 : decode cX2_codeOnPad 41 = .ok (.iload_n 3, 1) := by decide +kernel
theorem dX2_codeOnPad_42 : decode cX2_codeOnPad 42 = .ok (.iconst 1, 1) := by decide +kernel
theorem dX2_codeOnPad_43 : decode cX2_codeOnPad 43 = .ok (.if_icmp .lt 14, 3) := by decide +kernel
theorem dX2_codeOnPad_46 : decode cX2_codeOnPad 46 = .ok (.iload_n 3, 1) := by decide +kernel
theorem dX2_codeOnPad_47 : decode cX2_codeOnPad 47 = .ok (.aload_n 0, 1) := by decide +kernel
theorem dX2_codeOnPad_48 : decode cX2_codeOnPad 48 = .ok (.getfield 10, 3) := by decide +kernel
theorem dX2_codeOnPad_51 : decode cX2_codeOnPad 51 = .ok (.invokevirtual 221, 3) := by decide +kernel
theorem dX2_codeOnPad_54 : decode cX2_codeOnPad 54 = .ok (.if_icmp .le 6, 3) := by decide +kernel
theorem dX2_codeOnPad_57 : decode cX2_codeOnPad 57 = .ok (.bipush (-2), 2) := by decide +kernel
theorem dX2_codeOnPad_59 : decode cX2_codeOnPad 59 = .ok (.ireturn, 1) := by decide +kernel
theorem dX2_codeOnPad_60 : decode cX2_codeOnPad 60 = .ok (.iload_n 3, 1) := by decide +kernel
theorem dX2_codeOnPad_61 : decode cX2_codeOnPad 61 = .ok (.iload_n 2, 1) := by decide +kernel
theorem dX2_codeOnPad_62 : decode cX2_codeOnPad 62 = .ok (.bipush 108, 2) := by decide +kernel
theorem dX2_codeOnPad_64 : decode cX2_codeOnPad 64 = .ok (.if_icmp .ne 7, 3) := by decide +kernel
theorem dX2_codeOnPad_67 : decode cX2_codeOnPad 67 = .ok (.iconst 1, 1) := by decide +kernel
theorem dX2_codeOnPad_68 : decode cX2_codeOnPad 68 = .ok (.goto 4, 3) := by decide +kernel
theorem dX2_codeOnPad_71 : decode cX2_codeOnPad 71 = .ok (.iconst 0, 1) := by decide +kernel
theorem dX2_codeOnPad_72 : decode cX2_codeOnPad 72 = .ok (.invokestatic 47, 3) := by decide +kernel
theorem dX2_codeOnPad_75 : decode cX2_codeOnPad 75 = .ok (.ireturn, 1) := by decide +kernel
theorem eX2_codeOnPad_0 {d : Nat} {a1 a2 a3 : Value} {x : Nat} {st : List Value} {hp : qzH} : qzV d 82 0 [.ref x, a1, a2, a3] (st) hp = qzV d 82 1 [.ref x, a1, a2, a3] (.ref x :: st) hp := qv_aload (i := 0) mdc_82 dX2_codeOnPad_0 rfl rfl rfl
theorem eX2_codeOnPad_1 {d : Nat} {a0 a2 a3 : Value} {x : Int32} {st : List Value} {hp : qzH} : qzV d 82 1 [a0, .int x, a2, a3] (st) hp = qzV d 82 2 [a0, .int x, a2, a3] (.int x :: st) hp := qv_iload (i := 1) mdc_82 dX2_codeOnPad_1 rfl rfl rfl
theorem eX2_codeOnPad_2 {d : Nat} {a0 a1 a2 a3 : Value} {w0 : Value} {b : Nat} {st : List Value} {hp : qzH} (h8 : st.length ≤ 8) (hb : qzArr 2 b hp.1 = true) : qzV (d + 1) 82 2 [a0, a1, a2, a3] (w0 :: .ref b :: st) hp = (qzC d 72 (.ref b :: [w0]) hp).bind (fun r => qzV (d + 1) 82 5 [a0, a1, a2, a3] (r.1.toList ++ st) r.2) := qv_callv (n := 1) mdc_82 dX2_codeOnPad_2 mdo_82 (by decide) qfc_2_98 ⟨rfl, by decide, rfl⟩ rfl ⟨rfl, rfl, by simp only [List.length_cons]; omega⟩ h8 hb
theorem eX2_codeOnPad_5 {d : Nat} {a0 a1 a2 a3 : Value} {x : Int32} {st : List Value} {hp : qzH} : qzV d 82 5 [a0, a1, a2, a3] (.int x :: st) hp = qzV d 82 6 [a0, a1, .int x, a3] (st) hp := qv_istore (i := 2) mdc_82 dX2_codeOnPad_5 rfl (Nat.le_of_ble_eq_true rfl) rfl rfl
theorem eX2_codeOnPad_6 {d : Nat} {a0 a1 a3 : Value} {x : Int32} {st : List Value} {hp : qzH} : qzV d 82 6 [a0, a1, .int x, a3] (st) hp = qzV d 82 7 [a0, a1, .int x, a3] (.int x :: st) hp := qv_iload (i := 2) mdc_82 dX2_codeOnPad_6 rfl rfl rfl
theorem eX2_codeOnPad_7 {d : Nat} {a0 a1 a2 a3 : Value} {w0 : Value} {st : List Value} {hp : qzH} (h8 : st.length ≤ 8) : qzV (d + 1) 82 7 [a0, a1, a2, a3] (w0 :: st) hp = (qzC d 74 [w0] hp).bind (fun r => qzV (d + 1) 82 10 [a0, a1, a2, a3] (r.1.toList ++ st) r.2) := qv_calls (n := 1) mdc_82 dX2_codeOnPad_7 mdo_82 (by decide) qfc_2_113 ⟨rfl, by decide, rfl⟩ rfl ⟨rfl, rfl, by simp only [List.length_cons]; omega⟩ h8
theorem eX2_codeOnPad_10 {d : Nat} {a0 a1 a2 a3 : Value} {x : Int32} {st : List Value} {hp : qzH} : qzV d 82 10 [a0, a1, a2, a3] (.int x :: st) hp = if ¬ x = 0 then qzV d 82 33 [a0, a1, a2, a3] (st) hp else qzV d 82 13 [a0, a1, a2, a3] (st) hp := qv_if1 mdc_82 dX2_codeOnPad_10 rfl rfl rfl
theorem eX2_codeOnPad_13 {d : Nat} {a1 a2 a3 : Value} {x : Nat} {st : List Value} {hp : qzH} : qzV d 82 13 [.ref x, a1, a2, a3] (st) hp = qzV d 82 14 [.ref x, a1, a2, a3] (.ref x :: st) hp := qv_aload (i := 0) mdc_82 dX2_codeOnPad_13 rfl rfl rfl
theorem eX2_codeOnPad_14 {d : Nat} {a1 a2 a3 : Value} {x : Nat} {st : List Value} {hp : qzH} : qzV d 82 14 [.ref x, a1, a2, a3] (st) hp = qzV d 82 15 [.ref x, a1, a2, a3] (.ref x :: st) hp := qv_aload (i := 0) mdc_82 dX2_codeOnPad_14 rfl rfl rfl
theorem eX2_codeOnPad_15 {d : Nat} {a0 a1 a2 a3 : Value} {a : Nat} {st : List Value} {hp : qzH} (ha : qzArr 2 a hp.1 = true) : qzV d 82 15 [a0, a1, a2, a3] (.ref a :: st) hp = qzV d 82 18 [a0, a1, a2, a3] (va_rf (hp.2.1 a 0) :: st) hp := qv_getR mdc_82 dX2_codeOnPad_15 mdo_82 qff_2_10 ⟨by decide, rfl⟩ rfl ha
theorem eX2_codeOnPad_18 {d : Nat} {a0 a1 a3 : Value} {x : Int32} {st : List Value} {hp : qzH} : qzV d 82 18 [a0, a1, .int x, a3] (st) hp = qzV d 82 19 [a0, a1, .int x, a3] (.int x :: st) hp := qv_iload (i := 2) mdc_82 dX2_codeOnPad_18 rfl rfl rfl
theorem eX2_codeOnPad_19 {d : Nat} {a0 a1 a2 a3 : Value} {st : List Value} {hp : qzH} : qzV d 82 19 [a0, a1, a2, a3] (st) hp = qzV d 82 21 [a0, a1, a2, a3] (.int 103 :: st) hp := qv_bipush mdc_82 dX2_codeOnPad_19 ib_103 rfl
theorem eX2_codeOnPad_21 {d : Nat} {a0 a1 a2 a3 : Value} {x y : Int32} {st : List Value} {hp : qzH} : qzV d 82 21 [a0, a1, a2, a3] (.int y :: .int x :: st) hp = if ¬ x = y then qzV d 82 28 [a0, a1, a2, a3] (st) hp else qzV d 82 24 [a0, a1, a2, a3] (st) hp := qv_if2 mdc_82 dX2_codeOnPad_21 rfl rfl rfl
theorem eX2_codeOnPad_24 {d : Nat} {a0 a1 a2 a3 : Value} {st : List Value} {hp : qzH} : qzV d 82 24 [a0, a1, a2, a3] (st) hp = qzV d 82 25 [a0, a1, a2, a3] (.int 1 :: st) hp := qv_iconst mdc_82 dX2_codeOnPad_24 il_1 rfl
theorem eX2_codeOnPad_25 {d : Nat} {a0 a1 a2 a3 : Value} {st : List Value} {hp : qzH} : qzV d 82 25 [a0, a1, a2, a3] (st) hp = qzV d 82 29 [a0, a1, a2, a3] (st) hp := qv_goto mdc_82 dX2_codeOnPad_25 rfl
theorem eX2_codeOnPad_28 {d : Nat} {a0 a1 a2 a3 : Value} {st : List Value} {hp : qzH} : qzV d 82 28 [a0, a1, a2, a3] (st) hp = qzV d 82 29 [a0, a1, a2, a3] (.int 0 :: st) hp := qv_iconst mdc_82 dX2_codeOnPad_28 il_0 rfl
theorem eX2_codeOnPad_29 {d : Nat} {a0 a1 a2 a3 : Value} {w0 w1 : Value} {b : Nat} {st : List Value} {hp : qzH} (h8 : st.length ≤ 8) (hb : qzArr 2 b hp.1 = true) : qzV (d + 1) 82 29 [a0, a1, a2, a3] (w1 :: w0 :: .ref b :: st) hp = (qzC d 61 (.ref b :: [w0, w1]) hp).bind (fun r => qzV (d + 1) 82 32 [a0, a1, a2, a3] (r.1.toList ++ st) r.2) := qv_callv (n := 2) mdc_82 dX2_codeOnPad_29 mdo_82 (by decide) qfc_2_197 ⟨rfl, by decide, rfl⟩ rfl ⟨rfl, rfl, by simp only [List.length_cons]; omega⟩ h8 hb
theorem eX2_codeOnPad_32 {d : Nat} {a0 a1 a2 a3 : Value} {v : Int32} {hp : qzH} : qzV d 82 32 [a0, a1, a2, a3] [.int v] hp = some (some (.int v), hp) := qv_iret mdc_82 dX2_codeOnPad_32 mdr_82 rfl
theorem eX2_codeOnPad_33 {d : Nat} {a1 a2 a3 : Value} {x : Nat} {st : List Value} {hp : qzH} : qzV d 82 33 [.ref x, a1, a2, a3] (st) hp = qzV d 82 34 [.ref x, a1, a2, a3] (.ref x :: st) hp := qv_aload (i := 0) mdc_82 dX2_codeOnPad_33 rfl rfl rfl
theorem eX2_codeOnPad_34 {d : Nat} {a0 a2 a3 : Value} {x : Int32} {st : List Value} {hp : qzH} : qzV d 82 34 [a0, .int x, a2, a3] (st) hp = qzV d 82 35 [a0, .int x, a2, a3] (.int x :: st) hp := qv_iload (i := 1) mdc_82 dX2_codeOnPad_34 rfl rfl rfl
theorem eX2_codeOnPad_35 {d : Nat} {a0 a1 a2 a3 : Value} {st : List Value} {hp : qzH} : qzV d 82 35 [a0, a1, a2, a3] (st) hp = qzV d 82 36 [a0, a1, a2, a3] (.int 1 :: st) hp := qv_iconst mdc_82 dX2_codeOnPad_35 il_1 rfl
theorem eX2_codeOnPad_36 {d : Nat} {a0 a1 a2 a3 : Value} {x y : Int32} {st : List Value} {hp : qzH} : qzV d 82 36 [a0, a1, a2, a3] (.int y :: .int x :: st) hp = qzV d 82 37 [a0, a1, a2, a3] (.int (x + y) :: st) hp := qv_bin (f := fun x y => x + y) mdc_82 dX2_codeOnPad_36 rfl rfl
theorem eX2_codeOnPad_37 {d : Nat} {a0 a1 a2 a3 : Value} {w0 : Value} {b : Nat} {st : List Value} {hp : qzH} (h8 : st.length ≤ 8) (hb : qzArr 2 b hp.1 = true) : qzV (d + 1) 82 37 [a0, a1, a2, a3] (w0 :: .ref b :: st) hp = (qzC d 73 (.ref b :: [w0]) hp).bind (fun r => qzV (d + 1) 82 40 [a0, a1, a2, a3] (r.1.toList ++ st) r.2) := qv_callv (n := 1) mdc_82 dX2_codeOnPad_37 mdo_82 (by decide) qfc_2_290 ⟨rfl, by decide, rfl⟩ rfl ⟨rfl, rfl, by simp only [List.length_cons]; omega⟩ h8 hb
theorem eX2_codeOnPad_40 {d : Nat} {a0 a1 a2 a3 : Value} {x : Int32} {st : List Value} {hp : qzH} : qzV d 82 40 [a0, a1, a2, a3] (.int x :: st) hp = qzV d 82 41 [a0, a1, a2, .int x] (st) hp := qv_istore (i := 3) mdc_82 dX2_codeOnPad_40 rfl (Nat.le_of_ble_eq_true rfl) rfl rfl
theorem eX2_codeOnPad_41 {d : Nat} {a0 a1 a2 : Value} {x : Int32} {st : List Value} {hp : qzH} : qzV d 82 41 [a0, a1, a2, .int x] (st) hp = qzV d 82 42 [a0, a1, a2, .int x] (.int x :: st) hp := qv_iload (i := 3) mdc_82 dX2_codeOnPad_41 rfl rfl rfl
theorem eX2_codeOnPad_42 {d : Nat} {a0 a1 a2 a3 : Value} {st : List Value} {hp : qzH} : qzV d 82 42 [a0, a1, a2, a3] (st) hp = qzV d 82 43 [a0, a1, a2, a3] (.int 1 :: st) hp := qv_iconst mdc_82 dX2_codeOnPad_42 il_1 rfl
theorem eX2_codeOnPad_43 {d : Nat} {a0 a1 a2 a3 : Value} {x y : Int32} {st : List Value} {hp : qzH} : qzV d 82 43 [a0, a1, a2, a3] (.int y :: .int x :: st) hp = if x < y then qzV d 82 57 [a0, a1, a2, a3] (st) hp else qzV d 82 46 [a0, a1, a2, a3] (st) hp := qv_if2 mdc_82 dX2_codeOnPad_43 rfl rfl rfl
theorem eX2_codeOnPad_46 {d : Nat} {a0 a1 a2 : Value} {x : Int32} {st : List Value} {hp : qzH} : qzV d 82 46 [a0, a1, a2, .int x] (st) hp = qzV d 82 47 [a0, a1, a2, .int x] (.int x :: st) hp := qv_iload (i := 3) mdc_82 dX2_codeOnPad_46 rfl rfl rfl
theorem eX2_codeOnPad_47 {d : Nat} {a1 a2 a3 : Value} {x : Nat} {st : List Value} {hp : qzH} : qzV d 82 47 [.ref x, a1, a2, a3] (st) hp = qzV d 82 48 [.ref x, a1, a2, a3] (.ref x :: st) hp := qv_aload (i := 0) mdc_82 dX2_codeOnPad_47 rfl rfl rfl
theorem eX2_codeOnPad_48 {d : Nat} {a0 a1 a2 a3 : Value} {a : Nat} {st : List Value} {hp : qzH} (ha : qzArr 2 a hp.1 = true) : qzV d 82 48 [a0, a1, a2, a3] (.ref a :: st) hp = qzV d 82 51 [a0, a1, a2, a3] (va_rf (hp.2.1 a 0) :: st) hp := qv_getR mdc_82 dX2_codeOnPad_48 mdo_82 qff_2_10 ⟨by decide, rfl⟩ rfl ha
theorem eX2_codeOnPad_51 {d : Nat} {a0 a1 a2 a3 : Value} {b : Nat} {st : List Value} {hp : qzH} (h8 : st.length ≤ 8) (hb : qzArr 0 b hp.1 = true) : qzV (d + 1) 82 51 [a0, a1, a2, a3] (.ref b :: st) hp = (qzC d 6 (.ref b :: []) hp).bind (fun r => qzV (d + 1) 82 54 [a0, a1, a2, a3] (r.1.toList ++ st) r.2) := qv_callv (n := 0) mdc_82 dX2_codeOnPad_51 mdo_82 (by decide) qfc_2_221 ⟨rfl, by decide, rfl⟩ rfl ⟨rfl, rfl, by simp only [List.length_cons]; omega⟩ h8 hb
theorem eX2_codeOnPad_54 {d : Nat} {a0 a1 a2 a3 : Value} {x y : Int32} {st : List Value} {hp : qzH} : qzV d 82 54 [a0, a1, a2, a3] (.int y :: .int x :: st) hp = if x ≤ y then qzV d 82 60 [a0, a1, a2, a3] (st) hp else qzV d 82 57 [a0, a1, a2, a3] (st) hp := qv_if2 mdc_82 dX2_codeOnPad_54 rfl rfl rfl
theorem eX2_codeOnPad_57 {d : Nat} {a0 a1 a2 a3 : Value} {st : List Value} {hp : qzH} : qzV d 82 57 [a0, a1, a2, a3] (st) hp = qzV d 82 59 [a0, a1, a2, a3] (.int (-2) :: st) hp := qv_bipush mdc_82 dX2_codeOnPad_57 ib_m2 rfl
theorem eX2_codeOnPad_59 {d : Nat} {a0 a1 a2 a3 : Value} {v : Int32} {hp : qzH} : qzV d 82 59 [a0, a1, a2, a3] [.int v] hp = some (some (.int v), hp) := qv_iret mdc_82 dX2_codeOnPad_59 mdr_82 rfl
theorem eX2_codeOnPad_60 {d : Nat} {a0 a1 a2 : Value} {x : Int32} {st : List Value} {hp : qzH} : qzV d 82 60 [a0, a1, a2, .int x] (st) hp = qzV d 82 61 [a0, a1, a2, .int x] (.int x :: st) hp := qv_iload (i := 3) mdc_82 dX2_codeOnPad_60 rfl rfl rfl
theorem eX2_codeOnPad_61 {d : Nat} {a0 a1 a3 : Value} {x : Int32} {st : List Value} {hp : qzH} : qzV d 82 61 [a0, a1, .int x, a3] (st) hp = qzV d 82 62 [a0, a1, .int x, a3] (.int x :: st) hp := qv_iload (i := 2) mdc_82 dX2_codeOnPad_61 rfl rfl rfl
theorem eX2_codeOnPad_62 {d : Nat} {a0 a1 a2 a3 : Value} {st : List Value} {hp : qzH} : qzV d 82 62 [a0, a1, a2, a3] (st) hp = qzV d 82 64 [a0, a1, a2, a3] (.int 108 :: st) hp := qv_bipush mdc_82 dX2_codeOnPad_62 ib_108 rfl
theorem eX2_codeOnPad_64 {d : Nat} {a0 a1 a2 a3 : Value} {x y : Int32} {st : List Value} {hp : qzH} : qzV d 82 64 [a0, a1, a2, a3] (.int y :: .int x :: st) hp = if ¬ x = y then qzV d 82 71 [a0, a1, a2, a3] (st) hp else qzV d 82 67 [a0, a1, a2, a3] (st) hp := qv_if2 mdc_82 dX2_codeOnPad_64 rfl rfl rfl
theorem eX2_codeOnPad_67 {d : Nat} {a0 a1 a2 a3 : Value} {st : List Value} {hp : qzH} : qzV d 82 67 [a0, a1, a2, a3] (st) hp = qzV d 82 68 [a0, a1, a2, a3] (.int 1 :: st) hp := qv_iconst mdc_82 dX2_codeOnPad_67 il_1 rfl
theorem eX2_codeOnPad_68 {d : Nat} {a0 a1 a2 a3 : Value} {st : List Value} {hp : qzH} : qzV d 82 68 [a0, a1, a2, a3] (st) hp = qzV d 82 72 [a0, a1, a2, a3] (st) hp := qv_goto mdc_82 dX2_codeOnPad_68 rfl
theorem eX2_codeOnPad_71 {d : Nat} {a0 a1 a2 a3 : Value} {st : List Value} {hp : qzH} : qzV d 82 71 [a0, a1, a2, a3] (st) hp = qzV d 82 72 [a0, a1, a2, a3] (.int 0 :: st) hp := qv_iconst mdc_82 dX2_codeOnPad_71 il_0 rfl
theorem eX2_codeOnPad_72 {d : Nat} {a0 a1 a2 a3 : Value} {w0 w1 : Value} {st : List Value} {hp : qzH} (h8 : st.length ≤ 8) : qzV (d + 1) 82 72 [a0, a1, a2, a3] (w1 :: w0 :: st) hp = (qzC d 53 [w0, w1] hp).bind (fun r => qzV (d + 1) 82 75 [a0, a1, a2, a3] (r.1.toList ++ st) r.2) := qv_calls (n := 2) mdc_82 dX2_codeOnPad_72 mdo_82 (by decide) qfc_2_47 ⟨rfl, by decide, rfl⟩ rfl ⟨rfl, rfl, by simp only [List.length_cons]; omega⟩ h8
theorem eX2_codeOnPad_75 {d : Nat} {a0 a1 a2 a3 : Value} {v : Int32} {hp : qzH} : qzV d 82 75 [a0, a1, a2, a3] [.int v] hp = some (some (.int v), hp) := qv_iret mdc_82 dX2_codeOnPad_75 mdr_82 rfl
theorem dX2_isNoTailor_0 : decode cX2_isNoTailor 0 = .ok (.iload_n 0, 1) := by decide +kernel
theorem dX2_isNoTailor_1 : decode cX2_isNoTailor 1 = .ok (.ifCond .lt 8, 3) := by decide +kernel
theorem dX2_isNoTailor_4 : decode cX2_isNoTailor 4 = .ok (.iload_n 0, 1) := by decide +kernel
theorem dX2_isNoTailor_5 : decode cX2_isNoTailor 5 = .ok (.iconst 1, 1) := by decide +kernel
theorem dX2_isNoTailor_6 : decode cX2_isNoTailor 6 = .ok (.if_icmp .le 7, 3) := by decide +kernel
theorem dX2_isNoTailor_9 : decode cX2_isNoTailor 9 = .ok (.iconst 1, 1) := by decide +kernel
theorem dX2_isNoTailor_10 : decode cX2_isNoTailor 10 = .ok (.goto 4, 3) := by decide +kernel
theorem dX2_isNoTailor_13 : decode cX2_isNoTailor 13 = .ok (.iconst 0, 1) := by decide +kernel
theorem dX2_isNoTailor_14 : decode cX2_isNoTailor 14 = .ok (.ireturn, 1) := by decide +kernel
theorem eX2_isNoTailor_0 {d : Nat} {x : Int32} {st : List Value} {hp : qzH} : qzV d 83 0 [.int x] (st) hp = qzV d 83 1 [.int x] (.int x :: st) hp := qv_iload (i := 0) mdc_83 dX2_isNoTailor_0 rfl rfl rfl
theorem eX2_isNoTailor_1 {d : Nat} {a0 : Value} {x : Int32} {st : List Value} {hp : qzH} : qzV d 83 1 [a0] (.int x :: st) hp = if x < 0 then qzV d 83 9 [a0] (st) hp else qzV d 83 4 [a0] (st) hp := qv_if1 mdc_83 dX2_isNoTailor_1 rfl rfl rfl
theorem eX2_isNoTailor_4 {d : Nat} {x : Int32} {st : List Value} {hp : qzH} : qzV d 83 4 [.int x] (st) hp = qzV d 83 5 [.int x] (.int x :: st) hp := qv_iload (i := 0) mdc_83 dX2_isNoTailor_4 rfl rfl rfl
theorem eX2_isNoTailor_5 {d : Nat} {a0 : Value} {st : List Value} {hp : qzH} : qzV d 83 5 [a0] (st) hp = qzV d 83 6 [a0] (.int 1 :: st) hp := qv_iconst mdc_83 dX2_isNoTailor_5 il_1 rfl
theorem eX2_isNoTailor_6 {d : Nat} {a0 : Value} {x y : Int32} {st : List Value} {hp : qzH} : qzV d 83 6 [a0] (.int y :: .int x :: st) hp = if x ≤ y then qzV d 83 13 [a0] (st) hp else qzV d 83 9 [a0] (st) hp := qv_if2 mdc_83 dX2_isNoTailor_6 rfl rfl rfl
theorem eX2_isNoTailor_9 {d : Nat} {a0 : Value} {st : List Value} {hp : qzH} : qzV d 83 9 [a0] (st) hp = qzV d 83 10 [a0] (.int 1 :: st) hp := qv_iconst mdc_83 dX2_isNoTailor_9 il_1 rfl
theorem eX2_isNoTailor_10 {d : Nat} {a0 : Value} {st : List Value} {hp : qzH} : qzV d 83 10 [a0] (st) hp = qzV d 83 14 [a0] (st) hp := qv_goto mdc_83 dX2_isNoTailor_10 rfl
theorem eX2_isNoTailor_13 {d : Nat} {a0 : Value} {st : List Value} {hp : qzH} : qzV d 83 13 [a0] (st) hp = qzV d 83 14 [a0] (.int 0 :: st) hp := qv_iconst mdc_83 dX2_isNoTailor_13 il_0 rfl
theorem eX2_isNoTailor_14 {d : Nat} {a0 : Value} {v : Int32} {hp : qzH} (hn : narrow .boolean (.int v) = .int v) : qzV d 83 14 [a0] [.int v] hp = some (some (.int v), hp) := qv_iret mdc_83 dX2_isNoTailor_14 mdr_83 hn
theorem dX2_at_0 : decode cX2_at 0 = .ok (.iload_n 1, 1) := by decide +kernel
theorem dX2_at_1 : decode cX2_at 1 = .ok (.ifCond .lt 15, 3) := by decide +kernel
theorem dX2_at_4 : decode cX2_at 4 = .ok (.iload_n 1, 1) := by decide +kernel
theorem dX2_at_5 : decode cX2_at 5 = .ok (.aload_n 0, 1) := by decide +kernel
theorem dX2_at_6 : decode cX2_at 6 = .ok (.arraylength, 1) := by decide +kernel
theorem dX2_at_7 : decode cX2_at 7 = .ok (.if_icmp .ge 9, 3) := by decide +kernel
theorem dX2_at_10 : decode cX2_at 10 = .ok (.aload_n 0, 1) := by decide +kernel
theorem dX2_at_11 : decode cX2_at 11 = .ok (.iload_n 1, 1) := by decide +kernel
theorem dX2_at_12 : decode cX2_at 12 = .ok (.iaload, 1) := by decide +kernel
theorem dX2_at_13 : decode cX2_at 13 = .ok (.goto 4, 3) := by decide +kernel
theorem dX2_at_16 : decode cX2_at 16 = .ok (.iconst 0, 1) := by decide +kernel
theorem dX2_at_17 : decode cX2_at 17 = .ok (.ireturn, 1) := by decide +kernel
theorem eX2_at_0 {d : Nat} {a0 : Value} {x : Int32} {st : List Value} {hp : qzH} : qzV d 84 0 [a0, .int x] (st) hp = qzV d 84 1 [a0, .int x] (.int x :: st) hp := qv_iload (i := 1) mdc_84 dX2_at_0 rfl rfl rfl
theorem eX2_at_1 {d : Nat} {a0 a1 : Value} {x : Int32} {st : List Value} {hp : qzH} : qzV d 84 1 [a0, a1] (.int x :: st) hp = if x < 0 then qzV d 84 16 [a0, a1] (st) hp else qzV d 84 4 [a0, a1] (st) hp := qv_if1 mdc_84 dX2_at_1 rfl rfl rfl
theorem eX2_at_4 {d : Nat} {a0 : Value} {x : Int32} {st : List Value} {hp : qzH} : qzV d 84 4 [a0, .int x] (st) hp = qzV d 84 5 [a0, .int x] (.int x :: st) hp := qv_iload (i := 1) mdc_84 dX2_at_4 rfl rfl rfl
theorem eX2_at_5 {d : Nat} {a1 : Value} {x : Nat} {st : List Value} {hp : qzH} : qzV d 84 5 [.ref x, a1] (st) hp = qzV d 84 6 [.ref x, a1] (.ref x :: st) hp := qv_aload (i := 0) mdc_84 dX2_at_5 rfl rfl rfl
theorem eX2_at_6 {d : Nat} {a0 a1 : Value} {a : Nat} {st : List Value} {hp : qzH} (ha : qzArr 4 a hp.1 = true ∨ qzArr 5 a hp.1 = true ∨ qzArr 6 a hp.1 = true) : qzV d 84 6 [a0, a1] (.ref a :: st) hp = qzV d 84 7 [a0, a1] (.int (Int32.ofNat (qzk a).2) :: st) hp := qv_alen mdc_84 dX2_at_6 rfl ha
theorem eX2_at_6S {d : Nat} {a0 a1 : Value} {a : Nat} {st : List Value} {hp : qzH} (hn : hp.1 ≤ 1000) (ha : 1000 ≤ a ∧ a < 1003) : qzV d 84 6 [a0, a1] (.ref a :: st) hp = qzV d 84 7 [a0, a1] (.int 3 :: st) hp := qv_alenS mdc_84 dX2_at_6 rfl hn ha
theorem eX2_at_7 {d : Nat} {a0 a1 : Value} {x y : Int32} {st : List Value} {hp : qzH} : qzV d 84 7 [a0, a1] (.int y :: .int x :: st) hp = if y ≤ x then qzV d 84 16 [a0, a1] (st) hp else qzV d 84 10 [a0, a1] (st) hp := qv_if2 mdc_84 dX2_at_7 rfl rfl rfl
theorem eX2_at_10 {d : Nat} {a1 : Value} {x : Nat} {st : List Value} {hp : qzH} : qzV d 84 10 [.ref x, a1] (st) hp = qzV d 84 11 [.ref x, a1] (.ref x :: st) hp := qv_aload (i := 0) mdc_84 dX2_at_10 rfl rfl rfl
theorem eX2_at_11 {d : Nat} {a0 : Value} {x : Int32} {st : List Value} {hp : qzH} : qzV d 84 11 [a0, .int x] (st) hp = qzV d 84 12 [a0, .int x] (.int x :: st) hp := qv_iload (i := 1) mdc_84 dX2_at_11 rfl rfl rfl
theorem eX2_at_12 {d : Nat} {a0 a1 : Value} {i : Int32} {a : Nat} {st : List Value} {hp : qzH} (ha : qzArr 4 a hp.1 = true) (hi : qzIn i (qzk a).2 = true) : qzV d 84 12 [a0, a1] (.int i :: .ref a :: st) hp = qzV d 84 13 [a0, a1] (.int (hp.2.2 a i.toNatClampNeg) :: st) hp := qv_iald mdc_84 dX2_at_12 rfl ha hi
theorem eX2_at_12S {d : Nat} {a0 a1 : Value} {i : Int32} {a : Nat} {st : List Value} {hp : qzH} (hn : hp.1 ≤ 1000) (ha : 1000 ≤ a ∧ a < 1003) (hi : qzIn i 3 = true) : qzV d 84 12 [a0, a1] (.int i :: .ref a :: st) hp = qzV d 84 13 [a0, a1] (.int (qzSv (a - 1000) i.toNatClampNeg) :: st) hp := qv_ialdS mdc_84 dX2_at_12 rfl hn ha hi
theorem eX2_at_13 {d : Nat} {a0 a1 : Value} {st : List Value} {hp : qzH} : qzV d 84 13 [a0, a1] (st) hp = qzV d 84 17 [a0, a1] (st) hp := qv_goto mdc_84 dX2_at_13 rfl
theorem eX2_at_16 {d : Nat} {a0 a1 : Value} {st : List Value} {hp : qzH} : qzV d 84 16 [a0, a1] (st) hp = qzV d 84 17 [a0, a1] (.int 0 :: st) hp := qv_iconst mdc_84 dX2_at_16 il_0 rfl
theorem eX2_at_17 {d : Nat} {a0 a1 : Value} {v : Int32} {hp : qzH} : qzV d 84 17 [a0, a1] [.int v] hp = some (some (.int v), hp) := qv_iret mdc_84 dX2_at_17 mdr_84 rfl
theorem dX2_put_0 : decode cX2_put 0 = .ok (.iload_n 1, 1) := by decide +kernel
theorem dX2_put_1 : decode cX2_put 1 = .ok (.ifCond .lt 13, 3) := by decide +kernel
theorem dX2_put_4 : decode cX2_put 4 = .ok (.iload_n 1, 1) := by decide +kernel
theorem dX2_put_5 : decode cX2_put 5 = .ok (.aload_n 0, 1) := by decide +kernel
theorem dX2_put_6 : decode cX2_put 6 = .ok (.arraylength, 1) := by decide +kernel
theorem dX2_put_7 : decode cX2_put 7 = .ok (.if_icmp .ge 7, 3) := by decide +kernel
theorem dX2_put_10 : decode cX2_put 10 = .ok (.aload_n 0, 1) := by decide +kernel
theorem dX2_put_11 : decode cX2_put 11 = .ok (.iload_n 1, 1) := by decide +kernel
theorem dX2_put_12 : decode cX2_put 12 = .ok (.iload_n 2, 1) := by decide +kernel
theorem dX2_put_13 : decode cX2_put 13 = .ok (.iastore, 1) := by decide +kernel
theorem dX2_put_14 : decode cX2_put 14 = .ok (.return_, 1) := by decide +kernel
theorem eX2_put_0 {d : Nat} {a0 a2 : Value} {x : Int32} {st : List Value} {hp : qzH} : qzV d 85 0 [a0, .int x, a2] (st) hp = qzV d 85 1 [a0, .int x, a2] (.int x :: st) hp := qv_iload (i := 1) mdc_85 dX2_put_0 rfl rfl rfl
theorem eX2_put_1 {d : Nat} {a0 a1 a2 : Value} {x : Int32} {st : List Value} {hp : qzH} : qzV d 85 1 [a0, a1, a2] (.int x :: st) hp = if x < 0 then qzV d 85 14 [a0, a1, a2] (st) hp else qzV d 85 4 [a0, a1, a2] (st) hp := qv_if1 mdc_85 dX2_put_1 rfl rfl rfl
theorem eX2_put_4 {d : Nat} {a0 a2 : Value} {x : Int32} {st : List Value} {hp : qzH} : qzV d 85 4 [a0, .int x, a2] (st) hp = qzV d 85 5 [a0, .int x, a2] (.int x :: st) hp := qv_iload (i := 1) mdc_85 dX2_put_4 rfl rfl rfl
theorem eX2_put_5 {d : Nat} {a1 a2 : Value} {x : Nat} {st : List Value} {hp : qzH} : qzV d 85 5 [.ref x, a1, a2] (st) hp = qzV d 85 6 [.ref x, a1, a2] (.ref x :: st) hp := qv_aload (i := 0) mdc_85 dX2_put_5 rfl rfl rfl
theorem eX2_put_6 {d : Nat} {a0 a1 a2 : Value} {a : Nat} {st : List Value} {hp : qzH} (ha : qzArr 4 a hp.1 = true ∨ qzArr 5 a hp.1 = true ∨ qzArr 6 a hp.1 = true) : qzV d 85 6 [a0, a1, a2] (.ref a :: st) hp = qzV d 85 7 [a0, a1, a2] (.int (Int32.ofNat (qzk a).2) :: st) hp := qv_alen mdc_85 dX2_put_6 rfl ha
theorem eX2_put_7 {d : Nat} {a0 a1 a2 : Value} {x y : Int32} {st : List Value} {hp : qzH} : qzV d 85 7 [a0, a1, a2] (.int y :: .int x :: st) hp = if y ≤ x then qzV d 85 14 [a0, a1, a2] (st) hp else qzV d 85 10 [a0, a1, a2] (st) hp := qv_if2 mdc_85 dX2_put_7 rfl rfl rfl
theorem eX2_put_10 {d : Nat} {a1 a2 : Value} {x : Nat} {st : List Value} {hp : qzH} : qzV d 85 10 [.ref x, a1, a2] (st) hp = qzV d 85 11 [.ref x, a1, a2] (.ref x :: st) hp := qv_aload (i := 0) mdc_85 dX2_put_10 rfl rfl rfl
theorem eX2_put_11 {d : Nat} {a0 a2 : Value} {x : Int32} {st : List Value} {hp : qzH} : qzV d 85 11 [a0, .int x, a2] (st) hp = qzV d 85 12 [a0, .int x, a2] (.int x :: st) hp := qv_iload (i := 1) mdc_85 dX2_put_11 rfl rfl rfl
theorem eX2_put_12 {d : Nat} {a0 a1 : Value} {x : Int32} {st : List Value} {hp : qzH} : qzV d 85 12 [a0, a1, .int x] (st) hp = qzV d 85 13 [a0, a1, .int x] (.int x :: st) hp := qv_iload (i := 2) mdc_85 dX2_put_12 rfl rfl rfl
theorem eX2_put_13 {d : Nat} {a0 a1 a2 : Value} {i x : Int32} {a : Nat} {st : List Value} {hp : qzH} (ha : qzArr 4 a hp.1 = true) (hi : qzIn i (qzk a).2 = true) : qzV d 85 13 [a0, a1, a2] (.int x :: .int i :: .ref a :: st) hp = qzV d 85 14 [a0, a1, a2] st (hp.1, hp.2.1, qzUp hp.2.2 a i.toNatClampNeg x) := qv_iast mdc_85 dX2_put_13 rfl ha hi
theorem eX2_put_14 {d : Nat} {a0 a1 a2 : Value} {hp : qzH} : qzV d 85 14 [a0, a1, a2] [] hp = some (none, hp) := qv_vret mdc_85 dX2_put_14 mdr_85
