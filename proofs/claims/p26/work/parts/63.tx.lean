/-! the constant text: its length, its characters -/
theorem dJ0_length_8abf5_0 : decode cJ0_length_8abf5 0 = .ok (.aload_n 0, 1) := by decide +kernel
theorem dJ0_length_8abf5_1 : decode cJ0_length_8abf5 1 = .ok (.getfield 9, 3) := by decide +kernel
theorem dJ0_length_8abf5_4 : decode cJ0_length_8abf5 4 = .ok (.arraylength, 1) := by decide +kernel
theorem dJ0_length_8abf5_5 : decode cJ0_length_8abf5 5 = .ok (.aload_n 0, 1) := by decide +kernel
theorem dJ0_length_8abf5_6 : decode cJ0_length_8abf5 6 = .ok (.invokevirtual 335, 3) := by decide +kernel
theorem dJ0_length_8abf5_9 : decode cJ0_length_8abf5 9 = .ok (.ishr, 1) := by decide +kernel
theorem dJ0_length_8abf5_10 : decode cJ0_length_8abf5 10 = .ok (.ireturn, 1) := by decide +kernel
theorem dJ0_charAt_5068e_0 : decode cJ0_charAt_5068e 0 = .ok (.aload_n 0, 1) := by decide +kernel
theorem dJ0_charAt_5068e_1 : decode cJ0_charAt_5068e 1 = .ok (.invokevirtual 492, 3) := by decide +kernel
theorem dJ0_charAt_5068e_4 : decode cJ0_charAt_5068e 4 = .ok (.ifCond .eq 12, 3) := by decide +kernel
theorem dJ0_charAt_5068e_7 : decode cJ0_charAt_5068e 7 = .ok (.aload_n 0, 1) := by decide +kernel
theorem dJ0_charAt_5068e_8 : decode cJ0_charAt_5068e 8 = .ok (.getfield 9, 3) := by decide +kernel
theorem dJ0_charAt_5068e_11 : decode cJ0_charAt_5068e 11 = .ok (.iload_n 1, 1) := by decide +kernel
theorem dJ0_charAt_5068e_12 : decode cJ0_charAt_5068e 12 = .ok (.invokestatic 495, 3) := by decide +kernel
theorem dJ0_charAt_5068e_15 : decode cJ0_charAt_5068e 15 = .ok (.ireturn, 1) := by decide +kernel
theorem dJ0_charAt_5068e_16 : decode cJ0_charAt_5068e 16 = .ok (.aload_n 0, 1) := by decide +kernel
theorem dJ0_charAt_5068e_17 : decode cJ0_charAt_5068e 17 = .ok (.getfield 9, 3) := by decide +kernel
theorem dJ0_charAt_5068e_20 : decode cJ0_charAt_5068e 20 = .ok (.iload_n 1, 1) := by decide +kernel
theorem dJ0_charAt_5068e_21 : decode cJ0_charAt_5068e 21 = .ok (.invokestatic 498, 3) := by decide +kernel
theorem dJ0_charAt_5068e_24 : decode cJ0_charAt_5068e 24 = .ok (.ireturn, 1) := by decide +kernel
theorem dJ0_coder_7d493_0 : decode cJ0_coder_7d493 0 = .ok (.getstatic 38, 3) := by decide +kernel
theorem dJ0_coder_7d493_3 : decode cJ0_coder_7d493 3 = .ok (.ifCond .eq 10, 3) := by decide +kernel
theorem dJ0_coder_7d493_6 : decode cJ0_coder_7d493 6 = .ok (.aload_n 0, 1) := by decide +kernel
theorem dJ0_coder_7d493_7 : decode cJ0_coder_7d493 7 = .ok (.getfield 15, 3) := by decide +kernel
theorem dJ0_coder_7d493_10 : decode cJ0_coder_7d493 10 = .ok (.goto 4, 3) := by decide +kernel
theorem dJ0_coder_7d493_13 : decode cJ0_coder_7d493 13 = .ok (.iconst 1, 1) := by decide +kernel
theorem dJ0_coder_7d493_14 : decode cJ0_coder_7d493 14 = .ok (.ireturn, 1) := by decide +kernel
theorem dJ0_isLatin1_aae02_0 : decode cJ0_isLatin1_aae02 0 = .ok (.getstatic 38, 3) := by decide +kernel
theorem dJ0_isLatin1_aae02_3 : decode cJ0_isLatin1_aae02 3 = .ok (.ifCond .eq 14, 3) := by decide +kernel
theorem dJ0_isLatin1_aae02_6 : decode cJ0_isLatin1_aae02 6 = .ok (.aload_n 0, 1) := by decide +kernel
theorem dJ0_isLatin1_aae02_7 : decode cJ0_isLatin1_aae02 7 = .ok (.getfield 15, 3) := by decide +kernel
theorem dJ0_isLatin1_aae02_10 : decode cJ0_isLatin1_aae02 10 = .ok (.ifCond .ne 7, 3) := by decide +kernel
theorem dJ0_isLatin1_aae02_13 : decode cJ0_isLatin1_aae02 13 = .ok (.iconst 1, 1) := by decide +kernel
theorem dJ0_isLatin1_aae02_14 : decode cJ0_isLatin1_aae02 14 = .ok (.goto 4, 3) := by decide +kernel
theorem dJ0_isLatin1_aae02_17 : decode cJ0_isLatin1_aae02 17 = .ok (.iconst 0, 1) := by decide +kernel
theorem dJ0_isLatin1_aae02_18 : decode cJ0_isLatin1_aae02 18 = .ok (.ireturn, 1) := by decide +kernel
theorem dJ0_checkIndex_df160_0 : decode cJ0_checkIndex_df160 0 = .ok (.iload_n 0, 1) := by decide +kernel
theorem dJ0_checkIndex_df160_1 : decode cJ0_checkIndex_df160 1 = .ok (.iload_n 1, 1) := by decide +kernel
theorem dJ0_checkIndex_df160_2 : decode cJ0_checkIndex_df160 2 = .ok (.getstatic 1053, 3) := by decide +kernel
theorem dJ0_checkIndex_df160_5 : decode cJ0_checkIndex_df160 5 = .ok (.invokestatic 1059, 3) := by decide +kernel
theorem dJ0_checkIndex_df160_8 : decode cJ0_checkIndex_df160 8 = .ok (.pop, 1) := by decide +kernel
theorem dJ0_checkIndex_df160_9 : decode cJ0_checkIndex_df160 9 = .ok (.return_, 1) := by decide +kernel
theorem dJ1_charAt_3b067_0 : decode cJ1_charAt_3b067 0 = .ok (.iload_n 1, 1) := by decide +kernel
theorem dJ1_charAt_3b067_1 : decode cJ1_charAt_3b067 1 = .ok (.aload_n 0, 1) := by decide +kernel
theorem dJ1_charAt_3b067_2 : decode cJ1_charAt_3b067 2 = .ok (.arraylength, 1) := by decide +kernel
theorem dJ1_charAt_3b067_3 : decode cJ1_charAt_3b067 3 = .ok (.invokestatic 9, 3) := by decide +kernel
theorem dJ1_charAt_3b067_6 : decode cJ1_charAt_3b067 6 = .ok (.aload_n 0, 1) := by decide +kernel
theorem dJ1_charAt_3b067_7 : decode cJ1_charAt_3b067 7 = .ok (.iload_n 1, 1) := by decide +kernel
theorem dJ1_charAt_3b067_8 : decode cJ1_charAt_3b067 8 = .ok (.baload, 1) := by decide +kernel
theorem dJ1_charAt_3b067_9 : decode cJ1_charAt_3b067 9 = .ok (.sipush 255, 3) := by decide +kernel
theorem dJ1_charAt_3b067_12 : decode cJ1_charAt_3b067 12 = .ok (.iand, 1) := by decide +kernel
theorem dJ1_charAt_3b067_13 : decode cJ1_charAt_3b067 13 = .ok (.i2c, 1) := by decide +kernel
theorem dJ1_charAt_3b067_14 : decode cJ1_charAt_3b067 14 = .ok (.ireturn, 1) := by decide +kernel
theorem dJ3_checkIndex_8e157_0 : decode cJ3_checkIndex_8e157 0 = .ok (.iload_n 0, 1) := by decide +kernel
theorem dJ3_checkIndex_8e157_1 : decode cJ3_checkIndex_8e157 1 = .ok (.ifCond .lt 8, 3) := by decide +kernel
theorem dJ3_checkIndex_8e157_4 : decode cJ3_checkIndex_8e157 4 = .ok (.iload_n 0, 1) := by decide +kernel
theorem dJ3_checkIndex_8e157_5 : decode cJ3_checkIndex_8e157 5 = .ok (.iload_n 1, 1) := by decide +kernel
theorem dJ3_checkIndex_8e157_6 : decode cJ3_checkIndex_8e157 6 = .ok (.if_icmp .lt 10, 3) := by decide +kernel
theorem dJ3_checkIndex_8e157_9 : decode cJ3_checkIndex_8e157 9 = .ok (.aload_n 2, 1) := by decide +kernel
theorem dJ3_checkIndex_8e157_10 : decode cJ3_checkIndex_8e157 10 = .ok (.iload_n 0, 1) := by decide +kernel
theorem dJ3_checkIndex_8e157_11 : decode cJ3_checkIndex_8e157 11 = .ok (.iload_n 1, 1) := by decide +kernel
theorem dJ3_checkIndex_8e157_12 : decode cJ3_checkIndex_8e157 12 = .ok (.invokestatic 95, 3) := by decide +kernel
theorem dJ3_checkIndex_8e157_15 : decode cJ3_checkIndex_8e157 15 = .ok (.athrow, 1) := by decide +kernel
theorem dJ3_checkIndex_8e157_16 : decode cJ3_checkIndex_8e157 16 = .ok (.iload_n 0, 1) := by decide +kernel
theorem dJ3_checkIndex_8e157_17 : decode cJ3_checkIndex_8e157 17 = .ok (.ireturn, 1) := by decide +kernel
theorem tw_val : Cond.fieldLink RJ0 9 "java/lang/String" "value" "[B" ∈ qzWs := qzWs_in 866 (by decide +kernel) rfl
theorem tw_cmp : Cond.fieldLink RJ0 38 "java/lang/String" "COMPACT_STRINGS" "Z" ∈ qzWs := qzWs_in 85 (by decide +kernel) rfl
theorem tw_cod : Cond.fieldLink RJ0 15 "java/lang/String" "coder" "B" ∈ qzWs := qzWs_in 867 (by decide +kernel) rfl
theorem tw_sio : Cond.fieldLink RJ0 1053 "jdk/internal/util/Preconditions" "SIOOBE_FORMATTER" "Ljava/util/function/BiFunction;" ∈ qzWs := qzWs_in 109 (by decide +kernel) rfl
theorem tw_l335 : Cond.methodLink RJ0 335 yJ0_coder_7d493 ∈ qzWs := qzWs_in 81 (by decide +kernel) rfl
theorem tw_l492 : Cond.methodLink RJ0 492 yJ0_isLatin1_aae02 ∈ qzWs := qzWs_in 99 (by decide +kernel) rfl
theorem tw_l495 : Cond.methodLink RJ0 495 yJ1_charAt_3b067 ∈ qzWs := qzWs_in 103 (by decide +kernel) rfl
theorem tw_l9 : Cond.methodLink RJ1 9 yJ0_checkIndex_df160 ∈ qzWs := qzWs_in 106 (by decide +kernel) rfl
theorem tw_l1059 : Cond.methodLink RJ0 1059 yJ3_checkIndex_8e157 ∈ qzWs := qzWs_in 111 (by decide +kernel) rfl
theorem tw_iCO : Cond.instanceMethod yJ0_coder_7d493 ∈ qzWs := qzWs_in 82 (by decide +kernel) rfl
theorem tw_iCOs : Cond.selects RJ0 yJ0_coder_7d493 yJ0_coder_7d493 ∈ qzWs := qzWs_in 83 (by decide +kernel) rfl
theorem tw_iIL : Cond.instanceMethod yJ0_isLatin1_aae02 ∈ qzWs := qzWs_in 100 (by decide +kernel) rfl
theorem tw_iILs : Cond.selects RJ0 yJ0_isLatin1_aae02 yJ0_isLatin1_aae02 ∈ qzWs := qzWs_in 101 (by decide +kernel) rfl
theorem tw_sC1 : Cond.static yJ1_charAt_3b067 ∈ qzWs := qzWs_in 104 (by decide +kernel) rfl
theorem tw_sCK : Cond.static yJ0_checkIndex_df160 ∈ qzWs := qzWs_in 107 (by decide +kernel) rfl
theorem tw_sPK : Cond.static yJ3_checkIndex_8e157 ∈ qzWs := qzWs_in 112 (by decide +kernel) rfl
theorem tw_RJ1 : Cond.initialized RJ1 ∈ qzWs := qzWs_in 54 (by decide +kernel) rfl
theorem tw_RJ3 : Cond.initialized RJ3 ∈ qzWs := qzWs_in 55 (by decide +kernel) rfl
theorem tw_cCO : Cond.code yJ0_coder_7d493 cJ0_coder_7d493 1 (some .byte) ∈ qzWs := qzWs_in 84 (by decide +kernel) rfl
theorem tw_cIL : Cond.code yJ0_isLatin1_aae02 cJ0_isLatin1_aae02 1 (some .boolean) ∈ qzWs := qzWs_in 102 (by decide +kernel) rfl
theorem tw_cC1 : Cond.code yJ1_charAt_3b067 cJ1_charAt_3b067 2 (some .char) ∈ qzWs := qzWs_in 105 (by decide +kernel) rfl
theorem tw_cCK : Cond.code yJ0_checkIndex_df160 cJ0_checkIndex_df160 2 none ∈ qzWs := qzWs_in 108 (by decide +kernel) rfl
theorem tw_cPK : Cond.code yJ3_checkIndex_8e157 cJ3_checkIndex_8e157 3 (some .int) ∈ qzWs := qzWs_in 113 (by decide +kernel) rfl
def qzRa (n : Nat) : Room := { frames := n, cells := 0, slots := 0, locals := 40 * n }
theorem tx_wk {B : Nat → Prop} {H0 H : Heap} {locs : List Loc} (h : va_S (fun _ => False) H0 H locs) : va_S B H0 H locs := ⟨h.1, fun q a _ => h.2.1 q a (fun z => z), fun l hl => (h.2.2 l hl).elim⟩
theorem tx_F {s t : State} {H : Heap} {locs : List Loc} (hS : va_S (fun _ => False) s.heap H locs) (ht : t.heap = H) : va_F (fun _ => False) s t := ⟨by rw [ht]; exact hS.1, fun q h1 h2 => by rw [ht]; exact hS.2.1 q h1 h2⟩
theorem qzIn_12' {k : Int32} (hk : qzIn k 12 = true) : vp_in k 12 ∧ k.toNatClampNeg < 12 := by
  have h : ¬ k < 0 ∧ k.toNatClampNeg < 12 := by
    unfold qzIn at hk
    simpa using hk
  exact ⟨fun z => z.elim h.1 (fun y => absurd h.2 (Nat.not_lt.mpr y)), h.2⟩
theorem qzIn_12 {k : Int32} (hk : qzIn k 12 = true) : ¬ k < 0 ∧ k < 12 := by
  obtain ⟨h1, h2⟩ := qzIn_12' hk
  have h0 : ¬ k < 0 := fun z => h1 (Or.inl z)
  refine ⟨h0, ?_⟩
  rw [Int32.lt_iff_toInt_lt] at h0 ⊢
  have e0 : (0 : Int32).toInt = 0 := by decide
  have e12 : (12 : Int32).toInt = 12 := by decide
  rw [e0] at h0
  rw [e12]
  have e : (k.toNatClampNeg : Int) = k.toInt := by
    unfold Int32.toNatClampNeg
    omega
  omega
theorem tx_ch : ∀ n, n < 12 → ((qzTxt.getD n 0 &&& 255).toUInt32 % 65536).toInt32 = qzCh n := by decide
theorem tx_nar (n : Nat) : narrow .char (.int (qzCh n)) = .int (qzCh n) := nar_chr (k := 97 + n % 3) (by omega)
set_option maxHeartbeats 4000000 in
theorem tx_coder (l : Launch) (z0 : Nat) (S : Nat → Nat) : Met l yJ0_coder_7d493 (Cond.code yJ0_coder_7d493 cJ0_coder_7d493 1 (some .byte) :: qzWs) (qzRa 1) (va_Pc [.ref (S 3)] (qzTp z0 S)) (va_Qi (fun (r : Int32) (_ : Unit) => r = 0) (fun _ _ => True) (fun _ => False)) 0 0 (fun _ => False) := by
  refine Met.ofW (cc := cJ0_coder_7d493) (maxL := 1) (ret := (some .byte)) (by decide) rfl ?_
  intro p e s m args below meth c s₁ B hml hv
  have hx := B.exec
  have hb := B.bytes
  have hr := B.returns
  have hts0 := atoms_spec B.pre
  have hts : ∀ w ∈ qzWs, w.before args s = true := fun w hw => hts0 w (List.mem_cons_of_mem _ hw)
  have hown : s.vm.findClass RJ0 = some m.cls := findClass_of_methodNamed B.named
  have hlk := B.notSynchronized
  have hS : va_S (fun _ => False) s.heap s.heap [] := va_S.rf
  rw [lg_entry_eq]
  obtain ⟨rfl, hTp⟩ := hv
  have hSt := hTp.1
  obtain ⟨adV, hV⟩ := hSt.2.2.2.2.2.1
  have hE := (hV.narrow (B := fun _ => False) (fun _ z => z.elim)).1 0 (by decide)
  have hC := hSt.2.2.2.2.2.2.1.narrow (B := fun _ => False) (fun _ z => z.elim)
  have hl := lv_entry ([.ref (S 3)]) (n := 1) (Nat.le_of_ble_eq_true rfl)
  generalize (lg_sl ([.ref (S 3)]) ++ List.replicate (1 - (lg_sl ([.ref (S 3)])).length) Slot.unset).toArray = ls at hl ⊢
  have hl : lv_has ls 1 [(0, .ref (S 3))] := hl
  refine va_gets hx hb hC hS hown (hts _ tw_cmp) (fun _ h => h) dJ0_coder_7d493_0 ?_
  refine lv_if_eq (tgt := 13) hx hb dJ0_coder_7d493_3 (by decide) (fun c_1 => absurd c_1 (by decide)) (fun _ => ?_)
  refine lv_aload_n hx hb dJ0_coder_7d493_6 rfl (lv_at hl 0 rfl) ?_
  refine vk_getf hx hb hE.2.1 hS hown (hts _ tw_cod) (fun _ h => h) dJ0_coder_7d493_7 ?_
  refine lv_goto (tgt := 14) hx hb dJ0_coder_7d493_10 (by decide) ?_
  exact W.zret (v := 0) hx hb hr rfl (fun t ht hW => ⟨⟨0, (), rfl, rfl, trivial⟩, tx_F hS ht⟩) hS.2.2 dJ0_coder_7d493_14 hlk
set_option maxHeartbeats 4000000 in
theorem tx_lat (l : Launch) (z0 : Nat) (S : Nat → Nat) : Met l yJ0_isLatin1_aae02 (Cond.code yJ0_isLatin1_aae02 cJ0_isLatin1_aae02 1 (some .boolean) :: qzWs) (qzRa 1) (va_Pc [.ref (S 3)] (qzTp z0 S)) (va_Qi (fun (r : Int32) (_ : Unit) => r = 1) (fun _ _ => True) (fun _ => False)) 0 0 (fun _ => False) := by
  refine Met.ofW (cc := cJ0_isLatin1_aae02) (maxL := 1) (ret := (some .boolean)) (by decide) rfl ?_
  intro p e s m args below meth c s₁ B hml hv
  have hx := B.exec
  have hb := B.bytes
  have hr := B.returns
  have hts0 := atoms_spec B.pre
  have hts : ∀ w ∈ qzWs, w.before args s = true := fun w hw => hts0 w (List.mem_cons_of_mem _ hw)
  have hown : s.vm.findClass RJ0 = some m.cls := findClass_of_methodNamed B.named
  have hlk := B.notSynchronized
  have hS : va_S (fun _ => False) s.heap s.heap [] := va_S.rf
  rw [lg_entry_eq]
  obtain ⟨rfl, hTp⟩ := hv
  have hSt := hTp.1
  obtain ⟨adV, hV⟩ := hSt.2.2.2.2.2.1
  have hE := (hV.narrow (B := fun _ => False) (fun _ z => z.elim)).1 0 (by decide)
  have hC := hSt.2.2.2.2.2.2.1.narrow (B := fun _ => False) (fun _ z => z.elim)
  have hl := lv_entry ([.ref (S 3)]) (n := 1) (Nat.le_of_ble_eq_true rfl)
  generalize (lg_sl ([.ref (S 3)]) ++ List.replicate (1 - (lg_sl ([.ref (S 3)])).length) Slot.unset).toArray = ls at hl ⊢
  have hl : lv_has ls 1 [(0, .ref (S 3))] := hl
  refine va_gets hx hb hC hS hown (hts _ tw_cmp) (fun _ h => h) dJ0_isLatin1_aae02_0 ?_
  refine lv_if_eq (tgt := 17) hx hb dJ0_isLatin1_aae02_3 (by decide) (fun c_1 => absurd c_1 (by decide)) (fun _ => ?_)
  refine lv_aload_n hx hb dJ0_isLatin1_aae02_6 rfl (lv_at hl 0 rfl) ?_
  refine vk_getf hx hb hE.2.1 hS hown (hts _ tw_cod) (fun _ h => h) dJ0_isLatin1_aae02_7 ?_
  refine lv_if_ne (tgt := 17) hx hb dJ0_isLatin1_aae02_10 (by decide) (fun c_1 => absurd rfl c_1) (fun _ => ?_)
  refine lv_iconst (v := 1) hx hb dJ0_isLatin1_aae02_13 (by decide) ?_
  refine lv_goto (tgt := 18) hx hb dJ0_isLatin1_aae02_14 (by decide) ?_
  exact W.zret (v := 1) hx hb hr rfl (fun t ht hW => ⟨⟨1, (), rfl, rfl, trivial⟩, tx_F hS ht⟩) hS.2.2 dJ0_isLatin1_aae02_18 hlk
set_option maxHeartbeats 4000000 in
theorem tx_pre_n (l : Launch) {k : Int32} (hk : qzIn k 12 = true) : Met l yJ3_checkIndex_8e157 (Cond.code yJ3_checkIndex_8e157 cJ3_checkIndex_8e157 3 (some .int) :: qzWs) (qzRa 1) (va_Pc [.int k, .int 12, .null] (fun _ => True)) (va_Qi (fun (r : Int32) (_ : Unit) => r = k) (fun _ _ => True) (fun _ => False)) 0 0 (fun _ => False) := by
  refine Met.ofW (cc := cJ3_checkIndex_8e157) (maxL := 3) (ret := (some .int)) (by decide) rfl ?_
  intro p e s m args below meth c s₁ B hml hv
  have hx := B.exec
  have hb := B.bytes
  have hr := B.returns
  have hts0 := atoms_spec B.pre
  have hts : ∀ w ∈ qzWs, w.before args s = true := fun w hw => hts0 w (List.mem_cons_of_mem _ hw)
  have hown : s.vm.findClass RJ3 = some m.cls := findClass_of_methodNamed B.named
  have hlk := B.notSynchronized
  have hS : va_S (fun _ => False) s.heap s.heap [] := va_S.rf
  rw [lg_entry_eq]
  obtain ⟨rfl, -⟩ := hv
  have hc1 : ¬ k < 0 ∧ k < 12 := qzIn_12 hk
  have hl := lv_entry ([.int k, .int 12, .null]) (n := 3) (Nat.le_of_ble_eq_true rfl)
  generalize (lg_sl ([.int k, .int 12, .null]) ++ List.replicate (3 - (lg_sl ([.int k, .int 12, .null])).length) Slot.unset).toArray = ls at hl ⊢
  have hl : lv_has ls 3 [(0, .int k), (1, .int 12), (2, .null)] := hl
  refine lv_iload_n hx hb dJ3_checkIndex_8e157_0 rfl (lv_at hl 0 rfl) ?_
  refine lv_if_lt (tgt := 9) hx hb dJ3_checkIndex_8e157_1 (by decide) (fun c_1 => absurd c_1 hc1.1) (fun _ => ?_)
  refine lv_iload_n hx hb dJ3_checkIndex_8e157_4 rfl (lv_at hl 0 rfl) ?_
  refine lv_iload_n hx hb dJ3_checkIndex_8e157_5 rfl (lv_at hl 1 rfl) ?_
  refine lv_icmp_lt (tgt := 16) hx hb dJ3_checkIndex_8e157_6 (by decide) (fun _ => ?_) (fun c_1 => absurd hc1.2 c_1)
  refine lv_iload_n hx hb dJ3_checkIndex_8e157_16 rfl (lv_at hl 0 rfl) ?_
  exact W.iret (v := k) hx hb hr (fun t ht hW => ⟨⟨k, (), rfl, rfl, trivial⟩, tx_F hS ht⟩) hS.2.2 dJ3_checkIndex_8e157_17 hlk
set_option maxHeartbeats 4000000 in
theorem tx_pre_r (l : Launch) {k : Int32} (hk : qzIn k 12 = true) (t : Nat) : Met l yJ3_checkIndex_8e157 (Cond.code yJ3_checkIndex_8e157 cJ3_checkIndex_8e157 3 (some .int) :: qzWs) (qzRa 1) (va_Pc [.int k, .int 12, .ref t] (fun _ => True)) (va_Qi (fun (r : Int32) (_ : Unit) => r = k) (fun _ _ => True) (fun _ => False)) 0 0 (fun _ => False) := by
  refine Met.ofW (cc := cJ3_checkIndex_8e157) (maxL := 3) (ret := (some .int)) (by decide) rfl ?_
  intro p e s m args below meth c s₁ B hml hv
  have hx := B.exec
  have hb := B.bytes
  have hr := B.returns
  have hts0 := atoms_spec B.pre
  have hts : ∀ w ∈ qzWs, w.before args s = true := fun w hw => hts0 w (List.mem_cons_of_mem _ hw)
  have hown : s.vm.findClass RJ3 = some m.cls := findClass_of_methodNamed B.named
  have hlk := B.notSynchronized
  have hS : va_S (fun _ => False) s.heap s.heap [] := va_S.rf
  rw [lg_entry_eq]
  obtain ⟨rfl, -⟩ := hv
  have hc1 : ¬ k < 0 ∧ k < 12 := qzIn_12 hk
  have hl := lv_entry ([.int k, .int 12, .ref t]) (n := 3) (Nat.le_of_ble_eq_true rfl)
  generalize (lg_sl ([.int k, .int 12, .ref t]) ++ List.replicate (3 - (lg_sl ([.int k, .int 12, .ref t])).length) Slot.unset).toArray = ls at hl ⊢
  have hl : lv_has ls 3 [(0, .int k), (1, .int 12), (2, .ref t)] := hl
  refine lv_iload_n hx hb dJ3_checkIndex_8e157_0 rfl (lv_at hl 0 rfl) ?_
  refine lv_if_lt (tgt := 9) hx hb dJ3_checkIndex_8e157_1 (by decide) (fun c_1 => absurd c_1 hc1.1) (fun _ => ?_)
  refine lv_iload_n hx hb dJ3_checkIndex_8e157_4 rfl (lv_at hl 0 rfl) ?_
  refine lv_iload_n hx hb dJ3_checkIndex_8e157_5 rfl (lv_at hl 1 rfl) ?_
  refine lv_icmp_lt (tgt := 16) hx hb dJ3_checkIndex_8e157_6 (by decide) (fun _ => ?_) (fun c_1 => absurd hc1.2 c_1)
  refine lv_iload_n hx hb dJ3_checkIndex_8e157_16 rfl (lv_at hl 0 rfl) ?_
  exact W.iret (v := k) hx hb hr (fun t ht hW => ⟨⟨k, (), rfl, rfl, trivial⟩, tx_F hS ht⟩) hS.2.2 dJ3_checkIndex_8e157_17 hlk
theorem tx_pre (l : Launch) {k : Int32} (hk : qzIn k 12 = true) {v : Value} (hvv : v = .null ∨ ∃ t, v = .ref t) : Met l yJ3_checkIndex_8e157 (Cond.code yJ3_checkIndex_8e157 cJ3_checkIndex_8e157 3 (some .int) :: qzWs) (qzRa 1) (va_Pc [.int k, .int 12, v] (fun _ => True)) (va_Qi (fun (r : Int32) (_ : Unit) => r = k) (fun _ _ => True) (fun _ => False)) 0 0 (fun _ => False) := by
  rcases hvv with e | ⟨t, e⟩
  · subst e; exact tx_pre_n l hk
  · subst e; exact tx_pre_r l hk t
set_option maxHeartbeats 4000000 in
theorem tx_chk (l : Launch) (z0 : Nat) (S : Nat → Nat) {k : Int32} (hk : qzIn k 12 = true) : Met l yJ0_checkIndex_df160 (Cond.code yJ0_checkIndex_df160 cJ0_checkIndex_df160 2 none :: qzWs) (qzRa 2) (va_Pc [.int k, .int 12] (qzTp z0 S)) (va_Qv (fun _ : Unit => True) (fun _ _ => True) (fun _ => False)) 0 0 (fun _ => False) := by
  refine Met.ofW (cc := cJ0_checkIndex_df160) (maxL := 2) (ret := none) (by decide) rfl ?_
  intro p e s m args below meth c s₁ B hml hv
  have hx := B.exec
  have hb := B.bytes
  have hr := B.returns
  have hts0 := atoms_spec B.pre
  have hts : ∀ w ∈ qzWs, w.before args s = true := fun w hw => hts0 w (List.mem_cons_of_mem _ hw)
  have hown : s.vm.findClass RJ0 = some m.cls := findClass_of_methodNamed B.named
  have hlk := B.notSynchronized
  have hS : va_S (fun _ => False) s.heap s.heap [] := va_S.rf
  rw [lg_entry_eq]
  obtain ⟨rfl, hTp⟩ := hv
  have hSt := hTp.1
  have hl := lv_entry ([.int k, .int 12]) (n := 2) (Nat.le_of_ble_eq_true rfl)
  generalize (lg_sl ([.int k, .int 12]) ++ List.replicate (2 - (lg_sl ([.int k, .int 12])).length) Slot.unset).toArray = ls at hl ⊢
  have hl : lv_has ls 2 [(0, .int k), (1, .int 12)] := hl
  refine lv_iload_n hx hb dJ0_checkIndex_df160_0 rfl (lv_at hl 0 rfl) ?_
  refine lv_iload_n hx hb dJ0_checkIndex_df160_1 rfl (lv_at hl 1 rfl) ?_
  have hQ := hSt.2.2.2.2.2.2.2.narrow (B := fun _ => False) (fun _ z => z.elim)
  have key : ∀ v : Value, (v = .null ∨ ∃ t, v = .ref t) → va_Z "jdk/internal/util/Preconditions" "SIOOBE_FORMATTER" "Ljava/util/function/BiFunction;" v (fun _ => False) s s.heap → W p l e (qzRa 2) s m [Value.int k, Value.int 12].toArray below meth c s.heap [] 0 0 (MQ below (va_Qv (fun _ : Unit => True) (fun _ _ => True) (fun _ => False)) [Value.int k, Value.int 12].toArray s 0 0 (fun _ => False)) (F0 m 2 ls [.int 12, .int k]) := fun v hvv hZ => by
    refine va_gets hx hb hZ hS hown (hts _ tw_sio) (fun _ h => h) dJ0_checkIndex_df160_2 ?_
    refine va_calli (rest := []) (mc := 0) (ms := 0) (va_runS (As := [.int k, .int 12, v]) ⟨hx, hb, hml, hown, hts⟩ (tx_pre l hk hvv) ⟨callB_of 3 hts (qzGood tw_cPK) rfl rfl rfl (hts _ tw_RJ3) (hts _ tw_l1059) (by decide +kernel) ⟨by decide, by decide⟩, hts _ tw_sPK⟩ ⟨fun a U g mk q => ⟨q.1, trivial⟩, fun U hU hW => ⟨rfl, trivial⟩⟩ rfl rfl hl.1 rfl (lv_room (Nat.le_of_ble_eq_true rfl)) dJ0_checkIndex_df160_5 ⟨Nat.zero_le _, Nat.zero_le _⟩) hS (fun q _ z => z.elim) (fun q z => z.elim) (fun r u t H1 locs1 _ _ hre _ hsz hk1 hS1 => ?_)
    refine lv_pop hx hb dJ0_checkIndex_df160_8 rfl ?_
    exact W.vret hx hb hr (fun t ht hW => ⟨⟨(), rfl, trivial, trivial⟩, tx_F hS1 ht⟩) hS1.2.2 dJ0_checkIndex_df160_9 hlk
  rcases hQ with hZ | ⟨t, hZ⟩
  · exact key .null (Or.inl rfl) hZ
  · exact key (.ref t) (Or.inr ⟨t, rfl⟩) hZ
set_option maxHeartbeats 4000000 in
theorem tx_c1 (l : Launch) (z0 : Nat) (S : Nat → Nat) (aV : Nat) {k : Int32} (hk : qzIn k 12 = true) : Met l yJ1_charAt_3b067 (Cond.code yJ1_charAt_3b067 cJ1_charAt_3b067 2 (some .char) :: qzWs) (qzRa 3) (va_Pc [.ref aV, .int k] (fun U => qzTp z0 S U ∧ va_T .byte aV 12 (fun j => .int (qzTxt.getD j 0)) (fun _ => False) U U.heap)) (va_Qi (fun (r : Int32) (_ : Unit) => r = qzCh k.toNatClampNeg) (fun _ _ => True) (fun _ => False)) 0 0 (fun _ => False) := by
  refine Met.ofW (cc := cJ1_charAt_3b067) (maxL := 2) (ret := (some .char)) (by decide) rfl ?_
  intro p e s m args below meth c s₁ B hml hv
  have hx := B.exec
  have hb := B.bytes
  have hr := B.returns
  have hts0 := atoms_spec B.pre
  have hts : ∀ w ∈ qzWs, w.before args s = true := fun w hw => hts0 w (List.mem_cons_of_mem _ hw)
  have hown : s.vm.findClass RJ1 = some m.cls := findClass_of_methodNamed B.named
  have hlk := B.notSynchronized
  have hS : va_S (fun _ => False) s.heap s.heap [] := va_S.rf
  rw [lg_entry_eq]
  obtain ⟨rfl, hTp, hT⟩ := hv
  have hSt := hTp.1
  obtain ⟨h12a, h12b⟩ := qzIn_12' hk
  have hl := lv_entry ([.ref aV, .int k]) (n := 2) (Nat.le_of_ble_eq_true rfl)
  generalize (lg_sl ([.ref aV, .int k]) ++ List.replicate (2 - (lg_sl ([.ref aV, .int k])).length) Slot.unset).toArray = ls at hl ⊢
  have hl : lv_has ls 2 [(0, .ref aV), (1, .int k)] := hl
  refine lv_iload_n hx hb dJ1_charAt_3b067_0 rfl (lv_at hl 1 rfl) ?_
  refine lv_aload_n hx hb dJ1_charAt_3b067_1 rfl (lv_at hl 0 rfl) ?_
  refine va_tlen hx hb hT hS (v := 12) rfl dJ1_charAt_3b067_2 ?_
  refine va_callv (rest := []) (mc := 0) (ms := 0) (va_runS (As := [.int k, .int 12]) ⟨hx, hb, hml, hown, hts⟩ (tx_chk l z0 S hk) ⟨callB_of 2 hts (qzGood tw_cCK) rfl rfl rfl (hts _ qzs_str) (hts _ tw_l9) (by decide +kernel) ⟨by decide, by decide⟩, hts _ tw_sCK⟩ ⟨fun a U g mk q => ⟨q.1, qzSt.same (s := U) (U := U.calling g mk a) rfl q.2.1, q.2.2⟩, fun U hU hW => ⟨rfl, ⟨hSt.now hTp.2 va_S.rf hU hW, by rw [hU]; exact hTp.2⟩⟩⟩ rfl rfl hl.1 rfl (lv_room (Nat.le_of_ble_eq_true rfl)) dJ1_charAt_3b067_3 ⟨Nat.zero_le _, Nat.zero_le _⟩) hS (fun q _ z => z.elim) (fun q z => z.elim) (fun u t H1 locs1 _ _ _ _ hsz hk1 hS => ?_)
  refine lv_aload_n hx hb dJ1_charAt_3b067_6 rfl (lv_at hl 0 rfl) ?_
  refine lv_iload_n hx hb dJ1_charAt_3b067_7 rfl (lv_at hl 1 rfl) ?_
  refine va_tb hx hb hT hS (v := .int (qzTxt.getD k.toNatClampNeg 0)) h12a rfl dJ1_charAt_3b067_8 ?_
  refine lv_sipush (v := 255) hx hb dJ1_charAt_3b067_9 (by decide) ?_
  refine lv_iand hx hb dJ1_charAt_3b067_12 ?_
  refine lv_i2c (v := qzCh k.toNatClampNeg) hx hb dJ1_charAt_3b067_13 (tx_ch _ h12b) ?_
  exact W.zret (v := qzCh k.toNatClampNeg) hx hb hr (tx_nar _) (fun t ht hW => ⟨⟨qzCh k.toNatClampNeg, (), rfl, rfl, trivial⟩, tx_F hS ht⟩) hS.2.2 dJ1_charAt_3b067_14 hlk
set_option maxHeartbeats 4000000 in
theorem tx_len (l : Launch) (z0 : Nat) (S : Nat → Nat) : Met l yJ0_length_8abf5 (Cond.code yJ0_length_8abf5 cJ0_length_8abf5 1 (some .int) :: qzWs) qzRt (va_Pc [.ref (S 3)] (qzTp z0 S)) (va_Qi (fun (r : Int32) (_ : Unit) => r = 12) (fun _ _ => True) (fun _ => False)) 0 0 (fun _ => False) := by
  refine Met.ofW (cc := cJ0_length_8abf5) (maxL := 1) (ret := (some .int)) (by decide) rfl ?_
  intro p e s m args below meth c s₁ B hml hv
  have hx := B.exec
  have hb := B.bytes
  have hr := B.returns
  have hts0 := atoms_spec B.pre
  have hts : ∀ w ∈ qzWs, w.before args s = true := fun w hw => hts0 w (List.mem_cons_of_mem _ hw)
  have hown : s.vm.findClass RJ0 = some m.cls := findClass_of_methodNamed B.named
  have hlk := B.notSynchronized
  have hS : va_S (fun _ => False) s.heap s.heap [] := va_S.rf
  rw [lg_entry_eq]
  obtain ⟨rfl, hTp⟩ := hv
  have hSt := hTp.1
  obtain ⟨adV, hV⟩ := hSt.2.2.2.2.2.1
  have hE := (hV.narrow (B := fun _ => False) (fun _ z => z.elim)).1 0 (by decide)
  have hC := hSt.2.2.2.2.2.2.1.narrow (B := fun _ => False) (fun _ z => z.elim)
  have hcell : ∃ cell : Cell, s.heap[S 3]? = some cell ∧ cell.vm.isStatics = false ∧ s.vm.findClass RJ0 = some cell.cls := by
    obtain ⟨cell, q1, q2, q3, -⟩ := hE.1
    exact ⟨cell, q1, q2, q3⟩
  have hl := lv_entry ([.ref (S 3)]) (n := 1) (Nat.le_of_ble_eq_true rfl)
  generalize (lg_sl ([.ref (S 3)]) ++ List.replicate (1 - (lg_sl ([.ref (S 3)])).length) Slot.unset).toArray = ls at hl ⊢
  have hl : lv_has ls 1 [(0, .ref (S 3))] := hl
  refine lv_aload_n hx hb dJ0_length_8abf5_0 rfl (lv_at hl 0 rfl) ?_
  refine vk_getf hx hb hE.2.2.1 hS hown (hts _ tw_val) (fun _ h => h) dJ0_length_8abf5_1 ?_
  refine va_tlen hx hb hE.2.2.2 hS (v := 12) rfl dJ0_length_8abf5_4 ?_
  refine lv_aload_n hx hb dJ0_length_8abf5_5 rfl (lv_at hl 0 rfl) ?_
  refine va_calli (rest := [.int 12]) (mc := 0) (ms := 0) (va_runV (As := []) (C := RJ0) ⟨hx, hb, hml, hown, hts⟩ (tx_coder l z0 S) ⟨callB_of 0 hts (qzGood tw_cCO) rfl rfl rfl (hts _ qzs_str) (hts _ tw_l335) (by decide +kernel) ⟨by decide, by decide⟩, hts _ tw_iCO, hts _ tw_iCOs⟩ ⟨fun a U g mk q => ⟨q.1, qzSt.same (s := U) (U := U.calling g mk a) rfl q.2.1, q.2.2⟩, hcell, fun U hU hW => ⟨rfl, ⟨hSt.now hTp.2 va_S.rf hU hW, by rw [hU]; exact hTp.2⟩⟩⟩ rfl rfl hl.1 rfl (lv_room (Nat.le_of_ble_eq_true rfl)) dJ0_length_8abf5_6 ⟨Nat.zero_le _, Nat.zero_le _⟩) hS (fun q _ z => z.elim) (fun q z => z.elim) (fun r u t H1 locs1 _ _ hre _ hsz hk1 hS => ?_)
  subst hre
  refine lv_ishr hx hb dJ0_length_8abf5_9 ?_
  exact W.iret (v := (12 : Int32) >>> ((0 : Int32) &&& 31)) hx hb hr (fun t ht hW => ⟨⟨(12 : Int32) >>> ((0 : Int32) &&& 31), (), rfl, by decide, trivial⟩, tx_F hS ht⟩) hS.2.2 dJ0_length_8abf5_10 hlk
set_option maxHeartbeats 4000000 in
theorem tx_cha (l : Launch) (z0 : Nat) (S : Nat → Nat) {k : Int32} (hk : qzIn k 12 = true) : Met l yJ0_charAt_5068e (Cond.code yJ0_charAt_5068e cJ0_charAt_5068e 2 (some .char) :: qzWs) qzRt (va_Pc [.ref (S 3), .int k] (qzTp z0 S)) (va_Qi (fun (r : Int32) (_ : Unit) => r = qzCh k.toNatClampNeg) (fun _ _ => True) (fun _ => False)) 0 0 (fun _ => False) := by
  refine Met.ofW (cc := cJ0_charAt_5068e) (maxL := 2) (ret := (some .char)) (by decide) rfl ?_
  intro p e s m args below meth c s₁ B hml hv
  have hx := B.exec
  have hb := B.bytes
  have hr := B.returns
  have hts0 := atoms_spec B.pre
  have hts : ∀ w ∈ qzWs, w.before args s = true := fun w hw => hts0 w (List.mem_cons_of_mem _ hw)
  have hown : s.vm.findClass RJ0 = some m.cls := findClass_of_methodNamed B.named
  have hlk := B.notSynchronized
  have hS : va_S (fun _ => False) s.heap s.heap [] := va_S.rf
  rw [lg_entry_eq]
  obtain ⟨rfl, hTp⟩ := hv
  have hSt := hTp.1
  obtain ⟨adV, hV⟩ := hSt.2.2.2.2.2.1
  have hE := (hV.narrow (B := fun _ => False) (fun _ z => z.elim)).1 0 (by decide)
  have hC := hSt.2.2.2.2.2.2.1.narrow (B := fun _ => False) (fun _ z => z.elim)
  have hcell : ∃ cell : Cell, s.heap[S 3]? = some cell ∧ cell.vm.isStatics = false ∧ s.vm.findClass RJ0 = some cell.cls := by
    obtain ⟨cell, q1, q2, q3, -⟩ := hE.1
    exact ⟨cell, q1, q2, q3⟩
  have hl := lv_entry ([.ref (S 3), .int k]) (n := 2) (Nat.le_of_ble_eq_true rfl)
  generalize (lg_sl ([.ref (S 3), .int k]) ++ List.replicate (2 - (lg_sl ([.ref (S 3), .int k])).length) Slot.unset).toArray = ls at hl ⊢
  have hl : lv_has ls 2 [(0, .ref (S 3)), (1, .int k)] := hl
  refine lv_aload_n hx hb dJ0_charAt_5068e_0 rfl (lv_at hl 0 rfl) ?_
  refine va_calli (rest := []) (mc := 0) (ms := 0) (va_runV (As := []) (C := RJ0) ⟨hx, hb, hml, hown, hts⟩ (tx_lat l z0 S) ⟨callB_of 0 hts (qzGood tw_cIL) rfl rfl rfl (hts _ qzs_str) (hts _ tw_l492) (by decide +kernel) ⟨by decide, by decide⟩, hts _ tw_iIL, hts _ tw_iILs⟩ ⟨fun a U g mk q => ⟨q.1, qzSt.same (s := U) (U := U.calling g mk a) rfl q.2.1, q.2.2⟩, hcell, fun U hU hW => ⟨rfl, ⟨hSt.now hTp.2 va_S.rf hU hW, by rw [hU]; exact hTp.2⟩⟩⟩ rfl rfl hl.1 rfl (lv_room (Nat.le_of_ble_eq_true rfl)) dJ0_charAt_5068e_1 ⟨Nat.zero_le _, Nat.zero_le _⟩) hS (fun q _ z => z.elim) (fun q z => z.elim) (fun r u t H1 locs1 _ _ hre _ hsz hk1 hS => ?_)
  subst hre
  refine lv_if_eq (tgt := 16) hx hb dJ0_charAt_5068e_4 (by decide) (fun c_1 => absurd c_1 (by decide)) (fun _ => ?_)
  refine lv_aload_n hx hb dJ0_charAt_5068e_7 rfl (lv_at hl 0 rfl) ?_
  refine vk_getf hx hb hE.2.2.1 hS hown (hts _ tw_val) (fun _ h => h) dJ0_charAt_5068e_8 ?_
  refine lv_iload_n hx hb dJ0_charAt_5068e_11 rfl (lv_at hl 1 rfl) ?_
  refine va_calli (rest := []) (mc := 0) (ms := 0) (va_runS (As := [.ref (adV 0), .int k]) ⟨hx, hb, hml, hown, hts⟩ (tx_c1 l z0 S (adV 0) hk) ⟨callB_of 2 hts (qzGood tw_cC1) rfl rfl rfl (hts _ tw_RJ1) (hts _ tw_l495) (by decide +kernel) ⟨by decide, by decide⟩, hts _ tw_sC1⟩ ⟨fun a U g mk q => ⟨q.1, ⟨qzSt.same (s := U) (U := U.calling g mk a) rfl q.2.1.1, q.2.1.2⟩, va_T.moved (u := U) (U := U.calling g mk a) (Vm.Alike.refl U.vm) q.2.2⟩, fun U hU hW => ⟨rfl, ⟨⟨hSt.now hTp.2 (tx_wk hS) hU hW, by rw [hU]; exact Nat.le_trans hTp.2 hS.1⟩, by rw [hU]; exact va_T.moved hW.alike (hE.2.2.2.kept hS.2.1)⟩⟩⟩ rfl rfl hl.1 rfl (lv_room (Nat.le_of_ble_eq_true rfl)) dJ0_charAt_5068e_12 ⟨Nat.zero_le _, Nat.zero_le _⟩) hS (fun q _ z => z.elim) (fun q z => z.elim) (fun r u t H1 locs1 _ _ hre _ hsz hk1 hS => ?_)
  subst hre
  exact W.zret (v := qzCh k.toNatClampNeg) hx hb hr (tx_nar _) (fun t ht hW => ⟨⟨qzCh k.toNatClampNeg, (), rfl, rfl, trivial⟩, tx_F hS ht⟩) hS.2.2 dJ0_charAt_5068e_15 hlk
theorem qzTx_all (l : Launch) : qzTx l := fun z0 S => ⟨tx_len l z0 S, fun _ hk => tx_cha l z0 S hk⟩
