/-- the words that every contract of the interpreter stands on -/
def qzWs : List Cond := lw_tbl.filter goodWord
theorem qzWs_in {w : Cond} (i : Nat) (h : lw_tbl[i]? = some w) (hg : goodWord w = true) : w ∈ qzWs := List.mem_filter.mpr ⟨List.mem_of_getElem? h, hg⟩
theorem qzWs_good : GoodIn qzWs qzWs := fun w hw => ⟨hw, good_of_word (List.mem_filter.mp hw).2⟩
theorem qzWs_sub : ∀ w ∈ qzWs, w ∈ lw_tbl := fun _ hw => (List.mem_filter.mp hw).1
theorem qzWs_i1 {w : Cond} (i : Nat) (h : tables_1_1[i]? = some w) (hg : goodWord w = true) : w ∈ qzWs := List.mem_filter.mpr ⟨List.mem_append_right _ (List.mem_append_left _ (List.mem_of_getElem? h)), hg⟩
theorem qzWs_i2 {w : Cond} (i : Nat) (h : tables_1_2[i]? = some w) (hg : goodWord w = true) : w ∈ qzWs := List.mem_filter.mpr ⟨List.mem_append_right _ (List.mem_append_right _ (List.mem_append_left _ (List.mem_of_getElem? h))), hg⟩
theorem qzWs_i3 {w : Cond} (i : Nat) (h : tables_1_3[i]? = some w) (hg : goodWord w = true) : w ∈ qzWs := List.mem_filter.mpr ⟨List.mem_append_right _ (List.mem_append_right _ (List.mem_append_right _ (List.mem_append_left _ (List.mem_of_getElem? h)))), hg⟩
theorem qzWs_i4 {w : Cond} (i : Nat) (h : tables_1_4[i]? = some w) (hg : goodWord w = true) : w ∈ qzWs := List.mem_filter.mpr ⟨List.mem_append_right _ (List.mem_append_right _ (List.mem_append_right _ (List.mem_append_right _ (List.mem_of_getElem? h)))), hg⟩
theorem qpl_J7 : plainName RJ7 = true := by decide +kernel
theorem qna_J7 : RJ7 ≠ "java/lang/invoke/MethodHandle" := by decide +kernel
theorem qnb_J7 : RJ7 ≠ "java/lang/invoke/VarHandle" := by decide +kernel
theorem qpl_X0 : plainName RX0 = true := by decide +kernel
theorem qna_X0 : RX0 ≠ "java/lang/invoke/MethodHandle" := by decide +kernel
theorem qnb_X0 : RX0 ≠ "java/lang/invoke/VarHandle" := by decide +kernel
theorem qpl_X1 : plainName RX1 = true := by decide +kernel
theorem qna_X1 : RX1 ≠ "java/lang/invoke/MethodHandle" := by decide +kernel
theorem qnb_X1 : RX1 ≠ "java/lang/invoke/VarHandle" := by decide +kernel
theorem qpl_X2 : plainName RX2 = true := by decide +kernel
theorem qna_X2 : RX2 ≠ "java/lang/invoke/MethodHandle" := by decide +kernel
theorem qnb_X2 : RX2 ≠ "java/lang/invoke/VarHandle" := by decide +kernel
theorem qpl_X3 : plainName RX3 = true := by decide +kernel
theorem qna_X3 : RX3 ≠ "java/lang/invoke/MethodHandle" := by decide +kernel
theorem qnb_X3 : RX3 ≠ "java/lang/invoke/VarHandle" := by decide +kernel
theorem qpd_0 : (parseMethodDescriptor "()V").map (fun d => d.parameters.length) = some 0 := by decide +kernel
theorem qpd_1 : (parseMethodDescriptor "(LBoltTailors$Game;)V").map (fun d => d.parameters.length) = some 1 := by decide +kernel
theorem qpd_2 : (parseMethodDescriptor "()I").map (fun d => d.parameters.length) = some 0 := by decide +kernel
theorem qpd_3 : (parseMethodDescriptor "()Z").map (fun d => d.parameters.length) = some 0 := by decide +kernel
theorem qpd_4 : (parseMethodDescriptor "(I)I").map (fun d => d.parameters.length) = some 1 := by decide +kernel
theorem qpd_5 : (parseMethodDescriptor "([II)I").map (fun d => d.parameters.length) = some 2 := by decide +kernel
theorem qpd_6 : (parseMethodDescriptor "(II)I").map (fun d => d.parameters.length) = some 2 := by decide +kernel
theorem qpd_7 : (parseMethodDescriptor "(LBoltTailors$Game;)Z").map (fun d => d.parameters.length) = some 1 := by decide +kernel
theorem qpd_8 : (parseMethodDescriptor "(IIII)I").map (fun d => d.parameters.length) = some 4 := by decide +kernel
theorem qpd_9 : (parseMethodDescriptor "(IIIII)V").map (fun d => d.parameters.length) = some 5 := by decide +kernel
theorem qpd_10 : (parseMethodDescriptor "(IZ)I").map (fun d => d.parameters.length) = some 2 := by decide +kernel
theorem qpd_11 : (parseMethodDescriptor "(III)I").map (fun d => d.parameters.length) = some 3 := by decide +kernel
theorem qpd_12 : (parseMethodDescriptor "()D").map (fun d => d.parameters.length) = some 0 := by decide +kernel
theorem qpd_13 : (parseMethodDescriptor "(I)LBoltTailors$Game;").map (fun d => d.parameters.length) = some 1 := by decide +kernel
theorem qpd_14 : (parseMethodDescriptor "(I)Z").map (fun d => d.parameters.length) = some 1 := by decide +kernel
theorem qpd_15 : (parseMethodDescriptor "(LBoltTailors$Game;I)I").map (fun d => d.parameters.length) = some 2 := by decide +kernel
theorem qpd_16 : (parseMethodDescriptor "(LBoltTailors$Game;)I").map (fun d => d.parameters.length) = some 1 := by decide +kernel
theorem qpd_17 : (parseMethodDescriptor "(LBoltTailors$Leads;II)V").map (fun d => d.parameters.length) = some 3 := by decide +kernel
theorem qpd_18 : (parseMethodDescriptor "(LBoltTailors$Leads;III)V").map (fun d => d.parameters.length) = some 4 := by decide +kernel
theorem qpd_19 : (parseMethodDescriptor "(LBoltTailors$Leads;IIIII)I").map (fun d => d.parameters.length) = some 6 := by decide +kernel
theorem qpd_20 : (parseMethodDescriptor "(LBoltTailors$Leads;IIIIII)I").map (fun d => d.parameters.length) = some 7 := by decide +kernel
theorem qpd_21 : (parseMethodDescriptor "([IIII)I").map (fun d => d.parameters.length) = some 4 := by decide +kernel
theorem qpd_22 : (parseMethodDescriptor "(II[I)I").map (fun d => d.parameters.length) = some 3 := by decide +kernel
theorem qpd_23 : (parseMethodDescriptor "([III)Z").map (fun d => d.parameters.length) = some 3 := by decide +kernel
theorem qpd_24 : (parseMethodDescriptor "(I)C").map (fun d => d.parameters.length) = some 1 := by decide +kernel
theorem qpd_25 : (parseMethodDescriptor "(C)Z").map (fun d => d.parameters.length) = some 1 := by decide +kernel
theorem qpd_26 : (parseMethodDescriptor "(I)V").map (fun d => d.parameters.length) = some 1 := by decide +kernel
theorem qpd_27 : (parseMethodDescriptor "(III)V").map (fun d => d.parameters.length) = some 3 := by decide +kernel
theorem qpd_28 : (parseMethodDescriptor "([III)V").map (fun d => d.parameters.length) = some 3 := by decide +kernel
theorem qpd_29 : (parseMethodDescriptor "(III)Z").map (fun d => d.parameters.length) = some 3 := by decide +kernel
theorem qpd_30 : (parseMethodDescriptor "([II[II)V").map (fun d => d.parameters.length) = some 4 := by decide +kernel
theorem qpd_31 : (parseMethodDescriptor "(IIIZ)I").map (fun d => d.parameters.length) = some 4 := by decide +kernel
theorem qpd_32 : (parseMethodDescriptor "(II)Z").map (fun d => d.parameters.length) = some 2 := by decide +kernel
theorem qpd_33 : (parseMethodDescriptor "(IIIIIZ)I").map (fun d => d.parameters.length) = some 6 := by decide +kernel
theorem qpd_34 : (parseMethodDescriptor "(IIII)V").map (fun d => d.parameters.length) = some 4 := by decide +kernel
theorem qpd_35 : (parseMethodDescriptor "(Z)I").map (fun d => d.parameters.length) = some 1 := by decide +kernel
theorem qpd_36 : (parseMethodDescriptor "(Z)V").map (fun d => d.parameters.length) = some 1 := by decide +kernel
theorem qpd_37 : (parseMethodDescriptor "([II)V").map (fun d => d.parameters.length) = some 2 := by decide +kernel
/-- what the tables say of a method -/
def qzPm (md : qzMT) : Prop := plainName md.1.cls = true ∧ Cond.code md.1 md.2.1 md.2.2.1 md.2.2.2.1 ∈ qzWs ∧ Cond.initialized md.1.cls ∈ qzWs ∧ (md.1.cls ≠ "java/lang/invoke/MethodHandle" ∧ md.1.cls ≠ "java/lang/invoke/VarHandle" ∧ (parseMethodDescriptor md.1.desc).map (fun d => d.parameters.length) = some md.2.2.2.2.2.1) ∧ (md.2.2.1 ≤ 41 ∧ md.2.2.2.2.2.1 + (if md.2.2.2.2.1 = 0 then 0 else 1) ≤ md.2.2.1 ∧ md.1.cls = qzRs md.2.2.2.2.2.2) ∧
  (md.2.2.2.2.1 = 0 → Cond.static md.1 ∈ qzWs) ∧ (md.2.2.2.2.1 = 1 → Cond.instanceMethod md.1 ∈ qzWs ∧ Cond.selects md.1.cls md.1 md.1 ∈ qzWs) ∧ (md.2.2.2.2.1 = 2 → md.1.name = "<init>" ∧ Cond.instanceMethod md.1 ∈ qzWs ∧ md.2.2.2.1 = none)
set_option maxRecDepth 1000000 in
theorem qzi_RX2 : Cond.initialized RX2 ∈ qzWs := qzWs_i1 1 rfl rfl
set_option maxRecDepth 1000000 in
theorem qzi_RX0 : Cond.initialized RX0 ∈ qzWs := qzWs_i1 2 rfl rfl
set_option maxRecDepth 1000000 in
theorem qzi_RX1 : Cond.initialized RX1 ∈ qzWs := qzWs_i1 7 rfl rfl
set_option maxRecDepth 1000000 in
theorem qzi_RX3 : Cond.initialized RX3 ∈ qzWs := qzWs_i1 8 rfl rfl
set_option maxRecDepth 1000000 in
theorem qzi_RJ7 : Cond.initialized RJ7 ∈ qzWs := qzWs_i1 11 rfl rfl
set_option maxRecDepth 1000000 in
theorem qzm_0 : qzPm (yX0_init, cX0_init, 2, none, 2, 0, 0) := ⟨qpl_X0, qzWs_i1 24 rfl rfl, qzi_RX0, ⟨qna_X0, qnb_X0, qpd_0⟩, ⟨by decide, by decide, rfl⟩, (fun h => absurd h (by decide)), (fun h => absurd h (by decide)), (fun _ => ⟨rfl, qzWs_i1 23 rfl rfl, rfl⟩)⟩
set_option maxRecDepth 1000000 in
theorem qzm_1 : qzPm (yX0_copyFrom, cX0_copyFrom, 2, none, 1, 1, 0) := ⟨qpl_X0, qzWs_i1 217 rfl rfl, qzi_RX0, ⟨qna_X0, qnb_X0, qpd_1⟩, ⟨by decide, by decide, rfl⟩, (fun h => absurd h (by decide)), (fun _ => ⟨qzWs_i1 215 rfl rfl, qzWs_i1 216 rfl rfl⟩), (fun h => absurd h (by decide))⟩
set_option maxRecDepth 1000000 in
theorem qzm_2 : qzPm (yX0_begin, cX0_begin, 1, none, 1, 0, 0) := ⟨qpl_X0, qzWs_i2 98 rfl rfl, qzi_RX0, ⟨qna_X0, qnb_X0, qpd_0⟩, ⟨by decide, by decide, rfl⟩, (fun h => absurd h (by decide)), (fun _ => ⟨qzWs_i2 96 rfl rfl, qzWs_i2 97 rfl rfl⟩), (fun h => absurd h (by decide))⟩
set_option maxRecDepth 1000000 in
theorem qzm_3 : qzPm (yX0_remaining, cX0_remaining, 1, (some .int), 1, 0, 0) := ⟨qpl_X0, qzWs_i1 198 rfl rfl, qzi_RX0, ⟨qna_X0, qnb_X0, qpd_2⟩, ⟨by decide, by decide, rfl⟩, (fun h => absurd h (by decide)), (fun _ => ⟨qzWs_i1 196 rfl rfl, qzWs_i1 197 rfl rfl⟩), (fun h => absurd h (by decide))⟩
set_option maxRecDepth 1000000 in
theorem qzm_4 : qzPm (yX0_isOver, cX0_isOver, 1, (some .boolean), 1, 0, 0) := ⟨qpl_X0, qzWs_i2 210 rfl rfl, qzi_RX0, ⟨qna_X0, qnb_X0, qpd_3⟩, ⟨by decide, by decide, rfl⟩, (fun h => absurd h (by decide)), (fun _ => ⟨qzWs_i2 208 rfl rfl, qzWs_i2 209 rfl rfl⟩), (fun h => absurd h (by decide))⟩
set_option maxRecDepth 1000000 in
theorem qzm_5 : qzPm (yX0_onTurn, cX0_onTurn, 1, (some .int), 1, 0, 0) := ⟨qpl_X0, qzWs_i2 1 rfl rfl, qzi_RX0, ⟨qna_X0, qnb_X0, qpd_2⟩, ⟨by decide, by decide, rfl⟩, (fun h => absurd h (by decide)), (fun _ => ⟨qzWs_i1 239 rfl rfl, qzWs_i2 0 rfl rfl⟩), (fun h => absurd h (by decide))⟩
set_option maxRecDepth 1000000 in
theorem qzm_6 : qzPm (yX0_longestCut, cX0_longestCut, 1, (some .int), 1, 0, 0) := ⟨qpl_X0, qzWs_i1 194 rfl rfl, qzi_RX0, ⟨qna_X0, qnb_X0, qpd_2⟩, ⟨by decide, by decide, rfl⟩, (fun h => absurd h (by decide)), (fun _ => ⟨qzWs_i1 192 rfl rfl, qzWs_i1 193 rfl rfl⟩), (fun h => absurd h (by decide))⟩
set_option maxRecDepth 1000000 in
theorem qzm_7 : qzPm (yX0_worthOfCut, cX0_worthOfCut, 4, (some .int), 1, 1, 0) := ⟨qpl_X0, qzWs_i2 59 rfl rfl, qzi_RX0, ⟨qna_X0, qnb_X0, qpd_4⟩, ⟨by decide, by decide, rfl⟩, (fun h => absurd h (by decide)), (fun _ => ⟨qzWs_i2 57 rfl rfl, qzWs_i2 58 rfl rfl⟩), (fun h => absurd h (by decide))⟩
set_option maxRecDepth 1000000 in
theorem qzm_8 : qzPm (yX0_sew, cX0_sew, 6, (some .int), 1, 1, 0) := ⟨qpl_X0, qzWs_i1 227 rfl rfl, qzi_RX0, ⟨qna_X0, qnb_X0, qpd_4⟩, ⟨by decide, by decide, rfl⟩, (fun h => absurd h (by decide)), (fun _ => ⟨qzWs_i1 225 rfl rfl, qzWs_i1 226 rfl rfl⟩), (fun h => absurd h (by decide))⟩
set_option maxRecDepth 1000000 in
theorem qzm_9 : qzPm (yX0_turnRound, cX0_turnRound, 5, (some .int), 1, 0, 0) := ⟨qpl_X0, qzWs_i2 106 rfl rfl, qzi_RX0, ⟨qna_X0, qnb_X0, qpd_2⟩, ⟨by decide, by decide, rfl⟩, (fun h => absurd h (by decide)), (fun _ => ⟨qzWs_i2 104 rfl rfl, qzWs_i2 105 rfl rfl⟩), (fun h => absurd h (by decide))⟩
set_option maxRecDepth 1000000 in
theorem qzm_10 : qzPm (yX0_piecesOf, cX0_piecesOf, 2, (some .int), 1, 1, 0) := ⟨qpl_X0, qzWs_i2 9 rfl rfl, qzi_RX0, ⟨qna_X0, qnb_X0, qpd_4⟩, ⟨by decide, by decide, rfl⟩, (fun h => absurd h (by decide)), (fun _ => ⟨qzWs_i2 7 rfl rfl, qzWs_i2 8 rfl rfl⟩), (fun h => absurd h (by decide))⟩
set_option maxRecDepth 1000000 in
theorem qzm_11 : qzPm (yX0_endOfCoat, cX0_endOfCoat, 4, (some .int), 1, 1, 0) := ⟨qpl_X0, qzWs_i2 5 rfl rfl, qzi_RX0, ⟨qna_X0, qnb_X0, qpd_4⟩, ⟨by decide, by decide, rfl⟩, (fun h => absurd h (by decide)), (fun _ => ⟨qzWs_i2 3 rfl rfl, qzWs_i2 4 rfl rfl⟩), (fun h => absurd h (by decide))⟩
set_option maxRecDepth 1000000 in
theorem qzm_12 : qzPm (yX0_sumOfCoat, cX0_sumOfCoat, 5, (some .int), 1, 2, 0) := ⟨qpl_X0, qzWs_i2 193 rfl rfl, qzi_RX0, ⟨qna_X0, qnb_X0, qpd_5⟩, ⟨by decide, by decide, rfl⟩, (fun h => absurd h (by decide)), (fun _ => ⟨qzWs_i2 191 rfl rfl, qzWs_i2 192 rfl rfl⟩), (fun h => absurd h (by decide))⟩
set_option maxRecDepth 1000000 in
theorem qzm_13 : qzPm (yX0_piecesWith, cX0_piecesWith, 5, (some .int), 1, 2, 0) := ⟨qpl_X0, qzWs_i2 198 rfl rfl, qzi_RX0, ⟨qna_X0, qnb_X0, qpd_6⟩, ⟨by decide, by decide, rfl⟩, (fun h => absurd h (by decide)), (fun _ => ⟨qzWs_i2 196 rfl rfl, qzWs_i2 197 rfl rfl⟩), (fun h => absurd h (by decide))⟩
set_option maxRecDepth 1000000 in
theorem qzm_14 : qzPm (yX0_colourChanges, cX0_colourChanges, 3, (some .int), 1, 0, 0) := ⟨qpl_X0, qzWs_i2 215 rfl rfl, qzi_RX0, ⟨qna_X0, qnb_X0, qpd_2⟩, ⟨by decide, by decide, rfl⟩, (fun h => absurd h (by decide)), (fun _ => ⟨qzWs_i2 213 rfl rfl, qzWs_i2 214 rfl rfl⟩), (fun h => absurd h (by decide))⟩
set_option maxRecDepth 1000000 in
theorem qzm_15 : qzPm (yX0_stripesLeftOf, cX0_stripesLeftOf, 4, (some .int), 1, 1, 0) := ⟨qpl_X0, qzWs_i2 223 rfl rfl, qzi_RX0, ⟨qna_X0, qnb_X0, qpd_4⟩, ⟨by decide, by decide, rfl⟩, (fun h => absurd h (by decide)), (fun _ => ⟨qzWs_i2 221 rfl rfl, qzWs_i2 222 rfl rfl⟩), (fun h => absurd h (by decide))⟩
set_option maxRecDepth 1000000 in
theorem qzm_16 : qzPm (yX0_coloursLeft, cX0_coloursLeft, 3, (some .int), 1, 0, 0) := ⟨qpl_X0, qzWs_i2 219 rfl rfl, qzi_RX0, ⟨qna_X0, qnb_X0, qpd_2⟩, ⟨by decide, by decide, rfl⟩, (fun h => absurd h (by decide)), (fun _ => ⟨qzWs_i2 217 rfl rfl, qzWs_i2 218 rfl rfl⟩), (fun h => absurd h (by decide))⟩
set_option maxRecDepth 1000000 in
theorem qzm_17 : qzPm (yX0_longestFold, cX0_longestFold, 3, (some .int), 1, 0, 0) := ⟨qpl_X0, qzWs_i2 227 rfl rfl, qzi_RX0, ⟨qna_X0, qnb_X0, qpd_2⟩, ⟨by decide, by decide, rfl⟩, (fun h => absurd h (by decide)), (fun _ => ⟨qzWs_i2 225 rfl rfl, qzWs_i2 226 rfl rfl⟩), (fun h => absurd h (by decide))⟩
set_option maxRecDepth 1000000 in
theorem qzm_18 : qzPm (yX1_init, cX1_init, 1, none, 2, 0, 1) := ⟨qpl_X1, qzWs_i1 134 rfl rfl, qzi_RX1, ⟨qna_X1, qnb_X1, qpd_0⟩, ⟨by decide, by decide, rfl⟩, (fun h => absurd h (by decide)), (fun h => absurd h (by decide)), (fun _ => ⟨rfl, qzWs_i1 133 rfl rfl, rfl⟩)⟩
set_option maxRecDepth 1000000 in
theorem qzm_19 : qzPm (yX1_fitTo, cX1_fitTo, 2, none, 1, 1, 1) := ⟨qpl_X1, qzWs_i2 42 rfl rfl, qzi_RX1, ⟨qna_X1, qnb_X1, qpd_1⟩, ⟨by decide, by decide, rfl⟩, (fun h => absurd h (by decide)), (fun _ => ⟨qzWs_i2 40 rfl rfl, qzWs_i2 41 rfl rfl⟩), (fun h => absurd h (by decide))⟩
set_option maxRecDepth 1000000 in
theorem qzm_20 : qzPm (yX1_isFor, cX1_isFor, 4, (some .boolean), 1, 1, 1) := ⟨qpl_X1, qzWs_i2 46 rfl rfl, qzi_RX1, ⟨qna_X1, qnb_X1, qpd_7⟩, ⟨by decide, by decide, rfl⟩, (fun h => absurd h (by decide)), (fun _ => ⟨qzWs_i2 44 rfl rfl, qzWs_i2 45 rfl rfl⟩), (fun h => absurd h (by decide))⟩
set_option maxRecDepth 1000000 in
theorem qzm_21 : qzPm (yX1_told, cX1_told, 5, (some .int), 1, 4, 1) := ⟨qpl_X1, qzWs_i2 74 rfl rfl, qzi_RX1, ⟨qna_X1, qnb_X1, qpd_8⟩, ⟨by decide, by decide, rfl⟩, (fun h => absurd h (by decide)), (fun _ => ⟨qzWs_i2 72 rfl rfl, qzWs_i2 73 rfl rfl⟩), (fun h => absurd h (by decide))⟩
set_option maxRecDepth 1000000 in
theorem qzm_22 : qzPm (yX1_keep, cX1_keep, 6, none, 1, 5, 1) := ⟨qpl_X1, qzWs_i2 85 rfl rfl, qzi_RX1, ⟨qna_X1, qnb_X1, qpd_9⟩, ⟨by decide, by decide, rfl⟩, (fun h => absurd h (by decide)), (fun _ => ⟨qzWs_i2 83 rfl rfl, qzWs_i2 84 rfl rfl⟩), (fun h => absurd h (by decide))⟩
set_option maxRecDepth 1000000 in
theorem qzm_23 : qzPm (yX1_place, cX1_place, 4, (some .int), 0, 4, 1) := ⟨qpl_X1, qzWs_i2 77 rfl rfl, qzi_RX1, ⟨qna_X1, qnb_X1, qpd_8⟩, ⟨by decide, by decide, rfl⟩, (fun _ => qzWs_i2 76 rfl rfl), (fun h => absurd h (by decide)), (fun h => absurd h (by decide))⟩
set_option maxRecDepth 1000000 in
theorem qzm_24 : qzPm (yX2_init, cX2_init, 2, none, 2, 0, 2) := ⟨qpl_X2, qzWs_i1 16 rfl rfl, qzi_RX2, ⟨qna_X2, qnb_X2, qpd_0⟩, ⟨by decide, by decide, rfl⟩, (fun h => absurd h (by decide)), (fun h => absurd h (by decide)), (fun _ => ⟨rfl, qzWs_i1 15 rfl rfl, rfl⟩)⟩
set_option maxRecDepth 1000000 in
theorem qzm_25 : qzPm (yX2_cut, cX2_cut, 4, (some .int), 1, 2, 2) := ⟨qpl_X2, qzWs_i1 186 rfl rfl, qzi_RX2, ⟨qna_X2, qnb_X2, qpd_10⟩, ⟨by decide, by decide, rfl⟩, (fun h => absurd h (by decide)), (fun _ => ⟨qzWs_i1 184 rfl rfl, qzWs_i1 185 rfl rfl⟩), (fun h => absurd h (by decide))⟩
set_option maxRecDepth 1000000 in
theorem qzm_26 : qzPm (yX2_best, cX2_best, 1, (some .int), 1, 0, 2) := ⟨qpl_X2, qzWs_i2 30 rfl rfl, qzi_RX2, ⟨qna_X2, qnb_X2, qpd_2⟩, ⟨by decide, by decide, rfl⟩, (fun h => absurd h (by decide)), (fun _ => ⟨qzWs_i2 28 rfl rfl, qzWs_i2 29 rfl rfl⟩), (fun h => absurd h (by decide))⟩
set_option maxRecDepth 1000000 in
theorem qzm_27 : qzPm (yX2_greedy, cX2_greedy, 1, (some .int), 1, 0, 2) := ⟨qpl_X2, qzWs_i2 90 rfl rfl, qzi_RX2, ⟨qna_X2, qnb_X2, qpd_2⟩, ⟨by decide, by decide, rfl⟩, (fun h => absurd h (by decide)), (fun _ => ⟨qzWs_i2 88 rfl rfl, qzWs_i2 89 rfl rfl⟩), (fun h => absurd h (by decide))⟩
set_option maxRecDepth 1000000 in
theorem qzm_28 : qzPm (yX2_again, cX2_again, 1, (some .int), 1, 0, 2) := ⟨qpl_X2, qzWs_i2 94 rfl rfl, qzi_RX2, ⟨qna_X2, qnb_X2, qpd_2⟩, ⟨by decide, by decide, rfl⟩, (fun h => absurd h (by decide)), (fun _ => ⟨qzWs_i2 92 rfl rfl, qzWs_i2 93 rfl rfl⟩), (fun h => absurd h (by decide))⟩
set_option maxRecDepth 1000000 in
theorem qzm_29 : qzPm (yX2_mirror, cX2_mirror, 1, (some .int), 1, 0, 2) := ⟨qpl_X2, qzWs_i2 102 rfl rfl, qzi_RX2, ⟨qna_X2, qnb_X2, qpd_2⟩, ⟨by decide, by decide, rfl⟩, (fun h => absurd h (by decide)), (fun _ => ⟨qzWs_i2 100 rfl rfl, qzWs_i2 101 rfl rfl⟩), (fun h => absurd h (by decide))⟩
set_option maxRecDepth 1000000 in
theorem qzm_30 : qzPm (yX2_set, cX2_set, 4, (some .int), 1, 2, 2) := ⟨qpl_X2, qzWs_i2 110 rfl rfl, qzi_RX2, ⟨qna_X2, qnb_X2, qpd_6⟩, ⟨by decide, by decide, rfl⟩, (fun h => absurd h (by decide)), (fun _ => ⟨qzWs_i2 108 rfl rfl, qzWs_i2 109 rfl rfl⟩), (fun h => absurd h (by decide))⟩
set_option maxRecDepth 1000000 in
theorem qzm_31 : qzPm (yX2_append, cX2_append, 2, (some .int), 1, 1, 2) := ⟨qpl_X2, qzWs_i2 119 rfl rfl, qzi_RX2, ⟨qna_X2, qnb_X2, qpd_4⟩, ⟨by decide, by decide, rfl⟩, (fun h => absurd h (by decide)), (fun _ => ⟨qzWs_i2 117 rfl rfl, qzWs_i2 118 rfl rfl⟩), (fun h => absurd h (by decide))⟩
set_option maxRecDepth 1000000 in
theorem qzm_32 : qzPm (yX2_clear, cX2_clear, 2, (some .int), 1, 0, 2) := ⟨qpl_X2, qzWs_i2 123 rfl rfl, qzi_RX2, ⟨qna_X2, qnb_X2, qpd_2⟩, ⟨by decide, by decide, rfl⟩, (fun h => absurd h (by decide)), (fun _ => ⟨qzWs_i2 121 rfl rfl, qzWs_i2 122 rfl rfl⟩), (fun h => absurd h (by decide))⟩
set_option maxRecDepth 1000000 in
theorem qzm_33 : qzPm (yX2_fault, cX2_fault, 2, (some .int), 1, 1, 2) := ⟨qpl_X2, qzWs_i2 127 rfl rfl, qzi_RX2, ⟨qna_X2, qnb_X2, qpd_4⟩, ⟨by decide, by decide, rfl⟩, (fun h => absurd h (by decide)), (fun _ => ⟨qzWs_i2 125 rfl rfl, qzWs_i2 126 rfl rfl⟩), (fun h => absurd h (by decide))⟩
set_option maxRecDepth 1000000 in
theorem qzm_34 : qzPm (yX2_load, cX2_load, 2, (some .int), 1, 0, 2) := ⟨qpl_X2, qzWs_i2 162 rfl rfl, qzi_RX2, ⟨qna_X2, qnb_X2, qpd_2⟩, ⟨by decide, by decide, rfl⟩, (fun h => absurd h (by decide)), (fun _ => ⟨qzWs_i2 160 rfl rfl, qzWs_i2 161 rfl rfl⟩), (fun h => absurd h (by decide))⟩
set_option maxRecDepth 1000000 in
theorem qzm_35 : qzPm (yX2_play, cX2_play, 4, (some .int), 1, 0, 2) := ⟨qpl_X2, qzWs_i2 174 rfl rfl, qzi_RX2, ⟨qna_X2, qnb_X2, qpd_2⟩, ⟨by decide, by decide, rfl⟩, (fun h => absurd h (by decide)), (fun _ => ⟨qzWs_i2 172 rfl rfl, qzWs_i2 173 rfl rfl⟩), (fun h => absurd h (by decide))⟩
set_option maxRecDepth 1000000 in
theorem qzm_36 : qzPm (yX2_stripe, cX2_stripe, 2, (some .int), 1, 1, 2) := ⟨qpl_X2, qzWs_i2 182 rfl rfl, qzi_RX2, ⟨qna_X2, qnb_X2, qpd_4⟩, ⟨by decide, by decide, rfl⟩, (fun h => absurd h (by decide)), (fun _ => ⟨qzWs_i2 180 rfl rfl, qzWs_i2 181 rfl rfl⟩), (fun h => absurd h (by decide))⟩
set_option maxRecDepth 1000000 in
theorem qzm_37 : qzPm (yX2_coat, cX2_coat, 4, (some .int), 1, 2, 2) := ⟨qpl_X2, qzWs_i2 186 rfl rfl, qzi_RX2, ⟨qna_X2, qnb_X2, qpd_6⟩, ⟨by decide, by decide, rfl⟩, (fun h => absurd h (by decide)), (fun _ => ⟨qzWs_i2 184 rfl rfl, qzWs_i2 185 rfl rfl⟩), (fun h => absurd h (by decide))⟩
set_option maxRecDepth 1000000 in
theorem qzm_38 : qzPm (yX2_piece, cX2_piece, 5, (some .int), 1, 3, 2) := ⟨qpl_X2, qzWs_i2 202 rfl rfl, qzi_RX2, ⟨qna_X2, qnb_X2, qpd_11⟩, ⟨by decide, by decide, rfl⟩, (fun h => absurd h (by decide)), (fun _ => ⟨qzWs_i2 200 rfl rfl, qzWs_i2 201 rfl rfl⟩), (fun h => absurd h (by decide))⟩
set_option maxRecDepth 1000000 in
theorem qzm_39 : qzPm (yX2_count, cX2_count, 3, (some .int), 1, 1, 2) := ⟨qpl_X2, qzWs_i2 206 rfl rfl, qzi_RX2, ⟨qna_X2, qnb_X2, qpd_4⟩, ⟨by decide, by decide, rfl⟩, (fun h => absurd h (by decide)), (fun _ => ⟨qzWs_i2 204 rfl rfl, qzWs_i2 205 rfl rfl⟩), (fun h => absurd h (by decide))⟩
set_option maxRecDepth 1000000 in
theorem qzm_40 : qzPm (yX2_left, cX2_left, 2, (some .int), 1, 1, 2) := ⟨qpl_X2, qzWs_i2 232 rfl rfl, qzi_RX2, ⟨qna_X2, qnb_X2, qpd_4⟩, ⟨by decide, by decide, rfl⟩, (fun h => absurd h (by decide)), (fun _ => ⟨qzWs_i2 230 rfl rfl, qzWs_i2 231 rfl rfl⟩), (fun h => absurd h (by decide))⟩
set_option maxRecDepth 1000000 in
theorem qzm_41 : qzPm (yX2_worth, cX2_worth, 4, (some .int), 1, 2, 2) := ⟨qpl_X2, qzWs_i2 237 rfl rfl, qzi_RX2, ⟨qna_X2, qnb_X2, qpd_10⟩, ⟨by decide, by decide, rfl⟩, (fun h => absurd h (by decide)), (fun _ => ⟨qzWs_i2 235 rfl rfl, qzWs_i2 236 rfl rfl⟩), (fun h => absurd h (by decide))⟩
set_option maxRecDepth 1000000 in
theorem qzm_42 : qzPm (yX2_lead, cX2_lead, 2, (some .int), 1, 1, 2) := ⟨qpl_X2, qzWs_i3 1 rfl rfl, qzi_RX2, ⟨qna_X2, qnb_X2, qpd_4⟩, ⟨by decide, by decide, rfl⟩, (fun h => absurd h (by decide)), (fun _ => ⟨qzWs_i2 239 rfl rfl, qzWs_i3 0 rfl rfl⟩), (fun h => absurd h (by decide))⟩
set_option maxRecDepth 1000000 in
theorem qzm_43 : qzPm (yX2_leadWith, cX2_leadWith, 4, (some .int), 1, 2, 2) := ⟨qpl_X2, qzWs_i3 19 rfl rfl, qzi_RX2, ⟨qna_X2, qnb_X2, qpd_10⟩, ⟨by decide, by decide, rfl⟩, (fun h => absurd h (by decide)), (fun _ => ⟨qzWs_i3 17 rfl rfl, qzWs_i3 18 rfl rfl⟩), (fun h => absurd h (by decide))⟩
set_option maxRecDepth 1000000 in
theorem qzm_44 : qzPm (yX2_bestCut, cX2_bestCut, 1, (some .int), 1, 0, 2) := ⟨qpl_X2, qzWs_i3 27 rfl rfl, qzi_RX2, ⟨qna_X2, qnb_X2, qpd_2⟩, ⟨by decide, by decide, rfl⟩, (fun h => absurd h (by decide)), (fun _ => ⟨qzWs_i3 25 rfl rfl, qzWs_i3 26 rfl rfl⟩), (fun h => absurd h (by decide))⟩
set_option maxRecDepth 1000000 in
theorem qzm_45 : qzPm (yX2_ended, cX2_ended, 5, (some .int), 1, 3, 2) := ⟨qpl_X2, qzWs_i3 31 rfl rfl, qzi_RX2, ⟨qna_X2, qnb_X2, qpd_11⟩, ⟨by decide, by decide, rfl⟩, (fun h => absurd h (by decide)), (fun _ => ⟨qzWs_i3 29 rfl rfl, qzWs_i3 30 rfl rfl⟩), (fun h => absurd h (by decide))⟩
set_option maxRecDepth 1000000 in
theorem qzm_46 : qzPm (yX2_rate, cX2_rate, 3, (some .double), 1, 0, 2) := ⟨qpl_X2, qzWs_i3 35 rfl rfl, qzi_RX2, ⟨qna_X2, qnb_X2, qpd_12⟩, ⟨by decide, by decide, rfl⟩, (fun h => absurd h (by decide)), (fun _ => ⟨qzWs_i3 33 rfl rfl, qzWs_i3 34 rfl rfl⟩), (fun h => absurd h (by decide))⟩
set_option maxRecDepth 1000000 in
theorem qzm_47 : qzPm (yX2_undo, cX2_undo, 2, (some .int), 1, 0, 2) := ⟨qpl_X2, qzWs_i3 39 rfl rfl, qzi_RX2, ⟨qna_X2, qnb_X2, qpd_2⟩, ⟨by decide, by decide, rfl⟩, (fun h => absurd h (by decide)), (fun _ => ⟨qzWs_i3 37 rfl rfl, qzWs_i3 38 rfl rfl⟩), (fun h => absurd h (by decide))⟩
set_option maxRecDepth 1000000 in
theorem qzm_48 : qzPm (yX2_save, cX2_save, 1, (some .int), 1, 0, 2) := ⟨qpl_X2, qzWs_i3 43 rfl rfl, qzi_RX2, ⟨qna_X2, qnb_X2, qpd_2⟩, ⟨by decide, by decide, rfl⟩, (fun h => absurd h (by decide)), (fun _ => ⟨qzWs_i3 41 rfl rfl, qzWs_i3 42 rfl rfl⟩), (fun h => absurd h (by decide))⟩
set_option maxRecDepth 1000000 in
theorem qzm_49 : qzPm (yX2_restore, cX2_restore, 1, (some .int), 1, 0, 2) := ⟨qpl_X2, qzWs_i3 47 rfl rfl, qzi_RX2, ⟨qna_X2, qnb_X2, qpd_2⟩, ⟨by decide, by decide, rfl⟩, (fun h => absurd h (by decide)), (fun _ => ⟨qzWs_i3 45 rfl rfl, qzWs_i3 46 rfl rfl⟩), (fun h => absurd h (by decide))⟩
set_option maxRecDepth 1000000 in
theorem qzm_50 : qzPm (yX2_pastAt, cX2_pastAt, 2, (some (.object "BoltTailors$Game")), 1, 1, 2) := ⟨qpl_X2, qzWs_i1 213 rfl rfl, qzi_RX2, ⟨qna_X2, qnb_X2, qpd_13⟩, ⟨by decide, by decide, rfl⟩, (fun h => absurd h (by decide)), (fun _ => ⟨qzWs_i1 212 rfl rfl, qzWs_in 3 rfl rfl⟩), (fun h => absurd h (by decide))⟩
set_option maxRecDepth 1000000 in
theorem qzm_51 : qzPm (yX2_record, cX2_record, 2, none, 1, 0, 2) := ⟨qpl_X2, qzWs_i1 205 rfl rfl, qzi_RX2, ⟨qna_X2, qnb_X2, qpd_0⟩, ⟨by decide, by decide, rfl⟩, (fun h => absurd h (by decide)), (fun _ => ⟨qzWs_i1 204 rfl rfl, qzWs_in 1 rfl rfl⟩), (fun h => absurd h (by decide))⟩
set_option maxRecDepth 1000000 in
theorem qzm_52 : qzPm (yX2_dropOldest, cX2_dropOldest, 3, none, 1, 0, 2) := ⟨qpl_X2, qzWs_i1 209 rfl rfl, qzi_RX2, ⟨qna_X2, qnb_X2, qpd_0⟩, ⟨by decide, by decide, rfl⟩, (fun h => absurd h (by decide)), (fun _ => ⟨qzWs_i1 208 rfl rfl, qzWs_in 2 rfl rfl⟩), (fun h => absurd h (by decide))⟩
set_option maxRecDepth 1000000 in
theorem qzm_53 : qzPm (yX2_codeOf, cX2_codeOf, 2, (some .int), 0, 2, 2) := ⟨qpl_X2, qzWs_i1 223 rfl rfl, qzi_RX2, ⟨qna_X2, qnb_X2, qpd_10⟩, ⟨by decide, by decide, rfl⟩, (fun _ => qzWs_i1 222 rfl rfl), (fun h => absurd h (by decide)), (fun h => absurd h (by decide))⟩
set_option maxRecDepth 1000000 in
theorem qzm_54 : qzPm (yX2_isFromLeft, cX2_isFromLeft, 1, (some .boolean), 0, 1, 2) := ⟨qpl_X2, qzWs_i1 233 rfl rfl, qzi_RX2, ⟨qna_X2, qnb_X2, qpd_14⟩, ⟨by decide, by decide, rfl⟩, (fun _ => qzWs_i1 232 rfl rfl), (fun h => absurd h (by decide)), (fun h => absurd h (by decide))⟩
set_option maxRecDepth 1000000 in
theorem qzm_55 : qzPm (yX2_sizeOf, cX2_sizeOf, 1, (some .int), 0, 1, 2) := ⟨qpl_X2, qzWs_i1 230 rfl rfl, qzi_RX2, ⟨qna_X2, qnb_X2, qpd_4⟩, ⟨by decide, by decide, rfl⟩, (fun _ => qzWs_i1 229 rfl rfl), (fun h => absurd h (by decide)), (fun h => absurd h (by decide))⟩
set_option maxRecDepth 1000000 in
theorem qzm_56 : qzPm (yX2_pieceStart, cX2_pieceStart, 3, (some .int), 0, 3, 2) := ⟨qpl_X2, qzWs_i1 236 rfl rfl, qzi_RX2, ⟨qna_X2, qnb_X2, qpd_11⟩, ⟨by decide, by decide, rfl⟩, (fun _ => qzWs_i1 235 rfl rfl), (fun h => absurd h (by decide)), (fun h => absurd h (by decide))⟩
set_option maxRecDepth 1000000 in
theorem qzm_57 : qzPm (yX2_restStart, cX2_restStart, 2, (some .int), 0, 2, 2) := ⟨qpl_X2, qzWs_i2 23 rfl rfl, qzi_RX2, ⟨qna_X2, qnb_X2, qpd_6⟩, ⟨by decide, by decide, rfl⟩, (fun _ => qzWs_i2 22 rfl rfl), (fun h => absurd h (by decide)), (fun h => absurd h (by decide))⟩
set_option maxRecDepth 1000000 in
theorem qzm_58 : qzPm (yX2_restEnd, cX2_restEnd, 2, (some .int), 0, 2, 2) := ⟨qpl_X2, qzWs_i2 26 rfl rfl, qzi_RX2, ⟨qna_X2, qnb_X2, qpd_6⟩, ⟨by decide, by decide, rfl⟩, (fun _ => qzWs_i2 25 rfl rfl), (fun h => absurd h (by decide)), (fun h => absurd h (by decide))⟩
set_option maxRecDepth 1000000 in
theorem qzm_59 : qzPm (yX2_errorOfCut, cX2_errorOfCut, 2, (some .int), 1, 1, 2) := ⟨qpl_X2, qzWs_i1 190 rfl rfl, qzi_RX2, ⟨qna_X2, qnb_X2, qpd_4⟩, ⟨by decide, by decide, rfl⟩, (fun h => absurd h (by decide)), (fun _ => ⟨qzWs_i1 189 rfl rfl, qzWs_in 0 rfl rfl⟩), (fun h => absurd h (by decide))⟩
set_option maxRecDepth 1000000 in
theorem qzm_60 : qzPm (yX2_cutBy, cX2_cutBy, 3, (some .int), 1, 1, 2) := ⟨qpl_X2, qzWs_i2 34 rfl rfl, qzi_RX2, ⟨qna_X2, qnb_X2, qpd_4⟩, ⟨by decide, by decide, rfl⟩, (fun h => absurd h (by decide)), (fun _ => ⟨qzWs_i2 33 rfl rfl, qzWs_in 4 rfl rfl⟩), (fun h => absurd h (by decide))⟩
set_option maxRecDepth 1000000 in
theorem qzm_61 : qzPm (yX2_choice, cX2_choice, 12, (some .int), 1, 2, 2) := ⟨qpl_X2, qzWs_i2 38 rfl rfl, qzi_RX2, ⟨qna_X2, qnb_X2, qpd_15⟩, ⟨by decide, by decide, rfl⟩, (fun h => absurd h (by decide)), (fun _ => ⟨qzWs_i2 37 rfl rfl, qzWs_in 5 rfl rfl⟩), (fun h => absurd h (by decide))⟩
set_option maxRecDepth 1000000 in
theorem qzm_62 : qzPm (yX2_leadTold, cX2_leadTold, 4, (some .int), 1, 1, 2) := ⟨qpl_X2, qzWs_i3 5 rfl rfl, qzi_RX2, ⟨qna_X2, qnb_X2, qpd_16⟩, ⟨by decide, by decide, rfl⟩, (fun h => absurd h (by decide)), (fun _ => ⟨qzWs_i3 4 rfl rfl, qzWs_in 16 rfl rfl⟩), (fun h => absurd h (by decide))⟩
set_option maxRecDepth 1000000 in
theorem qzm_63 : qzPm (yX2_tellRows, cX2_tellRows, 7, none, 0, 3, 2) := ⟨qpl_X2, qzWs_i3 8 rfl rfl, qzi_RX2, ⟨qna_X2, qnb_X2, qpd_17⟩, ⟨by decide, by decide, rfl⟩, (fun _ => qzWs_i3 7 rfl rfl), (fun h => absurd h (by decide)), (fun h => absurd h (by decide))⟩
set_option maxRecDepth 1000000 in
theorem qzm_64 : qzPm (yX2_raiseRow, cX2_raiseRow, 14, none, 0, 4, 2) := ⟨qpl_X2, qzWs_i3 11 rfl rfl, qzi_RX2, ⟨qna_X2, qnb_X2, qpd_18⟩, ⟨by decide, by decide, rfl⟩, (fun _ => qzWs_i3 10 rfl rfl), (fun h => absurd h (by decide)), (fun h => absurd h (by decide))⟩
set_option maxRecDepth 1000000 in
theorem qzm_65 : qzPm (yX2_leadGoneInto, cX2_leadGoneInto, 4, (some .int), 1, 1, 2) := ⟨qpl_X2, qzWs_i3 15 rfl rfl, qzi_RX2, ⟨qna_X2, qnb_X2, qpd_16⟩, ⟨by decide, by decide, rfl⟩, (fun h => absurd h (by decide)), (fun _ => ⟨qzWs_i3 14 rfl rfl, qzWs_in 17 rfl rfl⟩), (fun h => absurd h (by decide))⟩
set_option maxRecDepth 1000000 in
theorem qzm_66 : qzPm (yX2_leadOfCut, cX2_leadOfCut, 5, (some .int), 1, 2, 2) := ⟨qpl_X2, qzWs_i3 23 rfl rfl, qzi_RX2, ⟨qna_X2, qnb_X2, qpd_15⟩, ⟨by decide, by decide, rfl⟩, (fun h => absurd h (by decide)), (fun _ => ⟨qzWs_i3 22 rfl rfl, qzWs_in 18 rfl rfl⟩), (fun h => absurd h (by decide))⟩
set_option maxRecDepth 1000000 in
theorem qzm_67 : qzPm (yX2_goInto, cX2_goInto, 9, (some .int), 0, 6, 2) := ⟨qpl_X2, qzWs_i2 70 rfl rfl, qzi_RX2, ⟨qna_X2, qnb_X2, qpd_19⟩, ⟨by decide, by decide, rfl⟩, (fun _ => qzWs_i2 69 rfl rfl), (fun h => absurd h (by decide)), (fun h => absurd h (by decide))⟩
set_option maxRecDepth 1000000 in
theorem qzm_68 : qzPm (yX2_goThrough, cX2_goThrough, 11, (some .int), 0, 7, 2) := ⟨qpl_X2, qzWs_i2 62 rfl rfl, qzi_RX2, ⟨qna_X2, qnb_X2, qpd_20⟩, ⟨by decide, by decide, rfl⟩, (fun _ => qzWs_i2 61 rfl rfl), (fun h => absurd h (by decide)), (fun h => absurd h (by decide))⟩
set_option maxRecDepth 1000000 in
theorem qzm_69 : qzPm (yX2_traitsOf, cX2_traitsOf, 5, (some .int), 0, 4, 2) := ⟨qpl_X2, qzWs_i2 12 rfl rfl, qzi_RX2, ⟨qna_X2, qnb_X2, qpd_21⟩, ⟨by decide, by decide, rfl⟩, (fun _ => qzWs_i2 11 rfl rfl), (fun h => absurd h (by decide)), (fun h => absurd h (by decide))⟩
set_option maxRecDepth 1000000 in
theorem qzm_70 : qzPm (yX2_worthOf, cX2_worthOf, 5, (some .int), 0, 3, 2) := ⟨qpl_X2, qzWs_i2 19 rfl rfl, qzi_RX2, ⟨qna_X2, qnb_X2, qpd_22⟩, ⟨by decide, by decide, rfl⟩, (fun _ => qzWs_i2 18 rfl rfl), (fun h => absurd h (by decide)), (fun h => absurd h (by decide))⟩
set_option maxRecDepth 1000000 in
theorem qzm_71 : qzPm (yX2_isFold, cX2_isFold, 4, (some .boolean), 0, 3, 2) := ⟨qpl_X2, qzWs_i2 16 rfl rfl, qzi_RX2, ⟨qna_X2, qnb_X2, qpd_23⟩, ⟨by decide, by decide, rfl⟩, (fun _ => qzWs_i2 15 rfl rfl), (fun h => absurd h (by decide)), (fun h => absurd h (by decide))⟩
set_option maxRecDepth 1000000 in
theorem qzm_72 : qzPm (yX2_signAt, cX2_signAt, 2, (some .char), 1, 1, 2) := ⟨qpl_X2, qzWs_i2 139 rfl rfl, qzi_RX2, ⟨qna_X2, qnb_X2, qpd_24⟩, ⟨by decide, by decide, rfl⟩, (fun h => absurd h (by decide)), (fun _ => ⟨qzWs_i2 138 rfl rfl, qzWs_in 8 rfl rfl⟩), (fun h => absurd h (by decide))⟩
set_option maxRecDepth 1000000 in
theorem qzm_73 : qzPm (yX2_digitAt, cX2_digitAt, 3, (some .int), 1, 1, 2) := ⟨qpl_X2, qzWs_i2 151 rfl rfl, qzi_RX2, ⟨qna_X2, qnb_X2, qpd_4⟩, ⟨by decide, by decide, rfl⟩, (fun h => absurd h (by decide)), (fun _ => ⟨qzWs_i2 150 rfl rfl, qzWs_in 11 rfl rfl⟩), (fun h => absurd h (by decide))⟩
set_option maxRecDepth 1000000 in
theorem qzm_74 : qzPm (yX2_isSide, cX2_isSide, 1, (some .boolean), 0, 1, 2) := ⟨qpl_X2, qzWs_i2 158 rfl rfl, qzi_RX2, ⟨qna_X2, qnb_X2, qpd_25⟩, ⟨by decide, by decide, rfl⟩, (fun _ => qzWs_i2 157 rfl rfl), (fun h => absurd h (by decide)), (fun h => absurd h (by decide))⟩
set_option maxRecDepth 1000000 in
theorem qzm_75 : qzPm (yX2_lettersAhead, cX2_lettersAhead, 2, (some .int), 1, 0, 2) := ⟨qpl_X2, qzWs_i2 135 rfl rfl, qzi_RX2, ⟨qna_X2, qnb_X2, qpd_2⟩, ⟨by decide, by decide, rfl⟩, (fun h => absurd h (by decide)), (fun _ => ⟨qzWs_i2 134 rfl rfl, qzWs_in 7 rfl rfl⟩), (fun h => absurd h (by decide))⟩
set_option maxRecDepth 1000000 in
theorem qzm_76 : qzPm (yX2_faultAsBolt, cX2_faultAsBolt, 2, (some .int), 1, 0, 2) := ⟨qpl_X2, qzWs_i2 131 rfl rfl, qzi_RX2, ⟨qna_X2, qnb_X2, qpd_2⟩, ⟨by decide, by decide, rfl⟩, (fun h => absurd h (by decide)), (fun _ => ⟨qzWs_i2 130 rfl rfl, qzWs_in 6 rfl rfl⟩), (fun h => absurd h (by decide))⟩
set_option maxRecDepth 1000000 in
theorem qzm_77 : qzPm (yX2_faultBehindStar, cX2_faultBehindStar, 5, (some .int), 1, 1, 2) := ⟨qpl_X2, qzWs_i2 143 rfl rfl, qzi_RX2, ⟨qna_X2, qnb_X2, qpd_4⟩, ⟨by decide, by decide, rfl⟩, (fun h => absurd h (by decide)), (fun _ => ⟨qzWs_i2 142 rfl rfl, qzWs_in 9 rfl rfl⟩), (fun h => absurd h (by decide))⟩
set_option maxRecDepth 1000000 in
theorem qzm_78 : qzPm (yX2_digitsOfNumber, cX2_digitsOfNumber, 4, (some .int), 1, 1, 2) := ⟨qpl_X2, qzWs_i2 147 rfl rfl, qzi_RX2, ⟨qna_X2, qnb_X2, qpd_4⟩, ⟨by decide, by decide, rfl⟩, (fun h => absurd h (by decide)), (fun _ => ⟨qzWs_i2 146 rfl rfl, qzWs_in 10 rfl rfl⟩), (fun h => absurd h (by decide))⟩
set_option maxRecDepth 1000000 in
theorem qzm_79 : qzPm (yX2_faultAsCuts, cX2_faultAsCuts, 4, (some .int), 1, 0, 2) := ⟨qpl_X2, qzWs_i2 155 rfl rfl, qzi_RX2, ⟨qna_X2, qnb_X2, qpd_2⟩, ⟨by decide, by decide, rfl⟩, (fun h => absurd h (by decide)), (fun _ => ⟨qzWs_i2 154 rfl rfl, qzWs_in 12 rfl rfl⟩), (fun h => absurd h (by decide))⟩
set_option maxRecDepth 1000000 in
theorem qzm_80 : qzPm (yX2_layPattern, cX2_layPattern, 6, none, 1, 1, 2) := ⟨qpl_X2, qzWs_i2 166 rfl rfl, qzi_RX2, ⟨qna_X2, qnb_X2, qpd_26⟩, ⟨by decide, by decide, rfl⟩, (fun h => absurd h (by decide)), (fun _ => ⟨qzWs_i2 165 rfl rfl, qzWs_in 13 rfl rfl⟩), (fun h => absurd h (by decide))⟩
set_option maxRecDepth 1000000 in
theorem qzm_81 : qzPm (yX2_layLetters, cX2_layLetters, 5, none, 1, 3, 2) := ⟨qpl_X2, qzWs_i2 170 rfl rfl, qzi_RX2, ⟨qna_X2, qnb_X2, qpd_27⟩, ⟨by decide, by decide, rfl⟩, (fun h => absurd h (by decide)), (fun _ => ⟨qzWs_i2 169 rfl rfl, qzWs_in 14 rfl rfl⟩), (fun h => absurd h (by decide))⟩
set_option maxRecDepth 1000000 in
theorem qzm_82 : qzPm (yX2_codeOnPad, cX2_codeOnPad, 4, (some .int), 1, 1, 2) := ⟨qpl_X2, qzWs_i2 178 rfl rfl, qzi_RX2, ⟨qna_X2, qnb_X2, qpd_4⟩, ⟨by decide, by decide, rfl⟩, (fun h => absurd h (by decide)), (fun _ => ⟨qzWs_i2 177 rfl rfl, qzWs_in 15 rfl rfl⟩), (fun h => absurd h (by decide))⟩
set_option maxRecDepth 1000000 in
theorem qzm_83 : qzPm (yX2_isNoTailor, cX2_isNoTailor, 1, (some .boolean), 0, 1, 2) := ⟨qpl_X2, qzWs_i2 189 rfl rfl, qzi_RX2, ⟨qna_X2, qnb_X2, qpd_14⟩, ⟨by decide, by decide, rfl⟩, (fun _ => qzWs_i2 188 rfl rfl), (fun h => absurd h (by decide)), (fun h => absurd h (by decide))⟩
set_option maxRecDepth 1000000 in
theorem qzm_84 : qzPm (yX2_at, cX2_at, 2, (some .int), 0, 2, 2) := ⟨qpl_X2, qzWs_i1 41 rfl rfl, qzi_RX2, ⟨qna_X2, qnb_X2, qpd_5⟩, ⟨by decide, by decide, rfl⟩, (fun _ => qzWs_i1 40 rfl rfl), (fun h => absurd h (by decide)), (fun h => absurd h (by decide))⟩
set_option maxRecDepth 1000000 in
theorem qzm_85 : qzPm (yX2_put, cX2_put, 3, none, 0, 3, 2) := ⟨qpl_X2, qzWs_i1 44 rfl rfl, qzi_RX2, ⟨qna_X2, qnb_X2, qpd_28⟩, ⟨by decide, by decide, rfl⟩, (fun _ => qzWs_i1 43 rfl rfl), (fun h => absurd h (by decide)), (fun h => absurd h (by decide))⟩
set_option maxRecDepth 1000000 in
theorem qzm_86 : qzPm (yX3_init, cX3_init, 2, none, 2, 0, 3) := ⟨qpl_X3, qzWs_i3 52 rfl rfl, qzi_RX3, ⟨qna_X3, qnb_X3, qpd_0⟩, ⟨by decide, by decide, rfl⟩, (fun h => absurd h (by decide)), (fun h => absurd h (by decide)), (fun _ => ⟨rfl, qzWs_i3 51 rfl rfl, rfl⟩)⟩
set_option maxRecDepth 1000000 in
theorem qzm_87 : qzPm (yX3_in, cX3_in, 3, (some .boolean), 0, 3, 3) := ⟨qpl_X3, qzWs_i3 111 rfl rfl, qzi_RX3, ⟨qna_X3, qnb_X3, qpd_29⟩, ⟨by decide, by decide, rfl⟩, (fun _ => qzWs_i3 110 rfl rfl), (fun h => absurd h (by decide)), (fun h => absurd h (by decide))⟩
set_option maxRecDepth 1000000 in
theorem qzm_88 : qzPm (yX3_copies, cX3_copies, 5, none, 0, 4, 3) := ⟨qpl_X3, qzWs_i3 118 rfl rfl, qzi_RX3, ⟨qna_X3, qnb_X3, qpd_30⟩, ⟨by decide, by decide, rfl⟩, (fun _ => qzWs_i3 117 rfl rfl), (fun h => absurd h (by decide)), (fun h => absurd h (by decide))⟩
set_option maxRecDepth 1000000 in
theorem qzm_89 : qzPm (yX3_records, cX3_records, 2, none, 1, 0, 3) := ⟨qpl_X3, qzWs_i3 115 rfl rfl, qzi_RX3, ⟨qna_X3, qnb_X3, qpd_0⟩, ⟨by decide, by decide, rfl⟩, (fun h => absurd h (by decide)), (fun _ => ⟨qzWs_i3 114 rfl rfl, qzWs_in 21 rfl rfl⟩), (fun h => absurd h (by decide))⟩
set_option maxRecDepth 1000000 in
theorem qzm_90 : qzPm (yX3_beginsAgain, cX3_beginsAgain, 2, none, 1, 0, 3) := ⟨qpl_X3, qzWs_i3 57 rfl rfl, qzi_RX3, ⟨qna_X3, qnb_X3, qpd_0⟩, ⟨by decide, by decide, rfl⟩, (fun h => absurd h (by decide)), (fun _ => ⟨qzWs_i3 56 rfl rfl, qzWs_in 19 rfl rfl⟩), (fun h => absurd h (by decide))⟩
set_option maxRecDepth 1000000 in
theorem qzm_91 : qzPm (yX3_coatOf, cX3_coatOf, 3, (some .int), 1, 2, 3) := ⟨qpl_X3, qzWs_i3 129 rfl rfl, qzi_RX3, ⟨qna_X3, qnb_X3, qpd_6⟩, ⟨by decide, by decide, rfl⟩, (fun h => absurd h (by decide)), (fun _ => ⟨qzWs_i3 128 rfl rfl, qzWs_in 23 rfl rfl⟩), (fun h => absurd h (by decide))⟩
set_option maxRecDepth 1000000 in
theorem qzm_92 : qzPm (yX3_adds, cX3_adds, 4, none, 1, 3, 3) := ⟨qpl_X3, qzWs_i3 145 rfl rfl, qzi_RX3, ⟨qna_X3, qnb_X3, qpd_27⟩, ⟨by decide, by decide, rfl⟩, (fun h => absurd h (by decide)), (fun _ => ⟨qzWs_i3 144 rfl rfl, qzWs_in 27 rfl rfl⟩), (fun h => absurd h (by decide))⟩
set_option maxRecDepth 1000000 in
theorem qzm_93 : qzPm (yX3_isOver, cX3_isOver, 1, (some .boolean), 1, 0, 3) := ⟨qpl_X3, qzWs_i3 153 rfl rfl, qzi_RX3, ⟨qna_X3, qnb_X3, qpd_3⟩, ⟨by decide, by decide, rfl⟩, (fun h => absurd h (by decide)), (fun _ => ⟨qzWs_i3 152 rfl rfl, qzWs_in 28 rfl rfl⟩), (fun h => absurd h (by decide))⟩
set_option maxRecDepth 1000000 in
theorem qzm_94 : qzPm (yX3_firstOf, cX3_firstOf, 4, (some .int), 0, 4, 3) := ⟨qpl_X3, qzWs_i3 125 rfl rfl, qzi_RX3, ⟨qna_X3, qnb_X3, qpd_31⟩, ⟨by decide, by decide, rfl⟩, (fun _ => qzWs_i3 124 rfl rfl), (fun h => absurd h (by decide)), (fun h => absurd h (by decide))⟩
set_option maxRecDepth 1000000 in
theorem qzm_95 : qzPm (yX3_folds, cX3_folds, 5, (some .boolean), 1, 2, 3) := ⟨qpl_X3, qzWs_i3 137 rfl rfl, qzi_RX3, ⟨qna_X3, qnb_X3, qpd_32⟩, ⟨by decide, by decide, rfl⟩, (fun h => absurd h (by decide)), (fun _ => ⟨qzWs_i3 136 rfl rfl, qzWs_in 25 rfl rfl⟩), (fun h => absurd h (by decide))⟩
set_option maxRecDepth 1000000 in
theorem qzm_96 : qzPm (yX3_matches, cX3_matches, 3, (some .boolean), 1, 2, 3) := ⟨qpl_X3, qzWs_i3 141 rfl rfl, qzi_RX3, ⟨qna_X3, qnb_X3, qpd_32⟩, ⟨by decide, by decide, rfl⟩, (fun h => absurd h (by decide)), (fun _ => ⟨qzWs_i3 140 rfl rfl, qzWs_in 26 rfl rfl⟩), (fun h => absurd h (by decide))⟩
set_option maxRecDepth 1000000 in
theorem qzm_97 : qzPm (yX3_worthOf, cX3_worthOf, 4, (some .int), 1, 3, 3) := ⟨qpl_X3, qzWs_i3 133 rfl rfl, qzi_RX3, ⟨qna_X3, qnb_X3, qpd_11⟩, ⟨by decide, by decide, rfl⟩, (fun h => absurd h (by decide)), (fun _ => ⟨qzWs_i3 132 rfl rfl, qzWs_in 24 rfl rfl⟩), (fun h => absurd h (by decide))⟩
set_option maxRecDepth 1000000 in
theorem qzm_98 : qzPm (yX3_goCut, cX3_goCut, 8, (some .int), 1, 2, 3) := ⟨qpl_X3, qzWs_i3 122 rfl rfl, qzi_RX3, ⟨qna_X3, qnb_X3, qpd_10⟩, ⟨by decide, by decide, rfl⟩, (fun h => absurd h (by decide)), (fun _ => ⟨qzWs_i3 121 rfl rfl, qzWs_in 22 rfl rfl⟩), (fun h => absurd h (by decide))⟩
set_option maxRecDepth 1000000 in
theorem qzm_99 : qzPm (yX3_errorCut, cX3_errorCut, 2, (some .int), 1, 1, 3) := ⟨qpl_X3, qzWs_i3 108 rfl rfl, qzi_RX3, ⟨qna_X3, qnb_X3, qpd_4⟩, ⟨by decide, by decide, rfl⟩, (fun h => absurd h (by decide)), (fun _ => ⟨qzWs_i3 107 rfl rfl, qzWs_in 20 rfl rfl⟩), (fun h => absurd h (by decide))⟩
set_option maxRecDepth 1000000 in
theorem qzm_100 : qzPm (yX3_rowOf, cX3_rowOf, 2, (some .int), 0, 2, 3) := ⟨qpl_X3, qzWs_i3 176 rfl rfl, qzi_RX3, ⟨qna_X3, qnb_X3, qpd_6⟩, ⟨by decide, by decide, rfl⟩, (fun _ => qzWs_i3 175 rfl rfl), (fun h => absurd h (by decide)), (fun h => absurd h (by decide))⟩
set_option maxRecDepth 1000000 in
theorem qzm_101 : qzPm (yX3_leadAt, cX3_leadAt, 5, (some .int), 1, 4, 3) := ⟨qpl_X3, qzWs_i3 173 rfl rfl, qzi_RX3, ⟨qna_X3, qnb_X3, qpd_8⟩, ⟨by decide, by decide, rfl⟩, (fun h => absurd h (by decide)), (fun _ => ⟨qzWs_i3 172 rfl rfl, qzWs_in 33 rfl rfl⟩), (fun h => absurd h (by decide))⟩
set_option maxRecDepth 1000000 in
theorem qzm_102 : qzPm (yX3_most, cX3_most, 2, (some .int), 1, 1, 3) := ⟨qpl_X3, qzWs_i3 165 rfl rfl, qzi_RX3, ⟨qna_X3, qnb_X3, qpd_4⟩, ⟨by decide, by decide, rfl⟩, (fun h => absurd h (by decide)), (fun _ => ⟨qzWs_i3 164 rfl rfl, qzWs_in 31 rfl rfl⟩), (fun h => absurd h (by decide))⟩
set_option maxRecDepth 1000000 in
theorem qzm_103 : qzPm (yX3_leadBy, cX3_leadBy, 9, (some .int), 1, 6, 3) := ⟨qpl_X3, qzWs_i3 169 rfl rfl, qzi_RX3, ⟨qna_X3, qnb_X3, qpd_33⟩, ⟨by decide, by decide, rfl⟩, (fun h => absurd h (by decide)), (fun _ => ⟨qzWs_i3 168 rfl rfl, qzWs_in 32 rfl rfl⟩), (fun h => absurd h (by decide))⟩
set_option maxRecDepth 1000000 in
theorem qzm_104 : qzPm (yX3_laysLead, cX3_laysLead, 9, none, 1, 4, 3) := ⟨qpl_X3, qzWs_i3 161 rfl rfl, qzi_RX3, ⟨qna_X3, qnb_X3, qpd_34⟩, ⟨by decide, by decide, rfl⟩, (fun h => absurd h (by decide)), (fun _ => ⟨qzWs_i3 160 rfl rfl, qzWs_in 30 rfl rfl⟩), (fun h => absurd h (by decide))⟩
set_option maxRecDepth 1000000 in
theorem qzm_105 : qzPm (yX3_laysLeads, cX3_laysLeads, 4, none, 1, 0, 3) := ⟨qpl_X3, qzWs_i3 157 rfl rfl, qzi_RX3, ⟨qna_X3, qnb_X3, qpd_0⟩, ⟨by decide, by decide, rfl⟩, (fun h => absurd h (by decide)), (fun _ => ⟨qzWs_i3 156 rfl rfl, qzWs_in 29 rfl rfl⟩), (fun h => absurd h (by decide))⟩
set_option maxRecDepth 1000000 in
theorem qzm_106 : qzPm (yX3_own, cX3_own, 1, (some .int), 1, 0, 3) := ⟨qpl_X3, qzWs_i3 188 rfl rfl, qzi_RX3, ⟨qna_X3, qnb_X3, qpd_2⟩, ⟨by decide, by decide, rfl⟩, (fun h => absurd h (by decide)), (fun _ => ⟨qzWs_i3 187 rfl rfl, qzWs_in 36 rfl rfl⟩), (fun h => absurd h (by decide))⟩
set_option maxRecDepth 1000000 in
theorem qzm_107 : qzPm (yX3_others, cX3_others, 1, (some .int), 1, 0, 3) := ⟨qpl_X3, qzWs_i3 192 rfl rfl, qzi_RX3, ⟨qna_X3, qnb_X3, qpd_2⟩, ⟨by decide, by decide, rfl⟩, (fun h => absurd h (by decide)), (fun _ => ⟨qzWs_i3 191 rfl rfl, qzWs_in 37 rfl rfl⟩), (fun h => absurd h (by decide))⟩
set_option maxRecDepth 1000000 in
theorem qzm_108 : qzPm (yX3_choice, cX3_choice, 10, (some .int), 1, 1, 3) := ⟨qpl_X3, qzWs_i3 184 rfl rfl, qzi_RX3, ⟨qna_X3, qnb_X3, qpd_35⟩, ⟨by decide, by decide, rfl⟩, (fun h => absurd h (by decide)), (fun _ => ⟨qzWs_i3 183 rfl rfl, qzWs_in 35 rfl rfl⟩), (fun h => absurd h (by decide))⟩
set_option maxRecDepth 1000000 in
theorem qzm_109 : qzPm (yX3_cutsBy, cX3_cutsBy, 3, (some .int), 1, 1, 3) := ⟨qpl_X3, qzWs_i3 180 rfl rfl, qzi_RX3, ⟨qna_X3, qnb_X3, qpd_35⟩, ⟨by decide, by decide, rfl⟩, (fun h => absurd h (by decide)), (fun _ => ⟨qzWs_i3 179 rfl rfl, qzWs_in 34 rfl rfl⟩), (fun h => absurd h (by decide))⟩
set_option maxRecDepth 1000000 in
theorem qzm_110 : qzPm (yX3_cut, cX3_cut, 4, (some .int), 1, 2, 3) := ⟨qpl_X3, qzWs_i3 104 rfl rfl, qzi_RX3, ⟨qna_X3, qnb_X3, qpd_10⟩, ⟨by decide, by decide, rfl⟩, (fun h => absurd h (by decide)), (fun _ => ⟨qzWs_i3 102 rfl rfl, qzWs_i3 103 rfl rfl⟩), (fun h => absurd h (by decide))⟩
set_option maxRecDepth 1000000 in
theorem qzm_111 : qzPm (yX3_best, cX3_best, 1, (some .int), 1, 0, 3) := ⟨qpl_X3, qzWs_i3 149 rfl rfl, qzi_RX3, ⟨qna_X3, qnb_X3, qpd_2⟩, ⟨by decide, by decide, rfl⟩, (fun h => absurd h (by decide)), (fun _ => ⟨qzWs_i3 147 rfl rfl, qzWs_i3 148 rfl rfl⟩), (fun h => absurd h (by decide))⟩
set_option maxRecDepth 1000000 in
theorem qzm_112 : qzPm (yX3_greedy, cX3_greedy, 1, (some .int), 1, 0, 3) := ⟨qpl_X3, qzWs_i3 196 rfl rfl, qzi_RX3, ⟨qna_X3, qnb_X3, qpd_2⟩, ⟨by decide, by decide, rfl⟩, (fun h => absurd h (by decide)), (fun _ => ⟨qzWs_i3 194 rfl rfl, qzWs_i3 195 rfl rfl⟩), (fun h => absurd h (by decide))⟩
set_option maxRecDepth 1000000 in
theorem qzm_113 : qzPm (yX3_again, cX3_again, 1, (some .int), 1, 0, 3) := ⟨qpl_X3, qzWs_i3 200 rfl rfl, qzi_RX3, ⟨qna_X3, qnb_X3, qpd_2⟩, ⟨by decide, by decide, rfl⟩, (fun h => absurd h (by decide)), (fun _ => ⟨qzWs_i3 198 rfl rfl, qzWs_i3 199 rfl rfl⟩), (fun h => absurd h (by decide))⟩
set_option maxRecDepth 1000000 in
theorem qzm_114 : qzPm (yX3_mirror, cX3_mirror, 6, (some .int), 1, 0, 3) := ⟨qpl_X3, qzWs_i3 204 rfl rfl, qzi_RX3, ⟨qna_X3, qnb_X3, qpd_2⟩, ⟨by decide, by decide, rfl⟩, (fun h => absurd h (by decide)), (fun _ => ⟨qzWs_i3 202 rfl rfl, qzWs_i3 203 rfl rfl⟩), (fun h => absurd h (by decide))⟩
set_option maxRecDepth 1000000 in
theorem qzm_115 : qzPm (yX3_set, cX3_set, 4, (some .int), 1, 2, 3) := ⟨qpl_X3, qzWs_i3 208 rfl rfl, qzi_RX3, ⟨qna_X3, qnb_X3, qpd_6⟩, ⟨by decide, by decide, rfl⟩, (fun h => absurd h (by decide)), (fun _ => ⟨qzWs_i3 206 rfl rfl, qzWs_i3 207 rfl rfl⟩), (fun h => absurd h (by decide))⟩
set_option maxRecDepth 1000000 in
theorem qzm_116 : qzPm (yX3_append, cX3_append, 2, (some .int), 1, 1, 3) := ⟨qpl_X3, qzWs_i3 212 rfl rfl, qzi_RX3, ⟨qna_X3, qnb_X3, qpd_4⟩, ⟨by decide, by decide, rfl⟩, (fun h => absurd h (by decide)), (fun _ => ⟨qzWs_i3 210 rfl rfl, qzWs_i3 211 rfl rfl⟩), (fun h => absurd h (by decide))⟩
set_option maxRecDepth 1000000 in
theorem qzm_117 : qzPm (yX3_clear, cX3_clear, 2, (some .int), 1, 0, 3) := ⟨qpl_X3, qzWs_i3 216 rfl rfl, qzi_RX3, ⟨qna_X3, qnb_X3, qpd_2⟩, ⟨by decide, by decide, rfl⟩, (fun h => absurd h (by decide)), (fun _ => ⟨qzWs_i3 214 rfl rfl, qzWs_i3 215 rfl rfl⟩), (fun h => absurd h (by decide))⟩
set_option maxRecDepth 1000000 in
theorem qzm_118 : qzPm (yX3_here, cX3_here, 1, (some .int), 1, 0, 3) := ⟨qpl_X3, qzWs_i3 228 rfl rfl, qzi_RX3, ⟨qna_X3, qnb_X3, qpd_2⟩, ⟨by decide, by decide, rfl⟩, (fun h => absurd h (by decide)), (fun _ => ⟨qzWs_i3 227 rfl rfl, qzWs_in 39 rfl rfl⟩), (fun h => absurd h (by decide))⟩
set_option maxRecDepth 1000000 in
theorem qzm_119 : qzPm (yX3_takes, cX3_takes, 2, none, 1, 1, 3) := ⟨qpl_X3, qzWs_i3 235 rfl rfl, qzi_RX3, ⟨qna_X3, qnb_X3, qpd_36⟩, ⟨by decide, by decide, rfl⟩, (fun h => absurd h (by decide)), (fun _ => ⟨qzWs_i3 234 rfl rfl, qzWs_in 40 rfl rfl⟩), (fun h => absurd h (by decide))⟩
set_option maxRecDepth 1000000 in
theorem qzm_120 : qzPm (yX3_takesDigit, cX3_takesDigit, 4, (some .int), 1, 2, 3) := ⟨qpl_X3, qzWs_i4 3 rfl rfl, qzi_RX3, ⟨qna_X3, qnb_X3, qpd_6⟩, ⟨by decide, by decide, rfl⟩, (fun h => absurd h (by decide)), (fun _ => ⟨qzWs_i4 2 rfl rfl, qzWs_in 42 rfl rfl⟩), (fun h => absurd h (by decide))⟩
set_option maxRecDepth 1000000 in
theorem qzm_121 : qzPm (yX3_isLetter, cX3_isLetter, 1, (some .boolean), 0, 1, 3) := ⟨qpl_X3, qzWs_i3 231 rfl rfl, qzi_RX3, ⟨qna_X3, qnb_X3, qpd_14⟩, ⟨by decide, by decide, rfl⟩, (fun _ => qzWs_i3 230 rfl rfl), (fun h => absurd h (by decide)), (fun h => absurd h (by decide))⟩
set_option maxRecDepth 1000000 in
theorem qzm_122 : qzPm (yX3_takesRule, cX3_takesRule, 1, none, 1, 0, 3) := ⟨qpl_X3, qzWs_i3 239 rfl rfl, qzi_RX3, ⟨qna_X3, qnb_X3, qpd_0⟩, ⟨by decide, by decide, rfl⟩, (fun h => absurd h (by decide)), (fun _ => ⟨qzWs_i3 238 rfl rfl, qzWs_in 41 rfl rfl⟩), (fun h => absurd h (by decide))⟩
set_option maxRecDepth 1000000 in
theorem qzm_123 : qzPm (yX3_isBolt, cX3_isBolt, 1, (some .boolean), 1, 0, 3) := ⟨qpl_X3, qzWs_i3 224 rfl rfl, qzi_RX3, ⟨qna_X3, qnb_X3, qpd_3⟩, ⟨by decide, by decide, rfl⟩, (fun h => absurd h (by decide)), (fun _ => ⟨qzWs_i3 223 rfl rfl, qzWs_in 38 rfl rfl⟩), (fun h => absurd h (by decide))⟩
set_option maxRecDepth 1000000 in
theorem qzm_124 : qzPm (yX3_takesCut, cX3_takesCut, 3, none, 1, 0, 3) := ⟨qpl_X3, qzWs_i4 11 rfl rfl, qzi_RX3, ⟨qna_X3, qnb_X3, qpd_0⟩, ⟨by decide, by decide, rfl⟩, (fun h => absurd h (by decide)), (fun _ => ⟨qzWs_i4 10 rfl rfl, qzWs_in 44 rfl rfl⟩), (fun h => absurd h (by decide))⟩
set_option maxRecDepth 1000000 in
theorem qzm_125 : qzPm (yX3_areCuts, cX3_areCuts, 1, (some .boolean), 1, 0, 3) := ⟨qpl_X3, qzWs_i4 7 rfl rfl, qzi_RX3, ⟨qna_X3, qnb_X3, qpd_3⟩, ⟨by decide, by decide, rfl⟩, (fun h => absurd h (by decide)), (fun _ => ⟨qzWs_i4 6 rfl rfl, qzWs_in 43 rfl rfl⟩), (fun h => absurd h (by decide))⟩
set_option maxRecDepth 1000000 in
theorem qzm_126 : qzPm (yX3_fault, cX3_fault, 2, (some .int), 1, 1, 3) := ⟨qpl_X3, qzWs_i3 220 rfl rfl, qzi_RX3, ⟨qna_X3, qnb_X3, qpd_4⟩, ⟨by decide, by decide, rfl⟩, (fun h => absurd h (by decide)), (fun _ => ⟨qzWs_i3 218 rfl rfl, qzWs_i3 219 rfl rfl⟩), (fun h => absurd h (by decide))⟩
set_option maxRecDepth 1000000 in
theorem qzm_127 : qzPm (yX3_load, cX3_load, 2, (some .int), 1, 0, 3) := ⟨qpl_X3, qzWs_i4 15 rfl rfl, qzi_RX3, ⟨qna_X3, qnb_X3, qpd_2⟩, ⟨by decide, by decide, rfl⟩, (fun h => absurd h (by decide)), (fun _ => ⟨qzWs_i4 13 rfl rfl, qzWs_i4 14 rfl rfl⟩), (fun h => absurd h (by decide))⟩
set_option maxRecDepth 1000000 in
theorem qzm_128 : qzPm (yX3_makes, cX3_makes, 6, (some .boolean), 1, 1, 3) := ⟨qpl_X3, qzWs_i4 23 rfl rfl, qzi_RX3, ⟨qna_X3, qnb_X3, qpd_14⟩, ⟨by decide, by decide, rfl⟩, (fun h => absurd h (by decide)), (fun _ => ⟨qzWs_i4 22 rfl rfl, qzWs_in 45 rfl rfl⟩), (fun h => absurd h (by decide))⟩
set_option maxRecDepth 1000000 in
theorem qzm_129 : qzPm (yX3_play, cX3_play, 4, (some .int), 1, 0, 3) := ⟨qpl_X3, qzWs_i4 19 rfl rfl, qzi_RX3, ⟨qna_X3, qnb_X3, qpd_2⟩, ⟨by decide, by decide, rfl⟩, (fun h => absurd h (by decide)), (fun _ => ⟨qzWs_i4 17 rfl rfl, qzWs_i4 18 rfl rfl⟩), (fun h => absurd h (by decide))⟩
set_option maxRecDepth 1000000 in
theorem qzm_130 : qzPm (yX3_stripe, cX3_stripe, 2, (some .int), 1, 1, 3) := ⟨qpl_X3, qzWs_i4 27 rfl rfl, qzi_RX3, ⟨qna_X3, qnb_X3, qpd_4⟩, ⟨by decide, by decide, rfl⟩, (fun h => absurd h (by decide)), (fun _ => ⟨qzWs_i4 25 rfl rfl, qzWs_i4 26 rfl rfl⟩), (fun h => absurd h (by decide))⟩
set_option maxRecDepth 1000000 in
theorem qzm_131 : qzPm (yX3_coat, cX3_coat, 3, (some .int), 1, 2, 3) := ⟨qpl_X3, qzWs_i4 31 rfl rfl, qzi_RX3, ⟨qna_X3, qnb_X3, qpd_6⟩, ⟨by decide, by decide, rfl⟩, (fun h => absurd h (by decide)), (fun _ => ⟨qzWs_i4 29 rfl rfl, qzWs_i4 30 rfl rfl⟩), (fun h => absurd h (by decide))⟩
set_option maxRecDepth 1000000 in
theorem qzm_132 : qzPm (yX3_piece, cX3_piece, 4, (some .int), 1, 3, 3) := ⟨qpl_X3, qzWs_i4 35 rfl rfl, qzi_RX3, ⟨qna_X3, qnb_X3, qpd_11⟩, ⟨by decide, by decide, rfl⟩, (fun h => absurd h (by decide)), (fun _ => ⟨qzWs_i4 33 rfl rfl, qzWs_i4 34 rfl rfl⟩), (fun h => absurd h (by decide))⟩
set_option maxRecDepth 1000000 in
theorem qzm_133 : qzPm (yX3_changes, cX3_changes, 3, (some .int), 1, 0, 3) := ⟨qpl_X3, qzWs_i4 43 rfl rfl, qzi_RX3, ⟨qna_X3, qnb_X3, qpd_2⟩, ⟨by decide, by decide, rfl⟩, (fun h => absurd h (by decide)), (fun _ => ⟨qzWs_i4 42 rfl rfl, qzWs_in 46 rfl rfl⟩), (fun h => absurd h (by decide))⟩
set_option maxRecDepth 1000000 in
theorem qzm_134 : qzPm (yX3_leftOf, cX3_leftOf, 4, (some .int), 1, 1, 3) := ⟨qpl_X3, qzWs_i4 51 rfl rfl, qzi_RX3, ⟨qna_X3, qnb_X3, qpd_4⟩, ⟨by decide, by decide, rfl⟩, (fun h => absurd h (by decide)), (fun _ => ⟨qzWs_i4 50 rfl rfl, qzWs_in 48 rfl rfl⟩), (fun h => absurd h (by decide))⟩
set_option maxRecDepth 1000000 in
theorem qzm_135 : qzPm (yX3_coloursLeft, cX3_coloursLeft, 3, (some .int), 1, 0, 3) := ⟨qpl_X3, qzWs_i4 47 rfl rfl, qzi_RX3, ⟨qna_X3, qnb_X3, qpd_2⟩, ⟨by decide, by decide, rfl⟩, (fun h => absurd h (by decide)), (fun _ => ⟨qzWs_i4 46 rfl rfl, qzWs_in 47 rfl rfl⟩), (fun h => absurd h (by decide))⟩
set_option maxRecDepth 1000000 in
theorem qzm_136 : qzPm (yX3_longestFold, cX3_longestFold, 4, (some .int), 1, 0, 3) := ⟨qpl_X3, qzWs_i4 55 rfl rfl, qzi_RX3, ⟨qna_X3, qnb_X3, qpd_2⟩, ⟨by decide, by decide, rfl⟩, (fun h => absurd h (by decide)), (fun _ => ⟨qzWs_i4 54 rfl rfl, qzWs_in 49 rfl rfl⟩), (fun h => absurd h (by decide))⟩
set_option maxRecDepth 1000000 in
theorem qzm_137 : qzPm (yX3_count, cX3_count, 2, (some .int), 1, 1, 3) := ⟨qpl_X3, qzWs_i4 39 rfl rfl, qzi_RX3, ⟨qna_X3, qnb_X3, qpd_4⟩, ⟨by decide, by decide, rfl⟩, (fun h => absurd h (by decide)), (fun _ => ⟨qzWs_i4 37 rfl rfl, qzWs_i4 38 rfl rfl⟩), (fun h => absurd h (by decide))⟩
set_option maxRecDepth 1000000 in
theorem qzm_138 : qzPm (yX3_left, cX3_left, 2, (some .int), 1, 1, 3) := ⟨qpl_X3, qzWs_i4 59 rfl rfl, qzi_RX3, ⟨qna_X3, qnb_X3, qpd_4⟩, ⟨by decide, by decide, rfl⟩, (fun h => absurd h (by decide)), (fun _ => ⟨qzWs_i4 57 rfl rfl, qzWs_i4 58 rfl rfl⟩), (fun h => absurd h (by decide))⟩
set_option maxRecDepth 1000000 in
theorem qzm_139 : qzPm (yX3_worth, cX3_worth, 4, (some .int), 1, 2, 3) := ⟨qpl_X3, qzWs_i4 63 rfl rfl, qzi_RX3, ⟨qna_X3, qnb_X3, qpd_10⟩, ⟨by decide, by decide, rfl⟩, (fun h => absurd h (by decide)), (fun _ => ⟨qzWs_i4 61 rfl rfl, qzWs_i4 62 rfl rfl⟩), (fun h => absurd h (by decide))⟩
set_option maxRecDepth 1000000 in
theorem qzm_140 : qzPm (yX3_lead, cX3_lead, 2, (some .int), 1, 1, 3) := ⟨qpl_X3, qzWs_i4 67 rfl rfl, qzi_RX3, ⟨qna_X3, qnb_X3, qpd_4⟩, ⟨by decide, by decide, rfl⟩, (fun h => absurd h (by decide)), (fun _ => ⟨qzWs_i4 65 rfl rfl, qzWs_i4 66 rfl rfl⟩), (fun h => absurd h (by decide))⟩
set_option maxRecDepth 1000000 in
theorem qzm_141 : qzPm (yX3_leadWith, cX3_leadWith, 4, (some .int), 1, 2, 3) := ⟨qpl_X3, qzWs_i4 71 rfl rfl, qzi_RX3, ⟨qna_X3, qnb_X3, qpd_10⟩, ⟨by decide, by decide, rfl⟩, (fun h => absurd h (by decide)), (fun _ => ⟨qzWs_i4 69 rfl rfl, qzWs_i4 70 rfl rfl⟩), (fun h => absurd h (by decide))⟩
set_option maxRecDepth 1000000 in
theorem qzm_142 : qzPm (yX3_bestCut, cX3_bestCut, 1, (some .int), 1, 0, 3) := ⟨qpl_X3, qzWs_i4 75 rfl rfl, qzi_RX3, ⟨qna_X3, qnb_X3, qpd_2⟩, ⟨by decide, by decide, rfl⟩, (fun h => absurd h (by decide)), (fun _ => ⟨qzWs_i4 73 rfl rfl, qzWs_i4 74 rfl rfl⟩), (fun h => absurd h (by decide))⟩
set_option maxRecDepth 1000000 in
theorem qzm_143 : qzPm (yX3_ended, cX3_ended, 5, (some .int), 1, 3, 3) := ⟨qpl_X3, qzWs_i4 79 rfl rfl, qzi_RX3, ⟨qna_X3, qnb_X3, qpd_11⟩, ⟨by decide, by decide, rfl⟩, (fun h => absurd h (by decide)), (fun _ => ⟨qzWs_i4 77 rfl rfl, qzWs_i4 78 rfl rfl⟩), (fun h => absurd h (by decide))⟩
set_option maxRecDepth 1000000 in
theorem qzm_144 : qzPm (yX3_rate, cX3_rate, 2, (some .double), 1, 0, 3) := ⟨qpl_X3, qzWs_i4 83 rfl rfl, qzi_RX3, ⟨qna_X3, qnb_X3, qpd_12⟩, ⟨by decide, by decide, rfl⟩, (fun h => absurd h (by decide)), (fun _ => ⟨qzWs_i4 81 rfl rfl, qzWs_i4 82 rfl rfl⟩), (fun h => absurd h (by decide))⟩
set_option maxRecDepth 1000000 in
theorem qzm_145 : qzPm (yX3_undo, cX3_undo, 1, (some .int), 1, 0, 3) := ⟨qpl_X3, qzWs_i4 87 rfl rfl, qzi_RX3, ⟨qna_X3, qnb_X3, qpd_2⟩, ⟨by decide, by decide, rfl⟩, (fun h => absurd h (by decide)), (fun _ => ⟨qzWs_i4 85 rfl rfl, qzWs_i4 86 rfl rfl⟩), (fun h => absurd h (by decide))⟩
set_option maxRecDepth 1000000 in
theorem qzm_146 : qzPm (yX3_save, cX3_save, 1, (some .int), 1, 0, 3) := ⟨qpl_X3, qzWs_i4 91 rfl rfl, qzi_RX3, ⟨qna_X3, qnb_X3, qpd_2⟩, ⟨by decide, by decide, rfl⟩, (fun h => absurd h (by decide)), (fun _ => ⟨qzWs_i4 89 rfl rfl, qzWs_i4 90 rfl rfl⟩), (fun h => absurd h (by decide))⟩
set_option maxRecDepth 1000000 in
theorem qzm_147 : qzPm (yX3_restore, cX3_restore, 1, (some .int), 1, 0, 3) := ⟨qpl_X3, qzWs_i4 95 rfl rfl, qzi_RX3, ⟨qna_X3, qnb_X3, qpd_2⟩, ⟨by decide, by decide, rfl⟩, (fun h => absurd h (by decide)), (fun _ => ⟨qzWs_i4 93 rfl rfl, qzWs_i4 94 rfl rfl⟩), (fun h => absurd h (by decide))⟩
set_option maxRecDepth 1000000 in
theorem qzm_148 : qzPm (yJ7_fill_53178, cJ7_fill_53178, 4, none, 0, 2, 4) := ⟨qpl_J7, qzWs_i2 52 rfl rfl, qzi_RJ7, ⟨qna_J7, qnb_J7, qpd_37⟩, ⟨by decide, by decide, rfl⟩, (fun _ => qzWs_i2 51 rfl rfl), (fun h => absurd h (by decide)), (fun h => absurd h (by decide))⟩
theorem qzMs_0 : ∀ md ∈ qzM_0, qzPm md := List.forall_mem_cons.mpr ⟨qzm_0, List.forall_mem_cons.mpr ⟨qzm_1, List.forall_mem_cons.mpr ⟨qzm_2, List.forall_mem_cons.mpr ⟨qzm_3, List.forall_mem_cons.mpr ⟨qzm_4, List.forall_mem_cons.mpr ⟨qzm_5, List.forall_mem_cons.mpr ⟨qzm_6, List.forall_mem_cons.mpr ⟨qzm_7, List.forall_mem_cons.mpr ⟨qzm_8, List.forall_mem_cons.mpr ⟨qzm_9, List.forall_mem_cons.mpr ⟨qzm_10, List.forall_mem_cons.mpr ⟨qzm_11, List.forall_mem_cons.mpr ⟨qzm_12, List.forall_mem_cons.mpr ⟨qzm_13, List.forall_mem_cons.mpr ⟨qzm_14, List.forall_mem_cons.mpr ⟨qzm_15, List.forall_mem_cons.mpr ⟨qzm_16, List.forall_mem_cons.mpr ⟨qzm_17, List.forall_mem_cons.mpr ⟨qzm_18, List.forall_mem_cons.mpr ⟨qzm_19, List.forall_mem_cons.mpr ⟨qzm_20, List.forall_mem_cons.mpr ⟨qzm_21, List.forall_mem_cons.mpr ⟨qzm_22, List.forall_mem_cons.mpr ⟨qzm_23, List.forall_mem_cons.mpr ⟨qzm_24, (fun _ h => absurd h List.not_mem_nil)⟩⟩⟩⟩⟩⟩⟩⟩⟩⟩⟩⟩⟩⟩⟩⟩⟩⟩⟩⟩⟩⟩⟩⟩⟩
theorem qzMs_1 : ∀ md ∈ qzM_1, qzPm md := List.forall_mem_cons.mpr ⟨qzm_25, List.forall_mem_cons.mpr ⟨qzm_26, List.forall_mem_cons.mpr ⟨qzm_27, List.forall_mem_cons.mpr ⟨qzm_28, List.forall_mem_cons.mpr ⟨qzm_29, List.forall_mem_cons.mpr ⟨qzm_30, List.forall_mem_cons.mpr ⟨qzm_31, List.forall_mem_cons.mpr ⟨qzm_32, List.forall_mem_cons.mpr ⟨qzm_33, List.forall_mem_cons.mpr ⟨qzm_34, List.forall_mem_cons.mpr ⟨qzm_35, List.forall_mem_cons.mpr ⟨qzm_36, List.forall_mem_cons.mpr ⟨qzm_37, List.forall_mem_cons.mpr ⟨qzm_38, List.forall_mem_cons.mpr ⟨qzm_39, List.forall_mem_cons.mpr ⟨qzm_40, List.forall_mem_cons.mpr ⟨qzm_41, List.forall_mem_cons.mpr ⟨qzm_42, List.forall_mem_cons.mpr ⟨qzm_43, List.forall_mem_cons.mpr ⟨qzm_44, List.forall_mem_cons.mpr ⟨qzm_45, List.forall_mem_cons.mpr ⟨qzm_46, List.forall_mem_cons.mpr ⟨qzm_47, List.forall_mem_cons.mpr ⟨qzm_48, List.forall_mem_cons.mpr ⟨qzm_49, (fun _ h => absurd h List.not_mem_nil)⟩⟩⟩⟩⟩⟩⟩⟩⟩⟩⟩⟩⟩⟩⟩⟩⟩⟩⟩⟩⟩⟩⟩⟩⟩
theorem qzMs_2 : ∀ md ∈ qzM_2, qzPm md := List.forall_mem_cons.mpr ⟨qzm_50, List.forall_mem_cons.mpr ⟨qzm_51, List.forall_mem_cons.mpr ⟨qzm_52, List.forall_mem_cons.mpr ⟨qzm_53, List.forall_mem_cons.mpr ⟨qzm_54, List.forall_mem_cons.mpr ⟨qzm_55, List.forall_mem_cons.mpr ⟨qzm_56, List.forall_mem_cons.mpr ⟨qzm_57, List.forall_mem_cons.mpr ⟨qzm_58, List.forall_mem_cons.mpr ⟨qzm_59, List.forall_mem_cons.mpr ⟨qzm_60, List.forall_mem_cons.mpr ⟨qzm_61, List.forall_mem_cons.mpr ⟨qzm_62, List.forall_mem_cons.mpr ⟨qzm_63, List.forall_mem_cons.mpr ⟨qzm_64, List.forall_mem_cons.mpr ⟨qzm_65, List.forall_mem_cons.mpr ⟨qzm_66, List.forall_mem_cons.mpr ⟨qzm_67, List.forall_mem_cons.mpr ⟨qzm_68, List.forall_mem_cons.mpr ⟨qzm_69, List.forall_mem_cons.mpr ⟨qzm_70, List.forall_mem_cons.mpr ⟨qzm_71, List.forall_mem_cons.mpr ⟨qzm_72, List.forall_mem_cons.mpr ⟨qzm_73, List.forall_mem_cons.mpr ⟨qzm_74, (fun _ h => absurd h List.not_mem_nil)⟩⟩⟩⟩⟩⟩⟩⟩⟩⟩⟩⟩⟩⟩⟩⟩⟩⟩⟩⟩⟩⟩⟩⟩⟩
theorem qzMs_3 : ∀ md ∈ qzM_3, qzPm md := List.forall_mem_cons.mpr ⟨qzm_75, List.forall_mem_cons.mpr ⟨qzm_76, List.forall_mem_cons.mpr ⟨qzm_77, List.forall_mem_cons.mpr ⟨qzm_78, List.forall_mem_cons.mpr ⟨qzm_79, List.forall_mem_cons.mpr ⟨qzm_80, List.forall_mem_cons.mpr ⟨qzm_81, List.forall_mem_cons.mpr ⟨qzm_82, List.forall_mem_cons.mpr ⟨qzm_83, List.forall_mem_cons.mpr ⟨qzm_84, List.forall_mem_cons.mpr ⟨qzm_85, List.forall_mem_cons.mpr ⟨qzm_86, List.forall_mem_cons.mpr ⟨qzm_87, List.forall_mem_cons.mpr ⟨qzm_88, List.forall_mem_cons.mpr ⟨qzm_89, List.forall_mem_cons.mpr ⟨qzm_90, List.forall_mem_cons.mpr ⟨qzm_91, List.forall_mem_cons.mpr ⟨qzm_92, List.forall_mem_cons.mpr ⟨qzm_93, List.forall_mem_cons.mpr ⟨qzm_94, List.forall_mem_cons.mpr ⟨qzm_95, List.forall_mem_cons.mpr ⟨qzm_96, List.forall_mem_cons.mpr ⟨qzm_97, List.forall_mem_cons.mpr ⟨qzm_98, List.forall_mem_cons.mpr ⟨qzm_99, (fun _ h => absurd h List.not_mem_nil)⟩⟩⟩⟩⟩⟩⟩⟩⟩⟩⟩⟩⟩⟩⟩⟩⟩⟩⟩⟩⟩⟩⟩⟩⟩
theorem qzMs_4 : ∀ md ∈ qzM_4, qzPm md := List.forall_mem_cons.mpr ⟨qzm_100, List.forall_mem_cons.mpr ⟨qzm_101, List.forall_mem_cons.mpr ⟨qzm_102, List.forall_mem_cons.mpr ⟨qzm_103, List.forall_mem_cons.mpr ⟨qzm_104, List.forall_mem_cons.mpr ⟨qzm_105, List.forall_mem_cons.mpr ⟨qzm_106, List.forall_mem_cons.mpr ⟨qzm_107, List.forall_mem_cons.mpr ⟨qzm_108, List.forall_mem_cons.mpr ⟨qzm_109, List.forall_mem_cons.mpr ⟨qzm_110, List.forall_mem_cons.mpr ⟨qzm_111, List.forall_mem_cons.mpr ⟨qzm_112, List.forall_mem_cons.mpr ⟨qzm_113, List.forall_mem_cons.mpr ⟨qzm_114, List.forall_mem_cons.mpr ⟨qzm_115, List.forall_mem_cons.mpr ⟨qzm_116, List.forall_mem_cons.mpr ⟨qzm_117, List.forall_mem_cons.mpr ⟨qzm_118, List.forall_mem_cons.mpr ⟨qzm_119, List.forall_mem_cons.mpr ⟨qzm_120, List.forall_mem_cons.mpr ⟨qzm_121, List.forall_mem_cons.mpr ⟨qzm_122, List.forall_mem_cons.mpr ⟨qzm_123, List.forall_mem_cons.mpr ⟨qzm_124, (fun _ h => absurd h List.not_mem_nil)⟩⟩⟩⟩⟩⟩⟩⟩⟩⟩⟩⟩⟩⟩⟩⟩⟩⟩⟩⟩⟩⟩⟩⟩⟩
theorem qzMs_5 : ∀ md ∈ qzM_5, qzPm md := List.forall_mem_cons.mpr ⟨qzm_125, List.forall_mem_cons.mpr ⟨qzm_126, List.forall_mem_cons.mpr ⟨qzm_127, List.forall_mem_cons.mpr ⟨qzm_128, List.forall_mem_cons.mpr ⟨qzm_129, List.forall_mem_cons.mpr ⟨qzm_130, List.forall_mem_cons.mpr ⟨qzm_131, List.forall_mem_cons.mpr ⟨qzm_132, List.forall_mem_cons.mpr ⟨qzm_133, List.forall_mem_cons.mpr ⟨qzm_134, List.forall_mem_cons.mpr ⟨qzm_135, List.forall_mem_cons.mpr ⟨qzm_136, List.forall_mem_cons.mpr ⟨qzm_137, List.forall_mem_cons.mpr ⟨qzm_138, List.forall_mem_cons.mpr ⟨qzm_139, List.forall_mem_cons.mpr ⟨qzm_140, List.forall_mem_cons.mpr ⟨qzm_141, List.forall_mem_cons.mpr ⟨qzm_142, List.forall_mem_cons.mpr ⟨qzm_143, List.forall_mem_cons.mpr ⟨qzm_144, List.forall_mem_cons.mpr ⟨qzm_145, List.forall_mem_cons.mpr ⟨qzm_146, List.forall_mem_cons.mpr ⟨qzm_147, List.forall_mem_cons.mpr ⟨qzm_148, (fun _ h => absurd h List.not_mem_nil)⟩⟩⟩⟩⟩⟩⟩⟩⟩⟩⟩⟩⟩⟩⟩⟩⟩⟩⟩⟩⟩⟩⟩⟩
theorem qzMs : ∀ md ∈ qzM, qzPm md := List.forall_mem_append.mpr ⟨qzMs_0, List.forall_mem_append.mpr ⟨qzMs_1, List.forall_mem_append.mpr ⟨qzMs_2, List.forall_mem_append.mpr ⟨qzMs_3, List.forall_mem_append.mpr ⟨qzMs_4, qzMs_5⟩⟩⟩⟩⟩
theorem qzM_len : qzM.length = 149 := by decide +kernel
theorem qzPm_at {mi : Nat} (h : mi < 149) : qzPm (qzMd mi) := by
  have hl : mi < qzM.length := by rw [qzM_len]; exact h
  have e : qzMd mi = qzM[mi] := by unfold qzMd; rw [List.getD_eq_getElem?_getD, List.getElem?_eq_getElem hl]; rfl
  rw [e]
  exact qzMs _ (List.getElem_mem hl)
/-- what the tables say of a call -/
def qzPc (e : (Nat × Nat) × (Nat × Bool)) : Prop := e.2.1 < 149 ∧ ((e.2.2 = false ∧ Cond.methodLink (qzRs e.1.1) e.1.2 (qzMd e.2.1).1 ∈ qzWs) ∨ (e.2.2 = true ∧ ∃ host, (e.1.1, e.1.2, (qzMd e.2.1).1, host) ∈ qzNst))
theorem qzc_0_54 : qzPc ((0, 54), (84, true)) := ⟨by decide, Or.inr ⟨rfl, "BoltTailors", by decide +kernel⟩⟩
theorem qzc_0_58 : qzPc ((0, 58), (85, true)) := ⟨by decide, Or.inr ⟨rfl, "BoltTailors", by decide +kernel⟩⟩
set_option maxRecDepth 1000000 in
theorem qzc_0_72 : qzPc ((0, 72), (3, false)) := ⟨by decide, Or.inl ⟨rfl, (qzWs_i1 195 rfl rfl : Cond.methodLink RX0 72 yX0_remaining ∈ qzWs)⟩⟩
theorem qzc_0_81 : qzPc ((0, 81), (55, true)) := ⟨by decide, Or.inr ⟨rfl, "BoltTailors", by decide +kernel⟩⟩
theorem qzc_0_85 : qzPc ((0, 85), (56, true)) := ⟨by decide, Or.inr ⟨rfl, "BoltTailors", by decide +kernel⟩⟩
set_option maxRecDepth 1000000 in
theorem qzc_0_89 : qzPc ((0, 89), (5, false)) := ⟨by decide, Or.inl ⟨rfl, (qzWs_i1 238 rfl rfl : Cond.methodLink RX0 89 yX0_onTurn ∈ qzWs)⟩⟩
set_option maxRecDepth 1000000 in
theorem qzc_0_92 : qzPc ((0, 92), (11, false)) := ⟨by decide, Or.inl ⟨rfl, (qzWs_i2 2 rfl rfl : Cond.methodLink RX0 92 yX0_endOfCoat ∈ qzWs)⟩⟩
theorem qzc_0_95 : qzPc ((0, 95), (69, true)) := ⟨by decide, Or.inr ⟨rfl, "BoltTailors", by decide +kernel⟩⟩
theorem qzc_0_99 : qzPc ((0, 99), (70, true)) := ⟨by decide, Or.inr ⟨rfl, "BoltTailors", by decide +kernel⟩⟩
theorem qzc_0_103 : qzPc ((0, 103), (54, true)) := ⟨by decide, Or.inr ⟨rfl, "BoltTailors", by decide +kernel⟩⟩
theorem qzc_0_107 : qzPc ((0, 107), (57, true)) := ⟨by decide, Or.inr ⟨rfl, "BoltTailors", by decide +kernel⟩⟩
theorem qzc_0_110 : qzPc ((0, 110), (58, true)) := ⟨by decide, Or.inr ⟨rfl, "BoltTailors", by decide +kernel⟩⟩
set_option maxRecDepth 1000000 in
theorem qzc_0_113 : qzPc ((0, 113), (10, false)) := ⟨by decide, Or.inl ⟨rfl, (qzWs_i2 6 rfl rfl : Cond.methodLink RX0 113 yX0_piecesOf ∈ qzWs)⟩⟩
set_option maxRecDepth 1000000 in
theorem qzc_0_116 : qzPc ((0, 116), (15, false)) := ⟨by decide, Or.inl ⟨rfl, (qzWs_i2 220 rfl rfl : Cond.methodLink RX0 116 yX0_stripesLeftOf ∈ qzWs)⟩⟩
theorem qzc_0_119 : qzPc ((0, 119), (71, true)) := ⟨by decide, Or.inr ⟨rfl, "BoltTailors", by decide +kernel⟩⟩
set_option maxRecDepth 1000000 in
theorem qzc_1_21 : qzPc ((1, 21), (20, false)) := ⟨by decide, Or.inl ⟨rfl, (qzWs_i2 43 rfl rfl : Cond.methodLink RX1 21 yX1_isFor ∈ qzWs)⟩⟩
set_option maxRecDepth 1000000 in
theorem qzc_1_41 : qzPc ((1, 41), (148, false)) := ⟨by decide, Or.inl ⟨rfl, (qzWs_i2 50 rfl rfl : Cond.methodLink RX1 41 yJ7_fill_53178 ∈ qzWs)⟩⟩
theorem qzc_1_47 : qzPc ((1, 47), (84, true)) := ⟨by decide, Or.inr ⟨rfl, "BoltTailors", by decide +kernel⟩⟩
set_option maxRecDepth 1000000 in
theorem qzc_1_51 : qzPc ((1, 51), (23, false)) := ⟨by decide, Or.inl ⟨rfl, (qzWs_i2 75 rfl rfl : Cond.methodLink RX1 51 yX1_place ∈ qzWs)⟩⟩
theorem qzc_1_55 : qzPc ((1, 55), (85, true)) := ⟨by decide, Or.inr ⟨rfl, "BoltTailors", by decide +kernel⟩⟩
set_option maxRecDepth 1000000 in
theorem qzc_2_9 : qzPc ((2, 9), (0, false)) := ⟨by decide, Or.inl ⟨rfl, (qzWs_i1 22 rfl rfl : Cond.methodLink RX2 9 yX0_init ∈ qzWs)⟩⟩
theorem qzc_2_32 : qzPc ((2, 32), (18, true)) := ⟨by decide, Or.inr ⟨rfl, "BoltTailors", by decide +kernel⟩⟩
set_option maxRecDepth 1000000 in
theorem qzc_2_40 : qzPc ((2, 40), (59, false)) := ⟨by decide, Or.inl ⟨rfl, (qzWs_i1 187 rfl rfl : Cond.methodLink RX2 40 yX2_errorOfCut ∈ qzWs)⟩⟩
set_option maxRecDepth 1000000 in
theorem qzc_2_44 : qzPc ((2, 44), (51, false)) := ⟨by decide, Or.inl ⟨rfl, (qzWs_i1 202 rfl rfl : Cond.methodLink RX2 44 yX2_record ∈ qzWs)⟩⟩
set_option maxRecDepth 1000000 in
theorem qzc_2_47 : qzPc ((2, 47), (53, false)) := ⟨by decide, Or.inl ⟨rfl, (qzWs_i1 221 rfl rfl : Cond.methodLink RX2 47 yX2_codeOf ∈ qzWs)⟩⟩
set_option maxRecDepth 1000000 in
theorem qzc_2_51 : qzPc ((2, 51), (8, false)) := ⟨by decide, Or.inl ⟨rfl, (qzWs_i1 224 rfl rfl : Cond.methodLink RX2 51 yX0_sew ∈ qzWs)⟩⟩
set_option maxRecDepth 1000000 in
theorem qzc_2_54 : qzPc ((2, 54), (60, false)) := ⟨by decide, Or.inl ⟨rfl, (qzWs_i2 31 rfl rfl : Cond.methodLink RX2 54 yX2_cutBy ∈ qzWs)⟩⟩
set_option maxRecDepth 1000000 in
theorem qzc_2_57 : qzPc ((2, 57), (2, false)) := ⟨by decide, Or.inl ⟨rfl, (qzWs_i2 95 rfl rfl : Cond.methodLink RX2 57 yX0_begin ∈ qzWs)⟩⟩
set_option maxRecDepth 1000000 in
theorem qzc_2_64 : qzPc ((2, 64), (9, false)) := ⟨by decide, Or.inl ⟨rfl, (qzWs_i2 103 rfl rfl : Cond.methodLink RX2 64 yX0_turnRound ∈ qzWs)⟩⟩
set_option maxRecDepth 1000000 in
theorem qzc_2_72 : qzPc ((2, 72), (84, false)) := ⟨by decide, Or.inl ⟨rfl, (qzWs_i2 13 rfl rfl : Cond.methodLink RX2 72 yX2_at ∈ qzWs)⟩⟩
set_option maxRecDepth 1000000 in
theorem qzc_2_82 : qzPc ((2, 82), (85, false)) := ⟨by decide, Or.inl ⟨rfl, (qzWs_i2 115 rfl rfl : Cond.methodLink RX2 82 yX2_put ∈ qzWs)⟩⟩
set_option maxRecDepth 1000000 in
theorem qzc_2_89 : qzPc ((2, 89), (76, false)) := ⟨by decide, Or.inl ⟨rfl, (qzWs_i2 128 rfl rfl : Cond.methodLink RX2 89 yX2_faultAsBolt ∈ qzWs)⟩⟩
set_option maxRecDepth 1000000 in
theorem qzc_2_92 : qzPc ((2, 92), (79, false)) := ⟨by decide, Or.inl ⟨rfl, (qzWs_i2 152 rfl rfl : Cond.methodLink RX2 92 yX2_faultAsCuts ∈ qzWs)⟩⟩
set_option maxRecDepth 1000000 in
theorem qzc_2_95 : qzPc ((2, 95), (75, false)) := ⟨by decide, Or.inl ⟨rfl, (qzWs_i2 132 rfl rfl : Cond.methodLink RX2 95 yX2_lettersAhead ∈ qzWs)⟩⟩
set_option maxRecDepth 1000000 in
theorem qzc_2_98 : qzPc ((2, 98), (72, false)) := ⟨by decide, Or.inl ⟨rfl, (qzWs_i2 136 rfl rfl : Cond.methodLink RX2 98 yX2_signAt ∈ qzWs)⟩⟩
set_option maxRecDepth 1000000 in
theorem qzc_2_102 : qzPc ((2, 102), (80, false)) := ⟨by decide, Or.inl ⟨rfl, (qzWs_i2 163 rfl rfl : Cond.methodLink RX2 102 yX2_layPattern ∈ qzWs)⟩⟩
set_option maxRecDepth 1000000 in
theorem qzc_2_106 : qzPc ((2, 106), (81, false)) := ⟨by decide, Or.inl ⟨rfl, (qzWs_i2 167 rfl rfl : Cond.methodLink RX2 106 yX2_layLetters ∈ qzWs)⟩⟩
set_option maxRecDepth 1000000 in
theorem qzc_2_110 : qzPc ((2, 110), (82, false)) := ⟨by decide, Or.inl ⟨rfl, (qzWs_i2 175 rfl rfl : Cond.methodLink RX2 110 yX2_codeOnPad ∈ qzWs)⟩⟩
set_option maxRecDepth 1000000 in
theorem qzc_2_113 : qzPc ((2, 113), (74, false)) := ⟨by decide, Or.inl ⟨rfl, (qzWs_i2 156 rfl rfl : Cond.methodLink RX2 113 yX2_isSide ∈ qzWs)⟩⟩
set_option maxRecDepth 1000000 in
theorem qzc_2_120 : qzPc ((2, 120), (83, false)) := ⟨by decide, Or.inl ⟨rfl, (qzWs_i2 187 rfl rfl : Cond.methodLink RX2 120 yX2_isNoTailor ∈ qzWs)⟩⟩
set_option maxRecDepth 1000000 in
theorem qzc_2_127 : qzPc ((2, 127), (12, false)) := ⟨by decide, Or.inl ⟨rfl, (qzWs_i2 190 rfl rfl : Cond.methodLink RX2 127 yX0_sumOfCoat ∈ qzWs)⟩⟩
set_option maxRecDepth 1000000 in
theorem qzc_2_130 : qzPc ((2, 130), (10, false)) := ⟨by decide, Or.inl ⟨rfl, (qzWs_i2 194 rfl rfl : Cond.methodLink RX2 130 yX0_piecesOf ∈ qzWs)⟩⟩
set_option maxRecDepth 1000000 in
theorem qzc_2_136 : qzPc ((2, 136), (11, false)) := ⟨by decide, Or.inl ⟨rfl, (qzWs_i2 54 rfl rfl : Cond.methodLink RX2 136 yX0_endOfCoat ∈ qzWs)⟩⟩
set_option maxRecDepth 1000000 in
theorem qzc_2_139 : qzPc ((2, 139), (13, false)) := ⟨by decide, Or.inl ⟨rfl, (qzWs_i2 195 rfl rfl : Cond.methodLink RX2 139 yX0_piecesWith ∈ qzWs)⟩⟩
set_option maxRecDepth 1000000 in
theorem qzc_2_149 : qzPc ((2, 149), (4, false)) := ⟨by decide, Or.inl ⟨rfl, (qzWs_i2 207 rfl rfl : Cond.methodLink RX2 149 yX0_isOver ∈ qzWs)⟩⟩
set_option maxRecDepth 1000000 in
theorem qzc_2_153 : qzPc ((2, 153), (3, false)) := ⟨by decide, Or.inl ⟨rfl, (qzWs_i2 211 rfl rfl : Cond.methodLink RX2 153 yX0_remaining ∈ qzWs)⟩⟩
set_option maxRecDepth 1000000 in
theorem qzc_2_162 : qzPc ((2, 162), (5, false)) := ⟨by decide, Or.inl ⟨rfl, (qzWs_i2 53 rfl rfl : Cond.methodLink RX2 162 yX0_onTurn ∈ qzWs)⟩⟩
set_option maxRecDepth 1000000 in
theorem qzc_2_168 : qzPc ((2, 168), (14, false)) := ⟨by decide, Or.inl ⟨rfl, (qzWs_i2 212 rfl rfl : Cond.methodLink RX2 168 yX0_colourChanges ∈ qzWs)⟩⟩
set_option maxRecDepth 1000000 in
theorem qzc_2_171 : qzPc ((2, 171), (16, false)) := ⟨by decide, Or.inl ⟨rfl, (qzWs_i2 216 rfl rfl : Cond.methodLink RX2 171 yX0_coloursLeft ∈ qzWs)⟩⟩
set_option maxRecDepth 1000000 in
theorem qzc_2_174 : qzPc ((2, 174), (17, false)) := ⟨by decide, Or.inl ⟨rfl, (qzWs_i2 224 rfl rfl : Cond.methodLink RX2 174 yX0_longestFold ∈ qzWs)⟩⟩
set_option maxRecDepth 1000000 in
theorem qzc_2_180 : qzPc ((2, 180), (15, false)) := ⟨by decide, Or.inl ⟨rfl, (qzWs_i2 233 rfl rfl : Cond.methodLink RX2 180 yX0_stripesLeftOf ∈ qzWs)⟩⟩
set_option maxRecDepth 1000000 in
theorem qzc_2_183 : qzPc ((2, 183), (7, false)) := ⟨by decide, Or.inl ⟨rfl, (qzWs_i2 56 rfl rfl : Cond.methodLink RX2 183 yX0_worthOfCut ∈ qzWs)⟩⟩
set_option maxRecDepth 1000000 in
theorem qzc_2_186 : qzPc ((2, 186), (62, false)) := ⟨by decide, Or.inl ⟨rfl, (qzWs_i3 2 rfl rfl : Cond.methodLink RX2 186 yX2_leadTold ∈ qzWs)⟩⟩
set_option maxRecDepth 1000000 in
theorem qzc_2_190 : qzPc ((2, 190), (65, false)) := ⟨by decide, Or.inl ⟨rfl, (qzWs_i3 12 rfl rfl : Cond.methodLink RX2 190 yX2_leadGoneInto ∈ qzWs)⟩⟩
set_option maxRecDepth 1000000 in
theorem qzc_2_193 : qzPc ((2, 193), (66, false)) := ⟨by decide, Or.inl ⟨rfl, (qzWs_i3 20 rfl rfl : Cond.methodLink RX2 193 yX2_leadOfCut ∈ qzWs)⟩⟩
set_option maxRecDepth 1000000 in
theorem qzc_2_197 : qzPc ((2, 197), (61, false)) := ⟨by decide, Or.inl ⟨rfl, (qzWs_i2 35 rfl rfl : Cond.methodLink RX2 197 yX2_choice ∈ qzWs)⟩⟩
set_option maxRecDepth 1000000 in
theorem qzc_2_200 : qzPc ((2, 200), (1, false)) := ⟨by decide, Or.inl ⟨rfl, (qzWs_i1 214 rfl rfl : Cond.methodLink RX2 200 yX0_copyFrom ∈ qzWs)⟩⟩
set_option maxRecDepth 1000000 in
theorem qzc_2_204 : qzPc ((2, 204), (50, false)) := ⟨by decide, Or.inl ⟨rfl, (qzWs_i1 210 rfl rfl : Cond.methodLink RX2 204 yX2_pastAt ∈ qzWs)⟩⟩
set_option maxRecDepth 1000000 in
theorem qzc_2_212 : qzPc ((2, 212), (52, false)) := ⟨by decide, Or.inl ⟨rfl, (qzWs_i1 206 rfl rfl : Cond.methodLink RX2 212 yX2_dropOldest ∈ qzWs)⟩⟩
set_option maxRecDepth 1000000 in
theorem qzc_2_215 : qzPc ((2, 215), (54, false)) := ⟨by decide, Or.inl ⟨rfl, (qzWs_i1 231 rfl rfl : Cond.methodLink RX2 215 yX2_isFromLeft ∈ qzWs)⟩⟩
set_option maxRecDepth 1000000 in
theorem qzc_2_218 : qzPc ((2, 218), (55, false)) := ⟨by decide, Or.inl ⟨rfl, (qzWs_i1 237 rfl rfl : Cond.methodLink RX2 218 yX2_sizeOf ∈ qzWs)⟩⟩
set_option maxRecDepth 1000000 in
theorem qzc_2_221 : qzPc ((2, 221), (6, false)) := ⟨by decide, Or.inl ⟨rfl, (qzWs_i1 191 rfl rfl : Cond.methodLink RX2 221 yX0_longestCut ∈ qzWs)⟩⟩
set_option maxRecDepth 1000000 in
theorem qzc_2_224 : qzPc ((2, 224), (19, false)) := ⟨by decide, Or.inl ⟨rfl, (qzWs_i2 39 rfl rfl : Cond.methodLink RX2 224 yX1_fitTo ∈ qzWs)⟩⟩
set_option maxRecDepth 1000000 in
theorem qzc_2_228 : qzPc ((2, 228), (68, false)) := ⟨by decide, Or.inl ⟨rfl, (qzWs_i2 60 rfl rfl : Cond.methodLink RX2 228 yX2_goThrough ∈ qzWs)⟩⟩
set_option maxRecDepth 1000000 in
theorem qzc_2_232 : qzPc ((2, 232), (21, false)) := ⟨by decide, Or.inl ⟨rfl, (qzWs_i2 71 rfl rfl : Cond.methodLink RX2 232 yX1_told ∈ qzWs)⟩⟩
set_option maxRecDepth 1000000 in
theorem qzc_2_236 : qzPc ((2, 236), (63, false)) := ⟨by decide, Or.inl ⟨rfl, (qzWs_i3 6 rfl rfl : Cond.methodLink RX2 236 yX2_tellRows ∈ qzWs)⟩⟩
set_option maxRecDepth 1000000 in
theorem qzc_2_241 : qzPc ((2, 241), (64, false)) := ⟨by decide, Or.inl ⟨rfl, (qzWs_i3 9 rfl rfl : Cond.methodLink RX2 241 yX2_raiseRow ∈ qzWs)⟩⟩
set_option maxRecDepth 1000000 in
theorem qzc_2_245 : qzPc ((2, 245), (56, false)) := ⟨by decide, Or.inl ⟨rfl, (qzWs_i2 63 rfl rfl : Cond.methodLink RX2 245 yX2_pieceStart ∈ qzWs)⟩⟩
set_option maxRecDepth 1000000 in
theorem qzc_2_250 : qzPc ((2, 250), (69, false)) := ⟨by decide, Or.inl ⟨rfl, (qzWs_i2 64 rfl rfl : Cond.methodLink RX2 250 yX2_traitsOf ∈ qzWs)⟩⟩
set_option maxRecDepth 1000000 in
theorem qzc_2_254 : qzPc ((2, 254), (70, false)) := ⟨by decide, Or.inl ⟨rfl, (qzWs_i2 65 rfl rfl : Cond.methodLink RX2 254 yX2_worthOf ∈ qzWs)⟩⟩
set_option maxRecDepth 1000000 in
theorem qzc_2_258 : qzPc ((2, 258), (57, false)) := ⟨by decide, Or.inl ⟨rfl, (qzWs_i2 66 rfl rfl : Cond.methodLink RX2 258 yX2_restStart ∈ qzWs)⟩⟩
set_option maxRecDepth 1000000 in
theorem qzc_2_261 : qzPc ((2, 261), (58, false)) := ⟨by decide, Or.inl ⟨rfl, (qzWs_i2 67 rfl rfl : Cond.methodLink RX2 261 yX2_restEnd ∈ qzWs)⟩⟩
set_option maxRecDepth 1000000 in
theorem qzc_2_264 : qzPc ((2, 264), (22, false)) := ⟨by decide, Or.inl ⟨rfl, (qzWs_i2 82 rfl rfl : Cond.methodLink RX2 264 yX1_keep ∈ qzWs)⟩⟩
set_option maxRecDepth 1000000 in
theorem qzc_2_268 : qzPc ((2, 268), (67, false)) := ⟨by decide, Or.inl ⟨rfl, (qzWs_i2 68 rfl rfl : Cond.methodLink RX2 268 yX2_goInto ∈ qzWs)⟩⟩
set_option maxRecDepth 1000000 in
theorem qzc_2_280 : qzPc ((2, 280), (71, false)) := ⟨by decide, Or.inl ⟨rfl, (qzWs_i2 14 rfl rfl : Cond.methodLink RX2 280 yX2_isFold ∈ qzWs)⟩⟩
set_option maxRecDepth 1000000 in
theorem qzc_2_284 : qzPc ((2, 284), (77, false)) := ⟨by decide, Or.inl ⟨rfl, (qzWs_i2 140 rfl rfl : Cond.methodLink RX2 284 yX2_faultBehindStar ∈ qzWs)⟩⟩
set_option maxRecDepth 1000000 in
theorem qzc_2_287 : qzPc ((2, 287), (78, false)) := ⟨by decide, Or.inl ⟨rfl, (qzWs_i2 144 rfl rfl : Cond.methodLink RX2 287 yX2_digitsOfNumber ∈ qzWs)⟩⟩
set_option maxRecDepth 1000000 in
theorem qzc_2_290 : qzPc ((2, 290), (73, false)) := ⟨by decide, Or.inl ⟨rfl, (qzWs_i2 148 rfl rfl : Cond.methodLink RX2 290 yX2_digitAt ∈ qzWs)⟩⟩
set_option maxRecDepth 1000000 in
theorem qzc_3_28 : qzPc ((3, 28), (90, false)) := ⟨by decide, Or.inl ⟨rfl, (qzWs_i3 54 rfl rfl : Cond.methodLink RX3 28 yX3_beginsAgain ∈ qzWs)⟩⟩
set_option maxRecDepth 1000000 in
theorem qzc_3_35 : qzPc ((3, 35), (88, false)) := ⟨by decide, Or.inl ⟨rfl, (qzWs_i3 116 rfl rfl : Cond.methodLink RX3 35 yX3_copies ∈ qzWs)⟩⟩
set_option maxRecDepth 1000000 in
theorem qzc_3_39 : qzPc ((3, 39), (95, false)) := ⟨by decide, Or.inl ⟨rfl, (qzWs_i3 134 rfl rfl : Cond.methodLink RX3 39 yX3_folds ∈ qzWs)⟩⟩
set_option maxRecDepth 1000000 in
theorem qzc_3_43 : qzPc ((3, 43), (96, false)) := ⟨by decide, Or.inl ⟨rfl, (qzWs_i3 138 rfl rfl : Cond.methodLink RX3 43 yX3_matches ∈ qzWs)⟩⟩
set_option maxRecDepth 1000000 in
theorem qzc_3_46 : qzPc ((3, 46), (94, false)) := ⟨by decide, Or.inl ⟨rfl, (qzWs_i3 123 rfl rfl : Cond.methodLink RX3 46 yX3_firstOf ∈ qzWs)⟩⟩
set_option maxRecDepth 1000000 in
theorem qzc_3_50 : qzPc ((3, 50), (91, false)) := ⟨by decide, Or.inl ⟨rfl, (qzWs_i3 126 rfl rfl : Cond.methodLink RX3 50 yX3_coatOf ∈ qzWs)⟩⟩
set_option maxRecDepth 1000000 in
theorem qzc_3_54 : qzPc ((3, 54), (97, false)) := ⟨by decide, Or.inl ⟨rfl, (qzWs_i3 130 rfl rfl : Cond.methodLink RX3 54 yX3_worthOf ∈ qzWs)⟩⟩
set_option maxRecDepth 1000000 in
theorem qzc_3_58 : qzPc ((3, 58), (92, false)) := ⟨by decide, Or.inl ⟨rfl, (qzWs_i3 142 rfl rfl : Cond.methodLink RX3 58 yX3_adds ∈ qzWs)⟩⟩
set_option maxRecDepth 1000000 in
theorem qzc_3_62 : qzPc ((3, 62), (87, false)) := ⟨by decide, Or.inl ⟨rfl, (qzWs_i3 109 rfl rfl : Cond.methodLink RX3 62 yX3_in ∈ qzWs)⟩⟩
set_option maxRecDepth 1000000 in
theorem qzc_3_66 : qzPc ((3, 66), (100, false)) := ⟨by decide, Or.inl ⟨rfl, (qzWs_i3 174 rfl rfl : Cond.methodLink RX3 66 yX3_rowOf ∈ qzWs)⟩⟩
set_option maxRecDepth 1000000 in
theorem qzc_3_69 : qzPc ((3, 69), (101, false)) := ⟨by decide, Or.inl ⟨rfl, (qzWs_i3 170 rfl rfl : Cond.methodLink RX3 69 yX3_leadAt ∈ qzWs)⟩⟩
set_option maxRecDepth 1000000 in
theorem qzc_3_73 : qzPc ((3, 73), (102, false)) := ⟨by decide, Or.inl ⟨rfl, (qzWs_i3 162 rfl rfl : Cond.methodLink RX3 73 yX3_most ∈ qzWs)⟩⟩
set_option maxRecDepth 1000000 in
theorem qzc_3_77 : qzPc ((3, 77), (103, false)) := ⟨by decide, Or.inl ⟨rfl, (qzWs_i3 166 rfl rfl : Cond.methodLink RX3 77 yX3_leadBy ∈ qzWs)⟩⟩
set_option maxRecDepth 1000000 in
theorem qzc_3_81 : qzPc ((3, 81), (104, false)) := ⟨by decide, Or.inl ⟨rfl, (qzWs_i3 158 rfl rfl : Cond.methodLink RX3 81 yX3_laysLead ∈ qzWs)⟩⟩
set_option maxRecDepth 1000000 in
theorem qzc_3_85 : qzPc ((3, 85), (106, false)) := ⟨by decide, Or.inl ⟨rfl, (qzWs_i3 185 rfl rfl : Cond.methodLink RX3 85 yX3_own ∈ qzWs)⟩⟩
set_option maxRecDepth 1000000 in
theorem qzc_3_89 : qzPc ((3, 89), (107, false)) := ⟨by decide, Or.inl ⟨rfl, (qzWs_i3 189 rfl rfl : Cond.methodLink RX3 89 yX3_others ∈ qzWs)⟩⟩
set_option maxRecDepth 1000000 in
theorem qzc_3_92 : qzPc ((3, 92), (108, false)) := ⟨by decide, Or.inl ⟨rfl, (qzWs_i3 181 rfl rfl : Cond.methodLink RX3 92 yX3_choice ∈ qzWs)⟩⟩
set_option maxRecDepth 1000000 in
theorem qzc_3_96 : qzPc ((3, 96), (98, false)) := ⟨by decide, Or.inl ⟨rfl, (qzWs_i3 119 rfl rfl : Cond.methodLink RX3 96 yX3_goCut ∈ qzWs)⟩⟩
set_option maxRecDepth 1000000 in
theorem qzc_3_100 : qzPc ((3, 100), (99, false)) := ⟨by decide, Or.inl ⟨rfl, (qzWs_i3 105 rfl rfl : Cond.methodLink RX3 100 yX3_errorCut ∈ qzWs)⟩⟩
set_option maxRecDepth 1000000 in
theorem qzc_3_103 : qzPc ((3, 103), (89, false)) := ⟨by decide, Or.inl ⟨rfl, (qzWs_i3 112 rfl rfl : Cond.methodLink RX3 103 yX3_records ∈ qzWs)⟩⟩
set_option maxRecDepth 1000000 in
theorem qzc_3_106 : qzPc ((3, 106), (93, false)) := ⟨by decide, Or.inl ⟨rfl, (qzWs_i3 150 rfl rfl : Cond.methodLink RX3 106 yX3_isOver ∈ qzWs)⟩⟩
set_option maxRecDepth 1000000 in
theorem qzc_3_110 : qzPc ((3, 110), (105, false)) := ⟨by decide, Or.inl ⟨rfl, (qzWs_i3 154 rfl rfl : Cond.methodLink RX3 110 yX3_laysLeads ∈ qzWs)⟩⟩
set_option maxRecDepth 1000000 in
theorem qzc_3_113 : qzPc ((3, 113), (109, false)) := ⟨by decide, Or.inl ⟨rfl, (qzWs_i3 177 rfl rfl : Cond.methodLink RX3 113 yX3_cutsBy ∈ qzWs)⟩⟩
set_option maxRecDepth 1000000 in
theorem qzc_3_126 : qzPc ((3, 126), (118, false)) := ⟨by decide, Or.inl ⟨rfl, (qzWs_i3 225 rfl rfl : Cond.methodLink RX3 126 yX3_here ∈ qzWs)⟩⟩
set_option maxRecDepth 1000000 in
theorem qzc_3_129 : qzPc ((3, 129), (119, false)) := ⟨by decide, Or.inl ⟨rfl, (qzWs_i3 232 rfl rfl : Cond.methodLink RX3 129 yX3_takes ∈ qzWs)⟩⟩
set_option maxRecDepth 1000000 in
theorem qzc_3_133 : qzPc ((3, 133), (120, false)) := ⟨by decide, Or.inl ⟨rfl, (qzWs_i4 0 rfl rfl : Cond.methodLink RX3 133 yX3_takesDigit ∈ qzWs)⟩⟩
set_option maxRecDepth 1000000 in
theorem qzc_3_145 : qzPc ((3, 145), (121, false)) := ⟨by decide, Or.inl ⟨rfl, (qzWs_i3 229 rfl rfl : Cond.methodLink RX3 145 yX3_isLetter ∈ qzWs)⟩⟩
set_option maxRecDepth 1000000 in
theorem qzc_3_149 : qzPc ((3, 149), (122, false)) := ⟨by decide, Or.inl ⟨rfl, (qzWs_i3 236 rfl rfl : Cond.methodLink RX3 149 yX3_takesRule ∈ qzWs)⟩⟩
set_option maxRecDepth 1000000 in
theorem qzc_3_152 : qzPc ((3, 152), (124, false)) := ⟨by decide, Or.inl ⟨rfl, (qzWs_i4 8 rfl rfl : Cond.methodLink RX3 152 yX3_takesCut ∈ qzWs)⟩⟩
set_option maxRecDepth 1000000 in
theorem qzc_3_155 : qzPc ((3, 155), (123, false)) := ⟨by decide, Or.inl ⟨rfl, (qzWs_i3 221 rfl rfl : Cond.methodLink RX3 155 yX3_isBolt ∈ qzWs)⟩⟩
set_option maxRecDepth 1000000 in
theorem qzc_3_158 : qzPc ((3, 158), (125, false)) := ⟨by decide, Or.inl ⟨rfl, (qzWs_i4 4 rfl rfl : Cond.methodLink RX3 158 yX3_areCuts ∈ qzWs)⟩⟩
set_option maxRecDepth 1000000 in
theorem qzc_3_161 : qzPc ((3, 161), (128, false)) := ⟨by decide, Or.inl ⟨rfl, (qzWs_i4 20 rfl rfl : Cond.methodLink RX3 161 yX3_makes ∈ qzWs)⟩⟩
set_option maxRecDepth 1000000 in
theorem qzc_3_164 : qzPc ((3, 164), (134, false)) := ⟨by decide, Or.inl ⟨rfl, (qzWs_i4 48 rfl rfl : Cond.methodLink RX3 164 yX3_leftOf ∈ qzWs)⟩⟩
set_option maxRecDepth 1000000 in
theorem qzc_3_167 : qzPc ((3, 167), (133, false)) := ⟨by decide, Or.inl ⟨rfl, (qzWs_i4 40 rfl rfl : Cond.methodLink RX3 167 yX3_changes ∈ qzWs)⟩⟩
set_option maxRecDepth 1000000 in
theorem qzc_3_170 : qzPc ((3, 170), (135, false)) := ⟨by decide, Or.inl ⟨rfl, (qzWs_i4 44 rfl rfl : Cond.methodLink RX3 170 yX3_coloursLeft ∈ qzWs)⟩⟩
set_option maxRecDepth 1000000 in
theorem qzc_3_173 : qzPc ((3, 173), (136, false)) := ⟨by decide, Or.inl ⟨rfl, (qzWs_i4 52 rfl rfl : Cond.methodLink RX3 173 yX3_longestFold ∈ qzWs)⟩⟩
theorem qzCs_0 : ∀ e ∈ qzCl_0, qzPc e := List.forall_mem_cons.mpr ⟨qzc_0_54, List.forall_mem_cons.mpr ⟨qzc_0_58, List.forall_mem_cons.mpr ⟨qzc_0_72, List.forall_mem_cons.mpr ⟨qzc_0_81, List.forall_mem_cons.mpr ⟨qzc_0_85, List.forall_mem_cons.mpr ⟨qzc_0_89, List.forall_mem_cons.mpr ⟨qzc_0_92, List.forall_mem_cons.mpr ⟨qzc_0_95, List.forall_mem_cons.mpr ⟨qzc_0_99, List.forall_mem_cons.mpr ⟨qzc_0_103, List.forall_mem_cons.mpr ⟨qzc_0_107, List.forall_mem_cons.mpr ⟨qzc_0_110, List.forall_mem_cons.mpr ⟨qzc_0_113, List.forall_mem_cons.mpr ⟨qzc_0_116, List.forall_mem_cons.mpr ⟨qzc_0_119, List.forall_mem_cons.mpr ⟨qzc_1_21, List.forall_mem_cons.mpr ⟨qzc_1_41, List.forall_mem_cons.mpr ⟨qzc_1_47, List.forall_mem_cons.mpr ⟨qzc_1_51, List.forall_mem_cons.mpr ⟨qzc_1_55, List.forall_mem_cons.mpr ⟨qzc_2_9, List.forall_mem_cons.mpr ⟨qzc_2_32, List.forall_mem_cons.mpr ⟨qzc_2_40, List.forall_mem_cons.mpr ⟨qzc_2_44, List.forall_mem_cons.mpr ⟨qzc_2_47, List.forall_mem_cons.mpr ⟨qzc_2_51, List.forall_mem_cons.mpr ⟨qzc_2_54, List.forall_mem_cons.mpr ⟨qzc_2_57, List.forall_mem_cons.mpr ⟨qzc_2_64, List.forall_mem_cons.mpr ⟨qzc_2_72, List.forall_mem_cons.mpr ⟨qzc_2_82, List.forall_mem_cons.mpr ⟨qzc_2_89, List.forall_mem_cons.mpr ⟨qzc_2_92, List.forall_mem_cons.mpr ⟨qzc_2_95, List.forall_mem_cons.mpr ⟨qzc_2_98, List.forall_mem_cons.mpr ⟨qzc_2_102, List.forall_mem_cons.mpr ⟨qzc_2_106, List.forall_mem_cons.mpr ⟨qzc_2_110, List.forall_mem_cons.mpr ⟨qzc_2_113, List.forall_mem_cons.mpr ⟨qzc_2_120, (fun _ h => absurd h List.not_mem_nil)⟩⟩⟩⟩⟩⟩⟩⟩⟩⟩⟩⟩⟩⟩⟩⟩⟩⟩⟩⟩⟩⟩⟩⟩⟩⟩⟩⟩⟩⟩⟩⟩⟩⟩⟩⟩⟩⟩⟩⟩
theorem qzCs_1 : ∀ e ∈ qzCl_1, qzPc e := List.forall_mem_cons.mpr ⟨qzc_2_127, List.forall_mem_cons.mpr ⟨qzc_2_130, List.forall_mem_cons.mpr ⟨qzc_2_136, List.forall_mem_cons.mpr ⟨qzc_2_139, List.forall_mem_cons.mpr ⟨qzc_2_149, List.forall_mem_cons.mpr ⟨qzc_2_153, List.forall_mem_cons.mpr ⟨qzc_2_162, List.forall_mem_cons.mpr ⟨qzc_2_168, List.forall_mem_cons.mpr ⟨qzc_2_171, List.forall_mem_cons.mpr ⟨qzc_2_174, List.forall_mem_cons.mpr ⟨qzc_2_180, List.forall_mem_cons.mpr ⟨qzc_2_183, List.forall_mem_cons.mpr ⟨qzc_2_186, List.forall_mem_cons.mpr ⟨qzc_2_190, List.forall_mem_cons.mpr ⟨qzc_2_193, List.forall_mem_cons.mpr ⟨qzc_2_197, List.forall_mem_cons.mpr ⟨qzc_2_200, List.forall_mem_cons.mpr ⟨qzc_2_204, List.forall_mem_cons.mpr ⟨qzc_2_212, List.forall_mem_cons.mpr ⟨qzc_2_215, List.forall_mem_cons.mpr ⟨qzc_2_218, List.forall_mem_cons.mpr ⟨qzc_2_221, List.forall_mem_cons.mpr ⟨qzc_2_224, List.forall_mem_cons.mpr ⟨qzc_2_228, List.forall_mem_cons.mpr ⟨qzc_2_232, List.forall_mem_cons.mpr ⟨qzc_2_236, List.forall_mem_cons.mpr ⟨qzc_2_241, List.forall_mem_cons.mpr ⟨qzc_2_245, List.forall_mem_cons.mpr ⟨qzc_2_250, List.forall_mem_cons.mpr ⟨qzc_2_254, List.forall_mem_cons.mpr ⟨qzc_2_258, List.forall_mem_cons.mpr ⟨qzc_2_261, List.forall_mem_cons.mpr ⟨qzc_2_264, List.forall_mem_cons.mpr ⟨qzc_2_268, List.forall_mem_cons.mpr ⟨qzc_2_280, List.forall_mem_cons.mpr ⟨qzc_2_284, List.forall_mem_cons.mpr ⟨qzc_2_287, List.forall_mem_cons.mpr ⟨qzc_2_290, List.forall_mem_cons.mpr ⟨qzc_3_28, List.forall_mem_cons.mpr ⟨qzc_3_35, (fun _ h => absurd h List.not_mem_nil)⟩⟩⟩⟩⟩⟩⟩⟩⟩⟩⟩⟩⟩⟩⟩⟩⟩⟩⟩⟩⟩⟩⟩⟩⟩⟩⟩⟩⟩⟩⟩⟩⟩⟩⟩⟩⟩⟩⟩⟩
theorem qzCs_2 : ∀ e ∈ qzCl_2, qzPc e := List.forall_mem_cons.mpr ⟨qzc_3_39, List.forall_mem_cons.mpr ⟨qzc_3_43, List.forall_mem_cons.mpr ⟨qzc_3_46, List.forall_mem_cons.mpr ⟨qzc_3_50, List.forall_mem_cons.mpr ⟨qzc_3_54, List.forall_mem_cons.mpr ⟨qzc_3_58, List.forall_mem_cons.mpr ⟨qzc_3_62, List.forall_mem_cons.mpr ⟨qzc_3_66, List.forall_mem_cons.mpr ⟨qzc_3_69, List.forall_mem_cons.mpr ⟨qzc_3_73, List.forall_mem_cons.mpr ⟨qzc_3_77, List.forall_mem_cons.mpr ⟨qzc_3_81, List.forall_mem_cons.mpr ⟨qzc_3_85, List.forall_mem_cons.mpr ⟨qzc_3_89, List.forall_mem_cons.mpr ⟨qzc_3_92, List.forall_mem_cons.mpr ⟨qzc_3_96, List.forall_mem_cons.mpr ⟨qzc_3_100, List.forall_mem_cons.mpr ⟨qzc_3_103, List.forall_mem_cons.mpr ⟨qzc_3_106, List.forall_mem_cons.mpr ⟨qzc_3_110, List.forall_mem_cons.mpr ⟨qzc_3_113, List.forall_mem_cons.mpr ⟨qzc_3_126, List.forall_mem_cons.mpr ⟨qzc_3_129, List.forall_mem_cons.mpr ⟨qzc_3_133, List.forall_mem_cons.mpr ⟨qzc_3_145, List.forall_mem_cons.mpr ⟨qzc_3_149, List.forall_mem_cons.mpr ⟨qzc_3_152, List.forall_mem_cons.mpr ⟨qzc_3_155, List.forall_mem_cons.mpr ⟨qzc_3_158, List.forall_mem_cons.mpr ⟨qzc_3_161, List.forall_mem_cons.mpr ⟨qzc_3_164, List.forall_mem_cons.mpr ⟨qzc_3_167, List.forall_mem_cons.mpr ⟨qzc_3_170, List.forall_mem_cons.mpr ⟨qzc_3_173, (fun _ h => absurd h List.not_mem_nil)⟩⟩⟩⟩⟩⟩⟩⟩⟩⟩⟩⟩⟩⟩⟩⟩⟩⟩⟩⟩⟩⟩⟩⟩⟩⟩⟩⟩⟩⟩⟩⟩⟩⟩
theorem qzCs : ∀ e ∈ qzCl, qzPc e := List.forall_mem_append.mpr ⟨qzCs_0, List.forall_mem_append.mpr ⟨qzCs_1, qzCs_2⟩⟩
/-- what the tables say of a field -/
def qzPf (e : (Nat × Nat) × (Nat × Nat)) : Prop := e.2.1 < 4 ∧ e.2.2 < qzNf e.2.1 ∧ Cond.fieldLink (qzRs e.1.1) e.1.2 (qzTs e.2.1 e.2.2).1 (qzTs e.2.1 e.2.2).2.1 (qzTs e.2.1 e.2.2).2.2.1 ∈ qzWs
set_option maxRecDepth 1000000 in
theorem qzf_0_9 : qzPf ((0, 9), (0, 0)) := ⟨by decide, by decide, (qzWs_i1 83 rfl rfl : Cond.fieldLink RX0 9 "BoltTailors$Game" "colours" "[I" ∈ qzWs)⟩
set_option maxRecDepth 1000000 in
theorem qzf_0_15 : qzPf ((0, 15), (0, 1)) := ⟨by decide, by decide, (qzWs_i1 86 rfl rfl : Cond.fieldLink RX0 15 "BoltTailors$Game" "settings" "[I" ∈ qzWs)⟩
set_option maxRecDepth 1000000 in
theorem qzf_0_18 : qzPf ((0, 18), (0, 2)) := ⟨by decide, by decide, (qzWs_i1 89 rfl rfl : Cond.fieldLink RX0 18 "BoltTailors$Game" "pieceFirst" "[I" ∈ qzWs)⟩
set_option maxRecDepth 1000000 in
theorem qzf_0_21 : qzPf ((0, 21), (0, 3)) := ⟨by decide, by decide, (qzWs_i1 91 rfl rfl : Cond.fieldLink RX0 21 "BoltTailors$Game" "pieceSize" "[I" ∈ qzWs)⟩
set_option maxRecDepth 1000000 in
theorem qzf_0_24 : qzPf ((0, 24), (0, 4)) := ⟨by decide, by decide, (qzWs_i1 93 rfl rfl : Cond.fieldLink RX0 24 "BoltTailors$Game" "pieceWorth" "[I" ∈ qzWs)⟩
set_option maxRecDepth 1000000 in
theorem qzf_0_27 : qzPf ((0, 27), (0, 5)) := ⟨by decide, by decide, (qzWs_i1 95 rfl rfl : Cond.fieldLink RX0 27 "BoltTailors$Game" "pieceTraits" "[I" ∈ qzWs)⟩
set_option maxRecDepth 1000000 in
theorem qzf_0_38 : qzPf ((0, 38), (0, 6)) := ⟨by decide, by decide, (qzWs_i1 97 rfl rfl : Cond.fieldLink RX0 38 "BoltTailors$Game" "stripes" "I" ∈ qzWs)⟩
set_option maxRecDepth 1000000 in
theorem qzf_0_42 : qzPf ((0, 42), (0, 7)) := ⟨by decide, by decide, (qzWs_i1 100 rfl rfl : Cond.fieldLink RX0 42 "BoltTailors$Game" "first" "I" ∈ qzWs)⟩
set_option maxRecDepth 1000000 in
theorem qzf_0_45 : qzPf ((0, 45), (0, 8)) := ⟨by decide, by decide, (qzWs_i1 102 rfl rfl : Cond.fieldLink RX0 45 "BoltTailors$Game" "end" "I" ∈ qzWs)⟩
set_option maxRecDepth 1000000 in
theorem qzf_0_48 : qzPf ((0, 48), (0, 9)) := ⟨by decide, by decide, (qzWs_i1 104 rfl rfl : Cond.fieldLink RX0 48 "BoltTailors$Game" "cuts" "I" ∈ qzWs)⟩
set_option maxRecDepth 1000000 in
theorem qzf_1_9 : qzPf ((1, 9), (1, 0)) := ⟨by decide, by decide, (qzWs_i1 136 rfl rfl : Cond.fieldLink RX1 9 "BoltTailors$Leads" "colours" "[I" ∈ qzWs)⟩
set_option maxRecDepth 1000000 in
theorem qzf_1_15 : qzPf ((1, 15), (1, 1)) := ⟨by decide, by decide, (qzWs_i1 138 rfl rfl : Cond.fieldLink RX1 15 "BoltTailors$Leads" "settings" "[I" ∈ qzWs)⟩
set_option maxRecDepth 1000000 in
theorem qzf_1_18 : qzPf ((1, 18), (1, 2)) := ⟨by decide, by decide, (qzWs_i1 140 rfl rfl : Cond.fieldLink RX1 18 "BoltTailors$Leads" "kept" "[I" ∈ qzWs)⟩
set_option maxRecDepth 1000000 in
theorem qzf_1_25 : qzPf ((1, 25), (0, 0)) := ⟨by decide, by decide, (qzWs_i1 84 rfl rfl : Cond.fieldLink RX1 25 "BoltTailors$Game" "colours" "[I" ∈ qzWs)⟩
set_option maxRecDepth 1000000 in
theorem qzf_1_34 : qzPf ((1, 34), (0, 1)) := ⟨by decide, by decide, (qzWs_i1 87 rfl rfl : Cond.fieldLink RX1 34 "BoltTailors$Game" "settings" "[I" ∈ qzWs)⟩
set_option maxRecDepth 1000000 in
theorem qzf_1_35 : qzPf ((1, 35), (0, 6)) := ⟨by decide, by decide, (qzWs_i1 98 rfl rfl : Cond.fieldLink RX1 35 "BoltTailors$Game" "stripes" "I" ∈ qzWs)⟩
set_option maxRecDepth 1000000 in
theorem qzf_1_39 : qzPf ((1, 39), (1, 3)) := ⟨by decide, by decide, (qzWs_i1 141 rfl rfl : Cond.fieldLink RX1 39 "BoltTailors$Leads" "stripes" "I" ∈ qzWs)⟩
set_option maxRecDepth 1000000 in
theorem qzf_2_10 : qzPf ((2, 10), (2, 0)) := ⟨by decide, by decide, (qzWs_i1 152 rfl rfl : Cond.fieldLink RX2 10 "BoltTailors" "now" "LBoltTailors$Game;" ∈ qzWs)⟩
set_option maxRecDepth 1000000 in
theorem qzf_2_16 : qzPf ((2, 16), (2, 1)) := ⟨by decide, by decide, (qzWs_i1 153 rfl rfl : Cond.fieldLink RX2 16 "BoltTailors" "trial" "LBoltTailors$Game;" ∈ qzWs)⟩
set_option maxRecDepth 1000000 in
theorem qzf_2_19 : qzPf ((2, 19), (2, 2)) := ⟨by decide, by decide, (qzWs_i1 154 rfl rfl : Cond.fieldLink RX2 19 "BoltTailors" "snapshot" "LBoltTailors$Game;" ∈ qzWs)⟩
set_option maxRecDepth 1000000 in
theorem qzf_2_22 : qzPf ((2, 22), (2, 4)) := ⟨by decide, by decide, (qzWs_i1 156 rfl rfl : Cond.fieldLink RX2 22 "BoltTailors" "past" "[LBoltTailors$Game;" ∈ qzWs)⟩
set_option maxRecDepth 1000000 in
theorem qzf_2_26 : qzPf ((2, 26), (2, 6)) := ⟨by decide, by decide, (qzWs_i1 158 rfl rfl : Cond.fieldLink RX2 26 "BoltTailors" "pad" "[C" ∈ qzWs)⟩
set_option maxRecDepth 1000000 in
theorem qzf_2_33 : qzPf ((2, 33), (2, 8)) := ⟨by decide, by decide, (qzWs_i1 160 rfl rfl : Cond.fieldLink RX2 33 "BoltTailors" "leadsByRows" "LBoltTailors$Leads;" ∈ qzWs)⟩
set_option maxRecDepth 1000000 in
theorem qzf_2_37 : qzPf ((2, 37), (2, 9)) := ⟨by decide, by decide, (qzWs_i1 161 rfl rfl : Cond.fieldLink RX2 37 "BoltTailors" "leadsByCuts" "LBoltTailors$Leads;" ∈ qzWs)⟩
set_option maxRecDepth 1000000 in
theorem qzf_2_60 : qzPf ((2, 60), (0, 6)) := ⟨by decide, by decide, (qzWs_i1 99 rfl rfl : Cond.fieldLink RX2 60 "BoltTailors$Game" "stripes" "I" ∈ qzWs)⟩
set_option maxRecDepth 1000000 in
theorem qzf_2_79 : qzPf ((2, 79), (0, 1)) := ⟨by decide, by decide, (qzWs_i1 88 rfl rfl : Cond.fieldLink RX2 79 "BoltTailors$Game" "settings" "[I" ∈ qzWs)⟩
set_option maxRecDepth 1000000 in
theorem qzf_2_86 : qzPf ((2, 86), (2, 7)) := ⟨by decide, by decide, (qzWs_i1 159 rfl rfl : Cond.fieldLink RX2 86 "BoltTailors" "signs" "I" ∈ qzWs)⟩
set_option maxRecDepth 1000000 in
theorem qzf_2_117 : qzPf ((2, 117), (0, 0)) := ⟨by decide, by decide, (qzWs_i1 85 rfl rfl : Cond.fieldLink RX2 117 "BoltTailors$Game" "colours" "[I" ∈ qzWs)⟩
set_option maxRecDepth 1000000 in
theorem qzf_2_124 : qzPf ((2, 124), (0, 4)) := ⟨by decide, by decide, (qzWs_i1 94 rfl rfl : Cond.fieldLink RX2 124 "BoltTailors$Game" "pieceWorth" "[I" ∈ qzWs)⟩
set_option maxRecDepth 1000000 in
theorem qzf_2_133 : qzPf ((2, 133), (0, 3)) := ⟨by decide, by decide, (qzWs_i1 92 rfl rfl : Cond.fieldLink RX2 133 "BoltTailors$Game" "pieceSize" "[I" ∈ qzWs)⟩
set_option maxRecDepth 1000000 in
theorem qzf_2_143 : qzPf ((2, 143), (0, 2)) := ⟨by decide, by decide, (qzWs_i1 90 rfl rfl : Cond.fieldLink RX2 143 "BoltTailors$Game" "pieceFirst" "[I" ∈ qzWs)⟩
set_option maxRecDepth 1000000 in
theorem qzf_2_146 : qzPf ((2, 146), (0, 5)) := ⟨by decide, by decide, (qzWs_i1 96 rfl rfl : Cond.fieldLink RX2 146 "BoltTailors$Game" "pieceTraits" "[I" ∈ qzWs)⟩
set_option maxRecDepth 1000000 in
theorem qzf_2_156 : qzPf ((2, 156), (0, 7)) := ⟨by decide, by decide, (qzWs_i1 101 rfl rfl : Cond.fieldLink RX2 156 "BoltTailors$Game" "first" "I" ∈ qzWs)⟩
set_option maxRecDepth 1000000 in
theorem qzf_2_159 : qzPf ((2, 159), (0, 8)) := ⟨by decide, by decide, (qzWs_i1 103 rfl rfl : Cond.fieldLink RX2 159 "BoltTailors$Game" "end" "I" ∈ qzWs)⟩
set_option maxRecDepth 1000000 in
theorem qzf_2_165 : qzPf ((2, 165), (0, 9)) := ⟨by decide, by decide, (qzWs_i1 105 rfl rfl : Cond.fieldLink RX2 165 "BoltTailors$Game" "cuts" "I" ∈ qzWs)⟩
set_option maxRecDepth 1000000 in
theorem qzf_2_177 : qzPf ((2, 177), (2, 5)) := ⟨by decide, by decide, (qzWs_i1 157 rfl rfl : Cond.fieldLink RX2 177 "BoltTailors" "states" "I" ∈ qzWs)⟩
set_option maxRecDepth 1000000 in
theorem qzf_2_208 : qzPf ((2, 208), (2, 3)) := ⟨by decide, by decide, (qzWs_i1 155 rfl rfl : Cond.fieldLink RX2 208 "BoltTailors" "hasSnapshot" "Z" ∈ qzWs)⟩
set_option maxRecDepth 1000000 in
theorem qzf_2_240 : qzPf ((2, 240), (1, 1)) := ⟨by decide, by decide, (qzWs_i1 139 rfl rfl : Cond.fieldLink RX2 240 "BoltTailors$Leads" "settings" "[I" ∈ qzWs)⟩
set_option maxRecDepth 1000000 in
theorem qzf_2_249 : qzPf ((2, 249), (1, 0)) := ⟨by decide, by decide, (qzWs_i1 137 rfl rfl : Cond.fieldLink RX2 249 "BoltTailors$Leads" "colours" "[I" ∈ qzWs)⟩
set_option maxRecDepth 1000000 in
theorem qzf_3_7 : qzPf ((3, 7), (3, 0)) := ⟨by decide, by decide, (qzWs_i3 58 rfl rfl : Cond.fieldLink RX3 7 "BoltTailorsModel" "s" "[I" ∈ qzWs)⟩
set_option maxRecDepth 1000000 in
theorem qzf_3_13 : qzPf ((3, 13), (3, 1)) := ⟨by decide, by decide, (qzWs_i3 59 rfl rfl : Cond.fieldLink RX3 13 "BoltTailorsModel" "aside" "[I" ∈ qzWs)⟩
set_option maxRecDepth 1000000 in
theorem qzf_3_16 : qzPf ((3, 16), (3, 2)) := ⟨by decide, by decide, (qzWs_i3 60 rfl rfl : Cond.fieldLink RX3 16 "BoltTailorsModel" "past" "[I" ∈ qzWs)⟩
set_option maxRecDepth 1000000 in
theorem qzf_3_19 : qzPf ((3, 19), (3, 4)) := ⟨by decide, by decide, (qzWs_i3 62 rfl rfl : Cond.fieldLink RX3 19 "BoltTailorsModel" "kept" "[I" ∈ qzWs)⟩
set_option maxRecDepth 1000000 in
theorem qzf_3_22 : qzPf ((3, 22), (3, 6)) := ⟨by decide, by decide, (qzWs_i3 64 rfl rfl : Cond.fieldLink RX3 22 "BoltTailorsModel" "pad" "[I" ∈ qzWs)⟩
set_option maxRecDepth 1000000 in
theorem qzf_3_25 : qzPf ((3, 25), (3, 8)) := ⟨by decide, by decide, (qzWs_i3 66 rfl rfl : Cond.fieldLink RX3 25 "BoltTailorsModel" "leads" "[I" ∈ qzWs)⟩
set_option maxRecDepth 1000000 in
theorem qzf_3_31 : qzPf ((3, 31), (3, 3)) := ⟨by decide, by decide, (qzWs_i3 61 rfl rfl : Cond.fieldLink RX3 31 "BoltTailorsModel" "known" "I" ∈ qzWs)⟩
set_option maxRecDepth 1000000 in
theorem qzf_3_116 : qzPf ((3, 116), (3, 7)) := ⟨by decide, by decide, (qzWs_i3 65 rfl rfl : Cond.fieldLink RX3 116 "BoltTailorsModel" "length" "I" ∈ qzWs)⟩
set_option maxRecDepth 1000000 in
theorem qzf_3_119 : qzPf ((3, 119), (3, 9)) := ⟨by decide, by decide, (qzWs_i3 67 rfl rfl : Cond.fieldLink RX3 119 "BoltTailorsModel" "spot" "I" ∈ qzWs)⟩
set_option maxRecDepth 1000000 in
theorem qzf_3_122 : qzPf ((3, 122), (3, 10)) := ⟨by decide, by decide, (qzWs_i3 68 rfl rfl : Cond.fieldLink RX3 122 "BoltTailorsModel" "isForm" "Z" ∈ qzWs)⟩
set_option maxRecDepth 1000000 in
theorem qzf_3_136 : qzPf ((3, 136), (3, 12)) := ⟨by decide, by decide, (qzWs_i3 70 rfl rfl : Cond.fieldLink RX3 136 "BoltTailorsModel" "toldMany" "I" ∈ qzWs)⟩
set_option maxRecDepth 1000000 in
theorem qzf_3_139 : qzPf ((3, 139), (3, 11)) := ⟨by decide, by decide, (qzWs_i3 69 rfl rfl : Cond.fieldLink RX3 139 "BoltTailorsModel" "letters" "I" ∈ qzWs)⟩
set_option maxRecDepth 1000000 in
theorem qzf_3_142 : qzPf ((3, 142), (3, 13)) := ⟨by decide, by decide, (qzWs_i3 71 rfl rfl : Cond.fieldLink RX3 142 "BoltTailorsModel" "toldPhase" "I" ∈ qzWs)⟩
set_option maxRecDepth 1000000 in
theorem qzf_3_176 : qzPf ((3, 176), (3, 5)) := ⟨by decide, by decide, (qzWs_i3 63 rfl rfl : Cond.fieldLink RX3 176 "BoltTailorsModel" "isKept" "Z" ∈ qzWs)⟩
theorem qzFs_0 : ∀ e ∈ qzFl_0, qzPf e := List.forall_mem_cons.mpr ⟨qzf_0_9, List.forall_mem_cons.mpr ⟨qzf_0_15, List.forall_mem_cons.mpr ⟨qzf_0_18, List.forall_mem_cons.mpr ⟨qzf_0_21, List.forall_mem_cons.mpr ⟨qzf_0_24, List.forall_mem_cons.mpr ⟨qzf_0_27, List.forall_mem_cons.mpr ⟨qzf_0_38, List.forall_mem_cons.mpr ⟨qzf_0_42, List.forall_mem_cons.mpr ⟨qzf_0_45, List.forall_mem_cons.mpr ⟨qzf_0_48, List.forall_mem_cons.mpr ⟨qzf_1_9, List.forall_mem_cons.mpr ⟨qzf_1_15, List.forall_mem_cons.mpr ⟨qzf_1_18, List.forall_mem_cons.mpr ⟨qzf_1_25, List.forall_mem_cons.mpr ⟨qzf_1_34, List.forall_mem_cons.mpr ⟨qzf_1_35, List.forall_mem_cons.mpr ⟨qzf_1_39, List.forall_mem_cons.mpr ⟨qzf_2_10, List.forall_mem_cons.mpr ⟨qzf_2_16, List.forall_mem_cons.mpr ⟨qzf_2_19, List.forall_mem_cons.mpr ⟨qzf_2_22, List.forall_mem_cons.mpr ⟨qzf_2_26, List.forall_mem_cons.mpr ⟨qzf_2_33, List.forall_mem_cons.mpr ⟨qzf_2_37, List.forall_mem_cons.mpr ⟨qzf_2_60, List.forall_mem_cons.mpr ⟨qzf_2_79, List.forall_mem_cons.mpr ⟨qzf_2_86, List.forall_mem_cons.mpr ⟨qzf_2_117, List.forall_mem_cons.mpr ⟨qzf_2_124, List.forall_mem_cons.mpr ⟨qzf_2_133, List.forall_mem_cons.mpr ⟨qzf_2_143, List.forall_mem_cons.mpr ⟨qzf_2_146, List.forall_mem_cons.mpr ⟨qzf_2_156, List.forall_mem_cons.mpr ⟨qzf_2_159, List.forall_mem_cons.mpr ⟨qzf_2_165, List.forall_mem_cons.mpr ⟨qzf_2_177, List.forall_mem_cons.mpr ⟨qzf_2_208, List.forall_mem_cons.mpr ⟨qzf_2_240, List.forall_mem_cons.mpr ⟨qzf_2_249, List.forall_mem_cons.mpr ⟨qzf_3_7, (fun _ h => absurd h List.not_mem_nil)⟩⟩⟩⟩⟩⟩⟩⟩⟩⟩⟩⟩⟩⟩⟩⟩⟩⟩⟩⟩⟩⟩⟩⟩⟩⟩⟩⟩⟩⟩⟩⟩⟩⟩⟩⟩⟩⟩⟩⟩
theorem qzFs_1 : ∀ e ∈ qzFl_1, qzPf e := List.forall_mem_cons.mpr ⟨qzf_3_13, List.forall_mem_cons.mpr ⟨qzf_3_16, List.forall_mem_cons.mpr ⟨qzf_3_19, List.forall_mem_cons.mpr ⟨qzf_3_22, List.forall_mem_cons.mpr ⟨qzf_3_25, List.forall_mem_cons.mpr ⟨qzf_3_31, List.forall_mem_cons.mpr ⟨qzf_3_116, List.forall_mem_cons.mpr ⟨qzf_3_119, List.forall_mem_cons.mpr ⟨qzf_3_122, List.forall_mem_cons.mpr ⟨qzf_3_136, List.forall_mem_cons.mpr ⟨qzf_3_139, List.forall_mem_cons.mpr ⟨qzf_3_142, List.forall_mem_cons.mpr ⟨qzf_3_176, (fun _ h => absurd h List.not_mem_nil)⟩⟩⟩⟩⟩⟩⟩⟩⟩⟩⟩⟩⟩
theorem qzFs_ok : ∀ e ∈ qzFl, qzPf e := List.forall_mem_append.mpr ⟨qzFs_0, qzFs_1⟩
theorem qzFind_in {α : Type} : ∀ {l : List ((Nat × Nat) × α)} {a b : Nat} {x : α}, qzFind l a b = some x → ((a, b), x) ∈ l
  | [], _, _, _, h => by cases h
  | e :: l, a, b, x, h => by
    unfold qzFind at h
    split at h
    · rename_i hc
      cases h
      obtain ⟨⟨e1, e2⟩, e3⟩ := e
      obtain ⟨h1, h2⟩ := hc
      cases h1; cases h2
      exact List.mem_cons_self
    · exact List.mem_cons_of_mem _ (qzFind_in h)
set_option maxRecDepth 1000000 in
theorem qzu_0_0 : u_lay RX0 TX0 0 ∈ qzWs := qzWs_i1 106 rfl rfl
set_option maxRecDepth 1000000 in
theorem qzu_0_1 : u_lay RX0 TX0 1 ∈ qzWs := qzWs_i1 108 rfl rfl
set_option maxRecDepth 1000000 in
theorem qzu_0_2 : u_lay RX0 TX0 2 ∈ qzWs := qzWs_i1 110 rfl rfl
set_option maxRecDepth 1000000 in
theorem qzu_0_3 : u_lay RX0 TX0 3 ∈ qzWs := qzWs_i1 112 rfl rfl
set_option maxRecDepth 1000000 in
theorem qzu_0_4 : u_lay RX0 TX0 4 ∈ qzWs := qzWs_i1 114 rfl rfl
set_option maxRecDepth 1000000 in
theorem qzu_0_5 : u_lay RX0 TX0 5 ∈ qzWs := qzWs_i1 116 rfl rfl
set_option maxRecDepth 1000000 in
theorem qzu_0_6 : u_lay RX0 TX0 6 ∈ qzWs := qzWs_i1 118 rfl rfl
set_option maxRecDepth 1000000 in
theorem qzu_0_7 : u_lay RX0 TX0 7 ∈ qzWs := qzWs_i1 120 rfl rfl
set_option maxRecDepth 1000000 in
theorem qzu_0_8 : u_lay RX0 TX0 8 ∈ qzWs := qzWs_i1 122 rfl rfl
set_option maxRecDepth 1000000 in
theorem qzu_0_9 : u_lay RX0 TX0 9 ∈ qzWs := qzWs_i1 124 rfl rfl
theorem qzU_0 : ∀ w ∈ u_ws RX0 TX0 10, w ∈ qzWs := List.forall_mem_cons.mpr ⟨qzu_0_0, List.forall_mem_cons.mpr ⟨qzu_0_1, List.forall_mem_cons.mpr ⟨qzu_0_2, List.forall_mem_cons.mpr ⟨qzu_0_3, List.forall_mem_cons.mpr ⟨qzu_0_4, List.forall_mem_cons.mpr ⟨qzu_0_5, List.forall_mem_cons.mpr ⟨qzu_0_6, List.forall_mem_cons.mpr ⟨qzu_0_7, List.forall_mem_cons.mpr ⟨qzu_0_8, List.forall_mem_cons.mpr ⟨qzu_0_9, (fun _ h => absurd h List.not_mem_nil)⟩⟩⟩⟩⟩⟩⟩⟩⟩⟩
set_option maxRecDepth 1000000 in
theorem qzu_1_0 : u_lay RX1 TX1 0 ∈ qzWs := qzWs_i1 142 rfl rfl
set_option maxRecDepth 1000000 in
theorem qzu_1_1 : u_lay RX1 TX1 1 ∈ qzWs := qzWs_i1 144 rfl rfl
set_option maxRecDepth 1000000 in
theorem qzu_1_2 : u_lay RX1 TX1 2 ∈ qzWs := qzWs_i1 146 rfl rfl
set_option maxRecDepth 1000000 in
theorem qzu_1_3 : u_lay RX1 TX1 3 ∈ qzWs := qzWs_i1 148 rfl rfl
theorem qzU_1 : ∀ w ∈ u_ws RX1 TX1 4, w ∈ qzWs := List.forall_mem_cons.mpr ⟨qzu_1_0, List.forall_mem_cons.mpr ⟨qzu_1_1, List.forall_mem_cons.mpr ⟨qzu_1_2, List.forall_mem_cons.mpr ⟨qzu_1_3, (fun _ h => absurd h List.not_mem_nil)⟩⟩⟩⟩
set_option maxRecDepth 1000000 in
theorem qzu_2_0 : u_lay RX2 TX2 0 ∈ qzWs := qzWs_i1 162 rfl rfl
set_option maxRecDepth 1000000 in
theorem qzu_2_1 : u_lay RX2 TX2 1 ∈ qzWs := qzWs_i1 164 rfl rfl
set_option maxRecDepth 1000000 in
theorem qzu_2_2 : u_lay RX2 TX2 2 ∈ qzWs := qzWs_i1 166 rfl rfl
set_option maxRecDepth 1000000 in
theorem qzu_2_3 : u_lay RX2 TX2 3 ∈ qzWs := qzWs_i1 168 rfl rfl
set_option maxRecDepth 1000000 in
theorem qzu_2_4 : u_lay RX2 TX2 4 ∈ qzWs := qzWs_i1 170 rfl rfl
set_option maxRecDepth 1000000 in
theorem qzu_2_5 : u_lay RX2 TX2 5 ∈ qzWs := qzWs_i1 172 rfl rfl
set_option maxRecDepth 1000000 in
theorem qzu_2_6 : u_lay RX2 TX2 6 ∈ qzWs := qzWs_i1 174 rfl rfl
set_option maxRecDepth 1000000 in
theorem qzu_2_7 : u_lay RX2 TX2 7 ∈ qzWs := qzWs_i1 176 rfl rfl
set_option maxRecDepth 1000000 in
theorem qzu_2_8 : u_lay RX2 TX2 8 ∈ qzWs := qzWs_i1 178 rfl rfl
set_option maxRecDepth 1000000 in
theorem qzu_2_9 : u_lay RX2 TX2 9 ∈ qzWs := qzWs_i1 180 rfl rfl
theorem qzU_2 : ∀ w ∈ u_ws RX2 TX2 10, w ∈ qzWs := List.forall_mem_cons.mpr ⟨qzu_2_0, List.forall_mem_cons.mpr ⟨qzu_2_1, List.forall_mem_cons.mpr ⟨qzu_2_2, List.forall_mem_cons.mpr ⟨qzu_2_3, List.forall_mem_cons.mpr ⟨qzu_2_4, List.forall_mem_cons.mpr ⟨qzu_2_5, List.forall_mem_cons.mpr ⟨qzu_2_6, List.forall_mem_cons.mpr ⟨qzu_2_7, List.forall_mem_cons.mpr ⟨qzu_2_8, List.forall_mem_cons.mpr ⟨qzu_2_9, (fun _ h => absurd h List.not_mem_nil)⟩⟩⟩⟩⟩⟩⟩⟩⟩⟩
set_option maxRecDepth 1000000 in
theorem qzu_3_0 : u_lay RX3 TX3 0 ∈ qzWs := qzWs_i3 72 rfl rfl
set_option maxRecDepth 1000000 in
theorem qzu_3_1 : u_lay RX3 TX3 1 ∈ qzWs := qzWs_i3 74 rfl rfl
set_option maxRecDepth 1000000 in
theorem qzu_3_2 : u_lay RX3 TX3 2 ∈ qzWs := qzWs_i3 76 rfl rfl
set_option maxRecDepth 1000000 in
theorem qzu_3_3 : u_lay RX3 TX3 3 ∈ qzWs := qzWs_i3 78 rfl rfl
set_option maxRecDepth 1000000 in
theorem qzu_3_4 : u_lay RX3 TX3 4 ∈ qzWs := qzWs_i3 80 rfl rfl
set_option maxRecDepth 1000000 in
theorem qzu_3_5 : u_lay RX3 TX3 5 ∈ qzWs := qzWs_i3 82 rfl rfl
set_option maxRecDepth 1000000 in
theorem qzu_3_6 : u_lay RX3 TX3 6 ∈ qzWs := qzWs_i3 84 rfl rfl
set_option maxRecDepth 1000000 in
theorem qzu_3_7 : u_lay RX3 TX3 7 ∈ qzWs := qzWs_i3 86 rfl rfl
set_option maxRecDepth 1000000 in
theorem qzu_3_8 : u_lay RX3 TX3 8 ∈ qzWs := qzWs_i3 88 rfl rfl
set_option maxRecDepth 1000000 in
theorem qzu_3_9 : u_lay RX3 TX3 9 ∈ qzWs := qzWs_i3 90 rfl rfl
set_option maxRecDepth 1000000 in
theorem qzu_3_10 : u_lay RX3 TX3 10 ∈ qzWs := qzWs_i3 92 rfl rfl
set_option maxRecDepth 1000000 in
theorem qzu_3_11 : u_lay RX3 TX3 11 ∈ qzWs := qzWs_i3 94 rfl rfl
set_option maxRecDepth 1000000 in
theorem qzu_3_12 : u_lay RX3 TX3 12 ∈ qzWs := qzWs_i3 96 rfl rfl
set_option maxRecDepth 1000000 in
theorem qzu_3_13 : u_lay RX3 TX3 13 ∈ qzWs := qzWs_i3 98 rfl rfl
theorem qzU_3 : ∀ w ∈ u_ws RX3 TX3 14, w ∈ qzWs := List.forall_mem_cons.mpr ⟨qzu_3_0, List.forall_mem_cons.mpr ⟨qzu_3_1, List.forall_mem_cons.mpr ⟨qzu_3_2, List.forall_mem_cons.mpr ⟨qzu_3_3, List.forall_mem_cons.mpr ⟨qzu_3_4, List.forall_mem_cons.mpr ⟨qzu_3_5, List.forall_mem_cons.mpr ⟨qzu_3_6, List.forall_mem_cons.mpr ⟨qzu_3_7, List.forall_mem_cons.mpr ⟨qzu_3_8, List.forall_mem_cons.mpr ⟨qzu_3_9, List.forall_mem_cons.mpr ⟨qzu_3_10, List.forall_mem_cons.mpr ⟨qzu_3_11, List.forall_mem_cons.mpr ⟨qzu_3_12, List.forall_mem_cons.mpr ⟨qzu_3_13, (fun _ h => absurd h List.not_mem_nil)⟩⟩⟩⟩⟩⟩⟩⟩⟩⟩⟩⟩⟩⟩
theorem qzU {ci : Nat} (h : ci < 4) : ∀ w ∈ u_ws (qzRs ci) (qzTs ci) (qzNf ci), w ∈ qzWs := by
  match ci, h with
  | 0, _ => exact qzU_0
  | 1, _ => exact qzU_1
  | 2, _ => exact qzU_2
  | 3, _ => exact qzU_3
theorem qzTy_ok {ci : Nat} (h : ci < 4) : ∀ k, k < qzNf ci → parseFieldDescriptor (qzTs ci k).2.2.1 = some (qzTy ci k) := by
  match ci, h with
  | 0, _ => exact tyX0_ok
  | 1, _ => exact tyX1_ok
  | 2, _ => exact tyX2_ok
  | 3, _ => exact tyX3_ok
theorem qzNm_ok {ci : Nat} (h : ci < 4) : ∀ a, a < qzNf ci → ∀ b, b < qzNf ci → a ≠ b → (qzTs ci a).2.1 ≠ (qzTs ci b).2.1 := by
  match ci, h with
  | 0, _ => exact nmX0
  | 1, _ => exact nmX1
  | 2, _ => exact nmX2
  | 3, _ => exact nmX3
theorem qzCl_at {ci : Nat} (h : ci < 4) : vwCl[ci]? = some (qzRs ci, qzTs ci, qzNf ci) := by
  match ci, h with
  | 0, _ => rfl
  | 1, _ => rfl
  | 2, _ => rfl
  | 3, _ => rfl
set_option maxRecDepth 1000000 in
theorem qzs_oi0 : Cond.methodLink RX0 3 objectInit ∈ qzWs := qzWs_i1 25 rfl rfl
set_option maxRecDepth 1000000 in
theorem qzs_oi1 : Cond.methodLink RX1 3 objectInit ∈ qzWs := qzWs_i1 135 rfl rfl
set_option maxRecDepth 1000000 in
theorem qzs_oi2 : Cond.methodLink RX2 1 objectInit ∈ qzWs := qzWs_i1 17 rfl rfl
set_option maxRecDepth 1000000 in
theorem qzs_oi3 : Cond.methodLink RX3 1 objectInit ∈ qzWs := qzWs_i3 53 rfl rfl
set_option maxRecDepth 1000000 in
theorem qzs_oii : Cond.instanceMethod objectInit ∈ qzWs := qzWs_i1 18 rfl rfl
set_option maxRecDepth 1000000 in
theorem qzs_oic : Cond.code objectInit ⟨#[0xb1]⟩ 1 none ∈ qzWs := qzWs_i1 19 rfl rfl
set_option maxRecDepth 1000000 in
theorem qzs_ac0 : Cond.methodLink RX0 66 arraycopyName ∈ qzWs := qzWs_i1 218 rfl rfl
set_option maxRecDepth 1000000 in
theorem qzs_ac1 : Cond.methodLink RX1 28 arraycopyName ∈ qzWs := qzWs_i2 48 rfl rfl
set_option maxRecDepth 1000000 in
theorem qzs_acn : Cond.native arraycopyName ∈ qzWs := qzWs_i1 220 rfl rfl
set_option maxRecDepth 1000000 in
theorem qzs_acs : Cond.static arraycopyName ∈ qzWs := qzWs_i1 219 rfl rfl
set_option maxRecDepth 1000000 in
theorem qzs_aci : Cond.initialized "java/lang/System" ∈ qzWs := qzWs_i1 10 rfl rfl
set_option maxRecDepth 1000000 in
theorem qzs_mi0 : Cond.methodLink RX0 75 Lib.Math.min.name ∈ qzWs := qzWs_i1 199 rfl rfl
set_option maxRecDepth 1000000 in
theorem qzs_mi2 : Cond.methodLink RX2 272 Lib.Math.min.name ∈ qzWs := qzWs_i2 78 rfl rfl
set_option maxRecDepth 1000000 in
theorem qzs_ma2 : Cond.methodLink RX2 277 Lib.Math.max.name ∈ qzWs := qzWs_i2 79 rfl rfl
set_option maxRecDepth 1000000 in
theorem qzs_min_s : Cond.static Lib.Math.min.name ∈ qzWs := qzWs_i1 200 rfl rfl
set_option maxRecDepth 1000000 in
theorem qzs_min_c : Cond.code Lib.Math.min.name Lib.Math.min.code 2 (some .int) ∈ qzWs := qzWs_i1 201 rfl rfl
set_option maxRecDepth 1000000 in
theorem qzs_max_s : Cond.static Lib.Math.max.name ∈ qzWs := qzWs_i2 80 rfl rfl
set_option maxRecDepth 1000000 in
theorem qzs_max_c : Cond.code Lib.Math.max.name Lib.Math.max.code 2 (some .int) ∈ qzWs := qzWs_i2 81 rfl rfl
set_option maxRecDepth 1000000 in
theorem qzs_mth : Cond.initialized "java/lang/Math" ∈ qzWs := qzWs_i1 9 rfl rfl
set_option maxRecDepth 1000000 in
theorem qzs_low : Cond.fieldLink RX2 68 "BoltTailors" "LOWEST_VALUES" "[I" ∈ qzWs := qzWs_i2 111 rfl rfl
set_option maxRecDepth 1000000 in
theorem qzs_high : Cond.fieldLink RX2 76 "BoltTailors" "HIGHEST_VALUES" "[I" ∈ qzWs := qzWs_i2 113 rfl rfl
set_option maxRecDepth 1000000 in
theorem qzs_c1 : Cond.constant RX1 40 (-1000000) ∈ qzWs := qzWs_i2 49 rfl rfl
set_option maxRecDepth 1000000 in
theorem qzs_c2 : Cond.constant RX2 227 (-1000000) ∈ qzWs := qzWs_i2 55 rfl rfl
set_option maxRecDepth 1000000 in
theorem qzs_n0 : Cond.classLink RX2 7 RX0 ∈ qzWs := qzWs_i1 20 rfl rfl
set_option maxRecDepth 1000000 in
theorem qzs_n1 : Cond.classLink RX2 30 RX1 ∈ qzWs := qzWs_i1 130 rfl rfl
set_option maxRecDepth 1000000 in
theorem qzs_i0 : Cond.instantiable RX0 10 ∈ qzWs := qzWs_i1 21 rfl rfl
set_option maxRecDepth 1000000 in
theorem qzs_i1 : Cond.instantiable RX1 4 ∈ qzWs := qzWs_i1 131 rfl rfl
set_option maxRecDepth 1000000 in
theorem qzs_aI : Cond.arrayClass .int ∈ qzWs := qzWs_i1 127 rfl rfl
set_option maxRecDepth 1000000 in
theorem qzs_aC : Cond.arrayClass .char ∈ qzWs := qzWs_i1 151 rfl rfl
set_option maxRecDepth 1000000 in
theorem qzs_sl : Cond.methodLink RX0 32 yJ0_length_8abf5 ∈ qzWs := qzWs_i1 27 rfl rfl
set_option maxRecDepth 1000000 in
theorem qzs_sc : Cond.methodLink RX0 62 yJ0_charAt_5068e ∈ qzWs := qzWs_i1 45 rfl rfl
set_option maxRecDepth 1000000 in
theorem qzs_slc : Cond.code yJ0_length_8abf5 cJ0_length_8abf5 1 (some .int) ∈ qzWs := qzWs_i1 30 rfl rfl
set_option maxRecDepth 1000000 in
theorem qzs_sli : Cond.instanceMethod yJ0_length_8abf5 ∈ qzWs := qzWs_i1 28 rfl rfl
set_option maxRecDepth 1000000 in
theorem qzs_sls : Cond.selects RJ0 yJ0_length_8abf5 yJ0_length_8abf5 ∈ qzWs := qzWs_i1 29 rfl rfl
set_option maxRecDepth 1000000 in
theorem qzs_scc : Cond.code yJ0_charAt_5068e cJ0_charAt_5068e 2 (some .char) ∈ qzWs := qzWs_i1 48 rfl rfl
set_option maxRecDepth 1000000 in
theorem qzs_sci : Cond.instanceMethod yJ0_charAt_5068e ∈ qzWs := qzWs_i1 46 rfl rfl
set_option maxRecDepth 1000000 in
theorem qzs_scs : Cond.selects RJ0 yJ0_charAt_5068e yJ0_charAt_5068e ∈ qzWs := qzWs_i1 47 rfl rfl
set_option maxRecDepth 1000000 in
theorem qzs_str : Cond.initialized RJ0 ∈ qzWs := qzWs_i1 3 rfl rfl
theorem qzGood {w : Cond} (h : w ∈ qzWs) : GoodIn qzWs (w :: qzWs) := fun x hx => (List.mem_cons.mp hx).elim (fun e => e ▸ qzWs_good _ h) (fun hx => qzWs_good _ hx)
