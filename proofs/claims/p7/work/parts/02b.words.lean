/-- the words that every contract of the interpreter stands on -/
def qzWs : List Cond := lw_tbl.filter goodWord
theorem qzWs_in {w : Cond} (i : Nat) (h : lw_tbl[i]? = some w) (hg : goodWord w = true) : w ∈ qzWs := List.mem_filter.mpr ⟨List.mem_of_getElem? h, hg⟩
theorem qzWs_good : GoodIn qzWs qzWs := fun w hw => ⟨hw, good_of_word (List.mem_filter.mp hw).2⟩
theorem qzWs_sub : ∀ w ∈ qzWs, w ∈ lw_tbl := fun _ hw => (List.mem_filter.mp hw).1
/-- what the tables say of a method -/
def qzPm (md : qzMT) : Prop := plainName md.1.cls = true ∧ Cond.code md.1 md.2.1 md.2.2.1 md.2.2.2.1 ∈ qzWs ∧ Cond.initialized md.1.cls ∈ qzWs ∧ (md.1.cls ≠ "java/lang/invoke/MethodHandle" ∧ md.1.cls ≠ "java/lang/invoke/VarHandle" ∧ (parseMethodDescriptor md.1.desc).map (fun d => d.parameters.length) = some md.2.2.2.2.2.1) ∧ (md.2.2.1 ≤ 41 ∧ md.2.2.2.2.2.1 + (if md.2.2.2.2.1 = 0 then 0 else 1) ≤ md.2.2.1 ∧ md.1.cls = qzRs md.2.2.2.2.2.2) ∧
  (md.2.2.2.2.1 = 0 → Cond.static md.1 ∈ qzWs) ∧ (md.2.2.2.2.1 = 1 → Cond.instanceMethod md.1 ∈ qzWs ∧ Cond.selects md.1.cls md.1 md.1 ∈ qzWs) ∧ (md.2.2.2.2.1 = 2 → md.1.name = "<init>" ∧ Cond.instanceMethod md.1 ∈ qzWs ∧ md.2.2.2.1 = none)
theorem qzi_RX2 : Cond.initialized RX2 ∈ qzWs := qzWs_in 51 (by decide +kernel) rfl
theorem qzi_RX0 : Cond.initialized RX0 ∈ qzWs := qzWs_in 52 (by decide +kernel) rfl
theorem qzi_RX1 : Cond.initialized RX1 ∈ qzWs := qzWs_in 57 (by decide +kernel) rfl
theorem qzi_RX3 : Cond.initialized RX3 ∈ qzWs := qzWs_in 58 (by decide +kernel) rfl
theorem qzi_RJ7 : Cond.initialized RJ7 ∈ qzWs := qzWs_in 61 (by decide +kernel) rfl
set_option maxRecDepth 20000 in
theorem qzm_0 : qzPm (yX0_init, cX0_init, 2, none, 2, 0, 0) := ⟨by decide +kernel, qzWs_in 74 (by decide +kernel) rfl, qzi_RX0, ⟨by decide +kernel, by decide +kernel, by decide +kernel⟩, ⟨by decide, by decide, rfl⟩, (fun h => absurd h (by decide)), (fun h => absurd h (by decide)), (fun _ => ⟨rfl, qzWs_in 73 (by decide +kernel) rfl, rfl⟩)⟩
set_option maxRecDepth 20000 in
theorem qzm_1 : qzPm (yX0_copyFrom, cX0_copyFrom, 2, none, 1, 1, 0) := ⟨by decide +kernel, qzWs_in 267 (by decide +kernel) rfl, qzi_RX0, ⟨by decide +kernel, by decide +kernel, by decide +kernel⟩, ⟨by decide, by decide, rfl⟩, (fun h => absurd h (by decide)), (fun _ => ⟨qzWs_in 265 (by decide +kernel) rfl, qzWs_in 266 (by decide +kernel) rfl⟩), (fun h => absurd h (by decide))⟩
set_option maxRecDepth 20000 in
theorem qzm_2 : qzPm (yX0_begin, cX0_begin, 1, none, 1, 0, 0) := ⟨by decide +kernel, qzWs_in 388 (by decide +kernel) rfl, qzi_RX0, ⟨by decide +kernel, by decide +kernel, by decide +kernel⟩, ⟨by decide, by decide, rfl⟩, (fun h => absurd h (by decide)), (fun _ => ⟨qzWs_in 386 (by decide +kernel) rfl, qzWs_in 387 (by decide +kernel) rfl⟩), (fun h => absurd h (by decide))⟩
set_option maxRecDepth 20000 in
theorem qzm_3 : qzPm (yX0_remaining, cX0_remaining, 1, (some .int), 1, 0, 0) := ⟨by decide +kernel, qzWs_in 248 (by decide +kernel) rfl, qzi_RX0, ⟨by decide +kernel, by decide +kernel, by decide +kernel⟩, ⟨by decide, by decide, rfl⟩, (fun h => absurd h (by decide)), (fun _ => ⟨qzWs_in 246 (by decide +kernel) rfl, qzWs_in 247 (by decide +kernel) rfl⟩), (fun h => absurd h (by decide))⟩
set_option maxRecDepth 20000 in
theorem qzm_4 : qzPm (yX0_isOver, cX0_isOver, 1, (some .boolean), 1, 0, 0) := ⟨by decide +kernel, qzWs_in 500 (by decide +kernel) rfl, qzi_RX0, ⟨by decide +kernel, by decide +kernel, by decide +kernel⟩, ⟨by decide, by decide, rfl⟩, (fun h => absurd h (by decide)), (fun _ => ⟨qzWs_in 498 (by decide +kernel) rfl, qzWs_in 499 (by decide +kernel) rfl⟩), (fun h => absurd h (by decide))⟩
set_option maxRecDepth 20000 in
theorem qzm_5 : qzPm (yX0_onTurn, cX0_onTurn, 1, (some .int), 1, 0, 0) := ⟨by decide +kernel, qzWs_in 291 (by decide +kernel) rfl, qzi_RX0, ⟨by decide +kernel, by decide +kernel, by decide +kernel⟩, ⟨by decide, by decide, rfl⟩, (fun h => absurd h (by decide)), (fun _ => ⟨qzWs_in 289 (by decide +kernel) rfl, qzWs_in 290 (by decide +kernel) rfl⟩), (fun h => absurd h (by decide))⟩
set_option maxRecDepth 20000 in
theorem qzm_6 : qzPm (yX0_longestCut, cX0_longestCut, 1, (some .int), 1, 0, 0) := ⟨by decide +kernel, qzWs_in 244 (by decide +kernel) rfl, qzi_RX0, ⟨by decide +kernel, by decide +kernel, by decide +kernel⟩, ⟨by decide, by decide, rfl⟩, (fun h => absurd h (by decide)), (fun _ => ⟨qzWs_in 242 (by decide +kernel) rfl, qzWs_in 243 (by decide +kernel) rfl⟩), (fun h => absurd h (by decide))⟩
set_option maxRecDepth 20000 in
theorem qzm_7 : qzPm (yX0_worthOfCut, cX0_worthOfCut, 4, (some .int), 1, 1, 0) := ⟨by decide +kernel, qzWs_in 349 (by decide +kernel) rfl, qzi_RX0, ⟨by decide +kernel, by decide +kernel, by decide +kernel⟩, ⟨by decide, by decide, rfl⟩, (fun h => absurd h (by decide)), (fun _ => ⟨qzWs_in 347 (by decide +kernel) rfl, qzWs_in 348 (by decide +kernel) rfl⟩), (fun h => absurd h (by decide))⟩
set_option maxRecDepth 20000 in
theorem qzm_8 : qzPm (yX0_sew, cX0_sew, 6, (some .int), 1, 1, 0) := ⟨by decide +kernel, qzWs_in 277 (by decide +kernel) rfl, qzi_RX0, ⟨by decide +kernel, by decide +kernel, by decide +kernel⟩, ⟨by decide, by decide, rfl⟩, (fun h => absurd h (by decide)), (fun _ => ⟨qzWs_in 275 (by decide +kernel) rfl, qzWs_in 276 (by decide +kernel) rfl⟩), (fun h => absurd h (by decide))⟩
set_option maxRecDepth 20000 in
theorem qzm_9 : qzPm (yX0_turnRound, cX0_turnRound, 5, (some .int), 1, 0, 0) := ⟨by decide +kernel, qzWs_in 396 (by decide +kernel) rfl, qzi_RX0, ⟨by decide +kernel, by decide +kernel, by decide +kernel⟩, ⟨by decide, by decide, rfl⟩, (fun h => absurd h (by decide)), (fun _ => ⟨qzWs_in 394 (by decide +kernel) rfl, qzWs_in 395 (by decide +kernel) rfl⟩), (fun h => absurd h (by decide))⟩
set_option maxRecDepth 20000 in
theorem qzm_10 : qzPm (yX0_piecesOf, cX0_piecesOf, 2, (some .int), 1, 1, 0) := ⟨by decide +kernel, qzWs_in 299 (by decide +kernel) rfl, qzi_RX0, ⟨by decide +kernel, by decide +kernel, by decide +kernel⟩, ⟨by decide, by decide, rfl⟩, (fun h => absurd h (by decide)), (fun _ => ⟨qzWs_in 297 (by decide +kernel) rfl, qzWs_in 298 (by decide +kernel) rfl⟩), (fun h => absurd h (by decide))⟩
set_option maxRecDepth 20000 in
theorem qzm_11 : qzPm (yX0_endOfCoat, cX0_endOfCoat, 4, (some .int), 1, 1, 0) := ⟨by decide +kernel, qzWs_in 295 (by decide +kernel) rfl, qzi_RX0, ⟨by decide +kernel, by decide +kernel, by decide +kernel⟩, ⟨by decide, by decide, rfl⟩, (fun h => absurd h (by decide)), (fun _ => ⟨qzWs_in 293 (by decide +kernel) rfl, qzWs_in 294 (by decide +kernel) rfl⟩), (fun h => absurd h (by decide))⟩
set_option maxRecDepth 20000 in
theorem qzm_12 : qzPm (yX0_sumOfCoat, cX0_sumOfCoat, 5, (some .int), 1, 2, 0) := ⟨by decide +kernel, qzWs_in 483 (by decide +kernel) rfl, qzi_RX0, ⟨by decide +kernel, by decide +kernel, by decide +kernel⟩, ⟨by decide, by decide, rfl⟩, (fun h => absurd h (by decide)), (fun _ => ⟨qzWs_in 481 (by decide +kernel) rfl, qzWs_in 482 (by decide +kernel) rfl⟩), (fun h => absurd h (by decide))⟩
set_option maxRecDepth 20000 in
theorem qzm_13 : qzPm (yX0_piecesWith, cX0_piecesWith, 5, (some .int), 1, 2, 0) := ⟨by decide +kernel, qzWs_in 488 (by decide +kernel) rfl, qzi_RX0, ⟨by decide +kernel, by decide +kernel, by decide +kernel⟩, ⟨by decide, by decide, rfl⟩, (fun h => absurd h (by decide)), (fun _ => ⟨qzWs_in 486 (by decide +kernel) rfl, qzWs_in 487 (by decide +kernel) rfl⟩), (fun h => absurd h (by decide))⟩
set_option maxRecDepth 20000 in
theorem qzm_14 : qzPm (yX0_colourChanges, cX0_colourChanges, 3, (some .int), 1, 0, 0) := ⟨by decide +kernel, qzWs_in 505 (by decide +kernel) rfl, qzi_RX0, ⟨by decide +kernel, by decide +kernel, by decide +kernel⟩, ⟨by decide, by decide, rfl⟩, (fun h => absurd h (by decide)), (fun _ => ⟨qzWs_in 503 (by decide +kernel) rfl, qzWs_in 504 (by decide +kernel) rfl⟩), (fun h => absurd h (by decide))⟩
set_option maxRecDepth 20000 in
theorem qzm_15 : qzPm (yX0_stripesLeftOf, cX0_stripesLeftOf, 4, (some .int), 1, 1, 0) := ⟨by decide +kernel, qzWs_in 513 (by decide +kernel) rfl, qzi_RX0, ⟨by decide +kernel, by decide +kernel, by decide +kernel⟩, ⟨by decide, by decide, rfl⟩, (fun h => absurd h (by decide)), (fun _ => ⟨qzWs_in 511 (by decide +kernel) rfl, qzWs_in 512 (by decide +kernel) rfl⟩), (fun h => absurd h (by decide))⟩
set_option maxRecDepth 20000 in
theorem qzm_16 : qzPm (yX0_coloursLeft, cX0_coloursLeft, 3, (some .int), 1, 0, 0) := ⟨by decide +kernel, qzWs_in 509 (by decide +kernel) rfl, qzi_RX0, ⟨by decide +kernel, by decide +kernel, by decide +kernel⟩, ⟨by decide, by decide, rfl⟩, (fun h => absurd h (by decide)), (fun _ => ⟨qzWs_in 507 (by decide +kernel) rfl, qzWs_in 508 (by decide +kernel) rfl⟩), (fun h => absurd h (by decide))⟩
set_option maxRecDepth 20000 in
theorem qzm_17 : qzPm (yX0_longestFold, cX0_longestFold, 3, (some .int), 1, 0, 0) := ⟨by decide +kernel, qzWs_in 517 (by decide +kernel) rfl, qzi_RX0, ⟨by decide +kernel, by decide +kernel, by decide +kernel⟩, ⟨by decide, by decide, rfl⟩, (fun h => absurd h (by decide)), (fun _ => ⟨qzWs_in 515 (by decide +kernel) rfl, qzWs_in 516 (by decide +kernel) rfl⟩), (fun h => absurd h (by decide))⟩
set_option maxRecDepth 20000 in
theorem qzm_18 : qzPm (yX1_init, cX1_init, 1, none, 2, 0, 1) := ⟨by decide +kernel, qzWs_in 184 (by decide +kernel) rfl, qzi_RX1, ⟨by decide +kernel, by decide +kernel, by decide +kernel⟩, ⟨by decide, by decide, rfl⟩, (fun h => absurd h (by decide)), (fun h => absurd h (by decide)), (fun _ => ⟨rfl, qzWs_in 183 (by decide +kernel) rfl, rfl⟩)⟩
set_option maxRecDepth 20000 in
theorem qzm_19 : qzPm (yX1_fitTo, cX1_fitTo, 2, none, 1, 1, 1) := ⟨by decide +kernel, qzWs_in 332 (by decide +kernel) rfl, qzi_RX1, ⟨by decide +kernel, by decide +kernel, by decide +kernel⟩, ⟨by decide, by decide, rfl⟩, (fun h => absurd h (by decide)), (fun _ => ⟨qzWs_in 330 (by decide +kernel) rfl, qzWs_in 331 (by decide +kernel) rfl⟩), (fun h => absurd h (by decide))⟩
set_option maxRecDepth 20000 in
theorem qzm_20 : qzPm (yX1_isFor, cX1_isFor, 4, (some .boolean), 1, 1, 1) := ⟨by decide +kernel, qzWs_in 336 (by decide +kernel) rfl, qzi_RX1, ⟨by decide +kernel, by decide +kernel, by decide +kernel⟩, ⟨by decide, by decide, rfl⟩, (fun h => absurd h (by decide)), (fun _ => ⟨qzWs_in 334 (by decide +kernel) rfl, qzWs_in 335 (by decide +kernel) rfl⟩), (fun h => absurd h (by decide))⟩
set_option maxRecDepth 20000 in
theorem qzm_21 : qzPm (yX1_told, cX1_told, 5, (some .int), 1, 4, 1) := ⟨by decide +kernel, qzWs_in 364 (by decide +kernel) rfl, qzi_RX1, ⟨by decide +kernel, by decide +kernel, by decide +kernel⟩, ⟨by decide, by decide, rfl⟩, (fun h => absurd h (by decide)), (fun _ => ⟨qzWs_in 362 (by decide +kernel) rfl, qzWs_in 363 (by decide +kernel) rfl⟩), (fun h => absurd h (by decide))⟩
set_option maxRecDepth 20000 in
theorem qzm_22 : qzPm (yX1_keep, cX1_keep, 6, none, 1, 5, 1) := ⟨by decide +kernel, qzWs_in 375 (by decide +kernel) rfl, qzi_RX1, ⟨by decide +kernel, by decide +kernel, by decide +kernel⟩, ⟨by decide, by decide, rfl⟩, (fun h => absurd h (by decide)), (fun _ => ⟨qzWs_in 373 (by decide +kernel) rfl, qzWs_in 374 (by decide +kernel) rfl⟩), (fun h => absurd h (by decide))⟩
set_option maxRecDepth 20000 in
theorem qzm_23 : qzPm (yX1_place, cX1_place, 4, (some .int), 0, 4, 1) := ⟨by decide +kernel, qzWs_in 367 (by decide +kernel) rfl, qzi_RX1, ⟨by decide +kernel, by decide +kernel, by decide +kernel⟩, ⟨by decide, by decide, rfl⟩, (fun _ => qzWs_in 366 (by decide +kernel) rfl), (fun h => absurd h (by decide)), (fun h => absurd h (by decide))⟩
set_option maxRecDepth 20000 in
theorem qzm_24 : qzPm (yX2_init, cX2_init, 2, none, 2, 0, 2) := ⟨by decide +kernel, qzWs_in 66 (by decide +kernel) rfl, qzi_RX2, ⟨by decide +kernel, by decide +kernel, by decide +kernel⟩, ⟨by decide, by decide, rfl⟩, (fun h => absurd h (by decide)), (fun h => absurd h (by decide)), (fun _ => ⟨rfl, qzWs_in 65 (by decide +kernel) rfl, rfl⟩)⟩
set_option maxRecDepth 20000 in
theorem qzm_25 : qzPm (yX2_cut, cX2_cut, 4, (some .int), 1, 2, 2) := ⟨by decide +kernel, qzWs_in 236 (by decide +kernel) rfl, qzi_RX2, ⟨by decide +kernel, by decide +kernel, by decide +kernel⟩, ⟨by decide, by decide, rfl⟩, (fun h => absurd h (by decide)), (fun _ => ⟨qzWs_in 234 (by decide +kernel) rfl, qzWs_in 235 (by decide +kernel) rfl⟩), (fun h => absurd h (by decide))⟩
set_option maxRecDepth 20000 in
theorem qzm_26 : qzPm (yX2_best, cX2_best, 1, (some .int), 1, 0, 2) := ⟨by decide +kernel, qzWs_in 320 (by decide +kernel) rfl, qzi_RX2, ⟨by decide +kernel, by decide +kernel, by decide +kernel⟩, ⟨by decide, by decide, rfl⟩, (fun h => absurd h (by decide)), (fun _ => ⟨qzWs_in 318 (by decide +kernel) rfl, qzWs_in 319 (by decide +kernel) rfl⟩), (fun h => absurd h (by decide))⟩
set_option maxRecDepth 20000 in
theorem qzm_27 : qzPm (yX2_greedy, cX2_greedy, 1, (some .int), 1, 0, 2) := ⟨by decide +kernel, qzWs_in 380 (by decide +kernel) rfl, qzi_RX2, ⟨by decide +kernel, by decide +kernel, by decide +kernel⟩, ⟨by decide, by decide, rfl⟩, (fun h => absurd h (by decide)), (fun _ => ⟨qzWs_in 378 (by decide +kernel) rfl, qzWs_in 379 (by decide +kernel) rfl⟩), (fun h => absurd h (by decide))⟩
set_option maxRecDepth 20000 in
theorem qzm_28 : qzPm (yX2_again, cX2_again, 1, (some .int), 1, 0, 2) := ⟨by decide +kernel, qzWs_in 384 (by decide +kernel) rfl, qzi_RX2, ⟨by decide +kernel, by decide +kernel, by decide +kernel⟩, ⟨by decide, by decide, rfl⟩, (fun h => absurd h (by decide)), (fun _ => ⟨qzWs_in 382 (by decide +kernel) rfl, qzWs_in 383 (by decide +kernel) rfl⟩), (fun h => absurd h (by decide))⟩
set_option maxRecDepth 20000 in
theorem qzm_29 : qzPm (yX2_mirror, cX2_mirror, 1, (some .int), 1, 0, 2) := ⟨by decide +kernel, qzWs_in 392 (by decide +kernel) rfl, qzi_RX2, ⟨by decide +kernel, by decide +kernel, by decide +kernel⟩, ⟨by decide, by decide, rfl⟩, (fun h => absurd h (by decide)), (fun _ => ⟨qzWs_in 390 (by decide +kernel) rfl, qzWs_in 391 (by decide +kernel) rfl⟩), (fun h => absurd h (by decide))⟩
set_option maxRecDepth 20000 in
theorem qzm_30 : qzPm (yX2_set, cX2_set, 4, (some .int), 1, 2, 2) := ⟨by decide +kernel, qzWs_in 400 (by decide +kernel) rfl, qzi_RX2, ⟨by decide +kernel, by decide +kernel, by decide +kernel⟩, ⟨by decide, by decide, rfl⟩, (fun h => absurd h (by decide)), (fun _ => ⟨qzWs_in 398 (by decide +kernel) rfl, qzWs_in 399 (by decide +kernel) rfl⟩), (fun h => absurd h (by decide))⟩
set_option maxRecDepth 20000 in
theorem qzm_31 : qzPm (yX2_append, cX2_append, 2, (some .int), 1, 1, 2) := ⟨by decide +kernel, qzWs_in 409 (by decide +kernel) rfl, qzi_RX2, ⟨by decide +kernel, by decide +kernel, by decide +kernel⟩, ⟨by decide, by decide, rfl⟩, (fun h => absurd h (by decide)), (fun _ => ⟨qzWs_in 407 (by decide +kernel) rfl, qzWs_in 408 (by decide +kernel) rfl⟩), (fun h => absurd h (by decide))⟩
set_option maxRecDepth 20000 in
theorem qzm_32 : qzPm (yX2_clear, cX2_clear, 2, (some .int), 1, 0, 2) := ⟨by decide +kernel, qzWs_in 413 (by decide +kernel) rfl, qzi_RX2, ⟨by decide +kernel, by decide +kernel, by decide +kernel⟩, ⟨by decide, by decide, rfl⟩, (fun h => absurd h (by decide)), (fun _ => ⟨qzWs_in 411 (by decide +kernel) rfl, qzWs_in 412 (by decide +kernel) rfl⟩), (fun h => absurd h (by decide))⟩
set_option maxRecDepth 20000 in
theorem qzm_33 : qzPm (yX2_fault, cX2_fault, 2, (some .int), 1, 1, 2) := ⟨by decide +kernel, qzWs_in 417 (by decide +kernel) rfl, qzi_RX2, ⟨by decide +kernel, by decide +kernel, by decide +kernel⟩, ⟨by decide, by decide, rfl⟩, (fun h => absurd h (by decide)), (fun _ => ⟨qzWs_in 415 (by decide +kernel) rfl, qzWs_in 416 (by decide +kernel) rfl⟩), (fun h => absurd h (by decide))⟩
set_option maxRecDepth 20000 in
theorem qzm_34 : qzPm (yX2_load, cX2_load, 2, (some .int), 1, 0, 2) := ⟨by decide +kernel, qzWs_in 452 (by decide +kernel) rfl, qzi_RX2, ⟨by decide +kernel, by decide +kernel, by decide +kernel⟩, ⟨by decide, by decide, rfl⟩, (fun h => absurd h (by decide)), (fun _ => ⟨qzWs_in 450 (by decide +kernel) rfl, qzWs_in 451 (by decide +kernel) rfl⟩), (fun h => absurd h (by decide))⟩
set_option maxRecDepth 20000 in
theorem qzm_35 : qzPm (yX2_play, cX2_play, 4, (some .int), 1, 0, 2) := ⟨by decide +kernel, qzWs_in 464 (by decide +kernel) rfl, qzi_RX2, ⟨by decide +kernel, by decide +kernel, by decide +kernel⟩, ⟨by decide, by decide, rfl⟩, (fun h => absurd h (by decide)), (fun _ => ⟨qzWs_in 462 (by decide +kernel) rfl, qzWs_in 463 (by decide +kernel) rfl⟩), (fun h => absurd h (by decide))⟩
set_option maxRecDepth 20000 in
theorem qzm_36 : qzPm (yX2_stripe, cX2_stripe, 2, (some .int), 1, 1, 2) := ⟨by decide +kernel, qzWs_in 472 (by decide +kernel) rfl, qzi_RX2, ⟨by decide +kernel, by decide +kernel, by decide +kernel⟩, ⟨by decide, by decide, rfl⟩, (fun h => absurd h (by decide)), (fun _ => ⟨qzWs_in 470 (by decide +kernel) rfl, qzWs_in 471 (by decide +kernel) rfl⟩), (fun h => absurd h (by decide))⟩
set_option maxRecDepth 20000 in
theorem qzm_37 : qzPm (yX2_coat, cX2_coat, 4, (some .int), 1, 2, 2) := ⟨by decide +kernel, qzWs_in 476 (by decide +kernel) rfl, qzi_RX2, ⟨by decide +kernel, by decide +kernel, by decide +kernel⟩, ⟨by decide, by decide, rfl⟩, (fun h => absurd h (by decide)), (fun _ => ⟨qzWs_in 474 (by decide +kernel) rfl, qzWs_in 475 (by decide +kernel) rfl⟩), (fun h => absurd h (by decide))⟩
set_option maxRecDepth 20000 in
theorem qzm_38 : qzPm (yX2_piece, cX2_piece, 5, (some .int), 1, 3, 2) := ⟨by decide +kernel, qzWs_in 492 (by decide +kernel) rfl, qzi_RX2, ⟨by decide +kernel, by decide +kernel, by decide +kernel⟩, ⟨by decide, by decide, rfl⟩, (fun h => absurd h (by decide)), (fun _ => ⟨qzWs_in 490 (by decide +kernel) rfl, qzWs_in 491 (by decide +kernel) rfl⟩), (fun h => absurd h (by decide))⟩
set_option maxRecDepth 20000 in
theorem qzm_39 : qzPm (yX2_count, cX2_count, 3, (some .int), 1, 1, 2) := ⟨by decide +kernel, qzWs_in 496 (by decide +kernel) rfl, qzi_RX2, ⟨by decide +kernel, by decide +kernel, by decide +kernel⟩, ⟨by decide, by decide, rfl⟩, (fun h => absurd h (by decide)), (fun _ => ⟨qzWs_in 494 (by decide +kernel) rfl, qzWs_in 495 (by decide +kernel) rfl⟩), (fun h => absurd h (by decide))⟩
set_option maxRecDepth 20000 in
theorem qzm_40 : qzPm (yX2_left, cX2_left, 2, (some .int), 1, 1, 2) := ⟨by decide +kernel, qzWs_in 522 (by decide +kernel) rfl, qzi_RX2, ⟨by decide +kernel, by decide +kernel, by decide +kernel⟩, ⟨by decide, by decide, rfl⟩, (fun h => absurd h (by decide)), (fun _ => ⟨qzWs_in 520 (by decide +kernel) rfl, qzWs_in 521 (by decide +kernel) rfl⟩), (fun h => absurd h (by decide))⟩
set_option maxRecDepth 20000 in
theorem qzm_41 : qzPm (yX2_worth, cX2_worth, 4, (some .int), 1, 2, 2) := ⟨by decide +kernel, qzWs_in 527 (by decide +kernel) rfl, qzi_RX2, ⟨by decide +kernel, by decide +kernel, by decide +kernel⟩, ⟨by decide, by decide, rfl⟩, (fun h => absurd h (by decide)), (fun _ => ⟨qzWs_in 525 (by decide +kernel) rfl, qzWs_in 526 (by decide +kernel) rfl⟩), (fun h => absurd h (by decide))⟩
set_option maxRecDepth 20000 in
theorem qzm_42 : qzPm (yX2_lead, cX2_lead, 2, (some .int), 1, 1, 2) := ⟨by decide +kernel, qzWs_in 531 (by decide +kernel) rfl, qzi_RX2, ⟨by decide +kernel, by decide +kernel, by decide +kernel⟩, ⟨by decide, by decide, rfl⟩, (fun h => absurd h (by decide)), (fun _ => ⟨qzWs_in 529 (by decide +kernel) rfl, qzWs_in 530 (by decide +kernel) rfl⟩), (fun h => absurd h (by decide))⟩
set_option maxRecDepth 20000 in
theorem qzm_43 : qzPm (yX2_leadWith, cX2_leadWith, 4, (some .int), 1, 2, 2) := ⟨by decide +kernel, qzWs_in 549 (by decide +kernel) rfl, qzi_RX2, ⟨by decide +kernel, by decide +kernel, by decide +kernel⟩, ⟨by decide, by decide, rfl⟩, (fun h => absurd h (by decide)), (fun _ => ⟨qzWs_in 547 (by decide +kernel) rfl, qzWs_in 548 (by decide +kernel) rfl⟩), (fun h => absurd h (by decide))⟩
set_option maxRecDepth 20000 in
theorem qzm_44 : qzPm (yX2_bestCut, cX2_bestCut, 1, (some .int), 1, 0, 2) := ⟨by decide +kernel, qzWs_in 557 (by decide +kernel) rfl, qzi_RX2, ⟨by decide +kernel, by decide +kernel, by decide +kernel⟩, ⟨by decide, by decide, rfl⟩, (fun h => absurd h (by decide)), (fun _ => ⟨qzWs_in 555 (by decide +kernel) rfl, qzWs_in 556 (by decide +kernel) rfl⟩), (fun h => absurd h (by decide))⟩
set_option maxRecDepth 20000 in
theorem qzm_45 : qzPm (yX2_ended, cX2_ended, 5, (some .int), 1, 3, 2) := ⟨by decide +kernel, qzWs_in 561 (by decide +kernel) rfl, qzi_RX2, ⟨by decide +kernel, by decide +kernel, by decide +kernel⟩, ⟨by decide, by decide, rfl⟩, (fun h => absurd h (by decide)), (fun _ => ⟨qzWs_in 559 (by decide +kernel) rfl, qzWs_in 560 (by decide +kernel) rfl⟩), (fun h => absurd h (by decide))⟩
set_option maxRecDepth 20000 in
theorem qzm_46 : qzPm (yX2_rate, cX2_rate, 3, (some .double), 1, 0, 2) := ⟨by decide +kernel, qzWs_in 565 (by decide +kernel) rfl, qzi_RX2, ⟨by decide +kernel, by decide +kernel, by decide +kernel⟩, ⟨by decide, by decide, rfl⟩, (fun h => absurd h (by decide)), (fun _ => ⟨qzWs_in 563 (by decide +kernel) rfl, qzWs_in 564 (by decide +kernel) rfl⟩), (fun h => absurd h (by decide))⟩
set_option maxRecDepth 20000 in
theorem qzm_47 : qzPm (yX2_undo, cX2_undo, 2, (some .int), 1, 0, 2) := ⟨by decide +kernel, qzWs_in 569 (by decide +kernel) rfl, qzi_RX2, ⟨by decide +kernel, by decide +kernel, by decide +kernel⟩, ⟨by decide, by decide, rfl⟩, (fun h => absurd h (by decide)), (fun _ => ⟨qzWs_in 567 (by decide +kernel) rfl, qzWs_in 568 (by decide +kernel) rfl⟩), (fun h => absurd h (by decide))⟩
set_option maxRecDepth 20000 in
theorem qzm_48 : qzPm (yX2_save, cX2_save, 1, (some .int), 1, 0, 2) := ⟨by decide +kernel, qzWs_in 573 (by decide +kernel) rfl, qzi_RX2, ⟨by decide +kernel, by decide +kernel, by decide +kernel⟩, ⟨by decide, by decide, rfl⟩, (fun h => absurd h (by decide)), (fun _ => ⟨qzWs_in 571 (by decide +kernel) rfl, qzWs_in 572 (by decide +kernel) rfl⟩), (fun h => absurd h (by decide))⟩
set_option maxRecDepth 20000 in
theorem qzm_49 : qzPm (yX2_restore, cX2_restore, 1, (some .int), 1, 0, 2) := ⟨by decide +kernel, qzWs_in 577 (by decide +kernel) rfl, qzi_RX2, ⟨by decide +kernel, by decide +kernel, by decide +kernel⟩, ⟨by decide, by decide, rfl⟩, (fun h => absurd h (by decide)), (fun _ => ⟨qzWs_in 575 (by decide +kernel) rfl, qzWs_in 576 (by decide +kernel) rfl⟩), (fun h => absurd h (by decide))⟩
set_option maxRecDepth 20000 in
theorem qzm_50 : qzPm (yX2_pastAt, cX2_pastAt, 2, (some (.object "BoltTailors$Game")), 1, 1, 2) := ⟨by decide +kernel, qzWs_in 263 (by decide +kernel) rfl, qzi_RX2, ⟨by decide +kernel, by decide +kernel, by decide +kernel⟩, ⟨by decide, by decide, rfl⟩, (fun h => absurd h (by decide)), (fun _ => ⟨qzWs_in 262 (by decide +kernel) rfl, qzWs_in 3 (by decide +kernel) rfl⟩), (fun h => absurd h (by decide))⟩
set_option maxRecDepth 20000 in
theorem qzm_51 : qzPm (yX2_record, cX2_record, 2, none, 1, 0, 2) := ⟨by decide +kernel, qzWs_in 255 (by decide +kernel) rfl, qzi_RX2, ⟨by decide +kernel, by decide +kernel, by decide +kernel⟩, ⟨by decide, by decide, rfl⟩, (fun h => absurd h (by decide)), (fun _ => ⟨qzWs_in 254 (by decide +kernel) rfl, qzWs_in 1 (by decide +kernel) rfl⟩), (fun h => absurd h (by decide))⟩
set_option maxRecDepth 20000 in
theorem qzm_52 : qzPm (yX2_dropOldest, cX2_dropOldest, 3, none, 1, 0, 2) := ⟨by decide +kernel, qzWs_in 259 (by decide +kernel) rfl, qzi_RX2, ⟨by decide +kernel, by decide +kernel, by decide +kernel⟩, ⟨by decide, by decide, rfl⟩, (fun h => absurd h (by decide)), (fun _ => ⟨qzWs_in 258 (by decide +kernel) rfl, qzWs_in 2 (by decide +kernel) rfl⟩), (fun h => absurd h (by decide))⟩
set_option maxRecDepth 20000 in
theorem qzm_53 : qzPm (yX2_codeOf, cX2_codeOf, 2, (some .int), 0, 2, 2) := ⟨by decide +kernel, qzWs_in 273 (by decide +kernel) rfl, qzi_RX2, ⟨by decide +kernel, by decide +kernel, by decide +kernel⟩, ⟨by decide, by decide, rfl⟩, (fun _ => qzWs_in 272 (by decide +kernel) rfl), (fun h => absurd h (by decide)), (fun h => absurd h (by decide))⟩
set_option maxRecDepth 20000 in
theorem qzm_54 : qzPm (yX2_isFromLeft, cX2_isFromLeft, 1, (some .boolean), 0, 1, 2) := ⟨by decide +kernel, qzWs_in 283 (by decide +kernel) rfl, qzi_RX2, ⟨by decide +kernel, by decide +kernel, by decide +kernel⟩, ⟨by decide, by decide, rfl⟩, (fun _ => qzWs_in 282 (by decide +kernel) rfl), (fun h => absurd h (by decide)), (fun h => absurd h (by decide))⟩
set_option maxRecDepth 20000 in
theorem qzm_55 : qzPm (yX2_sizeOf, cX2_sizeOf, 1, (some .int), 0, 1, 2) := ⟨by decide +kernel, qzWs_in 280 (by decide +kernel) rfl, qzi_RX2, ⟨by decide +kernel, by decide +kernel, by decide +kernel⟩, ⟨by decide, by decide, rfl⟩, (fun _ => qzWs_in 279 (by decide +kernel) rfl), (fun h => absurd h (by decide)), (fun h => absurd h (by decide))⟩
set_option maxRecDepth 20000 in
theorem qzm_56 : qzPm (yX2_pieceStart, cX2_pieceStart, 3, (some .int), 0, 3, 2) := ⟨by decide +kernel, qzWs_in 286 (by decide +kernel) rfl, qzi_RX2, ⟨by decide +kernel, by decide +kernel, by decide +kernel⟩, ⟨by decide, by decide, rfl⟩, (fun _ => qzWs_in 285 (by decide +kernel) rfl), (fun h => absurd h (by decide)), (fun h => absurd h (by decide))⟩
set_option maxRecDepth 20000 in
theorem qzm_57 : qzPm (yX2_restStart, cX2_restStart, 2, (some .int), 0, 2, 2) := ⟨by decide +kernel, qzWs_in 313 (by decide +kernel) rfl, qzi_RX2, ⟨by decide +kernel, by decide +kernel, by decide +kernel⟩, ⟨by decide, by decide, rfl⟩, (fun _ => qzWs_in 312 (by decide +kernel) rfl), (fun h => absurd h (by decide)), (fun h => absurd h (by decide))⟩
set_option maxRecDepth 20000 in
theorem qzm_58 : qzPm (yX2_restEnd, cX2_restEnd, 2, (some .int), 0, 2, 2) := ⟨by decide +kernel, qzWs_in 316 (by decide +kernel) rfl, qzi_RX2, ⟨by decide +kernel, by decide +kernel, by decide +kernel⟩, ⟨by decide, by decide, rfl⟩, (fun _ => qzWs_in 315 (by decide +kernel) rfl), (fun h => absurd h (by decide)), (fun h => absurd h (by decide))⟩
set_option maxRecDepth 20000 in
theorem qzm_59 : qzPm (yX2_errorOfCut, cX2_errorOfCut, 2, (some .int), 1, 1, 2) := ⟨by decide +kernel, qzWs_in 240 (by decide +kernel) rfl, qzi_RX2, ⟨by decide +kernel, by decide +kernel, by decide +kernel⟩, ⟨by decide, by decide, rfl⟩, (fun h => absurd h (by decide)), (fun _ => ⟨qzWs_in 239 (by decide +kernel) rfl, qzWs_in 0 (by decide +kernel) rfl⟩), (fun h => absurd h (by decide))⟩
set_option maxRecDepth 20000 in
theorem qzm_60 : qzPm (yX2_cutBy, cX2_cutBy, 3, (some .int), 1, 1, 2) := ⟨by decide +kernel, qzWs_in 324 (by decide +kernel) rfl, qzi_RX2, ⟨by decide +kernel, by decide +kernel, by decide +kernel⟩, ⟨by decide, by decide, rfl⟩, (fun h => absurd h (by decide)), (fun _ => ⟨qzWs_in 323 (by decide +kernel) rfl, qzWs_in 4 (by decide +kernel) rfl⟩), (fun h => absurd h (by decide))⟩
set_option maxRecDepth 20000 in
theorem qzm_61 : qzPm (yX2_choice, cX2_choice, 12, (some .int), 1, 2, 2) := ⟨by decide +kernel, qzWs_in 328 (by decide +kernel) rfl, qzi_RX2, ⟨by decide +kernel, by decide +kernel, by decide +kernel⟩, ⟨by decide, by decide, rfl⟩, (fun h => absurd h (by decide)), (fun _ => ⟨qzWs_in 327 (by decide +kernel) rfl, qzWs_in 5 (by decide +kernel) rfl⟩), (fun h => absurd h (by decide))⟩
set_option maxRecDepth 20000 in
theorem qzm_62 : qzPm (yX2_leadTold, cX2_leadTold, 4, (some .int), 1, 1, 2) := ⟨by decide +kernel, qzWs_in 535 (by decide +kernel) rfl, qzi_RX2, ⟨by decide +kernel, by decide +kernel, by decide +kernel⟩, ⟨by decide, by decide, rfl⟩, (fun h => absurd h (by decide)), (fun _ => ⟨qzWs_in 534 (by decide +kernel) rfl, qzWs_in 16 (by decide +kernel) rfl⟩), (fun h => absurd h (by decide))⟩
set_option maxRecDepth 20000 in
theorem qzm_63 : qzPm (yX2_tellRows, cX2_tellRows, 7, none, 0, 3, 2) := ⟨by decide +kernel, qzWs_in 538 (by decide +kernel) rfl, qzi_RX2, ⟨by decide +kernel, by decide +kernel, by decide +kernel⟩, ⟨by decide, by decide, rfl⟩, (fun _ => qzWs_in 537 (by decide +kernel) rfl), (fun h => absurd h (by decide)), (fun h => absurd h (by decide))⟩
set_option maxRecDepth 20000 in
theorem qzm_64 : qzPm (yX2_raiseRow, cX2_raiseRow, 14, none, 0, 4, 2) := ⟨by decide +kernel, qzWs_in 541 (by decide +kernel) rfl, qzi_RX2, ⟨by decide +kernel, by decide +kernel, by decide +kernel⟩, ⟨by decide, by decide, rfl⟩, (fun _ => qzWs_in 540 (by decide +kernel) rfl), (fun h => absurd h (by decide)), (fun h => absurd h (by decide))⟩
set_option maxRecDepth 20000 in
theorem qzm_65 : qzPm (yX2_leadGoneInto, cX2_leadGoneInto, 4, (some .int), 1, 1, 2) := ⟨by decide +kernel, qzWs_in 545 (by decide +kernel) rfl, qzi_RX2, ⟨by decide +kernel, by decide +kernel, by decide +kernel⟩, ⟨by decide, by decide, rfl⟩, (fun h => absurd h (by decide)), (fun _ => ⟨qzWs_in 544 (by decide +kernel) rfl, qzWs_in 17 (by decide +kernel) rfl⟩), (fun h => absurd h (by decide))⟩
set_option maxRecDepth 20000 in
theorem qzm_66 : qzPm (yX2_leadOfCut, cX2_leadOfCut, 5, (some .int), 1, 2, 2) := ⟨by decide +kernel, qzWs_in 553 (by decide +kernel) rfl, qzi_RX2, ⟨by decide +kernel, by decide +kernel, by decide +kernel⟩, ⟨by decide, by decide, rfl⟩, (fun h => absurd h (by decide)), (fun _ => ⟨qzWs_in 552 (by decide +kernel) rfl, qzWs_in 18 (by decide +kernel) rfl⟩), (fun h => absurd h (by decide))⟩
set_option maxRecDepth 20000 in
theorem qzm_67 : qzPm (yX2_goInto, cX2_goInto, 9, (some .int), 0, 6, 2) := ⟨by decide +kernel, qzWs_in 360 (by decide +kernel) rfl, qzi_RX2, ⟨by decide +kernel, by decide +kernel, by decide +kernel⟩, ⟨by decide, by decide, rfl⟩, (fun _ => qzWs_in 359 (by decide +kernel) rfl), (fun h => absurd h (by decide)), (fun h => absurd h (by decide))⟩
set_option maxRecDepth 20000 in
theorem qzm_68 : qzPm (yX2_goThrough, cX2_goThrough, 11, (some .int), 0, 7, 2) := ⟨by decide +kernel, qzWs_in 352 (by decide +kernel) rfl, qzi_RX2, ⟨by decide +kernel, by decide +kernel, by decide +kernel⟩, ⟨by decide, by decide, rfl⟩, (fun _ => qzWs_in 351 (by decide +kernel) rfl), (fun h => absurd h (by decide)), (fun h => absurd h (by decide))⟩
set_option maxRecDepth 20000 in
theorem qzm_69 : qzPm (yX2_traitsOf, cX2_traitsOf, 5, (some .int), 0, 4, 2) := ⟨by decide +kernel, qzWs_in 302 (by decide +kernel) rfl, qzi_RX2, ⟨by decide +kernel, by decide +kernel, by decide +kernel⟩, ⟨by decide, by decide, rfl⟩, (fun _ => qzWs_in 301 (by decide +kernel) rfl), (fun h => absurd h (by decide)), (fun h => absurd h (by decide))⟩
set_option maxRecDepth 20000 in
theorem qzm_70 : qzPm (yX2_worthOf, cX2_worthOf, 5, (some .int), 0, 3, 2) := ⟨by decide +kernel, qzWs_in 309 (by decide +kernel) rfl, qzi_RX2, ⟨by decide +kernel, by decide +kernel, by decide +kernel⟩, ⟨by decide, by decide, rfl⟩, (fun _ => qzWs_in 308 (by decide +kernel) rfl), (fun h => absurd h (by decide)), (fun h => absurd h (by decide))⟩
set_option maxRecDepth 20000 in
theorem qzm_71 : qzPm (yX2_isFold, cX2_isFold, 4, (some .boolean), 0, 3, 2) := ⟨by decide +kernel, qzWs_in 306 (by decide +kernel) rfl, qzi_RX2, ⟨by decide +kernel, by decide +kernel, by decide +kernel⟩, ⟨by decide, by decide, rfl⟩, (fun _ => qzWs_in 305 (by decide +kernel) rfl), (fun h => absurd h (by decide)), (fun h => absurd h (by decide))⟩
set_option maxRecDepth 20000 in
theorem qzm_72 : qzPm (yX2_signAt, cX2_signAt, 2, (some .char), 1, 1, 2) := ⟨by decide +kernel, qzWs_in 429 (by decide +kernel) rfl, qzi_RX2, ⟨by decide +kernel, by decide +kernel, by decide +kernel⟩, ⟨by decide, by decide, rfl⟩, (fun h => absurd h (by decide)), (fun _ => ⟨qzWs_in 428 (by decide +kernel) rfl, qzWs_in 8 (by decide +kernel) rfl⟩), (fun h => absurd h (by decide))⟩
set_option maxRecDepth 20000 in
theorem qzm_73 : qzPm (yX2_digitAt, cX2_digitAt, 3, (some .int), 1, 1, 2) := ⟨by decide +kernel, qzWs_in 441 (by decide +kernel) rfl, qzi_RX2, ⟨by decide +kernel, by decide +kernel, by decide +kernel⟩, ⟨by decide, by decide, rfl⟩, (fun h => absurd h (by decide)), (fun _ => ⟨qzWs_in 440 (by decide +kernel) rfl, qzWs_in 11 (by decide +kernel) rfl⟩), (fun h => absurd h (by decide))⟩
set_option maxRecDepth 20000 in
theorem qzm_74 : qzPm (yX2_isSide, cX2_isSide, 1, (some .boolean), 0, 1, 2) := ⟨by decide +kernel, qzWs_in 448 (by decide +kernel) rfl, qzi_RX2, ⟨by decide +kernel, by decide +kernel, by decide +kernel⟩, ⟨by decide, by decide, rfl⟩, (fun _ => qzWs_in 447 (by decide +kernel) rfl), (fun h => absurd h (by decide)), (fun h => absurd h (by decide))⟩
set_option maxRecDepth 20000 in
theorem qzm_75 : qzPm (yX2_lettersAhead, cX2_lettersAhead, 2, (some .int), 1, 0, 2) := ⟨by decide +kernel, qzWs_in 425 (by decide +kernel) rfl, qzi_RX2, ⟨by decide +kernel, by decide +kernel, by decide +kernel⟩, ⟨by decide, by decide, rfl⟩, (fun h => absurd h (by decide)), (fun _ => ⟨qzWs_in 424 (by decide +kernel) rfl, qzWs_in 7 (by decide +kernel) rfl⟩), (fun h => absurd h (by decide))⟩
set_option maxRecDepth 20000 in
theorem qzm_76 : qzPm (yX2_faultAsBolt, cX2_faultAsBolt, 2, (some .int), 1, 0, 2) := ⟨by decide +kernel, qzWs_in 421 (by decide +kernel) rfl, qzi_RX2, ⟨by decide +kernel, by decide +kernel, by decide +kernel⟩, ⟨by decide, by decide, rfl⟩, (fun h => absurd h (by decide)), (fun _ => ⟨qzWs_in 420 (by decide +kernel) rfl, qzWs_in 6 (by decide +kernel) rfl⟩), (fun h => absurd h (by decide))⟩
set_option maxRecDepth 20000 in
theorem qzm_77 : qzPm (yX2_faultBehindStar, cX2_faultBehindStar, 5, (some .int), 1, 1, 2) := ⟨by decide +kernel, qzWs_in 433 (by decide +kernel) rfl, qzi_RX2, ⟨by decide +kernel, by decide +kernel, by decide +kernel⟩, ⟨by decide, by decide, rfl⟩, (fun h => absurd h (by decide)), (fun _ => ⟨qzWs_in 432 (by decide +kernel) rfl, qzWs_in 9 (by decide +kernel) rfl⟩), (fun h => absurd h (by decide))⟩
set_option maxRecDepth 20000 in
theorem qzm_78 : qzPm (yX2_digitsOfNumber, cX2_digitsOfNumber, 4, (some .int), 1, 1, 2) := ⟨by decide +kernel, qzWs_in 437 (by decide +kernel) rfl, qzi_RX2, ⟨by decide +kernel, by decide +kernel, by decide +kernel⟩, ⟨by decide, by decide, rfl⟩, (fun h => absurd h (by decide)), (fun _ => ⟨qzWs_in 436 (by decide +kernel) rfl, qzWs_in 10 (by decide +kernel) rfl⟩), (fun h => absurd h (by decide))⟩
set_option maxRecDepth 20000 in
theorem qzm_79 : qzPm (yX2_faultAsCuts, cX2_faultAsCuts, 4, (some .int), 1, 0, 2) := ⟨by decide +kernel, qzWs_in 445 (by decide +kernel) rfl, qzi_RX2, ⟨by decide +kernel, by decide +kernel, by decide +kernel⟩, ⟨by decide, by decide, rfl⟩, (fun h => absurd h (by decide)), (fun _ => ⟨qzWs_in 444 (by decide +kernel) rfl, qzWs_in 12 (by decide +kernel) rfl⟩), (fun h => absurd h (by decide))⟩
set_option maxRecDepth 20000 in
theorem qzm_80 : qzPm (yX2_layPattern, cX2_layPattern, 6, none, 1, 1, 2) := ⟨by decide +kernel, qzWs_in 456 (by decide +kernel) rfl, qzi_RX2, ⟨by decide +kernel, by decide +kernel, by decide +kernel⟩, ⟨by decide, by decide, rfl⟩, (fun h => absurd h (by decide)), (fun _ => ⟨qzWs_in 455 (by decide +kernel) rfl, qzWs_in 13 (by decide +kernel) rfl⟩), (fun h => absurd h (by decide))⟩
set_option maxRecDepth 20000 in
theorem qzm_81 : qzPm (yX2_layLetters, cX2_layLetters, 5, none, 1, 3, 2) := ⟨by decide +kernel, qzWs_in 460 (by decide +kernel) rfl, qzi_RX2, ⟨by decide +kernel, by decide +kernel, by decide +kernel⟩, ⟨by decide, by decide, rfl⟩, (fun h => absurd h (by decide)), (fun _ => ⟨qzWs_in 459 (by decide +kernel) rfl, qzWs_in 14 (by decide +kernel) rfl⟩), (fun h => absurd h (by decide))⟩
set_option maxRecDepth 20000 in
theorem qzm_82 : qzPm (yX2_codeOnPad, cX2_codeOnPad, 4, (some .int), 1, 1, 2) := ⟨by decide +kernel, qzWs_in 468 (by decide +kernel) rfl, qzi_RX2, ⟨by decide +kernel, by decide +kernel, by decide +kernel⟩, ⟨by decide, by decide, rfl⟩, (fun h => absurd h (by decide)), (fun _ => ⟨qzWs_in 467 (by decide +kernel) rfl, qzWs_in 15 (by decide +kernel) rfl⟩), (fun h => absurd h (by decide))⟩
set_option maxRecDepth 20000 in
theorem qzm_83 : qzPm (yX2_isNoTailor, cX2_isNoTailor, 1, (some .boolean), 0, 1, 2) := ⟨by decide +kernel, qzWs_in 479 (by decide +kernel) rfl, qzi_RX2, ⟨by decide +kernel, by decide +kernel, by decide +kernel⟩, ⟨by decide, by decide, rfl⟩, (fun _ => qzWs_in 478 (by decide +kernel) rfl), (fun h => absurd h (by decide)), (fun h => absurd h (by decide))⟩
set_option maxRecDepth 20000 in
theorem qzm_84 : qzPm (yX2_at, cX2_at, 2, (some .int), 0, 2, 2) := ⟨by decide +kernel, qzWs_in 91 (by decide +kernel) rfl, qzi_RX2, ⟨by decide +kernel, by decide +kernel, by decide +kernel⟩, ⟨by decide, by decide, rfl⟩, (fun _ => qzWs_in 90 (by decide +kernel) rfl), (fun h => absurd h (by decide)), (fun h => absurd h (by decide))⟩
set_option maxRecDepth 20000 in
theorem qzm_85 : qzPm (yX2_put, cX2_put, 3, none, 0, 3, 2) := ⟨by decide +kernel, qzWs_in 94 (by decide +kernel) rfl, qzi_RX2, ⟨by decide +kernel, by decide +kernel, by decide +kernel⟩, ⟨by decide, by decide, rfl⟩, (fun _ => qzWs_in 93 (by decide +kernel) rfl), (fun h => absurd h (by decide)), (fun h => absurd h (by decide))⟩
set_option maxRecDepth 20000 in
theorem qzm_86 : qzPm (yX3_init, cX3_init, 2, none, 2, 0, 3) := ⟨by decide +kernel, qzWs_in 582 (by decide +kernel) rfl, qzi_RX3, ⟨by decide +kernel, by decide +kernel, by decide +kernel⟩, ⟨by decide, by decide, rfl⟩, (fun h => absurd h (by decide)), (fun h => absurd h (by decide)), (fun _ => ⟨rfl, qzWs_in 581 (by decide +kernel) rfl, rfl⟩)⟩
set_option maxRecDepth 20000 in
theorem qzm_87 : qzPm (yX3_in, cX3_in, 3, (some .boolean), 0, 3, 3) := ⟨by decide +kernel, qzWs_in 641 (by decide +kernel) rfl, qzi_RX3, ⟨by decide +kernel, by decide +kernel, by decide +kernel⟩, ⟨by decide, by decide, rfl⟩, (fun _ => qzWs_in 640 (by decide +kernel) rfl), (fun h => absurd h (by decide)), (fun h => absurd h (by decide))⟩
set_option maxRecDepth 20000 in
theorem qzm_88 : qzPm (yX3_copies, cX3_copies, 5, none, 0, 4, 3) := ⟨by decide +kernel, qzWs_in 648 (by decide +kernel) rfl, qzi_RX3, ⟨by decide +kernel, by decide +kernel, by decide +kernel⟩, ⟨by decide, by decide, rfl⟩, (fun _ => qzWs_in 647 (by decide +kernel) rfl), (fun h => absurd h (by decide)), (fun h => absurd h (by decide))⟩
set_option maxRecDepth 20000 in
theorem qzm_89 : qzPm (yX3_records, cX3_records, 2, none, 1, 0, 3) := ⟨by decide +kernel, qzWs_in 645 (by decide +kernel) rfl, qzi_RX3, ⟨by decide +kernel, by decide +kernel, by decide +kernel⟩, ⟨by decide, by decide, rfl⟩, (fun h => absurd h (by decide)), (fun _ => ⟨qzWs_in 644 (by decide +kernel) rfl, qzWs_in 21 (by decide +kernel) rfl⟩), (fun h => absurd h (by decide))⟩
set_option maxRecDepth 20000 in
theorem qzm_90 : qzPm (yX3_beginsAgain, cX3_beginsAgain, 2, none, 1, 0, 3) := ⟨by decide +kernel, qzWs_in 587 (by decide +kernel) rfl, qzi_RX3, ⟨by decide +kernel, by decide +kernel, by decide +kernel⟩, ⟨by decide, by decide, rfl⟩, (fun h => absurd h (by decide)), (fun _ => ⟨qzWs_in 586 (by decide +kernel) rfl, qzWs_in 19 (by decide +kernel) rfl⟩), (fun h => absurd h (by decide))⟩
set_option maxRecDepth 20000 in
theorem qzm_91 : qzPm (yX3_coatOf, cX3_coatOf, 3, (some .int), 1, 2, 3) := ⟨by decide +kernel, qzWs_in 659 (by decide +kernel) rfl, qzi_RX3, ⟨by decide +kernel, by decide +kernel, by decide +kernel⟩, ⟨by decide, by decide, rfl⟩, (fun h => absurd h (by decide)), (fun _ => ⟨qzWs_in 658 (by decide +kernel) rfl, qzWs_in 23 (by decide +kernel) rfl⟩), (fun h => absurd h (by decide))⟩
set_option maxRecDepth 20000 in
theorem qzm_92 : qzPm (yX3_adds, cX3_adds, 4, none, 1, 3, 3) := ⟨by decide +kernel, qzWs_in 675 (by decide +kernel) rfl, qzi_RX3, ⟨by decide +kernel, by decide +kernel, by decide +kernel⟩, ⟨by decide, by decide, rfl⟩, (fun h => absurd h (by decide)), (fun _ => ⟨qzWs_in 674 (by decide +kernel) rfl, qzWs_in 27 (by decide +kernel) rfl⟩), (fun h => absurd h (by decide))⟩
set_option maxRecDepth 20000 in
theorem qzm_93 : qzPm (yX3_isOver, cX3_isOver, 1, (some .boolean), 1, 0, 3) := ⟨by decide +kernel, qzWs_in 683 (by decide +kernel) rfl, qzi_RX3, ⟨by decide +kernel, by decide +kernel, by decide +kernel⟩, ⟨by decide, by decide, rfl⟩, (fun h => absurd h (by decide)), (fun _ => ⟨qzWs_in 682 (by decide +kernel) rfl, qzWs_in 28 (by decide +kernel) rfl⟩), (fun h => absurd h (by decide))⟩
set_option maxRecDepth 20000 in
theorem qzm_94 : qzPm (yX3_firstOf, cX3_firstOf, 4, (some .int), 0, 4, 3) := ⟨by decide +kernel, qzWs_in 655 (by decide +kernel) rfl, qzi_RX3, ⟨by decide +kernel, by decide +kernel, by decide +kernel⟩, ⟨by decide, by decide, rfl⟩, (fun _ => qzWs_in 654 (by decide +kernel) rfl), (fun h => absurd h (by decide)), (fun h => absurd h (by decide))⟩
set_option maxRecDepth 20000 in
theorem qzm_95 : qzPm (yX3_folds, cX3_folds, 5, (some .boolean), 1, 2, 3) := ⟨by decide +kernel, qzWs_in 667 (by decide +kernel) rfl, qzi_RX3, ⟨by decide +kernel, by decide +kernel, by decide +kernel⟩, ⟨by decide, by decide, rfl⟩, (fun h => absurd h (by decide)), (fun _ => ⟨qzWs_in 666 (by decide +kernel) rfl, qzWs_in 25 (by decide +kernel) rfl⟩), (fun h => absurd h (by decide))⟩
set_option maxRecDepth 20000 in
theorem qzm_96 : qzPm (yX3_matches, cX3_matches, 3, (some .boolean), 1, 2, 3) := ⟨by decide +kernel, qzWs_in 671 (by decide +kernel) rfl, qzi_RX3, ⟨by decide +kernel, by decide +kernel, by decide +kernel⟩, ⟨by decide, by decide, rfl⟩, (fun h => absurd h (by decide)), (fun _ => ⟨qzWs_in 670 (by decide +kernel) rfl, qzWs_in 26 (by decide +kernel) rfl⟩), (fun h => absurd h (by decide))⟩
set_option maxRecDepth 20000 in
theorem qzm_97 : qzPm (yX3_worthOf, cX3_worthOf, 4, (some .int), 1, 3, 3) := ⟨by decide +kernel, qzWs_in 663 (by decide +kernel) rfl, qzi_RX3, ⟨by decide +kernel, by decide +kernel, by decide +kernel⟩, ⟨by decide, by decide, rfl⟩, (fun h => absurd h (by decide)), (fun _ => ⟨qzWs_in 662 (by decide +kernel) rfl, qzWs_in 24 (by decide +kernel) rfl⟩), (fun h => absurd h (by decide))⟩
set_option maxRecDepth 20000 in
theorem qzm_98 : qzPm (yX3_goCut, cX3_goCut, 8, (some .int), 1, 2, 3) := ⟨by decide +kernel, qzWs_in 652 (by decide +kernel) rfl, qzi_RX3, ⟨by decide +kernel, by decide +kernel, by decide +kernel⟩, ⟨by decide, by decide, rfl⟩, (fun h => absurd h (by decide)), (fun _ => ⟨qzWs_in 651 (by decide +kernel) rfl, qzWs_in 22 (by decide +kernel) rfl⟩), (fun h => absurd h (by decide))⟩
set_option maxRecDepth 20000 in
theorem qzm_99 : qzPm (yX3_errorCut, cX3_errorCut, 2, (some .int), 1, 1, 3) := ⟨by decide +kernel, qzWs_in 638 (by decide +kernel) rfl, qzi_RX3, ⟨by decide +kernel, by decide +kernel, by decide +kernel⟩, ⟨by decide, by decide, rfl⟩, (fun h => absurd h (by decide)), (fun _ => ⟨qzWs_in 637 (by decide +kernel) rfl, qzWs_in 20 (by decide +kernel) rfl⟩), (fun h => absurd h (by decide))⟩
set_option maxRecDepth 20000 in
theorem qzm_100 : qzPm (yX3_rowOf, cX3_rowOf, 2, (some .int), 0, 2, 3) := ⟨by decide +kernel, qzWs_in 706 (by decide +kernel) rfl, qzi_RX3, ⟨by decide +kernel, by decide +kernel, by decide +kernel⟩, ⟨by decide, by decide, rfl⟩, (fun _ => qzWs_in 705 (by decide +kernel) rfl), (fun h => absurd h (by decide)), (fun h => absurd h (by decide))⟩
set_option maxRecDepth 20000 in
theorem qzm_101 : qzPm (yX3_leadAt, cX3_leadAt, 5, (some .int), 1, 4, 3) := ⟨by decide +kernel, qzWs_in 703 (by decide +kernel) rfl, qzi_RX3, ⟨by decide +kernel, by decide +kernel, by decide +kernel⟩, ⟨by decide, by decide, rfl⟩, (fun h => absurd h (by decide)), (fun _ => ⟨qzWs_in 702 (by decide +kernel) rfl, qzWs_in 33 (by decide +kernel) rfl⟩), (fun h => absurd h (by decide))⟩
set_option maxRecDepth 20000 in
theorem qzm_102 : qzPm (yX3_most, cX3_most, 2, (some .int), 1, 1, 3) := ⟨by decide +kernel, qzWs_in 695 (by decide +kernel) rfl, qzi_RX3, ⟨by decide +kernel, by decide +kernel, by decide +kernel⟩, ⟨by decide, by decide, rfl⟩, (fun h => absurd h (by decide)), (fun _ => ⟨qzWs_in 694 (by decide +kernel) rfl, qzWs_in 31 (by decide +kernel) rfl⟩), (fun h => absurd h (by decide))⟩
set_option maxRecDepth 20000 in
theorem qzm_103 : qzPm (yX3_leadBy, cX3_leadBy, 9, (some .int), 1, 6, 3) := ⟨by decide +kernel, qzWs_in 699 (by decide +kernel) rfl, qzi_RX3, ⟨by decide +kernel, by decide +kernel, by decide +kernel⟩, ⟨by decide, by decide, rfl⟩, (fun h => absurd h (by decide)), (fun _ => ⟨qzWs_in 698 (by decide +kernel) rfl, qzWs_in 32 (by decide +kernel) rfl⟩), (fun h => absurd h (by decide))⟩
set_option maxRecDepth 20000 in
theorem qzm_104 : qzPm (yX3_laysLead, cX3_laysLead, 9, none, 1, 4, 3) := ⟨by decide +kernel, qzWs_in 691 (by decide +kernel) rfl, qzi_RX3, ⟨by decide +kernel, by decide +kernel, by decide +kernel⟩, ⟨by decide, by decide, rfl⟩, (fun h => absurd h (by decide)), (fun _ => ⟨qzWs_in 690 (by decide +kernel) rfl, qzWs_in 30 (by decide +kernel) rfl⟩), (fun h => absurd h (by decide))⟩
set_option maxRecDepth 20000 in
theorem qzm_105 : qzPm (yX3_laysLeads, cX3_laysLeads, 4, none, 1, 0, 3) := ⟨by decide +kernel, qzWs_in 687 (by decide +kernel) rfl, qzi_RX3, ⟨by decide +kernel, by decide +kernel, by decide +kernel⟩, ⟨by decide, by decide, rfl⟩, (fun h => absurd h (by decide)), (fun _ => ⟨qzWs_in 686 (by decide +kernel) rfl, qzWs_in 29 (by decide +kernel) rfl⟩), (fun h => absurd h (by decide))⟩
set_option maxRecDepth 20000 in
theorem qzm_106 : qzPm (yX3_own, cX3_own, 1, (some .int), 1, 0, 3) := ⟨by decide +kernel, qzWs_in 718 (by decide +kernel) rfl, qzi_RX3, ⟨by decide +kernel, by decide +kernel, by decide +kernel⟩, ⟨by decide, by decide, rfl⟩, (fun h => absurd h (by decide)), (fun _ => ⟨qzWs_in 717 (by decide +kernel) rfl, qzWs_in 36 (by decide +kernel) rfl⟩), (fun h => absurd h (by decide))⟩
set_option maxRecDepth 20000 in
theorem qzm_107 : qzPm (yX3_others, cX3_others, 1, (some .int), 1, 0, 3) := ⟨by decide +kernel, qzWs_in 722 (by decide +kernel) rfl, qzi_RX3, ⟨by decide +kernel, by decide +kernel, by decide +kernel⟩, ⟨by decide, by decide, rfl⟩, (fun h => absurd h (by decide)), (fun _ => ⟨qzWs_in 721 (by decide +kernel) rfl, qzWs_in 37 (by decide +kernel) rfl⟩), (fun h => absurd h (by decide))⟩
set_option maxRecDepth 20000 in
theorem qzm_108 : qzPm (yX3_choice, cX3_choice, 10, (some .int), 1, 1, 3) := ⟨by decide +kernel, qzWs_in 714 (by decide +kernel) rfl, qzi_RX3, ⟨by decide +kernel, by decide +kernel, by decide +kernel⟩, ⟨by decide, by decide, rfl⟩, (fun h => absurd h (by decide)), (fun _ => ⟨qzWs_in 713 (by decide +kernel) rfl, qzWs_in 35 (by decide +kernel) rfl⟩), (fun h => absurd h (by decide))⟩
set_option maxRecDepth 20000 in
theorem qzm_109 : qzPm (yX3_cutsBy, cX3_cutsBy, 3, (some .int), 1, 1, 3) := ⟨by decide +kernel, qzWs_in 710 (by decide +kernel) rfl, qzi_RX3, ⟨by decide +kernel, by decide +kernel, by decide +kernel⟩, ⟨by decide, by decide, rfl⟩, (fun h => absurd h (by decide)), (fun _ => ⟨qzWs_in 709 (by decide +kernel) rfl, qzWs_in 34 (by decide +kernel) rfl⟩), (fun h => absurd h (by decide))⟩
set_option maxRecDepth 20000 in
theorem qzm_110 : qzPm (yX3_cut, cX3_cut, 4, (some .int), 1, 2, 3) := ⟨by decide +kernel, qzWs_in 634 (by decide +kernel) rfl, qzi_RX3, ⟨by decide +kernel, by decide +kernel, by decide +kernel⟩, ⟨by decide, by decide, rfl⟩, (fun h => absurd h (by decide)), (fun _ => ⟨qzWs_in 632 (by decide +kernel) rfl, qzWs_in 633 (by decide +kernel) rfl⟩), (fun h => absurd h (by decide))⟩
set_option maxRecDepth 20000 in
theorem qzm_111 : qzPm (yX3_best, cX3_best, 1, (some .int), 1, 0, 3) := ⟨by decide +kernel, qzWs_in 679 (by decide +kernel) rfl, qzi_RX3, ⟨by decide +kernel, by decide +kernel, by decide +kernel⟩, ⟨by decide, by decide, rfl⟩, (fun h => absurd h (by decide)), (fun _ => ⟨qzWs_in 677 (by decide +kernel) rfl, qzWs_in 678 (by decide +kernel) rfl⟩), (fun h => absurd h (by decide))⟩
set_option maxRecDepth 20000 in
theorem qzm_112 : qzPm (yX3_greedy, cX3_greedy, 1, (some .int), 1, 0, 3) := ⟨by decide +kernel, qzWs_in 726 (by decide +kernel) rfl, qzi_RX3, ⟨by decide +kernel, by decide +kernel, by decide +kernel⟩, ⟨by decide, by decide, rfl⟩, (fun h => absurd h (by decide)), (fun _ => ⟨qzWs_in 724 (by decide +kernel) rfl, qzWs_in 725 (by decide +kernel) rfl⟩), (fun h => absurd h (by decide))⟩
set_option maxRecDepth 20000 in
theorem qzm_113 : qzPm (yX3_again, cX3_again, 1, (some .int), 1, 0, 3) := ⟨by decide +kernel, qzWs_in 730 (by decide +kernel) rfl, qzi_RX3, ⟨by decide +kernel, by decide +kernel, by decide +kernel⟩, ⟨by decide, by decide, rfl⟩, (fun h => absurd h (by decide)), (fun _ => ⟨qzWs_in 728 (by decide +kernel) rfl, qzWs_in 729 (by decide +kernel) rfl⟩), (fun h => absurd h (by decide))⟩
set_option maxRecDepth 20000 in
theorem qzm_114 : qzPm (yX3_mirror, cX3_mirror, 6, (some .int), 1, 0, 3) := ⟨by decide +kernel, qzWs_in 734 (by decide +kernel) rfl, qzi_RX3, ⟨by decide +kernel, by decide +kernel, by decide +kernel⟩, ⟨by decide, by decide, rfl⟩, (fun h => absurd h (by decide)), (fun _ => ⟨qzWs_in 732 (by decide +kernel) rfl, qzWs_in 733 (by decide +kernel) rfl⟩), (fun h => absurd h (by decide))⟩
set_option maxRecDepth 20000 in
theorem qzm_115 : qzPm (yX3_set, cX3_set, 4, (some .int), 1, 2, 3) := ⟨by decide +kernel, qzWs_in 738 (by decide +kernel) rfl, qzi_RX3, ⟨by decide +kernel, by decide +kernel, by decide +kernel⟩, ⟨by decide, by decide, rfl⟩, (fun h => absurd h (by decide)), (fun _ => ⟨qzWs_in 736 (by decide +kernel) rfl, qzWs_in 737 (by decide +kernel) rfl⟩), (fun h => absurd h (by decide))⟩
set_option maxRecDepth 20000 in
theorem qzm_116 : qzPm (yX3_append, cX3_append, 2, (some .int), 1, 1, 3) := ⟨by decide +kernel, qzWs_in 742 (by decide +kernel) rfl, qzi_RX3, ⟨by decide +kernel, by decide +kernel, by decide +kernel⟩, ⟨by decide, by decide, rfl⟩, (fun h => absurd h (by decide)), (fun _ => ⟨qzWs_in 740 (by decide +kernel) rfl, qzWs_in 741 (by decide +kernel) rfl⟩), (fun h => absurd h (by decide))⟩
set_option maxRecDepth 20000 in
theorem qzm_117 : qzPm (yX3_clear, cX3_clear, 2, (some .int), 1, 0, 3) := ⟨by decide +kernel, qzWs_in 746 (by decide +kernel) rfl, qzi_RX3, ⟨by decide +kernel, by decide +kernel, by decide +kernel⟩, ⟨by decide, by decide, rfl⟩, (fun h => absurd h (by decide)), (fun _ => ⟨qzWs_in 744 (by decide +kernel) rfl, qzWs_in 745 (by decide +kernel) rfl⟩), (fun h => absurd h (by decide))⟩
set_option maxRecDepth 20000 in
theorem qzm_118 : qzPm (yX3_here, cX3_here, 1, (some .int), 1, 0, 3) := ⟨by decide +kernel, qzWs_in 758 (by decide +kernel) rfl, qzi_RX3, ⟨by decide +kernel, by decide +kernel, by decide +kernel⟩, ⟨by decide, by decide, rfl⟩, (fun h => absurd h (by decide)), (fun _ => ⟨qzWs_in 757 (by decide +kernel) rfl, qzWs_in 39 (by decide +kernel) rfl⟩), (fun h => absurd h (by decide))⟩
set_option maxRecDepth 20000 in
theorem qzm_119 : qzPm (yX3_takes, cX3_takes, 2, none, 1, 1, 3) := ⟨by decide +kernel, qzWs_in 765 (by decide +kernel) rfl, qzi_RX3, ⟨by decide +kernel, by decide +kernel, by decide +kernel⟩, ⟨by decide, by decide, rfl⟩, (fun h => absurd h (by decide)), (fun _ => ⟨qzWs_in 764 (by decide +kernel) rfl, qzWs_in 40 (by decide +kernel) rfl⟩), (fun h => absurd h (by decide))⟩
set_option maxRecDepth 20000 in
theorem qzm_120 : qzPm (yX3_takesDigit, cX3_takesDigit, 4, (some .int), 1, 2, 3) := ⟨by decide +kernel, qzWs_in 773 (by decide +kernel) rfl, qzi_RX3, ⟨by decide +kernel, by decide +kernel, by decide +kernel⟩, ⟨by decide, by decide, rfl⟩, (fun h => absurd h (by decide)), (fun _ => ⟨qzWs_in 772 (by decide +kernel) rfl, qzWs_in 42 (by decide +kernel) rfl⟩), (fun h => absurd h (by decide))⟩
set_option maxRecDepth 20000 in
theorem qzm_121 : qzPm (yX3_isLetter, cX3_isLetter, 1, (some .boolean), 0, 1, 3) := ⟨by decide +kernel, qzWs_in 761 (by decide +kernel) rfl, qzi_RX3, ⟨by decide +kernel, by decide +kernel, by decide +kernel⟩, ⟨by decide, by decide, rfl⟩, (fun _ => qzWs_in 760 (by decide +kernel) rfl), (fun h => absurd h (by decide)), (fun h => absurd h (by decide))⟩
set_option maxRecDepth 20000 in
theorem qzm_122 : qzPm (yX3_takesRule, cX3_takesRule, 1, none, 1, 0, 3) := ⟨by decide +kernel, qzWs_in 769 (by decide +kernel) rfl, qzi_RX3, ⟨by decide +kernel, by decide +kernel, by decide +kernel⟩, ⟨by decide, by decide, rfl⟩, (fun h => absurd h (by decide)), (fun _ => ⟨qzWs_in 768 (by decide +kernel) rfl, qzWs_in 41 (by decide +kernel) rfl⟩), (fun h => absurd h (by decide))⟩
set_option maxRecDepth 20000 in
theorem qzm_123 : qzPm (yX3_isBolt, cX3_isBolt, 1, (some .boolean), 1, 0, 3) := ⟨by decide +kernel, qzWs_in 754 (by decide +kernel) rfl, qzi_RX3, ⟨by decide +kernel, by decide +kernel, by decide +kernel⟩, ⟨by decide, by decide, rfl⟩, (fun h => absurd h (by decide)), (fun _ => ⟨qzWs_in 753 (by decide +kernel) rfl, qzWs_in 38 (by decide +kernel) rfl⟩), (fun h => absurd h (by decide))⟩
set_option maxRecDepth 20000 in
theorem qzm_124 : qzPm (yX3_takesCut, cX3_takesCut, 3, none, 1, 0, 3) := ⟨by decide +kernel, qzWs_in 781 (by decide +kernel) rfl, qzi_RX3, ⟨by decide +kernel, by decide +kernel, by decide +kernel⟩, ⟨by decide, by decide, rfl⟩, (fun h => absurd h (by decide)), (fun _ => ⟨qzWs_in 780 (by decide +kernel) rfl, qzWs_in 44 (by decide +kernel) rfl⟩), (fun h => absurd h (by decide))⟩
set_option maxRecDepth 20000 in
theorem qzm_125 : qzPm (yX3_areCuts, cX3_areCuts, 1, (some .boolean), 1, 0, 3) := ⟨by decide +kernel, qzWs_in 777 (by decide +kernel) rfl, qzi_RX3, ⟨by decide +kernel, by decide +kernel, by decide +kernel⟩, ⟨by decide, by decide, rfl⟩, (fun h => absurd h (by decide)), (fun _ => ⟨qzWs_in 776 (by decide +kernel) rfl, qzWs_in 43 (by decide +kernel) rfl⟩), (fun h => absurd h (by decide))⟩
set_option maxRecDepth 20000 in
theorem qzm_126 : qzPm (yX3_fault, cX3_fault, 2, (some .int), 1, 1, 3) := ⟨by decide +kernel, qzWs_in 750 (by decide +kernel) rfl, qzi_RX3, ⟨by decide +kernel, by decide +kernel, by decide +kernel⟩, ⟨by decide, by decide, rfl⟩, (fun h => absurd h (by decide)), (fun _ => ⟨qzWs_in 748 (by decide +kernel) rfl, qzWs_in 749 (by decide +kernel) rfl⟩), (fun h => absurd h (by decide))⟩
set_option maxRecDepth 20000 in
theorem qzm_127 : qzPm (yX3_load, cX3_load, 2, (some .int), 1, 0, 3) := ⟨by decide +kernel, qzWs_in 785 (by decide +kernel) rfl, qzi_RX3, ⟨by decide +kernel, by decide +kernel, by decide +kernel⟩, ⟨by decide, by decide, rfl⟩, (fun h => absurd h (by decide)), (fun _ => ⟨qzWs_in 783 (by decide +kernel) rfl, qzWs_in 784 (by decide +kernel) rfl⟩), (fun h => absurd h (by decide))⟩
set_option maxRecDepth 20000 in
theorem qzm_128 : qzPm (yX3_makes, cX3_makes, 6, (some .boolean), 1, 1, 3) := ⟨by decide +kernel, qzWs_in 793 (by decide +kernel) rfl, qzi_RX3, ⟨by decide +kernel, by decide +kernel, by decide +kernel⟩, ⟨by decide, by decide, rfl⟩, (fun h => absurd h (by decide)), (fun _ => ⟨qzWs_in 792 (by decide +kernel) rfl, qzWs_in 45 (by decide +kernel) rfl⟩), (fun h => absurd h (by decide))⟩
set_option maxRecDepth 20000 in
theorem qzm_129 : qzPm (yX3_play, cX3_play, 4, (some .int), 1, 0, 3) := ⟨by decide +kernel, qzWs_in 789 (by decide +kernel) rfl, qzi_RX3, ⟨by decide +kernel, by decide +kernel, by decide +kernel⟩, ⟨by decide, by decide, rfl⟩, (fun h => absurd h (by decide)), (fun _ => ⟨qzWs_in 787 (by decide +kernel) rfl, qzWs_in 788 (by decide +kernel) rfl⟩), (fun h => absurd h (by decide))⟩
set_option maxRecDepth 20000 in
theorem qzm_130 : qzPm (yX3_stripe, cX3_stripe, 2, (some .int), 1, 1, 3) := ⟨by decide +kernel, qzWs_in 797 (by decide +kernel) rfl, qzi_RX3, ⟨by decide +kernel, by decide +kernel, by decide +kernel⟩, ⟨by decide, by decide, rfl⟩, (fun h => absurd h (by decide)), (fun _ => ⟨qzWs_in 795 (by decide +kernel) rfl, qzWs_in 796 (by decide +kernel) rfl⟩), (fun h => absurd h (by decide))⟩
set_option maxRecDepth 20000 in
theorem qzm_131 : qzPm (yX3_coat, cX3_coat, 3, (some .int), 1, 2, 3) := ⟨by decide +kernel, qzWs_in 801 (by decide +kernel) rfl, qzi_RX3, ⟨by decide +kernel, by decide +kernel, by decide +kernel⟩, ⟨by decide, by decide, rfl⟩, (fun h => absurd h (by decide)), (fun _ => ⟨qzWs_in 799 (by decide +kernel) rfl, qzWs_in 800 (by decide +kernel) rfl⟩), (fun h => absurd h (by decide))⟩
set_option maxRecDepth 20000 in
theorem qzm_132 : qzPm (yX3_piece, cX3_piece, 4, (some .int), 1, 3, 3) := ⟨by decide +kernel, qzWs_in 805 (by decide +kernel) rfl, qzi_RX3, ⟨by decide +kernel, by decide +kernel, by decide +kernel⟩, ⟨by decide, by decide, rfl⟩, (fun h => absurd h (by decide)), (fun _ => ⟨qzWs_in 803 (by decide +kernel) rfl, qzWs_in 804 (by decide +kernel) rfl⟩), (fun h => absurd h (by decide))⟩
set_option maxRecDepth 20000 in
theorem qzm_133 : qzPm (yX3_changes, cX3_changes, 3, (some .int), 1, 0, 3) := ⟨by decide +kernel, qzWs_in 813 (by decide +kernel) rfl, qzi_RX3, ⟨by decide +kernel, by decide +kernel, by decide +kernel⟩, ⟨by decide, by decide, rfl⟩, (fun h => absurd h (by decide)), (fun _ => ⟨qzWs_in 812 (by decide +kernel) rfl, qzWs_in 46 (by decide +kernel) rfl⟩), (fun h => absurd h (by decide))⟩
set_option maxRecDepth 20000 in
theorem qzm_134 : qzPm (yX3_leftOf, cX3_leftOf, 4, (some .int), 1, 1, 3) := ⟨by decide +kernel, qzWs_in 821 (by decide +kernel) rfl, qzi_RX3, ⟨by decide +kernel, by decide +kernel, by decide +kernel⟩, ⟨by decide, by decide, rfl⟩, (fun h => absurd h (by decide)), (fun _ => ⟨qzWs_in 820 (by decide +kernel) rfl, qzWs_in 48 (by decide +kernel) rfl⟩), (fun h => absurd h (by decide))⟩
set_option maxRecDepth 20000 in
theorem qzm_135 : qzPm (yX3_coloursLeft, cX3_coloursLeft, 3, (some .int), 1, 0, 3) := ⟨by decide +kernel, qzWs_in 817 (by decide +kernel) rfl, qzi_RX3, ⟨by decide +kernel, by decide +kernel, by decide +kernel⟩, ⟨by decide, by decide, rfl⟩, (fun h => absurd h (by decide)), (fun _ => ⟨qzWs_in 816 (by decide +kernel) rfl, qzWs_in 47 (by decide +kernel) rfl⟩), (fun h => absurd h (by decide))⟩
set_option maxRecDepth 20000 in
theorem qzm_136 : qzPm (yX3_longestFold, cX3_longestFold, 4, (some .int), 1, 0, 3) := ⟨by decide +kernel, qzWs_in 825 (by decide +kernel) rfl, qzi_RX3, ⟨by decide +kernel, by decide +kernel, by decide +kernel⟩, ⟨by decide, by decide, rfl⟩, (fun h => absurd h (by decide)), (fun _ => ⟨qzWs_in 824 (by decide +kernel) rfl, qzWs_in 49 (by decide +kernel) rfl⟩), (fun h => absurd h (by decide))⟩
set_option maxRecDepth 20000 in
theorem qzm_137 : qzPm (yX3_count, cX3_count, 2, (some .int), 1, 1, 3) := ⟨by decide +kernel, qzWs_in 809 (by decide +kernel) rfl, qzi_RX3, ⟨by decide +kernel, by decide +kernel, by decide +kernel⟩, ⟨by decide, by decide, rfl⟩, (fun h => absurd h (by decide)), (fun _ => ⟨qzWs_in 807 (by decide +kernel) rfl, qzWs_in 808 (by decide +kernel) rfl⟩), (fun h => absurd h (by decide))⟩
set_option maxRecDepth 20000 in
theorem qzm_138 : qzPm (yX3_left, cX3_left, 2, (some .int), 1, 1, 3) := ⟨by decide +kernel, qzWs_in 829 (by decide +kernel) rfl, qzi_RX3, ⟨by decide +kernel, by decide +kernel, by decide +kernel⟩, ⟨by decide, by decide, rfl⟩, (fun h => absurd h (by decide)), (fun _ => ⟨qzWs_in 827 (by decide +kernel) rfl, qzWs_in 828 (by decide +kernel) rfl⟩), (fun h => absurd h (by decide))⟩
set_option maxRecDepth 20000 in
theorem qzm_139 : qzPm (yX3_worth, cX3_worth, 4, (some .int), 1, 2, 3) := ⟨by decide +kernel, qzWs_in 833 (by decide +kernel) rfl, qzi_RX3, ⟨by decide +kernel, by decide +kernel, by decide +kernel⟩, ⟨by decide, by decide, rfl⟩, (fun h => absurd h (by decide)), (fun _ => ⟨qzWs_in 831 (by decide +kernel) rfl, qzWs_in 832 (by decide +kernel) rfl⟩), (fun h => absurd h (by decide))⟩
set_option maxRecDepth 20000 in
theorem qzm_140 : qzPm (yX3_lead, cX3_lead, 2, (some .int), 1, 1, 3) := ⟨by decide +kernel, qzWs_in 837 (by decide +kernel) rfl, qzi_RX3, ⟨by decide +kernel, by decide +kernel, by decide +kernel⟩, ⟨by decide, by decide, rfl⟩, (fun h => absurd h (by decide)), (fun _ => ⟨qzWs_in 835 (by decide +kernel) rfl, qzWs_in 836 (by decide +kernel) rfl⟩), (fun h => absurd h (by decide))⟩
set_option maxRecDepth 20000 in
theorem qzm_141 : qzPm (yX3_leadWith, cX3_leadWith, 4, (some .int), 1, 2, 3) := ⟨by decide +kernel, qzWs_in 841 (by decide +kernel) rfl, qzi_RX3, ⟨by decide +kernel, by decide +kernel, by decide +kernel⟩, ⟨by decide, by decide, rfl⟩, (fun h => absurd h (by decide)), (fun _ => ⟨qzWs_in 839 (by decide +kernel) rfl, qzWs_in 840 (by decide +kernel) rfl⟩), (fun h => absurd h (by decide))⟩
set_option maxRecDepth 20000 in
theorem qzm_142 : qzPm (yX3_bestCut, cX3_bestCut, 1, (some .int), 1, 0, 3) := ⟨by decide +kernel, qzWs_in 845 (by decide +kernel) rfl, qzi_RX3, ⟨by decide +kernel, by decide +kernel, by decide +kernel⟩, ⟨by decide, by decide, rfl⟩, (fun h => absurd h (by decide)), (fun _ => ⟨qzWs_in 843 (by decide +kernel) rfl, qzWs_in 844 (by decide +kernel) rfl⟩), (fun h => absurd h (by decide))⟩
set_option maxRecDepth 20000 in
theorem qzm_143 : qzPm (yX3_ended, cX3_ended, 5, (some .int), 1, 3, 3) := ⟨by decide +kernel, qzWs_in 849 (by decide +kernel) rfl, qzi_RX3, ⟨by decide +kernel, by decide +kernel, by decide +kernel⟩, ⟨by decide, by decide, rfl⟩, (fun h => absurd h (by decide)), (fun _ => ⟨qzWs_in 847 (by decide +kernel) rfl, qzWs_in 848 (by decide +kernel) rfl⟩), (fun h => absurd h (by decide))⟩
set_option maxRecDepth 20000 in
theorem qzm_144 : qzPm (yX3_rate, cX3_rate, 2, (some .double), 1, 0, 3) := ⟨by decide +kernel, qzWs_in 853 (by decide +kernel) rfl, qzi_RX3, ⟨by decide +kernel, by decide +kernel, by decide +kernel⟩, ⟨by decide, by decide, rfl⟩, (fun h => absurd h (by decide)), (fun _ => ⟨qzWs_in 851 (by decide +kernel) rfl, qzWs_in 852 (by decide +kernel) rfl⟩), (fun h => absurd h (by decide))⟩
set_option maxRecDepth 20000 in
theorem qzm_145 : qzPm (yX3_undo, cX3_undo, 1, (some .int), 1, 0, 3) := ⟨by decide +kernel, qzWs_in 857 (by decide +kernel) rfl, qzi_RX3, ⟨by decide +kernel, by decide +kernel, by decide +kernel⟩, ⟨by decide, by decide, rfl⟩, (fun h => absurd h (by decide)), (fun _ => ⟨qzWs_in 855 (by decide +kernel) rfl, qzWs_in 856 (by decide +kernel) rfl⟩), (fun h => absurd h (by decide))⟩
set_option maxRecDepth 20000 in
theorem qzm_146 : qzPm (yX3_save, cX3_save, 1, (some .int), 1, 0, 3) := ⟨by decide +kernel, qzWs_in 861 (by decide +kernel) rfl, qzi_RX3, ⟨by decide +kernel, by decide +kernel, by decide +kernel⟩, ⟨by decide, by decide, rfl⟩, (fun h => absurd h (by decide)), (fun _ => ⟨qzWs_in 859 (by decide +kernel) rfl, qzWs_in 860 (by decide +kernel) rfl⟩), (fun h => absurd h (by decide))⟩
set_option maxRecDepth 20000 in
theorem qzm_147 : qzPm (yX3_restore, cX3_restore, 1, (some .int), 1, 0, 3) := ⟨by decide +kernel, qzWs_in 865 (by decide +kernel) rfl, qzi_RX3, ⟨by decide +kernel, by decide +kernel, by decide +kernel⟩, ⟨by decide, by decide, rfl⟩, (fun h => absurd h (by decide)), (fun _ => ⟨qzWs_in 863 (by decide +kernel) rfl, qzWs_in 864 (by decide +kernel) rfl⟩), (fun h => absurd h (by decide))⟩
set_option maxRecDepth 20000 in
theorem qzm_148 : qzPm (yJ7_fill_53178, cJ7_fill_53178, 4, none, 0, 2, 4) := ⟨by decide +kernel, qzWs_in 342 (by decide +kernel) rfl, qzi_RJ7, ⟨by decide +kernel, by decide +kernel, by decide +kernel⟩, ⟨by decide, by decide, rfl⟩, (fun _ => qzWs_in 341 (by decide +kernel) rfl), (fun h => absurd h (by decide)), (fun h => absurd h (by decide))⟩
theorem qzMs_0 : ∀ md ∈ qzM_0, qzPm md := List.forall_mem_cons.mpr ⟨qzm_0, List.forall_mem_cons.mpr ⟨qzm_1, List.forall_mem_cons.mpr ⟨qzm_2, List.forall_mem_cons.mpr ⟨qzm_3, List.forall_mem_cons.mpr ⟨qzm_4, List.forall_mem_cons.mpr ⟨qzm_5, List.forall_mem_cons.mpr ⟨qzm_6, List.forall_mem_cons.mpr ⟨qzm_7, List.forall_mem_cons.mpr ⟨qzm_8, List.forall_mem_cons.mpr ⟨qzm_9, List.forall_mem_cons.mpr ⟨qzm_10, List.forall_mem_cons.mpr ⟨qzm_11, List.forall_mem_cons.mpr ⟨qzm_12, List.forall_mem_cons.mpr ⟨qzm_13, List.forall_mem_cons.mpr ⟨qzm_14, List.forall_mem_cons.mpr ⟨qzm_15, List.forall_mem_cons.mpr ⟨qzm_16, List.forall_mem_cons.mpr ⟨qzm_17, List.forall_mem_cons.mpr ⟨qzm_18, List.forall_mem_cons.mpr ⟨qzm_19, List.forall_mem_cons.mpr ⟨qzm_20, List.forall_mem_cons.mpr ⟨qzm_21, List.forall_mem_cons.mpr ⟨qzm_22, List.forall_mem_cons.mpr ⟨qzm_23, List.forall_mem_cons.mpr ⟨qzm_24, (fun _ h => absurd h List.not_mem_nil)⟩⟩⟩⟩⟩⟩⟩⟩⟩⟩⟩⟩⟩⟩⟩⟩⟩⟩⟩⟩⟩⟩⟩⟩⟩
theorem qzMs_1 : ∀ md ∈ qzM_1, qzPm md := List.forall_mem_cons.mpr ⟨qzm_25, List.forall_mem_cons.mpr ⟨qzm_26, List.forall_mem_cons.mpr ⟨qzm_27, List.forall_mem_cons.mpr ⟨qzm_28, List.forall_mem_cons.mpr ⟨qzm_29, List.forall_mem_cons.mpr ⟨qzm_30, List.forall_mem_cons.mpr ⟨qzm_31, List.forall_mem_cons.mpr ⟨qzm_32, List.forall_mem_cons.mpr ⟨qzm_33, List.forall_mem_cons.mpr ⟨qzm_34, List.forall_mem_cons.mpr ⟨qzm_35, List.forall_mem_cons.mpr ⟨qzm_36, List.forall_mem_cons.mpr ⟨qzm_37, List.forall_mem_cons.mpr ⟨qzm_38, List.forall_mem_cons.mpr ⟨qzm_39, List.forall_mem_cons.mpr ⟨qzm_40, List.forall_mem_cons.mpr ⟨qzm_41, List.forall_mem_cons.mpr ⟨qzm_42, List.forall_mem_cons.mpr ⟨qzm_43, List.forall_mem_cons.mpr ⟨qzm_44, List.forall_mem_cons.mpr ⟨qzm_45, List.forall_mem_cons.mpr ⟨qzm_46, List.forall_mem_cons.mpr ⟨qzm_47, List.forall_mem_cons.mpr ⟨qzm_48, List.forall_mem_cons.mpr ⟨qzm_49, (fun _ h => absurd h List.not_mem_nil)⟩⟩⟩⟩⟩⟩⟩⟩⟩⟩⟩⟩⟩⟩⟩⟩⟩⟩⟩⟩⟩⟩⟩⟩⟩
theorem qzMs_2 : ∀ md ∈ qzM_2, qzPm md := List.forall_mem_cons.mpr ⟨qzm_50, List.forall_mem_cons.mpr ⟨qzm_51, List.forall_mem_cons.mpr ⟨qzm_52, List.forall_mem_cons.mpr ⟨qzm_53, List.forall_mem_cons.mpr ⟨qzm_54, List.forall_mem_cons.mpr ⟨qzm_55, List.forall_mem_cons.mpr ⟨qzm_56, List.forall_mem_cons.mpr ⟨qzm_57, List.forall_mem_cons.mpr ⟨qzm_58, List.forall_mem_cons.mpr ⟨qzm_59, List.forall_mem_cons.mpr ⟨qzm_60, List.forall_mem_cons.mpr ⟨qzm_61, List.forall_mem_cons.mpr ⟨qzm_62, List.forall_mem_cons.mpr ⟨qzm_63, List.forall_mem_cons.mpr ⟨qzm_64, List.forall_mem_cons.mpr ⟨qzm_65, List.forall_mem_cons.mpr ⟨qzm_66, List.forall_mem_cons.mpr ⟨qzm_67, List.forall_mem_cons.mpr ⟨qzm_68, List.forall_mem_cons.mpr ⟨qzm_69, List.forall_mem_cons.mpr ⟨qzm_70, List.forall_mem_cons.mpr ⟨qzm_71, List.forall_mem_cons.mpr ⟨qzm_72, List.forall_mem_cons.mpr ⟨qzm_73, List.forall_mem_cons.mpr ⟨qzm_74, (fun _ h => absurd h List.not_mem_nil)⟩⟩⟩⟩⟩⟩⟩⟩⟩⟩⟩⟩⟩⟩⟩⟩⟩⟩⟩⟩⟩⟩⟩⟩⟩
theorem qzMs_3 : ∀ md ∈ qzM_3, qzPm md := List.forall_mem_cons.mpr ⟨qzm_75, List.forall_mem_cons.mpr ⟨qzm_76, List.forall_mem_cons.mpr ⟨qzm_77, List.forall_mem_cons.mpr ⟨qzm_78, List.forall_mem_cons.mpr ⟨qzm_79, List.forall_mem_cons.mpr ⟨qzm_80, List.forall_mem_cons.mpr ⟨qzm_81, List.forall_mem_cons.mpr ⟨qzm_82, List.forall_mem_cons.mpr ⟨qzm_83, List.forall_mem_cons.mpr ⟨qzm_84, List.forall_mem_cons.mpr ⟨qzm_85, List.forall_mem_cons.mpr ⟨qzm_86, List.forall_mem_cons.mpr ⟨qzm_87, List.forall_mem_cons.mpr ⟨qzm_88, List.forall_mem_cons.mpr ⟨qzm_89, List.forall_mem_cons.mpr ⟨qzm_90, List.forall_mem_cons.mpr ⟨qzm_91, List.forall_mem_cons.mpr ⟨qzm_92, List.forall_mem_cons.mpr ⟨qzm_93, List.forall_mem_cons.mpr ⟨qzm_94, List.forall_mem_cons.mpr ⟨qzm_95, List.forall_mem_cons.mpr ⟨qzm_96, List.forall_mem_cons.mpr ⟨qzm_97, List.forall_mem_cons.mpr ⟨qzm_98, List.forall_mem_cons.mpr ⟨qzm_99, (fun _ h => absurd h List.not_mem_nil)⟩⟩⟩⟩⟩⟩⟩⟩⟩⟩⟩⟩⟩⟩⟩⟩⟩⟩⟩⟩⟩⟩⟩⟩⟩
theorem qzMs_4 : ∀ md ∈ qzM_4, qzPm md := List.forall_mem_cons.mpr ⟨qzm_100, List.forall_mem_cons.mpr ⟨qzm_101, List.forall_mem_cons.mpr ⟨qzm_102, List.forall_mem_cons.mpr ⟨qzm_103, List.forall_mem_cons.mpr ⟨qzm_104, List.forall_mem_cons.mpr ⟨qzm_105, List.forall_mem_cons.mpr ⟨qzm_106, List.forall_mem_cons.mpr ⟨qzm_107, List.forall_mem_cons.mpr ⟨qzm_108, List.forall_mem_cons.mpr ⟨qzm_109, List.forall_mem_cons.mpr ⟨qzm_110, List.forall_mem_cons.mpr ⟨qzm_111, List.forall_mem_cons.mpr ⟨qzm_112, List.forall_mem_cons.mpr ⟨qzm_113, List.forall_mem_cons.mpr ⟨qzm_114, List.forall_mem_cons.mpr ⟨qzm_115, List.forall_mem_cons.mpr ⟨qzm_116, List.forall_mem_cons.mpr ⟨qzm_117, List.forall_mem_cons.mpr ⟨qzm_118, List.forall_mem_cons.mpr ⟨qzm_119, List.forall_mem_cons.mpr ⟨qzm_120, List.forall_mem_cons.mpr ⟨qzm_121, List.forall_mem_cons.mpr ⟨qzm_122, List.forall_mem_cons.mpr ⟨qzm_123, List.forall_mem_cons.mpr ⟨qzm_124, (fun _ h => absurd h List.not_mem_nil)⟩⟩⟩⟩⟩⟩⟩⟩⟩⟩⟩⟩⟩⟩⟩⟩⟩⟩⟩⟩⟩⟩⟩⟩⟩
theorem qzMs_5 : ∀ md ∈ qzM_5, qzPm md := List.forall_mem_cons.mpr ⟨qzm_125, List.forall_mem_cons.mpr ⟨qzm_126, List.forall_mem_cons.mpr ⟨qzm_127, List.forall_mem_cons.mpr ⟨qzm_128, List.forall_mem_cons.mpr ⟨qzm_129, List.forall_mem_cons.mpr ⟨qzm_130, List.forall_mem_cons.mpr ⟨qzm_131, List.forall_mem_cons.mpr ⟨qzm_132, List.forall_mem_cons.mpr ⟨qzm_133, List.forall_mem_cons.mpr ⟨qzm_134, List.forall_mem_cons.mpr ⟨qzm_135, List.forall_mem_cons.mpr ⟨qzm_136, List.forall_mem_cons.mpr ⟨qzm_137, List.forall_mem_cons.mpr ⟨qzm_138, List.forall_mem_cons.mpr ⟨qzm_139, List.forall_mem_cons.mpr ⟨qzm_140, List.forall_mem_cons.mpr ⟨qzm_141, List.forall_mem_cons.mpr ⟨qzm_142, List.forall_mem_cons.mpr ⟨qzm_143, List.forall_mem_cons.mpr ⟨qzm_144, List.forall_mem_cons.mpr ⟨qzm_145, List.forall_mem_cons.mpr ⟨qzm_146, List.forall_mem_cons.mpr ⟨qzm_147, List.forall_mem_cons.mpr ⟨qzm_148, (fun _ h => absurd h List.not_mem_nil)⟩⟩⟩⟩⟩⟩⟩⟩⟩⟩⟩⟩⟩⟩⟩⟩⟩⟩⟩⟩⟩⟩⟩⟩
theorem qzMs : ∀ md ∈ qzM, qzPm md := List.forall_mem_append.mpr ⟨qzMs_0, List.forall_mem_append.mpr ⟨qzMs_1, List.forall_mem_append.mpr ⟨qzMs_2, List.forall_mem_append.mpr ⟨qzMs_3, List.forall_mem_append.mpr ⟨qzMs_4, qzMs_5⟩⟩⟩⟩⟩
theorem qzM_len : qzM.length = 149 := by decide +kernel
theorem qzPm_at {mi : Nat} (h : mi < 149) : qzPm (qzMd mi) := by
  have hl : mi < qzM.length := by rw [qzM_len]; exact h
  have e : qzMd mi = qzM[mi] := by unfold qzMd; rw [List.getD_eq_getElem?_getD, List.getElem?_eq_getElem hl]; rfl
  rw [e]
  exact qzMs _ (List.getElem_mem hl)
/-- what the tables say of a call -/
def qzPc (e : (Nat × Nat) × (Nat × Bool)) : Prop := e.2.1 < 149 ∧ ((e.2.2 = false ∧ Cond.methodLink (qzRs e.1.1) e.1.2 (qzMd e.2.1).1 ∈ qzWs) ∨ (e.2.2 = true ∧ ∃ host, (e.1.1, e.1.2, (qzMd e.2.1).1, host) ∈ qzNst))
theorem qzc_0_54 : qzPc ((0, 54), (84, true)) := ⟨by decide, Or.inr ⟨rfl, "BoltTailors", by decide +kernel⟩⟩
theorem qzc_0_58 : qzPc ((0, 58), (85, true)) := ⟨by decide, Or.inr ⟨rfl, "BoltTailors", by decide +kernel⟩⟩
theorem qzc_0_72 : qzPc ((0, 72), (3, false)) := ⟨by decide, Or.inl ⟨rfl, (qzWs_in 245 (by decide +kernel) rfl : Cond.methodLink RX0 72 yX0_remaining ∈ qzWs)⟩⟩
theorem qzc_0_81 : qzPc ((0, 81), (55, true)) := ⟨by decide, Or.inr ⟨rfl, "BoltTailors", by decide +kernel⟩⟩
theorem qzc_0_85 : qzPc ((0, 85), (56, true)) := ⟨by decide, Or.inr ⟨rfl, "BoltTailors", by decide +kernel⟩⟩
theorem qzc_0_89 : qzPc ((0, 89), (5, false)) := ⟨by decide, Or.inl ⟨rfl, (qzWs_in 288 (by decide +kernel) rfl : Cond.methodLink RX0 89 yX0_onTurn ∈ qzWs)⟩⟩
theorem qzc_0_92 : qzPc ((0, 92), (11, false)) := ⟨by decide, Or.inl ⟨rfl, (qzWs_in 292 (by decide +kernel) rfl : Cond.methodLink RX0 92 yX0_endOfCoat ∈ qzWs)⟩⟩
theorem qzc_0_95 : qzPc ((0, 95), (69, true)) := ⟨by decide, Or.inr ⟨rfl, "BoltTailors", by decide +kernel⟩⟩
theorem qzc_0_99 : qzPc ((0, 99), (70, true)) := ⟨by decide, Or.inr ⟨rfl, "BoltTailors", by decide +kernel⟩⟩
theorem qzc_0_103 : qzPc ((0, 103), (54, true)) := ⟨by decide, Or.inr ⟨rfl, "BoltTailors", by decide +kernel⟩⟩
theorem qzc_0_107 : qzPc ((0, 107), (57, true)) := ⟨by decide, Or.inr ⟨rfl, "BoltTailors", by decide +kernel⟩⟩
theorem qzc_0_110 : qzPc ((0, 110), (58, true)) := ⟨by decide, Or.inr ⟨rfl, "BoltTailors", by decide +kernel⟩⟩
theorem qzc_0_113 : qzPc ((0, 113), (10, false)) := ⟨by decide, Or.inl ⟨rfl, (qzWs_in 296 (by decide +kernel) rfl : Cond.methodLink RX0 113 yX0_piecesOf ∈ qzWs)⟩⟩
theorem qzc_0_116 : qzPc ((0, 116), (15, false)) := ⟨by decide, Or.inl ⟨rfl, (qzWs_in 510 (by decide +kernel) rfl : Cond.methodLink RX0 116 yX0_stripesLeftOf ∈ qzWs)⟩⟩
theorem qzc_0_119 : qzPc ((0, 119), (71, true)) := ⟨by decide, Or.inr ⟨rfl, "BoltTailors", by decide +kernel⟩⟩
theorem qzc_1_21 : qzPc ((1, 21), (20, false)) := ⟨by decide, Or.inl ⟨rfl, (qzWs_in 333 (by decide +kernel) rfl : Cond.methodLink RX1 21 yX1_isFor ∈ qzWs)⟩⟩
theorem qzc_1_41 : qzPc ((1, 41), (148, false)) := ⟨by decide, Or.inl ⟨rfl, (qzWs_in 340 (by decide +kernel) rfl : Cond.methodLink RX1 41 yJ7_fill_53178 ∈ qzWs)⟩⟩
theorem qzc_1_47 : qzPc ((1, 47), (84, true)) := ⟨by decide, Or.inr ⟨rfl, "BoltTailors", by decide +kernel⟩⟩
theorem qzc_1_51 : qzPc ((1, 51), (23, false)) := ⟨by decide, Or.inl ⟨rfl, (qzWs_in 365 (by decide +kernel) rfl : Cond.methodLink RX1 51 yX1_place ∈ qzWs)⟩⟩
theorem qzc_1_55 : qzPc ((1, 55), (85, true)) := ⟨by decide, Or.inr ⟨rfl, "BoltTailors", by decide +kernel⟩⟩
theorem qzc_2_9 : qzPc ((2, 9), (0, false)) := ⟨by decide, Or.inl ⟨rfl, (qzWs_in 72 (by decide +kernel) rfl : Cond.methodLink RX2 9 yX0_init ∈ qzWs)⟩⟩
theorem qzc_2_32 : qzPc ((2, 32), (18, true)) := ⟨by decide, Or.inr ⟨rfl, "BoltTailors", by decide +kernel⟩⟩
theorem qzc_2_40 : qzPc ((2, 40), (59, false)) := ⟨by decide, Or.inl ⟨rfl, (qzWs_in 237 (by decide +kernel) rfl : Cond.methodLink RX2 40 yX2_errorOfCut ∈ qzWs)⟩⟩
theorem qzc_2_44 : qzPc ((2, 44), (51, false)) := ⟨by decide, Or.inl ⟨rfl, (qzWs_in 252 (by decide +kernel) rfl : Cond.methodLink RX2 44 yX2_record ∈ qzWs)⟩⟩
theorem qzc_2_47 : qzPc ((2, 47), (53, false)) := ⟨by decide, Or.inl ⟨rfl, (qzWs_in 271 (by decide +kernel) rfl : Cond.methodLink RX2 47 yX2_codeOf ∈ qzWs)⟩⟩
theorem qzc_2_51 : qzPc ((2, 51), (8, false)) := ⟨by decide, Or.inl ⟨rfl, (qzWs_in 274 (by decide +kernel) rfl : Cond.methodLink RX2 51 yX0_sew ∈ qzWs)⟩⟩
theorem qzc_2_54 : qzPc ((2, 54), (60, false)) := ⟨by decide, Or.inl ⟨rfl, (qzWs_in 321 (by decide +kernel) rfl : Cond.methodLink RX2 54 yX2_cutBy ∈ qzWs)⟩⟩
theorem qzc_2_57 : qzPc ((2, 57), (2, false)) := ⟨by decide, Or.inl ⟨rfl, (qzWs_in 385 (by decide +kernel) rfl : Cond.methodLink RX2 57 yX0_begin ∈ qzWs)⟩⟩
theorem qzc_2_64 : qzPc ((2, 64), (9, false)) := ⟨by decide, Or.inl ⟨rfl, (qzWs_in 393 (by decide +kernel) rfl : Cond.methodLink RX2 64 yX0_turnRound ∈ qzWs)⟩⟩
theorem qzc_2_72 : qzPc ((2, 72), (84, false)) := ⟨by decide, Or.inl ⟨rfl, (qzWs_in 303 (by decide +kernel) rfl : Cond.methodLink RX2 72 yX2_at ∈ qzWs)⟩⟩
theorem qzc_2_82 : qzPc ((2, 82), (85, false)) := ⟨by decide, Or.inl ⟨rfl, (qzWs_in 405 (by decide +kernel) rfl : Cond.methodLink RX2 82 yX2_put ∈ qzWs)⟩⟩
theorem qzc_2_89 : qzPc ((2, 89), (76, false)) := ⟨by decide, Or.inl ⟨rfl, (qzWs_in 418 (by decide +kernel) rfl : Cond.methodLink RX2 89 yX2_faultAsBolt ∈ qzWs)⟩⟩
theorem qzc_2_92 : qzPc ((2, 92), (79, false)) := ⟨by decide, Or.inl ⟨rfl, (qzWs_in 442 (by decide +kernel) rfl : Cond.methodLink RX2 92 yX2_faultAsCuts ∈ qzWs)⟩⟩
theorem qzc_2_95 : qzPc ((2, 95), (75, false)) := ⟨by decide, Or.inl ⟨rfl, (qzWs_in 422 (by decide +kernel) rfl : Cond.methodLink RX2 95 yX2_lettersAhead ∈ qzWs)⟩⟩
theorem qzc_2_98 : qzPc ((2, 98), (72, false)) := ⟨by decide, Or.inl ⟨rfl, (qzWs_in 426 (by decide +kernel) rfl : Cond.methodLink RX2 98 yX2_signAt ∈ qzWs)⟩⟩
theorem qzc_2_102 : qzPc ((2, 102), (80, false)) := ⟨by decide, Or.inl ⟨rfl, (qzWs_in 453 (by decide +kernel) rfl : Cond.methodLink RX2 102 yX2_layPattern ∈ qzWs)⟩⟩
theorem qzc_2_106 : qzPc ((2, 106), (81, false)) := ⟨by decide, Or.inl ⟨rfl, (qzWs_in 457 (by decide +kernel) rfl : Cond.methodLink RX2 106 yX2_layLetters ∈ qzWs)⟩⟩
theorem qzc_2_110 : qzPc ((2, 110), (82, false)) := ⟨by decide, Or.inl ⟨rfl, (qzWs_in 465 (by decide +kernel) rfl : Cond.methodLink RX2 110 yX2_codeOnPad ∈ qzWs)⟩⟩
theorem qzc_2_113 : qzPc ((2, 113), (74, false)) := ⟨by decide, Or.inl ⟨rfl, (qzWs_in 446 (by decide +kernel) rfl : Cond.methodLink RX2 113 yX2_isSide ∈ qzWs)⟩⟩
theorem qzc_2_120 : qzPc ((2, 120), (83, false)) := ⟨by decide, Or.inl ⟨rfl, (qzWs_in 477 (by decide +kernel) rfl : Cond.methodLink RX2 120 yX2_isNoTailor ∈ qzWs)⟩⟩
theorem qzc_2_127 : qzPc ((2, 127), (12, false)) := ⟨by decide, Or.inl ⟨rfl, (qzWs_in 480 (by decide +kernel) rfl : Cond.methodLink RX2 127 yX0_sumOfCoat ∈ qzWs)⟩⟩
theorem qzc_2_130 : qzPc ((2, 130), (10, false)) := ⟨by decide, Or.inl ⟨rfl, (qzWs_in 484 (by decide +kernel) rfl : Cond.methodLink RX2 130 yX0_piecesOf ∈ qzWs)⟩⟩
theorem qzc_2_136 : qzPc ((2, 136), (11, false)) := ⟨by decide, Or.inl ⟨rfl, (qzWs_in 344 (by decide +kernel) rfl : Cond.methodLink RX2 136 yX0_endOfCoat ∈ qzWs)⟩⟩
theorem qzc_2_139 : qzPc ((2, 139), (13, false)) := ⟨by decide, Or.inl ⟨rfl, (qzWs_in 485 (by decide +kernel) rfl : Cond.methodLink RX2 139 yX0_piecesWith ∈ qzWs)⟩⟩
theorem qzc_2_149 : qzPc ((2, 149), (4, false)) := ⟨by decide, Or.inl ⟨rfl, (qzWs_in 497 (by decide +kernel) rfl : Cond.methodLink RX2 149 yX0_isOver ∈ qzWs)⟩⟩
theorem qzc_2_153 : qzPc ((2, 153), (3, false)) := ⟨by decide, Or.inl ⟨rfl, (qzWs_in 501 (by decide +kernel) rfl : Cond.methodLink RX2 153 yX0_remaining ∈ qzWs)⟩⟩
theorem qzc_2_162 : qzPc ((2, 162), (5, false)) := ⟨by decide, Or.inl ⟨rfl, (qzWs_in 343 (by decide +kernel) rfl : Cond.methodLink RX2 162 yX0_onTurn ∈ qzWs)⟩⟩
theorem qzc_2_168 : qzPc ((2, 168), (14, false)) := ⟨by decide, Or.inl ⟨rfl, (qzWs_in 502 (by decide +kernel) rfl : Cond.methodLink RX2 168 yX0_colourChanges ∈ qzWs)⟩⟩
theorem qzc_2_171 : qzPc ((2, 171), (16, false)) := ⟨by decide, Or.inl ⟨rfl, (qzWs_in 506 (by decide +kernel) rfl : Cond.methodLink RX2 171 yX0_coloursLeft ∈ qzWs)⟩⟩
theorem qzc_2_174 : qzPc ((2, 174), (17, false)) := ⟨by decide, Or.inl ⟨rfl, (qzWs_in 514 (by decide +kernel) rfl : Cond.methodLink RX2 174 yX0_longestFold ∈ qzWs)⟩⟩
theorem qzc_2_180 : qzPc ((2, 180), (15, false)) := ⟨by decide, Or.inl ⟨rfl, (qzWs_in 523 (by decide +kernel) rfl : Cond.methodLink RX2 180 yX0_stripesLeftOf ∈ qzWs)⟩⟩
theorem qzc_2_183 : qzPc ((2, 183), (7, false)) := ⟨by decide, Or.inl ⟨rfl, (qzWs_in 346 (by decide +kernel) rfl : Cond.methodLink RX2 183 yX0_worthOfCut ∈ qzWs)⟩⟩
theorem qzc_2_186 : qzPc ((2, 186), (62, false)) := ⟨by decide, Or.inl ⟨rfl, (qzWs_in 532 (by decide +kernel) rfl : Cond.methodLink RX2 186 yX2_leadTold ∈ qzWs)⟩⟩
theorem qzc_2_190 : qzPc ((2, 190), (65, false)) := ⟨by decide, Or.inl ⟨rfl, (qzWs_in 542 (by decide +kernel) rfl : Cond.methodLink RX2 190 yX2_leadGoneInto ∈ qzWs)⟩⟩
theorem qzc_2_193 : qzPc ((2, 193), (66, false)) := ⟨by decide, Or.inl ⟨rfl, (qzWs_in 550 (by decide +kernel) rfl : Cond.methodLink RX2 193 yX2_leadOfCut ∈ qzWs)⟩⟩
theorem qzc_2_197 : qzPc ((2, 197), (61, false)) := ⟨by decide, Or.inl ⟨rfl, (qzWs_in 325 (by decide +kernel) rfl : Cond.methodLink RX2 197 yX2_choice ∈ qzWs)⟩⟩
theorem qzc_2_200 : qzPc ((2, 200), (1, false)) := ⟨by decide, Or.inl ⟨rfl, (qzWs_in 264 (by decide +kernel) rfl : Cond.methodLink RX2 200 yX0_copyFrom ∈ qzWs)⟩⟩
theorem qzc_2_204 : qzPc ((2, 204), (50, false)) := ⟨by decide, Or.inl ⟨rfl, (qzWs_in 260 (by decide +kernel) rfl : Cond.methodLink RX2 204 yX2_pastAt ∈ qzWs)⟩⟩
theorem qzc_2_212 : qzPc ((2, 212), (52, false)) := ⟨by decide, Or.inl ⟨rfl, (qzWs_in 256 (by decide +kernel) rfl : Cond.methodLink RX2 212 yX2_dropOldest ∈ qzWs)⟩⟩
theorem qzc_2_215 : qzPc ((2, 215), (54, false)) := ⟨by decide, Or.inl ⟨rfl, (qzWs_in 281 (by decide +kernel) rfl : Cond.methodLink RX2 215 yX2_isFromLeft ∈ qzWs)⟩⟩
theorem qzc_2_218 : qzPc ((2, 218), (55, false)) := ⟨by decide, Or.inl ⟨rfl, (qzWs_in 287 (by decide +kernel) rfl : Cond.methodLink RX2 218 yX2_sizeOf ∈ qzWs)⟩⟩
theorem qzc_2_221 : qzPc ((2, 221), (6, false)) := ⟨by decide, Or.inl ⟨rfl, (qzWs_in 241 (by decide +kernel) rfl : Cond.methodLink RX2 221 yX0_longestCut ∈ qzWs)⟩⟩
theorem qzc_2_224 : qzPc ((2, 224), (19, false)) := ⟨by decide, Or.inl ⟨rfl, (qzWs_in 329 (by decide +kernel) rfl : Cond.methodLink RX2 224 yX1_fitTo ∈ qzWs)⟩⟩
theorem qzc_2_228 : qzPc ((2, 228), (68, false)) := ⟨by decide, Or.inl ⟨rfl, (qzWs_in 350 (by decide +kernel) rfl : Cond.methodLink RX2 228 yX2_goThrough ∈ qzWs)⟩⟩
theorem qzc_2_232 : qzPc ((2, 232), (21, false)) := ⟨by decide, Or.inl ⟨rfl, (qzWs_in 361 (by decide +kernel) rfl : Cond.methodLink RX2 232 yX1_told ∈ qzWs)⟩⟩
theorem qzc_2_236 : qzPc ((2, 236), (63, false)) := ⟨by decide, Or.inl ⟨rfl, (qzWs_in 536 (by decide +kernel) rfl : Cond.methodLink RX2 236 yX2_tellRows ∈ qzWs)⟩⟩
theorem qzc_2_241 : qzPc ((2, 241), (64, false)) := ⟨by decide, Or.inl ⟨rfl, (qzWs_in 539 (by decide +kernel) rfl : Cond.methodLink RX2 241 yX2_raiseRow ∈ qzWs)⟩⟩
theorem qzc_2_245 : qzPc ((2, 245), (56, false)) := ⟨by decide, Or.inl ⟨rfl, (qzWs_in 353 (by decide +kernel) rfl : Cond.methodLink RX2 245 yX2_pieceStart ∈ qzWs)⟩⟩
theorem qzc_2_250 : qzPc ((2, 250), (69, false)) := ⟨by decide, Or.inl ⟨rfl, (qzWs_in 354 (by decide +kernel) rfl : Cond.methodLink RX2 250 yX2_traitsOf ∈ qzWs)⟩⟩
theorem qzc_2_254 : qzPc ((2, 254), (70, false)) := ⟨by decide, Or.inl ⟨rfl, (qzWs_in 355 (by decide +kernel) rfl : Cond.methodLink RX2 254 yX2_worthOf ∈ qzWs)⟩⟩
theorem qzc_2_258 : qzPc ((2, 258), (57, false)) := ⟨by decide, Or.inl ⟨rfl, (qzWs_in 356 (by decide +kernel) rfl : Cond.methodLink RX2 258 yX2_restStart ∈ qzWs)⟩⟩
theorem qzc_2_261 : qzPc ((2, 261), (58, false)) := ⟨by decide, Or.inl ⟨rfl, (qzWs_in 357 (by decide +kernel) rfl : Cond.methodLink RX2 261 yX2_restEnd ∈ qzWs)⟩⟩
theorem qzc_2_264 : qzPc ((2, 264), (22, false)) := ⟨by decide, Or.inl ⟨rfl, (qzWs_in 372 (by decide +kernel) rfl : Cond.methodLink RX2 264 yX1_keep ∈ qzWs)⟩⟩
theorem qzc_2_268 : qzPc ((2, 268), (67, false)) := ⟨by decide, Or.inl ⟨rfl, (qzWs_in 358 (by decide +kernel) rfl : Cond.methodLink RX2 268 yX2_goInto ∈ qzWs)⟩⟩
theorem qzc_2_280 : qzPc ((2, 280), (71, false)) := ⟨by decide, Or.inl ⟨rfl, (qzWs_in 304 (by decide +kernel) rfl : Cond.methodLink RX2 280 yX2_isFold ∈ qzWs)⟩⟩
theorem qzc_2_284 : qzPc ((2, 284), (77, false)) := ⟨by decide, Or.inl ⟨rfl, (qzWs_in 430 (by decide +kernel) rfl : Cond.methodLink RX2 284 yX2_faultBehindStar ∈ qzWs)⟩⟩
theorem qzc_2_287 : qzPc ((2, 287), (78, false)) := ⟨by decide, Or.inl ⟨rfl, (qzWs_in 434 (by decide +kernel) rfl : Cond.methodLink RX2 287 yX2_digitsOfNumber ∈ qzWs)⟩⟩
theorem qzc_2_290 : qzPc ((2, 290), (73, false)) := ⟨by decide, Or.inl ⟨rfl, (qzWs_in 438 (by decide +kernel) rfl : Cond.methodLink RX2 290 yX2_digitAt ∈ qzWs)⟩⟩
theorem qzc_3_28 : qzPc ((3, 28), (90, false)) := ⟨by decide, Or.inl ⟨rfl, (qzWs_in 584 (by decide +kernel) rfl : Cond.methodLink RX3 28 yX3_beginsAgain ∈ qzWs)⟩⟩
theorem qzc_3_35 : qzPc ((3, 35), (88, false)) := ⟨by decide, Or.inl ⟨rfl, (qzWs_in 646 (by decide +kernel) rfl : Cond.methodLink RX3 35 yX3_copies ∈ qzWs)⟩⟩
theorem qzc_3_39 : qzPc ((3, 39), (95, false)) := ⟨by decide, Or.inl ⟨rfl, (qzWs_in 664 (by decide +kernel) rfl : Cond.methodLink RX3 39 yX3_folds ∈ qzWs)⟩⟩
theorem qzc_3_43 : qzPc ((3, 43), (96, false)) := ⟨by decide, Or.inl ⟨rfl, (qzWs_in 668 (by decide +kernel) rfl : Cond.methodLink RX3 43 yX3_matches ∈ qzWs)⟩⟩
theorem qzc_3_46 : qzPc ((3, 46), (94, false)) := ⟨by decide, Or.inl ⟨rfl, (qzWs_in 653 (by decide +kernel) rfl : Cond.methodLink RX3 46 yX3_firstOf ∈ qzWs)⟩⟩
theorem qzc_3_50 : qzPc ((3, 50), (91, false)) := ⟨by decide, Or.inl ⟨rfl, (qzWs_in 656 (by decide +kernel) rfl : Cond.methodLink RX3 50 yX3_coatOf ∈ qzWs)⟩⟩
theorem qzc_3_54 : qzPc ((3, 54), (97, false)) := ⟨by decide, Or.inl ⟨rfl, (qzWs_in 660 (by decide +kernel) rfl : Cond.methodLink RX3 54 yX3_worthOf ∈ qzWs)⟩⟩
theorem qzc_3_58 : qzPc ((3, 58), (92, false)) := ⟨by decide, Or.inl ⟨rfl, (qzWs_in 672 (by decide +kernel) rfl : Cond.methodLink RX3 58 yX3_adds ∈ qzWs)⟩⟩
theorem qzc_3_62 : qzPc ((3, 62), (87, false)) := ⟨by decide, Or.inl ⟨rfl, (qzWs_in 639 (by decide +kernel) rfl : Cond.methodLink RX3 62 yX3_in ∈ qzWs)⟩⟩
theorem qzc_3_66 : qzPc ((3, 66), (100, false)) := ⟨by decide, Or.inl ⟨rfl, (qzWs_in 704 (by decide +kernel) rfl : Cond.methodLink RX3 66 yX3_rowOf ∈ qzWs)⟩⟩
theorem qzc_3_69 : qzPc ((3, 69), (101, false)) := ⟨by decide, Or.inl ⟨rfl, (qzWs_in 700 (by decide +kernel) rfl : Cond.methodLink RX3 69 yX3_leadAt ∈ qzWs)⟩⟩
theorem qzc_3_73 : qzPc ((3, 73), (102, false)) := ⟨by decide, Or.inl ⟨rfl, (qzWs_in 692 (by decide +kernel) rfl : Cond.methodLink RX3 73 yX3_most ∈ qzWs)⟩⟩
theorem qzc_3_77 : qzPc ((3, 77), (103, false)) := ⟨by decide, Or.inl ⟨rfl, (qzWs_in 696 (by decide +kernel) rfl : Cond.methodLink RX3 77 yX3_leadBy ∈ qzWs)⟩⟩
theorem qzc_3_81 : qzPc ((3, 81), (104, false)) := ⟨by decide, Or.inl ⟨rfl, (qzWs_in 688 (by decide +kernel) rfl : Cond.methodLink RX3 81 yX3_laysLead ∈ qzWs)⟩⟩
theorem qzc_3_85 : qzPc ((3, 85), (106, false)) := ⟨by decide, Or.inl ⟨rfl, (qzWs_in 715 (by decide +kernel) rfl : Cond.methodLink RX3 85 yX3_own ∈ qzWs)⟩⟩
theorem qzc_3_89 : qzPc ((3, 89), (107, false)) := ⟨by decide, Or.inl ⟨rfl, (qzWs_in 719 (by decide +kernel) rfl : Cond.methodLink RX3 89 yX3_others ∈ qzWs)⟩⟩
theorem qzc_3_92 : qzPc ((3, 92), (108, false)) := ⟨by decide, Or.inl ⟨rfl, (qzWs_in 711 (by decide +kernel) rfl : Cond.methodLink RX3 92 yX3_choice ∈ qzWs)⟩⟩
theorem qzc_3_96 : qzPc ((3, 96), (98, false)) := ⟨by decide, Or.inl ⟨rfl, (qzWs_in 649 (by decide +kernel) rfl : Cond.methodLink RX3 96 yX3_goCut ∈ qzWs)⟩⟩
theorem qzc_3_100 : qzPc ((3, 100), (99, false)) := ⟨by decide, Or.inl ⟨rfl, (qzWs_in 635 (by decide +kernel) rfl : Cond.methodLink RX3 100 yX3_errorCut ∈ qzWs)⟩⟩
theorem qzc_3_103 : qzPc ((3, 103), (89, false)) := ⟨by decide, Or.inl ⟨rfl, (qzWs_in 642 (by decide +kernel) rfl : Cond.methodLink RX3 103 yX3_records ∈ qzWs)⟩⟩
theorem qzc_3_106 : qzPc ((3, 106), (93, false)) := ⟨by decide, Or.inl ⟨rfl, (qzWs_in 680 (by decide +kernel) rfl : Cond.methodLink RX3 106 yX3_isOver ∈ qzWs)⟩⟩
theorem qzc_3_110 : qzPc ((3, 110), (105, false)) := ⟨by decide, Or.inl ⟨rfl, (qzWs_in 684 (by decide +kernel) rfl : Cond.methodLink RX3 110 yX3_laysLeads ∈ qzWs)⟩⟩
theorem qzc_3_113 : qzPc ((3, 113), (109, false)) := ⟨by decide, Or.inl ⟨rfl, (qzWs_in 707 (by decide +kernel) rfl : Cond.methodLink RX3 113 yX3_cutsBy ∈ qzWs)⟩⟩
theorem qzc_3_126 : qzPc ((3, 126), (118, false)) := ⟨by decide, Or.inl ⟨rfl, (qzWs_in 755 (by decide +kernel) rfl : Cond.methodLink RX3 126 yX3_here ∈ qzWs)⟩⟩
theorem qzc_3_129 : qzPc ((3, 129), (119, false)) := ⟨by decide, Or.inl ⟨rfl, (qzWs_in 762 (by decide +kernel) rfl : Cond.methodLink RX3 129 yX3_takes ∈ qzWs)⟩⟩
theorem qzc_3_133 : qzPc ((3, 133), (120, false)) := ⟨by decide, Or.inl ⟨rfl, (qzWs_in 770 (by decide +kernel) rfl : Cond.methodLink RX3 133 yX3_takesDigit ∈ qzWs)⟩⟩
theorem qzc_3_145 : qzPc ((3, 145), (121, false)) := ⟨by decide, Or.inl ⟨rfl, (qzWs_in 759 (by decide +kernel) rfl : Cond.methodLink RX3 145 yX3_isLetter ∈ qzWs)⟩⟩
theorem qzc_3_149 : qzPc ((3, 149), (122, false)) := ⟨by decide, Or.inl ⟨rfl, (qzWs_in 766 (by decide +kernel) rfl : Cond.methodLink RX3 149 yX3_takesRule ∈ qzWs)⟩⟩
theorem qzc_3_152 : qzPc ((3, 152), (124, false)) := ⟨by decide, Or.inl ⟨rfl, (qzWs_in 778 (by decide +kernel) rfl : Cond.methodLink RX3 152 yX3_takesCut ∈ qzWs)⟩⟩
theorem qzc_3_155 : qzPc ((3, 155), (123, false)) := ⟨by decide, Or.inl ⟨rfl, (qzWs_in 751 (by decide +kernel) rfl : Cond.methodLink RX3 155 yX3_isBolt ∈ qzWs)⟩⟩
theorem qzc_3_158 : qzPc ((3, 158), (125, false)) := ⟨by decide, Or.inl ⟨rfl, (qzWs_in 774 (by decide +kernel) rfl : Cond.methodLink RX3 158 yX3_areCuts ∈ qzWs)⟩⟩
theorem qzc_3_161 : qzPc ((3, 161), (128, false)) := ⟨by decide, Or.inl ⟨rfl, (qzWs_in 790 (by decide +kernel) rfl : Cond.methodLink RX3 161 yX3_makes ∈ qzWs)⟩⟩
theorem qzc_3_164 : qzPc ((3, 164), (134, false)) := ⟨by decide, Or.inl ⟨rfl, (qzWs_in 818 (by decide +kernel) rfl : Cond.methodLink RX3 164 yX3_leftOf ∈ qzWs)⟩⟩
theorem qzc_3_167 : qzPc ((3, 167), (133, false)) := ⟨by decide, Or.inl ⟨rfl, (qzWs_in 810 (by decide +kernel) rfl : Cond.methodLink RX3 167 yX3_changes ∈ qzWs)⟩⟩
theorem qzc_3_170 : qzPc ((3, 170), (135, false)) := ⟨by decide, Or.inl ⟨rfl, (qzWs_in 814 (by decide +kernel) rfl : Cond.methodLink RX3 170 yX3_coloursLeft ∈ qzWs)⟩⟩
theorem qzc_3_173 : qzPc ((3, 173), (136, false)) := ⟨by decide, Or.inl ⟨rfl, (qzWs_in 822 (by decide +kernel) rfl : Cond.methodLink RX3 173 yX3_longestFold ∈ qzWs)⟩⟩
theorem qzCs_0 : ∀ e ∈ qzCl_0, qzPc e := List.forall_mem_cons.mpr ⟨qzc_0_54, List.forall_mem_cons.mpr ⟨qzc_0_58, List.forall_mem_cons.mpr ⟨qzc_0_72, List.forall_mem_cons.mpr ⟨qzc_0_81, List.forall_mem_cons.mpr ⟨qzc_0_85, List.forall_mem_cons.mpr ⟨qzc_0_89, List.forall_mem_cons.mpr ⟨qzc_0_92, List.forall_mem_cons.mpr ⟨qzc_0_95, List.forall_mem_cons.mpr ⟨qzc_0_99, List.forall_mem_cons.mpr ⟨qzc_0_103, List.forall_mem_cons.mpr ⟨qzc_0_107, List.forall_mem_cons.mpr ⟨qzc_0_110, List.forall_mem_cons.mpr ⟨qzc_0_113, List.forall_mem_cons.mpr ⟨qzc_0_116, List.forall_mem_cons.mpr ⟨qzc_0_119, List.forall_mem_cons.mpr ⟨qzc_1_21, List.forall_mem_cons.mpr ⟨qzc_1_41, List.forall_mem_cons.mpr ⟨qzc_1_47, List.forall_mem_cons.mpr ⟨qzc_1_51, List.forall_mem_cons.mpr ⟨qzc_1_55, List.forall_mem_cons.mpr ⟨qzc_2_9, List.forall_mem_cons.mpr ⟨qzc_2_32, List.forall_mem_cons.mpr ⟨qzc_2_40, List.forall_mem_cons.mpr ⟨qzc_2_44, List.forall_mem_cons.mpr ⟨qzc_2_47, List.forall_mem_cons.mpr ⟨qzc_2_51, List.forall_mem_cons.mpr ⟨qzc_2_54, List.forall_mem_cons.mpr ⟨qzc_2_57, List.forall_mem_cons.mpr ⟨qzc_2_64, List.forall_mem_cons.mpr ⟨qzc_2_72, List.forall_mem_cons.mpr ⟨qzc_2_82, List.forall_mem_cons.mpr ⟨qzc_2_89, List.forall_mem_cons.mpr ⟨qzc_2_92, List.forall_mem_cons.mpr ⟨qzc_2_95, List.forall_mem_cons.mpr ⟨qzc_2_98, List.forall_mem_cons.mpr ⟨qzc_2_102, List.forall_mem_cons.mpr ⟨qzc_2_106, List.forall_mem_cons.mpr ⟨qzc_2_110, List.forall_mem_cons.mpr ⟨qzc_2_113, List.forall_mem_cons.mpr ⟨qzc_2_120, (fun _ h => absurd h List.not_mem_nil)⟩⟩⟩⟩⟩⟩⟩⟩⟩⟩⟩⟩⟩⟩⟩⟩⟩⟩⟩⟩⟩⟩⟩⟩⟩⟩⟩⟩⟩⟩⟩⟩⟩⟩⟩⟩⟩⟩⟩⟩
theorem qzCs_1 : ∀ e ∈ qzCl_1, qzPc e := List.forall_mem_cons.mpr ⟨qzc_2_127, List.forall_mem_cons.mpr ⟨qzc_2_130, List.forall_mem_cons.mpr ⟨qzc_2_136, List.forall_mem_cons.mpr ⟨qzc_2_139, List.forall_mem_cons.mpr ⟨qzc_2_149, List.forall_mem_cons.mpr ⟨qzc_2_153, List.forall_mem_cons.mpr ⟨qzc_2_162, List.forall_mem_cons.mpr ⟨qzc_2_168, List.forall_mem_cons.mpr ⟨qzc_2_171, List.forall_mem_cons.mpr ⟨qzc_2_174, List.forall_mem_cons.mpr ⟨qzc_2_180, List.forall_mem_cons.mpr ⟨qzc_2_183, List.forall_mem_cons.mpr ⟨qzc_2_186, List.forall_mem_cons.mpr ⟨qzc_2_190, List.forall_mem_cons.mpr ⟨qzc_2_193, List.forall_mem_cons.mpr ⟨qzc_2_197, List.forall_mem_cons.mpr ⟨qzc_2_200, List.forall_mem_cons.mpr ⟨qzc_2_204, List.forall_mem_cons.mpr ⟨qzc_2_212, List.forall_mem_cons.mpr ⟨qzc_2_215, List.forall_mem_cons.mpr ⟨qzc_2_218, List.forall_mem_cons.mpr ⟨qzc_2_221, List.forall_mem_cons.mpr ⟨qzc_2_224, List.forall_mem_cons.mpr ⟨qzc_2_228, List.forall_mem_cons.mpr ⟨qzc_2_232, List.forall_mem_cons.mpr ⟨qzc_2_236, List.forall_mem_cons.mpr ⟨qzc_2_241, List.forall_mem_cons.mpr ⟨qzc_2_245, List.forall_mem_cons.mpr ⟨qzc_2_250, List.forall_mem_cons.mpr ⟨qzc_2_254, List.forall_mem_cons.mpr ⟨qzc_2_258, List.forall_mem_cons.mpr ⟨qzc_2_261, List.forall_mem_cons.mpr ⟨qzc_2_264, List.forall_mem_cons.mpr ⟨qzc_2_268, List.forall_mem_cons.mpr ⟨qzc_2_280, List.forall_mem_cons.mpr ⟨qzc_2_284, List.forall_mem_cons.mpr ⟨qzc_2_287, List.forall_mem_cons.mpr ⟨qzc_2_290, List.forall_mem_cons.mpr ⟨qzc_3_28, List.forall_mem_cons.mpr ⟨qzc_3_35, (fun _ h => absurd h List.not_mem_nil)⟩⟩⟩⟩⟩⟩⟩⟩⟩⟩⟩⟩⟩⟩⟩⟩⟩⟩⟩⟩⟩⟩⟩⟩⟩⟩⟩⟩⟩⟩⟩⟩⟩⟩⟩⟩⟩⟩⟩⟩
theorem qzCs_2 : ∀ e ∈ qzCl_2, qzPc e := List.forall_mem_cons.mpr ⟨qzc_3_39, List.forall_mem_cons.mpr ⟨qzc_3_43, List.forall_mem_cons.mpr ⟨qzc_3_46, List.forall_mem_cons.mpr ⟨qzc_3_50, List.forall_mem_cons.mpr ⟨qzc_3_54, List.forall_mem_cons.mpr ⟨qzc_3_58, List.forall_mem_cons.mpr ⟨qzc_3_62, List.forall_mem_cons.mpr ⟨qzc_3_66, List.forall_mem_cons.mpr ⟨qzc_3_69, List.forall_mem_cons.mpr ⟨qzc_3_73, List.forall_mem_cons.mpr ⟨qzc_3_77, List.forall_mem_cons.mpr ⟨qzc_3_81, List.forall_mem_cons.mpr ⟨qzc_3_85, List.forall_mem_cons.mpr ⟨qzc_3_89, List.forall_mem_cons.mpr ⟨qzc_3_92, List.forall_mem_cons.mpr ⟨qzc_3_96, List.forall_mem_cons.mpr ⟨qzc_3_100, List.forall_mem_cons.mpr ⟨qzc_3_103, List.forall_mem_cons.mpr ⟨qzc_3_106, List.forall_mem_cons.mpr ⟨qzc_3_110, List.forall_mem_cons.mpr ⟨qzc_3_113, List.forall_mem_cons.mpr ⟨qzc_3_126, List.forall_mem_cons.mpr ⟨qzc_3_129, List.forall_mem_cons.mpr ⟨qzc_3_133, List.forall_mem_cons.mpr ⟨qzc_3_145, List.forall_mem_cons.mpr ⟨qzc_3_149, List.forall_mem_cons.mpr ⟨qzc_3_152, List.forall_mem_cons.mpr ⟨qzc_3_155, List.forall_mem_cons.mpr ⟨qzc_3_158, List.forall_mem_cons.mpr ⟨qzc_3_161, List.forall_mem_cons.mpr ⟨qzc_3_164, List.forall_mem_cons.mpr ⟨qzc_3_167, List.forall_mem_cons.mpr ⟨qzc_3_170, List.forall_mem_cons.mpr ⟨qzc_3_173, (fun _ h => absurd h List.not_mem_nil)⟩⟩⟩⟩⟩⟩⟩⟩⟩⟩⟩⟩⟩⟩⟩⟩⟩⟩⟩⟩⟩⟩⟩⟩⟩⟩⟩⟩⟩⟩⟩⟩⟩⟩
theorem qzCs : ∀ e ∈ qzCl, qzPc e := List.forall_mem_append.mpr ⟨qzCs_0, List.forall_mem_append.mpr ⟨qzCs_1, qzCs_2⟩⟩
/-- what the tables say of a field -/
def qzPf (e : (Nat × Nat) × (Nat × Nat)) : Prop := e.2.1 < 4 ∧ e.2.2 < qzNf e.2.1 ∧ Cond.fieldLink (qzRs e.1.1) e.1.2 (qzTs e.2.1 e.2.2).1 (qzTs e.2.1 e.2.2).2.1 (qzTs e.2.1 e.2.2).2.2.1 ∈ qzWs
theorem qzf_0_9 : qzPf ((0, 9), (0, 0)) := ⟨by decide, by decide, (qzWs_in 133 (by decide +kernel) rfl : Cond.fieldLink RX0 9 "BoltTailors$Game" "colours" "[I" ∈ qzWs)⟩
theorem qzf_0_15 : qzPf ((0, 15), (0, 1)) := ⟨by decide, by decide, (qzWs_in 136 (by decide +kernel) rfl : Cond.fieldLink RX0 15 "BoltTailors$Game" "settings" "[I" ∈ qzWs)⟩
theorem qzf_0_18 : qzPf ((0, 18), (0, 2)) := ⟨by decide, by decide, (qzWs_in 139 (by decide +kernel) rfl : Cond.fieldLink RX0 18 "BoltTailors$Game" "pieceFirst" "[I" ∈ qzWs)⟩
theorem qzf_0_21 : qzPf ((0, 21), (0, 3)) := ⟨by decide, by decide, (qzWs_in 141 (by decide +kernel) rfl : Cond.fieldLink RX0 21 "BoltTailors$Game" "pieceSize" "[I" ∈ qzWs)⟩
theorem qzf_0_24 : qzPf ((0, 24), (0, 4)) := ⟨by decide, by decide, (qzWs_in 143 (by decide +kernel) rfl : Cond.fieldLink RX0 24 "BoltTailors$Game" "pieceWorth" "[I" ∈ qzWs)⟩
theorem qzf_0_27 : qzPf ((0, 27), (0, 5)) := ⟨by decide, by decide, (qzWs_in 145 (by decide +kernel) rfl : Cond.fieldLink RX0 27 "BoltTailors$Game" "pieceTraits" "[I" ∈ qzWs)⟩
theorem qzf_0_38 : qzPf ((0, 38), (0, 6)) := ⟨by decide, by decide, (qzWs_in 147 (by decide +kernel) rfl : Cond.fieldLink RX0 38 "BoltTailors$Game" "stripes" "I" ∈ qzWs)⟩
theorem qzf_0_42 : qzPf ((0, 42), (0, 7)) := ⟨by decide, by decide, (qzWs_in 150 (by decide +kernel) rfl : Cond.fieldLink RX0 42 "BoltTailors$Game" "first" "I" ∈ qzWs)⟩
theorem qzf_0_45 : qzPf ((0, 45), (0, 8)) := ⟨by decide, by decide, (qzWs_in 152 (by decide +kernel) rfl : Cond.fieldLink RX0 45 "BoltTailors$Game" "end" "I" ∈ qzWs)⟩
theorem qzf_0_48 : qzPf ((0, 48), (0, 9)) := ⟨by decide, by decide, (qzWs_in 154 (by decide +kernel) rfl : Cond.fieldLink RX0 48 "BoltTailors$Game" "cuts" "I" ∈ qzWs)⟩
theorem qzf_1_9 : qzPf ((1, 9), (1, 0)) := ⟨by decide, by decide, (qzWs_in 186 (by decide +kernel) rfl : Cond.fieldLink RX1 9 "BoltTailors$Leads" "colours" "[I" ∈ qzWs)⟩
theorem qzf_1_15 : qzPf ((1, 15), (1, 1)) := ⟨by decide, by decide, (qzWs_in 188 (by decide +kernel) rfl : Cond.fieldLink RX1 15 "BoltTailors$Leads" "settings" "[I" ∈ qzWs)⟩
theorem qzf_1_18 : qzPf ((1, 18), (1, 2)) := ⟨by decide, by decide, (qzWs_in 190 (by decide +kernel) rfl : Cond.fieldLink RX1 18 "BoltTailors$Leads" "kept" "[I" ∈ qzWs)⟩
theorem qzf_1_25 : qzPf ((1, 25), (0, 0)) := ⟨by decide, by decide, (qzWs_in 134 (by decide +kernel) rfl : Cond.fieldLink RX1 25 "BoltTailors$Game" "colours" "[I" ∈ qzWs)⟩
theorem qzf_1_34 : qzPf ((1, 34), (0, 1)) := ⟨by decide, by decide, (qzWs_in 137 (by decide +kernel) rfl : Cond.fieldLink RX1 34 "BoltTailors$Game" "settings" "[I" ∈ qzWs)⟩
theorem qzf_1_35 : qzPf ((1, 35), (0, 6)) := ⟨by decide, by decide, (qzWs_in 148 (by decide +kernel) rfl : Cond.fieldLink RX1 35 "BoltTailors$Game" "stripes" "I" ∈ qzWs)⟩
theorem qzf_1_39 : qzPf ((1, 39), (1, 3)) := ⟨by decide, by decide, (qzWs_in 191 (by decide +kernel) rfl : Cond.fieldLink RX1 39 "BoltTailors$Leads" "stripes" "I" ∈ qzWs)⟩
theorem qzf_2_10 : qzPf ((2, 10), (2, 0)) := ⟨by decide, by decide, (qzWs_in 202 (by decide +kernel) rfl : Cond.fieldLink RX2 10 "BoltTailors" "now" "LBoltTailors$Game;" ∈ qzWs)⟩
theorem qzf_2_16 : qzPf ((2, 16), (2, 1)) := ⟨by decide, by decide, (qzWs_in 203 (by decide +kernel) rfl : Cond.fieldLink RX2 16 "BoltTailors" "trial" "LBoltTailors$Game;" ∈ qzWs)⟩
theorem qzf_2_19 : qzPf ((2, 19), (2, 2)) := ⟨by decide, by decide, (qzWs_in 204 (by decide +kernel) rfl : Cond.fieldLink RX2 19 "BoltTailors" "snapshot" "LBoltTailors$Game;" ∈ qzWs)⟩
theorem qzf_2_22 : qzPf ((2, 22), (2, 4)) := ⟨by decide, by decide, (qzWs_in 206 (by decide +kernel) rfl : Cond.fieldLink RX2 22 "BoltTailors" "past" "[LBoltTailors$Game;" ∈ qzWs)⟩
theorem qzf_2_26 : qzPf ((2, 26), (2, 6)) := ⟨by decide, by decide, (qzWs_in 208 (by decide +kernel) rfl : Cond.fieldLink RX2 26 "BoltTailors" "pad" "[C" ∈ qzWs)⟩
theorem qzf_2_33 : qzPf ((2, 33), (2, 8)) := ⟨by decide, by decide, (qzWs_in 210 (by decide +kernel) rfl : Cond.fieldLink RX2 33 "BoltTailors" "leadsByRows" "LBoltTailors$Leads;" ∈ qzWs)⟩
theorem qzf_2_37 : qzPf ((2, 37), (2, 9)) := ⟨by decide, by decide, (qzWs_in 211 (by decide +kernel) rfl : Cond.fieldLink RX2 37 "BoltTailors" "leadsByCuts" "LBoltTailors$Leads;" ∈ qzWs)⟩
theorem qzf_2_60 : qzPf ((2, 60), (0, 6)) := ⟨by decide, by decide, (qzWs_in 149 (by decide +kernel) rfl : Cond.fieldLink RX2 60 "BoltTailors$Game" "stripes" "I" ∈ qzWs)⟩
theorem qzf_2_79 : qzPf ((2, 79), (0, 1)) := ⟨by decide, by decide, (qzWs_in 138 (by decide +kernel) rfl : Cond.fieldLink RX2 79 "BoltTailors$Game" "settings" "[I" ∈ qzWs)⟩
theorem qzf_2_86 : qzPf ((2, 86), (2, 7)) := ⟨by decide, by decide, (qzWs_in 209 (by decide +kernel) rfl : Cond.fieldLink RX2 86 "BoltTailors" "signs" "I" ∈ qzWs)⟩
theorem qzf_2_117 : qzPf ((2, 117), (0, 0)) := ⟨by decide, by decide, (qzWs_in 135 (by decide +kernel) rfl : Cond.fieldLink RX2 117 "BoltTailors$Game" "colours" "[I" ∈ qzWs)⟩
theorem qzf_2_124 : qzPf ((2, 124), (0, 4)) := ⟨by decide, by decide, (qzWs_in 144 (by decide +kernel) rfl : Cond.fieldLink RX2 124 "BoltTailors$Game" "pieceWorth" "[I" ∈ qzWs)⟩
theorem qzf_2_133 : qzPf ((2, 133), (0, 3)) := ⟨by decide, by decide, (qzWs_in 142 (by decide +kernel) rfl : Cond.fieldLink RX2 133 "BoltTailors$Game" "pieceSize" "[I" ∈ qzWs)⟩
theorem qzf_2_143 : qzPf ((2, 143), (0, 2)) := ⟨by decide, by decide, (qzWs_in 140 (by decide +kernel) rfl : Cond.fieldLink RX2 143 "BoltTailors$Game" "pieceFirst" "[I" ∈ qzWs)⟩
theorem qzf_2_146 : qzPf ((2, 146), (0, 5)) := ⟨by decide, by decide, (qzWs_in 146 (by decide +kernel) rfl : Cond.fieldLink RX2 146 "BoltTailors$Game" "pieceTraits" "[I" ∈ qzWs)⟩
theorem qzf_2_156 : qzPf ((2, 156), (0, 7)) := ⟨by decide, by decide, (qzWs_in 151 (by decide +kernel) rfl : Cond.fieldLink RX2 156 "BoltTailors$Game" "first" "I" ∈ qzWs)⟩
theorem qzf_2_159 : qzPf ((2, 159), (0, 8)) := ⟨by decide, by decide, (qzWs_in 153 (by decide +kernel) rfl : Cond.fieldLink RX2 159 "BoltTailors$Game" "end" "I" ∈ qzWs)⟩
theorem qzf_2_165 : qzPf ((2, 165), (0, 9)) := ⟨by decide, by decide, (qzWs_in 155 (by decide +kernel) rfl : Cond.fieldLink RX2 165 "BoltTailors$Game" "cuts" "I" ∈ qzWs)⟩
theorem qzf_2_177 : qzPf ((2, 177), (2, 5)) := ⟨by decide, by decide, (qzWs_in 207 (by decide +kernel) rfl : Cond.fieldLink RX2 177 "BoltTailors" "states" "I" ∈ qzWs)⟩
theorem qzf_2_208 : qzPf ((2, 208), (2, 3)) := ⟨by decide, by decide, (qzWs_in 205 (by decide +kernel) rfl : Cond.fieldLink RX2 208 "BoltTailors" "hasSnapshot" "Z" ∈ qzWs)⟩
theorem qzf_2_240 : qzPf ((2, 240), (1, 1)) := ⟨by decide, by decide, (qzWs_in 189 (by decide +kernel) rfl : Cond.fieldLink RX2 240 "BoltTailors$Leads" "settings" "[I" ∈ qzWs)⟩
theorem qzf_2_249 : qzPf ((2, 249), (1, 0)) := ⟨by decide, by decide, (qzWs_in 187 (by decide +kernel) rfl : Cond.fieldLink RX2 249 "BoltTailors$Leads" "colours" "[I" ∈ qzWs)⟩
theorem qzf_3_7 : qzPf ((3, 7), (3, 0)) := ⟨by decide, by decide, (qzWs_in 588 (by decide +kernel) rfl : Cond.fieldLink RX3 7 "BoltTailorsModel" "s" "[I" ∈ qzWs)⟩
theorem qzf_3_13 : qzPf ((3, 13), (3, 1)) := ⟨by decide, by decide, (qzWs_in 589 (by decide +kernel) rfl : Cond.fieldLink RX3 13 "BoltTailorsModel" "aside" "[I" ∈ qzWs)⟩
theorem qzf_3_16 : qzPf ((3, 16), (3, 2)) := ⟨by decide, by decide, (qzWs_in 590 (by decide +kernel) rfl : Cond.fieldLink RX3 16 "BoltTailorsModel" "past" "[I" ∈ qzWs)⟩
theorem qzf_3_19 : qzPf ((3, 19), (3, 4)) := ⟨by decide, by decide, (qzWs_in 592 (by decide +kernel) rfl : Cond.fieldLink RX3 19 "BoltTailorsModel" "kept" "[I" ∈ qzWs)⟩
theorem qzf_3_22 : qzPf ((3, 22), (3, 6)) := ⟨by decide, by decide, (qzWs_in 594 (by decide +kernel) rfl : Cond.fieldLink RX3 22 "BoltTailorsModel" "pad" "[I" ∈ qzWs)⟩
theorem qzf_3_25 : qzPf ((3, 25), (3, 8)) := ⟨by decide, by decide, (qzWs_in 596 (by decide +kernel) rfl : Cond.fieldLink RX3 25 "BoltTailorsModel" "leads" "[I" ∈ qzWs)⟩
theorem qzf_3_31 : qzPf ((3, 31), (3, 3)) := ⟨by decide, by decide, (qzWs_in 591 (by decide +kernel) rfl : Cond.fieldLink RX3 31 "BoltTailorsModel" "known" "I" ∈ qzWs)⟩
theorem qzf_3_116 : qzPf ((3, 116), (3, 7)) := ⟨by decide, by decide, (qzWs_in 595 (by decide +kernel) rfl : Cond.fieldLink RX3 116 "BoltTailorsModel" "length" "I" ∈ qzWs)⟩
theorem qzf_3_119 : qzPf ((3, 119), (3, 9)) := ⟨by decide, by decide, (qzWs_in 597 (by decide +kernel) rfl : Cond.fieldLink RX3 119 "BoltTailorsModel" "spot" "I" ∈ qzWs)⟩
theorem qzf_3_122 : qzPf ((3, 122), (3, 10)) := ⟨by decide, by decide, (qzWs_in 598 (by decide +kernel) rfl : Cond.fieldLink RX3 122 "BoltTailorsModel" "isForm" "Z" ∈ qzWs)⟩
theorem qzf_3_136 : qzPf ((3, 136), (3, 12)) := ⟨by decide, by decide, (qzWs_in 600 (by decide +kernel) rfl : Cond.fieldLink RX3 136 "BoltTailorsModel" "toldMany" "I" ∈ qzWs)⟩
theorem qzf_3_139 : qzPf ((3, 139), (3, 11)) := ⟨by decide, by decide, (qzWs_in 599 (by decide +kernel) rfl : Cond.fieldLink RX3 139 "BoltTailorsModel" "letters" "I" ∈ qzWs)⟩
theorem qzf_3_142 : qzPf ((3, 142), (3, 13)) := ⟨by decide, by decide, (qzWs_in 601 (by decide +kernel) rfl : Cond.fieldLink RX3 142 "BoltTailorsModel" "toldPhase" "I" ∈ qzWs)⟩
theorem qzf_3_176 : qzPf ((3, 176), (3, 5)) := ⟨by decide, by decide, (qzWs_in 593 (by decide +kernel) rfl : Cond.fieldLink RX3 176 "BoltTailorsModel" "isKept" "Z" ∈ qzWs)⟩
theorem qzFs_0 : ∀ e ∈ qzFl_0, qzPf e := List.forall_mem_cons.mpr ⟨qzf_0_9, List.forall_mem_cons.mpr ⟨qzf_0_15, List.forall_mem_cons.mpr ⟨qzf_0_18, List.forall_mem_cons.mpr ⟨qzf_0_21, List.forall_mem_cons.mpr ⟨qzf_0_24, List.forall_mem_cons.mpr ⟨qzf_0_27, List.forall_mem_cons.mpr ⟨qzf_0_38, List.forall_mem_cons.mpr ⟨qzf_0_42, List.forall_mem_cons.mpr ⟨qzf_0_45, List.forall_mem_cons.mpr ⟨qzf_0_48, List.forall_mem_cons.mpr ⟨qzf_1_9, List.forall_mem_cons.mpr ⟨qzf_1_15, List.forall_mem_cons.mpr ⟨qzf_1_18, List.forall_mem_cons.mpr ⟨qzf_1_25, List.forall_mem_cons.mpr ⟨qzf_1_34, List.forall_mem_cons.mpr ⟨qzf_1_35, List.forall_mem_cons.mpr ⟨qzf_1_39, List.forall_mem_cons.mpr ⟨qzf_2_10, List.forall_mem_cons.mpr ⟨qzf_2_16, List.forall_mem_cons.mpr ⟨qzf_2_19, List.forall_mem_cons.mpr ⟨qzf_2_22, List.forall_mem_cons.mpr ⟨qzf_2_26, List.forall_mem_cons.mpr ⟨qzf_2_33, List.forall_mem_cons.mpr ⟨qzf_2_37, List.forall_mem_cons.mpr ⟨qzf_2_60, List.forall_mem_cons.mpr ⟨qzf_2_79, List.forall_mem_cons.mpr ⟨qzf_2_86, List.forall_mem_cons.mpr ⟨qzf_2_117, List.forall_mem_cons.mpr ⟨qzf_2_124, List.forall_mem_cons.mpr ⟨qzf_2_133, List.forall_mem_cons.mpr ⟨qzf_2_143, List.forall_mem_cons.mpr ⟨qzf_2_146, List.forall_mem_cons.mpr ⟨qzf_2_156, List.forall_mem_cons.mpr ⟨qzf_2_159, List.forall_mem_cons.mpr ⟨qzf_2_165, List.forall_mem_cons.mpr ⟨qzf_2_177, List.forall_mem_cons.mpr ⟨qzf_2_208, List.forall_mem_cons.mpr ⟨qzf_2_240, List.forall_mem_cons.mpr ⟨qzf_2_249, List.forall_mem_cons.mpr ⟨qzf_3_7, (fun _ h => absurd h List.not_mem_nil)⟩⟩⟩⟩⟩⟩⟩⟩⟩⟩⟩⟩⟩⟩⟩⟩⟩⟩⟩⟩⟩⟩⟩⟩⟩⟩⟩⟩⟩⟩⟩⟩⟩⟩⟩⟩⟩⟩⟩⟩
theorem qzFs_1 : ∀ e ∈ qzFl_1, qzPf e := List.forall_mem_cons.mpr ⟨qzf_3_13, List.forall_mem_cons.mpr ⟨qzf_3_16, List.forall_mem_cons.mpr ⟨qzf_3_19, List.forall_mem_cons.mpr ⟨qzf_3_22, List.forall_mem_cons.mpr ⟨qzf_3_25, List.forall_mem_cons.mpr ⟨qzf_3_31, List.forall_mem_cons.mpr ⟨qzf_3_116, List.forall_mem_cons.mpr ⟨qzf_3_119, List.forall_mem_cons.mpr ⟨qzf_3_122, List.forall_mem_cons.mpr ⟨qzf_3_136, List.forall_mem_cons.mpr ⟨qzf_3_139, List.forall_mem_cons.mpr ⟨qzf_3_142, List.forall_mem_cons.mpr ⟨qzf_3_176, (fun _ h => absurd h List.not_mem_nil)⟩⟩⟩⟩⟩⟩⟩⟩⟩⟩⟩⟩⟩
theorem qzFs_ok : ∀ e ∈ qzFl, qzPf e := List.forall_mem_append.mpr ⟨qzFs_0, qzFs_1⟩
theorem qzFind_in {α : Type} : ∀ {l : List ((Nat × Nat) × α)} {a b : Nat} {x : α}, qzFind l a b = some x → ((a, b), x) ∈ l
  | [], _, _, _, h => by cases h
  | e :: l, a, b, x, h => by
    unfold qzFind at h
    split at h
    · rename_i hc
      cases h
      obtain ⟨⟨e1, e2⟩, e3⟩ := e
      obtain ⟨h1, h2⟩ := hc
      cases h1; cases h2
      exact List.mem_cons_self
    · exact List.mem_cons_of_mem _ (qzFind_in h)
theorem qzu_0_0 : u_lay RX0 TX0 0 ∈ qzWs := qzWs_in 156 (by decide +kernel) rfl
theorem qzu_0_1 : u_lay RX0 TX0 1 ∈ qzWs := qzWs_in 158 (by decide +kernel) rfl
theorem qzu_0_2 : u_lay RX0 TX0 2 ∈ qzWs := qzWs_in 160 (by decide +kernel) rfl
theorem qzu_0_3 : u_lay RX0 TX0 3 ∈ qzWs := qzWs_in 162 (by decide +kernel) rfl
theorem qzu_0_4 : u_lay RX0 TX0 4 ∈ qzWs := qzWs_in 164 (by decide +kernel) rfl
theorem qzu_0_5 : u_lay RX0 TX0 5 ∈ qzWs := qzWs_in 166 (by decide +kernel) rfl
theorem qzu_0_6 : u_lay RX0 TX0 6 ∈ qzWs := qzWs_in 168 (by decide +kernel) rfl
theorem qzu_0_7 : u_lay RX0 TX0 7 ∈ qzWs := qzWs_in 170 (by decide +kernel) rfl
theorem qzu_0_8 : u_lay RX0 TX0 8 ∈ qzWs := qzWs_in 172 (by decide +kernel) rfl
theorem qzu_0_9 : u_lay RX0 TX0 9 ∈ qzWs := qzWs_in 174 (by decide +kernel) rfl
theorem qzU_0 : ∀ w ∈ u_ws RX0 TX0 10, w ∈ qzWs := List.forall_mem_cons.mpr ⟨qzu_0_0, List.forall_mem_cons.mpr ⟨qzu_0_1, List.forall_mem_cons.mpr ⟨qzu_0_2, List.forall_mem_cons.mpr ⟨qzu_0_3, List.forall_mem_cons.mpr ⟨qzu_0_4, List.forall_mem_cons.mpr ⟨qzu_0_5, List.forall_mem_cons.mpr ⟨qzu_0_6, List.forall_mem_cons.mpr ⟨qzu_0_7, List.forall_mem_cons.mpr ⟨qzu_0_8, List.forall_mem_cons.mpr ⟨qzu_0_9, (fun _ h => absurd h List.not_mem_nil)⟩⟩⟩⟩⟩⟩⟩⟩⟩⟩
theorem qzu_1_0 : u_lay RX1 TX1 0 ∈ qzWs := qzWs_in 192 (by decide +kernel) rfl
theorem qzu_1_1 : u_lay RX1 TX1 1 ∈ qzWs := qzWs_in 194 (by decide +kernel) rfl
theorem qzu_1_2 : u_lay RX1 TX1 2 ∈ qzWs := qzWs_in 196 (by decide +kernel) rfl
theorem qzu_1_3 : u_lay RX1 TX1 3 ∈ qzWs := qzWs_in 198 (by decide +kernel) rfl
theorem qzU_1 : ∀ w ∈ u_ws RX1 TX1 4, w ∈ qzWs := List.forall_mem_cons.mpr ⟨qzu_1_0, List.forall_mem_cons.mpr ⟨qzu_1_1, List.forall_mem_cons.mpr ⟨qzu_1_2, List.forall_mem_cons.mpr ⟨qzu_1_3, (fun _ h => absurd h List.not_mem_nil)⟩⟩⟩⟩
theorem qzu_2_0 : u_lay RX2 TX2 0 ∈ qzWs := qzWs_in 212 (by decide +kernel) rfl
theorem qzu_2_1 : u_lay RX2 TX2 1 ∈ qzWs := qzWs_in 214 (by decide +kernel) rfl
theorem qzu_2_2 : u_lay RX2 TX2 2 ∈ qzWs := qzWs_in 216 (by decide +kernel) rfl
theorem qzu_2_3 : u_lay RX2 TX2 3 ∈ qzWs := qzWs_in 218 (by decide +kernel) rfl
theorem qzu_2_4 : u_lay RX2 TX2 4 ∈ qzWs := qzWs_in 220 (by decide +kernel) rfl
theorem qzu_2_5 : u_lay RX2 TX2 5 ∈ qzWs := qzWs_in 222 (by decide +kernel) rfl
theorem qzu_2_6 : u_lay RX2 TX2 6 ∈ qzWs := qzWs_in 224 (by decide +kernel) rfl
theorem qzu_2_7 : u_lay RX2 TX2 7 ∈ qzWs := qzWs_in 226 (by decide +kernel) rfl
theorem qzu_2_8 : u_lay RX2 TX2 8 ∈ qzWs := qzWs_in 228 (by decide +kernel) rfl
theorem qzu_2_9 : u_lay RX2 TX2 9 ∈ qzWs := qzWs_in 230 (by decide +kernel) rfl
theorem qzU_2 : ∀ w ∈ u_ws RX2 TX2 10, w ∈ qzWs := List.forall_mem_cons.mpr ⟨qzu_2_0, List.forall_mem_cons.mpr ⟨qzu_2_1, List.forall_mem_cons.mpr ⟨qzu_2_2, List.forall_mem_cons.mpr ⟨qzu_2_3, List.forall_mem_cons.mpr ⟨qzu_2_4, List.forall_mem_cons.mpr ⟨qzu_2_5, List.forall_mem_cons.mpr ⟨qzu_2_6, List.forall_mem_cons.mpr ⟨qzu_2_7, List.forall_mem_cons.mpr ⟨qzu_2_8, List.forall_mem_cons.mpr ⟨qzu_2_9, (fun _ h => absurd h List.not_mem_nil)⟩⟩⟩⟩⟩⟩⟩⟩⟩⟩
theorem qzu_3_0 : u_lay RX3 TX3 0 ∈ qzWs := qzWs_in 602 (by decide +kernel) rfl
theorem qzu_3_1 : u_lay RX3 TX3 1 ∈ qzWs := qzWs_in 604 (by decide +kernel) rfl
theorem qzu_3_2 : u_lay RX3 TX3 2 ∈ qzWs := qzWs_in 606 (by decide +kernel) rfl
theorem qzu_3_3 : u_lay RX3 TX3 3 ∈ qzWs := qzWs_in 608 (by decide +kernel) rfl
theorem qzu_3_4 : u_lay RX3 TX3 4 ∈ qzWs := qzWs_in 610 (by decide +kernel) rfl
theorem qzu_3_5 : u_lay RX3 TX3 5 ∈ qzWs := qzWs_in 612 (by decide +kernel) rfl
theorem qzu_3_6 : u_lay RX3 TX3 6 ∈ qzWs := qzWs_in 614 (by decide +kernel) rfl
theorem qzu_3_7 : u_lay RX3 TX3 7 ∈ qzWs := qzWs_in 616 (by decide +kernel) rfl
theorem qzu_3_8 : u_lay RX3 TX3 8 ∈ qzWs := qzWs_in 618 (by decide +kernel) rfl
theorem qzu_3_9 : u_lay RX3 TX3 9 ∈ qzWs := qzWs_in 620 (by decide +kernel) rfl
theorem qzu_3_10 : u_lay RX3 TX3 10 ∈ qzWs := qzWs_in 622 (by decide +kernel) rfl
theorem qzu_3_11 : u_lay RX3 TX3 11 ∈ qzWs := qzWs_in 624 (by decide +kernel) rfl
theorem qzu_3_12 : u_lay RX3 TX3 12 ∈ qzWs := qzWs_in 626 (by decide +kernel) rfl
theorem qzu_3_13 : u_lay RX3 TX3 13 ∈ qzWs := qzWs_in 628 (by decide +kernel) rfl
theorem qzU_3 : ∀ w ∈ u_ws RX3 TX3 14, w ∈ qzWs := List.forall_mem_cons.mpr ⟨qzu_3_0, List.forall_mem_cons.mpr ⟨qzu_3_1, List.forall_mem_cons.mpr ⟨qzu_3_2, List.forall_mem_cons.mpr ⟨qzu_3_3, List.forall_mem_cons.mpr ⟨qzu_3_4, List.forall_mem_cons.mpr ⟨qzu_3_5, List.forall_mem_cons.mpr ⟨qzu_3_6, List.forall_mem_cons.mpr ⟨qzu_3_7, List.forall_mem_cons.mpr ⟨qzu_3_8, List.forall_mem_cons.mpr ⟨qzu_3_9, List.forall_mem_cons.mpr ⟨qzu_3_10, List.forall_mem_cons.mpr ⟨qzu_3_11, List.forall_mem_cons.mpr ⟨qzu_3_12, List.forall_mem_cons.mpr ⟨qzu_3_13, (fun _ h => absurd h List.not_mem_nil)⟩⟩⟩⟩⟩⟩⟩⟩⟩⟩⟩⟩⟩⟩
theorem qzU {ci : Nat} (h : ci < 4) : ∀ w ∈ u_ws (qzRs ci) (qzTs ci) (qzNf ci), w ∈ qzWs := by
  match ci, h with
  | 0, _ => exact qzU_0
  | 1, _ => exact qzU_1
  | 2, _ => exact qzU_2
  | 3, _ => exact qzU_3
theorem qzTy_ok {ci : Nat} (h : ci < 4) : ∀ k, k < qzNf ci → parseFieldDescriptor (qzTs ci k).2.2.1 = some (qzTy ci k) := by
  match ci, h with
  | 0, _ => exact tyX0_ok
  | 1, _ => exact tyX1_ok
  | 2, _ => exact tyX2_ok
  | 3, _ => exact tyX3_ok
theorem qzNm_ok {ci : Nat} (h : ci < 4) : ∀ a, a < qzNf ci → ∀ b, b < qzNf ci → a ≠ b → (qzTs ci a).2.1 ≠ (qzTs ci b).2.1 := by
  match ci, h with
  | 0, _ => exact nmX0
  | 1, _ => exact nmX1
  | 2, _ => exact nmX2
  | 3, _ => exact nmX3
theorem qzCl_at {ci : Nat} (h : ci < 4) : vwCl[ci]? = some (qzRs ci, qzTs ci, qzNf ci) := by
  match ci, h with
  | 0, _ => rfl
  | 1, _ => rfl
  | 2, _ => rfl
  | 3, _ => rfl
theorem qzs_oi0 : Cond.methodLink RX0 3 objectInit ∈ qzWs := qzWs_in 75 (by decide +kernel) rfl
theorem qzs_oi1 : Cond.methodLink RX1 3 objectInit ∈ qzWs := qzWs_in 185 (by decide +kernel) rfl
theorem qzs_oi2 : Cond.methodLink RX2 1 objectInit ∈ qzWs := qzWs_in 67 (by decide +kernel) rfl
theorem qzs_oi3 : Cond.methodLink RX3 1 objectInit ∈ qzWs := qzWs_in 583 (by decide +kernel) rfl
theorem qzs_oii : Cond.instanceMethod objectInit ∈ qzWs := qzWs_in 68 (by decide +kernel) rfl
theorem qzs_oic : Cond.code objectInit ⟨#[0xb1]⟩ 1 none ∈ qzWs := qzWs_in 69 (by decide +kernel) rfl
theorem qzs_ac0 : Cond.methodLink RX0 66 arraycopyName ∈ qzWs := qzWs_in 268 (by decide +kernel) rfl
theorem qzs_ac1 : Cond.methodLink RX1 28 arraycopyName ∈ qzWs := qzWs_in 338 (by decide +kernel) rfl
theorem qzs_acn : Cond.native arraycopyName ∈ qzWs := qzWs_in 270 (by decide +kernel) rfl
theorem qzs_acs : Cond.static arraycopyName ∈ qzWs := qzWs_in 269 (by decide +kernel) rfl
theorem qzs_aci : Cond.initialized "java/lang/System" ∈ qzWs := qzWs_in 60 (by decide +kernel) rfl
theorem qzs_mi0 : Cond.methodLink RX0 75 Lib.Math.min.name ∈ qzWs := qzWs_in 249 (by decide +kernel) rfl
theorem qzs_mi2 : Cond.methodLink RX2 272 Lib.Math.min.name ∈ qzWs := qzWs_in 368 (by decide +kernel) rfl
theorem qzs_ma2 : Cond.methodLink RX2 277 Lib.Math.max.name ∈ qzWs := qzWs_in 369 (by decide +kernel) rfl
theorem qzs_min_s : Cond.static Lib.Math.min.name ∈ qzWs := qzWs_in 250 (by decide +kernel) rfl
theorem qzs_min_c : Cond.code Lib.Math.min.name Lib.Math.min.code 2 (some .int) ∈ qzWs := qzWs_in 251 (by decide +kernel) rfl
theorem qzs_max_s : Cond.static Lib.Math.max.name ∈ qzWs := qzWs_in 370 (by decide +kernel) rfl
theorem qzs_max_c : Cond.code Lib.Math.max.name Lib.Math.max.code 2 (some .int) ∈ qzWs := qzWs_in 371 (by decide +kernel) rfl
theorem qzs_mth : Cond.initialized "java/lang/Math" ∈ qzWs := qzWs_in 59 (by decide +kernel) rfl
theorem qzs_low : Cond.fieldLink RX2 68 "BoltTailors" "LOWEST_VALUES" "[I" ∈ qzWs := qzWs_in 401 (by decide +kernel) rfl
theorem qzs_high : Cond.fieldLink RX2 76 "BoltTailors" "HIGHEST_VALUES" "[I" ∈ qzWs := qzWs_in 403 (by decide +kernel) rfl
theorem qzs_c1 : Cond.constant RX1 40 (-1000000) ∈ qzWs := qzWs_in 339 (by decide +kernel) rfl
theorem qzs_c2 : Cond.constant RX2 227 (-1000000) ∈ qzWs := qzWs_in 345 (by decide +kernel) rfl
theorem qzs_n0 : Cond.classLink RX2 7 RX0 ∈ qzWs := qzWs_in 70 (by decide +kernel) rfl
theorem qzs_n1 : Cond.classLink RX2 30 RX1 ∈ qzWs := qzWs_in 180 (by decide +kernel) rfl
theorem qzs_i0 : Cond.instantiable RX0 10 ∈ qzWs := qzWs_in 71 (by decide +kernel) rfl
theorem qzs_i1 : Cond.instantiable RX1 4 ∈ qzWs := qzWs_in 181 (by decide +kernel) rfl
theorem qzs_aI : Cond.arrayClass .int ∈ qzWs := qzWs_in 177 (by decide +kernel) rfl
theorem qzs_aC : Cond.arrayClass .char ∈ qzWs := qzWs_in 201 (by decide +kernel) rfl
theorem qzs_sl : Cond.methodLink RX0 32 yJ0_length_8abf5 ∈ qzWs := qzWs_in 77 (by decide +kernel) rfl
theorem qzs_sc : Cond.methodLink RX0 62 yJ0_charAt_5068e ∈ qzWs := qzWs_in 95 (by decide +kernel) rfl
theorem qzs_slc : Cond.code yJ0_length_8abf5 cJ0_length_8abf5 1 (some .int) ∈ qzWs := qzWs_in 80 (by decide +kernel) rfl
theorem qzs_sli : Cond.instanceMethod yJ0_length_8abf5 ∈ qzWs := qzWs_in 78 (by decide +kernel) rfl
theorem qzs_sls : Cond.selects RJ0 yJ0_length_8abf5 yJ0_length_8abf5 ∈ qzWs := qzWs_in 79 (by decide +kernel) rfl
theorem qzs_scc : Cond.code yJ0_charAt_5068e cJ0_charAt_5068e 2 (some .char) ∈ qzWs := qzWs_in 98 (by decide +kernel) rfl
theorem qzs_sci : Cond.instanceMethod yJ0_charAt_5068e ∈ qzWs := qzWs_in 96 (by decide +kernel) rfl
theorem qzs_scs : Cond.selects RJ0 yJ0_charAt_5068e yJ0_charAt_5068e ∈ qzWs := qzWs_in 97 (by decide +kernel) rfl
theorem qzs_str : Cond.initialized RJ0 ∈ qzWs := qzWs_in 53 (by decide +kernel) rfl
theorem qzGood {w : Cond} (h : w ∈ qzWs) : GoodIn qzWs (w :: qzWs) := fun x hx => (List.mem_cons.mp hx).elim (fun e => e ▸ qzWs_good _ h) (fun hx => qzWs_good _ hx)
