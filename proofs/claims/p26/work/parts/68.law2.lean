/-! the law: rate, the loop -/
theorem lw_and31 (x : Int32) : ∃ k : Nat, k < 32 ∧ x &&& 31 = nI k := by
  refine ⟨(x.toBitVec &&& 31#32).toNat, ?_, ?_⟩
  · rw [BitVec.toNat_and]
    exact Nat.lt_of_le_of_lt Nat.and_le_right (by decide)
  · apply Int32.toBitVec_inj.mp
    show x.toBitVec &&& 31#32 = BitVec.ofNat 32 (x.toBitVec &&& 31#32).toNat
    rw [BitVec.ofNat_toNat, BitVec.setWidth_eq]
theorem lw_le {L i : Nat} (hL : L < 1000000) (hi : i < 1000000) (h : ¬ Int32.ofNat L - Int32.ofInt 4 < nI i) : i + 4 ≤ L := by
  have h0 : nI 0 ≤ nI i := by
    have := nI_lt0 (n := i) (by omega)
    exact Int32.not_lt.mp (by rw [this]; exact fun z => z)
  by_cases h4 : 4 ≤ L
  · have e : Int32.ofNat L - Int32.ofInt 4 = nI (L - 4) := nI_sub (a := L) (b := 4) h4
    rw [e, nI_lt' (by omega) (by omega)] at h
    omega
  · exfalso
    apply h
    refine Int32.lt_of_lt_of_le ?_ h0
    rcases (by omega : L = 0 ∨ L = 1 ∨ L = 2 ∨ L = 3) with q | q | q | q <;> subst q <;> decide
theorem lw_in {L i : Nat} (hL : L < 1000000) {k : Nat} {z : Int} (hk : Int32.ofInt z = nI k) (h : i + k < L) : vp_in (nI i + Int32.ofInt z) L := by
  rw [hk, nI_add]
  intro q
  rcases q with q | q
  · rw [show (0 : Int32) = nI 0 from rfl, nI_lt0 (by omega)] at q
    exact q
  · rw [nI_cl (by omega)] at q
    omega
theorem lw_in0 {L i : Nat} (hL : L < 1000000) (h : i < L) : vp_in (nI i) L := by
  intro q
  rcases q with q | q
  · rw [show (0 : Int32) = nI 0 from rfl, nI_lt0 (by omega)] at q
    exact q
  · rw [nI_cl (by omega)] at q
    omega
theorem lw_sub {ls : Array Slot} {n : Nat} {l1 l2 : List (Nat × Value)} (h : lv_has ls n (l1 ++ l2)) : lv_has ls n l2 := ⟨h.1, h.2.1, fun q hq => h.2.2 q (List.mem_append_right _ hq)⟩
section LG2
variable {p : Program} {l : Launch} {e : Env} {R : Room} {s : State} {m : MethodId} {args : Array Value} {below : List Frame} {meth : Method} {c : Code} {Q : State → Prop} {G : qzGT} {D : va_G} {z0 : Nat} {S : Nat → Nat} {b L : Nat} {xs : Nat → Int32} {ad : Nat → Nat} {lsS : Array Slot} {H : Heap} {locs : List Loc} {cells slots : Nat} {pa : Nat → Nat} {h : Nat → Nat → Int32} {ln : Nat} {i : Int32}
theorem lgF.dr {d : Drawn} (F : lgF p s m args c G D z0 S b L xs) : lgF p (s.setDrawn d) m args c G D z0 S b L xs := by
  obtain ⟨hx, hb, hml, hown, hts, hK, hNw, hSt, hz, hX, hbz, hA⟩ := F
  exact ⟨hx, hb, hml, hown, dr_words hts d, va_K.moved (u := s) (U := s.setDrawn d) (Vm.Alike.refl s.vm) hK, qzNw.same (s := s) (U := s.setDrawn d) rfl hNw, qzSt.same (s := s) (U := s.setDrawn d) rfl hSt, hz, va_X.moved (u := s) (U := s.setDrawn d) (Vm.Alike.refl s.vm) hX, hbz, hA⟩
set_option maxHeartbeats 4000000 in
set_option maxRecDepth 100000 in
theorem lo_689 (hTx : qzTx l) (F : lgF p s m args c G D z0 S b L xs) {d0 : Drawn} (hd0 : s.drawn.sameBut d0 lw_cs) (C : lgC G D z0 S (s.setDrawn d0) ad H locs (67, qzRr pa, h)) (hI : lwI pa h ln) (hl : lv_has lsS 8 [(3, .int i), (2, .ref (ad 60)), (1, .ref (ad 0)), (0, .ref b)]) (hR : 60 + 13 ≤ R.frames ∧ 500 + 100 * 60 ≤ R.locals ∧ cells ≤ R.cells ∧ slots ≤ R.slots)
    (kk : ∀ (d1 : Drawn) (lsS1 : Array Slot) (H1 : Heap) (locs1 : List Loc), s.drawn.sameBut d1 lw_cs → lv_has lsS1 8 [(3, .int i), (2, .ref (ad 60)), (1, .ref (ad 0)), (0, .ref b)] → lgC G D z0 S (s.setDrawn d1) ad H1 locs1 (67, qzRr pa, h) → W p l e R (s.setDrawn d1) m args below meth c H1 locs1 cells slots Q (F0 m 743 lsS1 [])) : W p l e R (s.setDrawn d0) m args below meth c H locs cells slots Q (F0 m 689 lsS []) := by
  obtain ⟨m0, T, P, TP, n, K, TK, ik, pd, hc, hz, h24, h28⟩ := hI
  obtain ⟨hR1, hR2, hR3, hR4⟩ := hR
  obtain ⟨hx, hb, -⟩ := id F
  have Fa := F.dr (d := d0)
  have cw := C.1
  have c4 := C.2.1
  refine lv_aload_n hx hb dL_law_689 rfl (lv_at hl 2 rfl) ?_
  have pp1 := qzPm_at (mi := 46) (by decide)
  obtain ⟨pm11, pm21, pm31, pm41, ⟨pm51, pm61, pm71⟩, pmS1, pmV1, pmI1⟩ := pp1
  obtain ⟨hx1, hb1, hml1, hown1, hts1, hK1, hNw1, hSt1, hzz1, -⟩ := id Fa
  obtain ⟨c31, c41, c51, hP1, hD1, hS1⟩ := id C
  obtain ⟨ha1, hc1⟩ := qzArr_ok (show qzArr 2 0 67 = true from rfl)
  refine va_calldD hd0 (va_runV_D (As := []) (rest := []) (⟨hx1, hb1, hml1, hown1, hts1⟩ : CallFix p m c code 8 (s.setDrawn d0) args qzWs R_law) (rt_X2 hTx hc cw c4) ⟨callB_of 0 hts1 (qzGood pm21) rfl rfl rfl (hts1 _ pm31) (hts1 _ lk_102) pm41 ⟨by show 6 + 12 + 1 ≤ _; omega, by show 8 + (3 + 11) + (400 + 100 * 6) ≤ _; omega⟩, hts1 _ (pmV1 rfl).1, hts1 _ (pmV1 rfl).2⟩ ⟨qzBlind, va_recv (tys := qzTys G) hK1 hP1 (qzCl_at (ci := 2) (by decide)) ((qzW_get (hp := (67, qzRr pa, h)) (i := 0) (by show 0 < 67; omega)).trans (by rw [qzEo hc1 (by decide)])), fun U hU hW => ⟨rfl, lgPre Fa C hU hW⟩⟩ rfl rfl hl.1 rfl (Nat.le_of_ble_eq_true rfl) dL_law_690 ⟨hR3, hR4⟩) hS1 (fun q _ h => h) (fun q h => h) (fun r1 u1 t1 H1 locs1 ht1 _ hal1 hPt1 hsz1 hkp1 hS11 d1 hd1 => ?_)
  have hQ1 : va_P D vwCl (qzW G ad (67, qzRr pa, h)) H1 := by rw [← ht1]; exact hPt1
  have C1 : lgC G D z0 S (s.setDrawn d1) ad H1 locs1 (67, qzRr pa, h) := ⟨c31, c41, c51, hQ1, hD1, hS11⟩
  refine lv_dstore (lv' := [(4, .double r1), (3, .int i), (2, .ref (ad 60)), (1, .ref (ad 0)), (0, .ref b)]) hx hb dL_law_693 hl (by decide) rfl (fun ls1 hl1 => ?_)
  have Fb := F.dr (d := d1)
  refine lv_aload_n hx hb dL_law_695 rfl (lv_at hl1 2 rfl) ?_
  have pp2 := qzPm_at (mi := 144) (by decide)
  obtain ⟨pm12, pm22, pm32, pm42, ⟨pm52, pm62, pm72⟩, pmS2, pmV2, pmI2⟩ := pp2
  obtain ⟨hx2, hb2, hml2, hown2, hts2, hK2, hNw2, hSt2, hzz2, -⟩ := id Fb
  obtain ⟨c32, c42, c52, hP2, hD2, hS2⟩ := id C1
  obtain ⟨ha2, hc2⟩ := qzArr_ok (show qzArr 3 60 67 = true from rfl)
  refine va_calldD hd1 (va_runV_D (As := []) (rest := []) (⟨hx2, hb2, hml2, hown2, hts2⟩ : CallFix p m c code 8 (s.setDrawn d1) args qzWs R_law) (rt_X3 hTx hz cw c4) ⟨callB_of 0 hts2 (qzGood pm22) rfl rfl rfl (hts2 _ pm32) (hts2 _ lk_106) pm42 ⟨by show 6 + 12 + 1 ≤ _; omega, by show 8 + (2 + 11) + (400 + 100 * 6) ≤ _; omega⟩, hts2 _ (pmV2 rfl).1, hts2 _ (pmV2 rfl).2⟩ ⟨qzBlind, va_recv (tys := qzTys G) hK2 hP2 (qzCl_at (ci := 3) (by decide)) ((qzW_get (hp := (67, qzRr pa, h)) (i := 60) (by show 60 < 67; omega)).trans (by rw [qzEo hc2 (by decide)])), fun U hU hW => ⟨rfl, lgPre Fb C1 hU hW⟩⟩ rfl rfl hl1.1 rfl (Nat.le_of_ble_eq_true rfl) dL_law_696 ⟨hR3, hR4⟩) hS2 (fun q _ h => h) (fun q h => h) (fun r2 u2 t2 H2 locs2 ht2 _ hal2 hPt2 hsz2 hkp2 hS12 d2 hd2 => ?_)
  have hQ2 : va_P D vwCl (qzW G ad (67, qzRr pa, h)) H2 := by rw [← ht2]; exact hPt2
  have C2 : lgC G D z0 S (s.setDrawn d2) ad H2 locs2 (67, qzRr pa, h) := ⟨c32, c42, c52, hQ2, hD2, hS12⟩
  refine lv_dstore (lv' := [(6, .double r2), (4, .double r1), (3, .int i), (2, .ref (ad 60)), (1, .ref (ad 0)), (0, .ref b)]) hx hb dL_law_699 hl1 (by decide) rfl (fun ls2 hl2 => ?_)
  have hl3 : lv_has ls2 8 [(3, .int i), (2, .ref (ad 60)), (1, .ref (ad 0)), (0, .ref b)] := lw_sub (l1 := [(6, .double r2), (4, .double r1)]) hl2
  exact lv_goto (tgt := 743) hx hb dL_law_701 (by decide) (kk d2 ls2 H2 locs2 hd2 hl3 C2)
set_option maxHeartbeats 4000000 in
set_option maxRecDepth 100000 in
/-- the law's loop -/
theorem lw_loop (hTx : qzTx l) (F : lgF p s m args c G D z0 S b L xs) (hL : L < 500000) (hR : 60 + 13 ≤ R.frames ∧ 500 + 100 * 60 ≤ R.locals ∧ cells ≤ R.cells ∧ slots ≤ R.slots)
    (hend : ∀ (d1 : Drawn) (lsS1 : Array Slot) (H1 : Heap) (locs1 : List Loc), s.drawn.sameBut d1 lw_cs → va_S (qzA0 z0) s.heap H1 locs1 → W p l e R (s.setDrawn d1) m args below meth c H1 locs1 cells slots Q (F0 m 749 lsS1 [])) :
    ∀ (f i : Nat) (d0 : Drawn) (lsS : Array Slot) (H : Heap) (locs : List Loc) (pa : Nat → Nat) (h : Nat → Nat → Int32) (ln : Nat), L < i + 4 * f + 4 → i < 500004 → s.drawn.sameBut d0 lw_cs → lv_has lsS 8 [(3, .int (nI i)), (2, .ref (ad 60)), (1, .ref (ad 0)), (0, .ref b)] → lgC G D z0 S (s.setDrawn d0) ad H locs (67, qzRr pa, h) → lwI pa h ln → W p l e R (s.setDrawn d0) m args below meth c H locs cells slots Q (F0 m 18 lsS []) := by
  intro f
  induction f with
  | zero =>
    intro i d0 lsS H locs pa h ln hf hi hd0 hl C hI
    obtain ⟨hx, hb, hml, hown, hts, hK, hNw, hSt, hz, hX, -⟩ := id (F.dr (d := d0))
    have hS := C.2.2.2.2.2
    refine lv_iload_n hx hb dL_law_18 rfl (lv_at hl 0 rfl) ?_
    refine lv_aload_n hx hb dL_law_19 rfl (lv_at hl 3 rfl) ?_
    refine va_slen hx hb hX F.bl F.bA hS dL_law_20 ?_
    refine lv_iconst hx hb dL_law_21 rfl ?_
    refine lv_isub hx hb dL_law_22 ?_
    exact lv_icmp_gt (tgt := 749) hx hb dL_law_23 (by decide) (fun _ => hend d0 lsS H locs hd0 hS) (fun hng => absurd (lw_le (by omega) (by omega) hng) (by omega))
  | succ f ih =>
    intro i d0 lsS H locs pa h ln hf hi hd0 hl C hI
    have Fd := F.dr (d := d0)
    obtain ⟨hx, hb, hml, hown, hts, hK, hNw, hSt, hz, hX, -⟩ := id Fd
    have hS := C.2.2.2.2.2
    refine lv_iload_n hx hb dL_law_18 rfl (lv_at hl 0 rfl) ?_
    refine lv_aload_n hx hb dL_law_19 rfl (lv_at hl 3 rfl) ?_
    refine va_slen hx hb hX F.bl F.bA hS dL_law_20 ?_
    refine lv_iconst hx hb dL_law_21 rfl ?_
    refine lv_isub hx hb dL_law_22 ?_
    refine lv_icmp_gt (tgt := 749) hx hb dL_law_23 (by decide) (fun _ => hend d0 lsS H locs hd0 hS) (fun hng => ?_)
    have hiL := lw_le (by omega) (by omega) hng
    have in0 : vp_in (nI i) L := lw_in0 (by omega) (by omega)
    have in1 : vp_in (nI i + Int32.ofInt 1) L := lw_in (k := 1) (by omega) rfl (by omega)
    have in2 : vp_in (nI i + Int32.ofInt 2) L := lw_in (k := 2) (by omega) rfl (by omega)
    have in3 : vp_in (nI i + Int32.ofInt 3) L := lw_in (k := 3) (by omega) rfl (by omega)
    have K : ∀ (d1 : Drawn) (lsS1 : Array Slot) (H1 : Heap) (locs1 : List Loc) (pa1 : Nat → Nat) (h1 : Nat → Nat → Int32) (ln1 : Nat), s.drawn.sameBut d1 lw_cs → lv_has lsS1 8 [(3, .int (nI i)), (2, .ref (ad 60)), (1, .ref (ad 0)), (0, .ref b)] → lgC G D z0 S (s.setDrawn d1) ad H1 locs1 (67, qzRr pa1, h1) → lwI pa1 h1 ln1 → W p l e R (s.setDrawn d1) m args below meth c H1 locs1 cells slots Q (F0 m 743 lsS1 []) := by
      intro d1 lsS1 H1 locs1 pa1 h1 ln1 hd1 hl1 C1 hI1
      refine lv_iinc (v := nI (i + 4)) (lv' := [(3, .int (nI (i + 4))), (2, .ref (ad 60)), (1, .ref (ad 0)), (0, .ref b)]) hx hb dL_law_743 hl1 (k := 0) rfl (nI_add i 4) (by decide) rfl (fun ls2 hl2 => ?_)
      refine lv_goto (tgt := 18) hx hb dL_law_746 (by decide) ?_
      exact ih (i + 4) d1 ls2 H1 locs1 pa1 h1 ln1 (by omega) (by omega) hd1 hl2 C1 hI1
    refine lv_aload_n hx hb dL_law_26 rfl (lv_at hl 3 rfl) ?_
    refine lv_iload_n hx hb dL_law_27 rfl (lv_at hl 0 rfl) ?_
    refine va_sld hx hb hX F.bl F.bA hS in0 dL_law_28 ?_
    refine lv_bipush (v := 31) hx hb dL_law_29 (by decide) ?_
    refine lv_iand hx hb dL_law_31 ?_
    obtain ⟨k, hk, ek⟩ := lw_and31 (xs (nI i).toNatClampNeg)
    rw [ek]
    rcases (by omega : k = 0 ∨ k = 1 ∨ k = 2 ∨ k = 3 ∨ k = 4 ∨ k = 5 ∨ k = 6 ∨ k = 7 ∨ k = 8 ∨ k = 9 ∨ k = 10 ∨ k = 11 ∨ k = 12 ∨ k = 13 ∨ k = 14 ∨ k = 15 ∨ k = 16 ∨ k = 17 ∨ k = 18 ∨ k = 19 ∨ k = 20 ∨ k = 21 ∨ k = 22 ∨ k = 23 ∨ k = 24 ∨ 25 ≤ k) with q | q | q | q | q | q | q | q | q | q | q | q | q | q | q | q | q | q | q | q | q | q | q | q | q | q
    · subst q
      exact lv_tableIn (off := 116) (tgt := 148) hx hb dL_law_32 (by decide) (by decide) rfl (by decide) (lo_148 hTx Fd C hI hl in1 in2 in3 hR (fun H1 locs1 pa1 h1 ln1 C1 hI1 => K d0 lsS H1 locs1 pa1 h1 ln1 hd0 hl C1 hI1))
    · subst q
      exact lv_tableIn (off := 165) (tgt := 197) hx hb dL_law_32 (by decide) (by decide) rfl (by decide) (lo_197 hTx Fd C hI hl in1 in2 in3 hR (fun H1 locs1 pa1 h1 ln1 C1 hI1 => K d0 lsS H1 locs1 pa1 h1 ln1 hd0 hl C1 hI1))
    · subst q
      exact lv_tableIn (off := 178) (tgt := 210) hx hb dL_law_32 (by decide) (by decide) rfl (by decide) (lo_210 hTx Fd C hI hl in1 in2 in3 hR (fun H1 locs1 pa1 h1 ln1 C1 hI1 => K d0 lsS H1 locs1 pa1 h1 ln1 hd0 hl C1 hI1))
    · subst q
      exact lv_tableIn (off := 191) (tgt := 223) hx hb dL_law_32 (by decide) (by decide) rfl (by decide) (lo_223 hTx Fd C hI hl in1 in2 in3 hR (fun H1 locs1 pa1 h1 ln1 C1 hI1 => K d0 lsS H1 locs1 pa1 h1 ln1 hd0 hl C1 hI1))
    · subst q
      exact lv_tableIn (off := 204) (tgt := 236) hx hb dL_law_32 (by decide) (by decide) rfl (by decide) (lo_236 hTx Fd C hI hl in1 in2 in3 hR (fun H1 locs1 pa1 h1 ln1 C1 hI1 => K d0 lsS H1 locs1 pa1 h1 ln1 hd0 hl C1 hI1))
    · subst q
      exact lv_tableIn (off := 217) (tgt := 249) hx hb dL_law_32 (by decide) (by decide) rfl (by decide) (lo_249 hTx Fd C hI hl in1 in2 in3 hR (fun H1 locs1 pa1 h1 ln1 C1 hI1 => K d0 lsS H1 locs1 pa1 h1 ln1 hd0 hl C1 hI1))
    · subst q
      exact lv_tableIn (off := 250) (tgt := 282) hx hb dL_law_32 (by decide) (by decide) rfl (by decide) (lo_282 hTx Fd C hI hl in1 in2 in3 hR (fun H1 locs1 pa1 h1 ln1 C1 hI1 => K d0 lsS H1 locs1 pa1 h1 ln1 hd0 hl C1 hI1))
    · subst q
      exact lv_tableIn (off := 273) (tgt := 305) hx hb dL_law_32 (by decide) (by decide) rfl (by decide) (lo_305 hTx Fd C hI hl in1 in2 in3 hR (fun H1 locs1 pa1 h1 ln1 C1 hI1 => K d0 lsS H1 locs1 pa1 h1 ln1 hd0 hl C1 hI1))
    · subst q
      exact lv_tableIn (off := 286) (tgt := 318) hx hb dL_law_32 (by decide) (by decide) rfl (by decide) (lo_318 hTx Fd C hI hl in1 in2 in3 hR (fun H1 locs1 pa1 h1 ln1 C1 hI1 => K d0 lsS H1 locs1 pa1 h1 ln1 hd0 hl C1 hI1))
    · subst q
      exact lv_tableIn (off := 309) (tgt := 341) hx hb dL_law_32 (by decide) (by decide) rfl (by decide) (lo_341 hTx Fd C hI hl in1 in2 in3 hR (fun H1 locs1 pa1 h1 ln1 C1 hI1 => K d0 lsS H1 locs1 pa1 h1 ln1 hd0 hl C1 hI1))
    · subst q
      exact lv_tableIn (off := 322) (tgt := 354) hx hb dL_law_32 (by decide) (by decide) rfl (by decide) (lo_354 hTx Fd C hI hl in1 in2 in3 hR (fun H1 locs1 pa1 h1 ln1 C1 hI1 => K d0 lsS H1 locs1 pa1 h1 ln1 hd0 hl C1 hI1))
    · subst q
      exact lv_tableIn (off := 335) (tgt := 367) hx hb dL_law_32 (by decide) (by decide) rfl (by decide) (lo_367 hTx Fd C hI hl in1 in2 in3 hR (fun H1 locs1 pa1 h1 ln1 C1 hI1 => K d0 lsS H1 locs1 pa1 h1 ln1 hd0 hl C1 hI1))
    · subst q
      exact lv_tableIn (off := 358) (tgt := 390) hx hb dL_law_32 (by decide) (by decide) rfl (by decide) (lo_390 hTx Fd C hI hl in1 in2 in3 hR (fun H1 locs1 pa1 h1 ln1 C1 hI1 => K d0 lsS H1 locs1 pa1 h1 ln1 hd0 hl C1 hI1))
    · subst q
      exact lv_tableIn (off := 391) (tgt := 423) hx hb dL_law_32 (by decide) (by decide) rfl (by decide) (lo_423 hTx Fd C hI hl in1 in2 in3 hR (fun H1 locs1 pa1 h1 ln1 C1 hI1 => K d0 lsS H1 locs1 pa1 h1 ln1 hd0 hl C1 hI1))
    · subst q
      exact lv_tableIn (off := 434) (tgt := 466) hx hb dL_law_32 (by decide) (by decide) rfl (by decide) (lo_466 hTx Fd C hI hl in1 in2 in3 hR (fun H1 locs1 pa1 h1 ln1 C1 hI1 => K d0 lsS H1 locs1 pa1 h1 ln1 hd0 hl C1 hI1))
    · subst q
      exact lv_tableIn (off := 457) (tgt := 489) hx hb dL_law_32 (by decide) (by decide) rfl (by decide) (lo_489 hTx Fd C hI hl in1 in2 in3 hR (fun H1 locs1 pa1 h1 ln1 C1 hI1 => K d0 lsS H1 locs1 pa1 h1 ln1 hd0 hl C1 hI1))
    · subst q
      exact lv_tableIn (off := 480) (tgt := 512) hx hb dL_law_32 (by decide) (by decide) rfl (by decide) (lo_512 hTx Fd C hI hl in1 in2 in3 hR (fun H1 locs1 pa1 h1 ln1 C1 hI1 => K d0 lsS H1 locs1 pa1 h1 ln1 hd0 hl C1 hI1))
    · subst q
      exact lv_tableIn (off := 529) (tgt := 561) hx hb dL_law_32 (by decide) (by decide) rfl (by decide) (lo_561 hTx Fd C hI hl in1 in2 in3 hR (fun H1 locs1 pa1 h1 ln1 C1 hI1 => K d0 lsS H1 locs1 pa1 h1 ln1 hd0 hl C1 hI1))
    · subst q
      exact lv_tableIn (off := 552) (tgt := 584) hx hb dL_law_32 (by decide) (by decide) rfl (by decide) (lo_584 hTx Fd C hI hl in1 in2 in3 hR (fun H1 locs1 pa1 h1 ln1 C1 hI1 => K d0 lsS H1 locs1 pa1 h1 ln1 hd0 hl C1 hI1))
    · subst q
      exact lv_tableIn (off := 601) (tgt := 633) hx hb dL_law_32 (by decide) (by decide) rfl (by decide) (lo_633 hTx Fd C hI hl in1 in2 in3 hR (fun H1 locs1 pa1 h1 ln1 C1 hI1 => K d0 lsS H1 locs1 pa1 h1 ln1 hd0 hl C1 hI1))
    · subst q
      exact lv_tableIn (off := 614) (tgt := 646) hx hb dL_law_32 (by decide) (by decide) rfl (by decide) (lo_646 hTx Fd C hI hl in1 in2 in3 hR (fun H1 locs1 pa1 h1 ln1 C1 hI1 => K d0 lsS H1 locs1 pa1 h1 ln1 hd0 hl C1 hI1))
    · subst q
      exact lv_tableIn (off := 657) (tgt := 689) hx hb dL_law_32 (by decide) (by decide) rfl (by decide) (lo_689 hTx F hd0 C hI hl hR (fun d1 ls1 H1 locs1 hd1 hl1 C1 => K d1 ls1 H1 locs1 pa h ln hd1 hl1 C1 hI))
    · subst q
      exact lv_tableIn (off := 672) (tgt := 704) hx hb dL_law_32 (by decide) (by decide) rfl (by decide) (lo_704 hTx Fd C hI hl in1 in2 in3 hR (fun H1 locs1 pa1 h1 ln1 C1 hI1 => K d0 lsS H1 locs1 pa1 h1 ln1 hd0 hl C1 hI1))
    · subst q
      exact lv_tableIn (off := 685) (tgt := 717) hx hb dL_law_32 (by decide) (by decide) rfl (by decide) (lo_717 hTx Fd C hI hl in1 in2 in3 hR (fun H1 locs1 pa1 h1 ln1 C1 hI1 => K d0 lsS H1 locs1 pa1 h1 ln1 hd0 hl C1 hI1))
    · subst q
      exact lv_tableIn (off := 698) (tgt := 730) hx hb dL_law_32 (by decide) (by decide) rfl (by decide) (lo_730 hTx Fd C hI hl in1 in2 in3 hR (fun H1 locs1 pa1 h1 ln1 C1 hI1 => K d0 lsS H1 locs1 pa1 h1 ln1 hd0 hl C1 hI1))
    · refine lv_tableOut (tgt := 743) hx hb dL_law_32 (Or.inr ?_) (by decide) (K d0 lsS H locs pa h ln hd0 hl C hI)
      rcases (by omega : k = 25 ∨ k = 26 ∨ k = 27 ∨ k = 28 ∨ k = 29 ∨ k = 30 ∨ k = 31) with r | r | r | r | r | r | r <;> subst r <;> decide
end LG2
