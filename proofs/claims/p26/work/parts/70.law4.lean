set_option maxHeartbeats 4000000 in
set_option maxRecDepth 100000 in
theorem whole_start {p : Program} {e : Env} {s : State} {m : MethodId} {below : List Frame} {meth : Method} {c : Code} (l : Launch) (hflags : l.flags = flags0) {b L : Nat} {xs : Nat → Int32} (hL : L ≤ 2048) (C0 : lw_At p s m meth c b L xs) : W p l e room_1 s m #[Value.ref b] below meth c s.heap [] 0 0 (lw_Z below #[Value.ref b] s) (entryFrame m ([Value.ref b] : List Value).toArray 8) := by
  have hTx : qzTx l := qzTx_all l
  obtain ⟨hx, hb, hr, hml, hown, hts0, hX, hbl, hlocks, hgv⟩ := id C0
  obtain ⟨G, D, hK⟩ := lw_K hts0
  have hNw := lw_Nw hts0
  obtain ⟨S, hSt⟩ := lw_St hts0 hgv
  have hts : ∀ w ∈ qzWs, w.before #[.ref b] s = true := fun w hw => hts0 w (qzWs_sub w hw)
  have F : lgF p s m #[Value.ref b] c G D s.heap.size S b L xs := ⟨hx, hb, hml, hown, hts, hK, hNw, hSt, Nat.le_refl _, hX, hbl, fun q h => h⟩
  have sl1 : qzSl 1 = qzNf 2 := by decide
  have sl60 : qzSl 60 = qzSl 60 := rfl
  have s67 : qzSl 67 ≤ 7302250 := by decide
  have s61 : qzSl 60 + qzNf 3 = qzSl 61 := by decide
  have s60 : qzSl 1 ≤ qzSl 60 := qzSl_mono (by omega)
  have s6b : qzSl 60 ≤ qzSl 61 := qzSl_mono (by omega)
  have s6c : qzSl 61 ≤ qzSl 67 := qzSl_mono (by omega)
  obtain ⟨hp1, hp2, q1, q2, q3, q4, q5⟩ := qk_ex
  obtain ⟨n1, r1, v1⟩ := hp1
  obtain ⟨n2, r2, v2⟩ := hp2
  dsimp only at q2 q4
  subst q2
  subst q4
  obtain ⟨f1, f2, f3, f4, f5⟩ := qk_facts q5
  refine W.base ?_
  have hd0 := Drawn.sameBut.refl s.drawn lw_cs
  have Fd := F.dr (d := s.drawn)
  have hl := lv_entry ([.ref b]) (n := 8) (Nat.le_of_ble_eq_true rfl)
  rw [lg_entry_eq]
  generalize (lg_sl ([.ref b]) ++ List.replicate (8 - (lg_sl ([.ref b])).length) Slot.unset).toArray = ls at hl ⊢
  have hl : lv_has ls 8 [(0, .ref b)] := hl
  have C1 : lgC G D s.heap.size S (s.setDrawn s.drawn) (fun i => S (i - 1000)) s.heap [] (0, fun _ _ => none, fun _ _ => 0) := ⟨fun i j a h => (by cases h), fun i => (by show S (1000 + i - 1000) = S i; rw [Nat.add_sub_cancel_left]), (by show 0 < 1000; omega), fun k q h => (by cases h), ⟨fun i j p q h => (by cases h), fun k q h => (by cases h)⟩, va_S.rf⟩
  refine lg_new (ci := 2) Fd C1 (by show 0 < 67; omega) rfl (by decide) lc_7 lni_2 qzi_RX2 dL_law_0 (by show 0 + 1 ≤ 600000; omega) (by show 0 + qzNf 2 ≤ 7302250; omega) (fun q H1 C2 => ?_)
  refine lv_dup hx hb dL_law_3 rfl ?_
  refine lg_init (i0 := 0) hTx Fd C2 hl.1 dL_law_4 lk_9 q1 (by decide) rfl (by show 0 < 1; omega) rfl (Nat.le_of_ble_eq_true rfl) rfl (Nat.le_of_ble_eq_true rfl) ⟨Nat.le_of_ble_eq_true rfl, Nat.le_of_ble_eq_true rfl, by show 0 + 1 + (60 - 1) ≤ 600000; omega, by show 0 + qzNf 2 + (qzSl 60 - qzSl 1) ≤ 7302250; omega⟩ (fun ad1 H2 locs2 ag1 C3 => ?_)
  have a1 : ad1 0 = q := ag1 0 (Or.inl (by show 0 < 1; omega))
  refine lv_astore_n (lv' := [(1, .ref (ad1 0)), (0, .ref b)]) hx hb dL_law_7 rfl hl (by decide) (by rw [a1]; rfl) (fun ls1 hl1 => ?_)
  refine lg_new (ci := 3) Fd C3 (by show 60 < 67; omega) rfl (by decide) lc_10 lni_3 qzi_RX3 dL_law_8 (by show 0 + 1 + (60 - 1) + 1 ≤ 600000; omega) (by show 0 + qzNf 2 + (qzSl 60 - qzSl 1) + qzNf 3 ≤ 7302250; omega) (fun q' H3 C4 => ?_)
  refine lv_dup hx hb dL_law_11 rfl ?_
  refine lg_init (i0 := 60) hTx Fd C4 hl1.1 dL_law_12 lk_12 q3 (by decide) rfl (by show 60 < 61; omega) rfl (Nat.le_of_ble_eq_true rfl) rfl (Nat.le_of_ble_eq_true rfl) ⟨Nat.le_of_ble_eq_true rfl, Nat.le_of_ble_eq_true rfl, by show 0 + 1 + (60 - 1) + 1 + (67 - 61) ≤ 600000; omega, by show 0 + qzNf 2 + (qzSl 60 - qzSl 1) + qzNf 3 + (qzSl 67 - qzSl 61) ≤ 7302250; omega⟩ (fun ad H4 locs4 ag2 C5 => ?_)
  have a2 : ad 60 = q' := ag2 60 (Or.inl (by show 60 < 61; omega))
  have a3 : ad 0 = ad1 0 := ag2 0 (Or.inl (by show 0 < 61; omega))
  rw [← a3] at hl1
  refine lv_astore_n (lv' := [(2, .ref (ad 60)), (1, .ref (ad 0)), (0, .ref b)]) hx hb dL_law_15 rfl hl1 (by decide) (by rw [a2]; rfl) (fun ls2 hl2 => ?_)
  refine lv_iconst (v := nI 0) hx hb dL_law_16 (by decide) ?_
  refine lv_istore_n (lv' := [(3, .int (nI 0)), (2, .ref (ad 60)), (1, .ref (ad 0)), (0, .ref b)]) hx hb dL_law_17 rfl hl2 (by decide) rfl (fun ls3 hl3 => ?_)
  obtain ⟨w1, w2, w3, w4, w5, w6⟩ := C5
  have C6 : lgC G D s.heap.size S (s.setDrawn s.drawn) ad H4 locs4 (67, qzRr qkPa, v2) := ⟨qzRr_wf, w2, w3, qzW_refs f1 w4, qzW_dis w5, w6⟩
  have hI : lwI qkPa v2 0 := ⟨_, _, _, _, _, _, _, _, _, f2, f3, f4, f5⟩
  refine lw_loop hTx F (by omega) ⟨Nat.le_of_ble_eq_true rfl, Nat.le_of_ble_eq_true rfl, by show 0 + 1 + (60 - 1) + 1 + (67 - 61) ≤ 600000; omega, by show 0 + qzNf 2 + (qzSl 60 - qzSl 1) + qzNf 3 + (qzSl 67 - qzSl 61) ≤ 7302250; omega⟩ (fun d1 ls4 H5 locs5 hd1 hS5 => ?_) L 0 s.drawn ls3 H4 locs4 qkPa v2 0 (by omega) (by omega) hd0 hl3 C6 hI
  refine lv_iconst (v := 1) hx hb dL_law_749 (by decide) ?_
  refine va_forget (fun q hq => hS5.2.2 q hq) ?_
  refine W.widen (k := 600000) (n := 7302250) (by show 0 + 1 + (60 - 1) + 1 + (67 - 61) ≤ 600000; omega) (by show 0 + qzNf 2 + (qzSl 60 - qzSl 1) + qzNf 3 + (qzSl 67 - qzSl 61) ≤ 7302250; omega) ?_
  exact lw_ret hd1 hx hb hr hlocks dL_law_750
set_option maxHeartbeats 4000000 in
theorem lw_walk (l : Launch) (hflags : l.flags = flags0) (b : Addr) (xs : List Int32) : MetFree l x (headSpec (Jvm.Cond.code x code maxLocals ret :: tables_1) room_1) (lw_P b xs) (fun _ _ _ _ _ => True) lw_Q := by
  refine MetFree.of_bodyS (code := code) (maxLocals := maxLocals) (ret := ret) (by decide) ?_ ?_
  · intro args s m h hn
    obtain ⟨meth, c, h1, h2, h3, h4, h5, h6, -, -⟩ := Cond.code_spec hn (atoms_spec (ws := Jvm.Cond.code x code maxLocals ret :: tables_1) h _ List.mem_cons_self)
    exact ⟨meth, c, h1, h2, h3, h4, h5, h6⟩
  · intro p e s m args below meth c s₁ B hml0 hP _
    obtain ⟨rfl, hx, hbd, hgv⟩ := hP
    obtain ⟨scr, harrAt, hlist, hof, hsmall⟩ := hx
    obtain ⟨hcb, hkn, -, -⟩ := State.arrayAt?_spec harrAt
    have hown : s.vm.findClass R_law = some m.cls := findClass_of_methodNamed B.named
    have hts0 : ∀ c ∈ (Jvm.Cond.code x code maxLocals ret :: tables_1), c.before #[Value.ref b] s = true := atoms_spec (ws := Jvm.Cond.code x code maxLocals ret :: tables_1) B.pre
    have hts : ∀ w ∈ lw_tbl, w.before #[Value.ref b] s = true := k2_hts_sels lw_privs (fun w hw => hts0 w (List.mem_cons_of_mem _ hw)) lw_privs_ok
    have hml : c.maxLocals = 8 := B.maxLocals_eq (hts0 _ List.mem_cons_self)
    have X₀ : Stand p l e room_1 s m #[Value.ref b] below meth c s₁ [] 0 0 := Stand.of_body B
    have hh0 : s₁.heap = s.heap := by rw [B.state]; rfl
    have hsz : scr.slots.size = xs.length := by rw [← Array.length_toList, hlist, List.length_map]
    have hval : ∀ j : Nat, j < xs.length → scr.slots[j]? = some (.int (xs.getD j 0)) := fun j hj => by
      rw [← Array.getElem?_toList, hlist]
      simp [hj]
    have hbl : b < s.heap.size := (Array.getElem?_eq_some_iff.mp hcb).1
    have hX : va_X b xs.length (fun j => xs.getD j 0) s s.heap := ⟨scr, hcb, hof, hkn, hsz, hval⟩
    have K : W p l e room_1 s m #[Value.ref b] below meth c s₁.heap [] 0 0 (lw_Z below #[Value.ref b] s) (entryFrame m ([Value.ref b] : List Value).toArray 8) := by
      rw [hh0]
      exact whole_start l hflags hbd ⟨B.exec, B.bytes, B.returns, hml, hown, hts, hX, hbl, B.notSynchronized, hgv⟩
    obtain ⟨t, a1, o, b1, b2, b3⟩ := K s₁ rfl X₀
    exact ⟨t, o, a1, b1, b2, b3⟩
theorem lw_pre_spec {args : Array Value} {s : State} (h : (Jvm.Cond.and given_1 narrow_1).before args s = true) (hr : rest_1_c.before args s = true) : ∃ (b : Addr) (xs : List Int32), lw_P b xs args s := by
  have hs := flat_of_before _ h
  have hq := flat_of_before _ hr
  have hc : (Cond.count 1).before args s = true := hs _ (by decide +kernel)
  have harr : (Cond.arrayOf (.arg 0) .int).before args s = true := hs _ (by decide +kernel)
  have hle : (Cond.le (.length (.arg 0)) (.int 2048)).before args s = true := hs _ (by decide +kernel)
  have hlen : (Cond.isInt (.length (.arg 0))).before args s = true := hq _ (by decide +kernel)
  have hall : (Cond.all (.arg 0) (.isInt (.elem (.arg 0) (.index 0)))).before args s = true := hq _ (by decide +kernel)
  obtain ⟨b, xs, hb, hx⟩ := State.ints_of_pre rfl harr hlen hall
  have hsm : xs.length < 2 ^ 31 := hx.choose_spec.2.2.2
  have hev : (Term.length (.arg 0)).eval args s none [] s = some (.int xs.length.toInt32) := hx.length_eval hb
  have hv := Cond.le_ints hev (show (Term.int 2048).eval args s none [] s = some (.int 2048) from rfl)
  have hd : xs.length.toInt32 ≤ 2048 := by
    simpa [Cond.before, Cond.holds, hv] using hle
  have hN : xs.length ≤ 2048 := (Int32.ofNat_le_ofNat hsm (by decide)).mp (show Int32.ofNat xs.length ≤ Int32.ofNat 2048 from hd)
  exact ⟨b, xs, Cond.one_arg hc (show args[0]? = some (.ref b) from hb), hx, hN, h⟩
theorem lw_comes (l : Launch) (hflags : l.flags = flags0) : Comes l x (Jvm.Cond.code x code maxLocals ret :: tables_1) room_1 (fun tb e args s => Calls_1 tb e args s ∧ rest_1 tb e args s ∧ Pre_1 tb e args s)
    (fun _ _ args s o t => lw_Q args s o t) := by
  intro p e ha hc hk s m args below hf hfit hheap happ hpre
  obtain ⟨b, xs, hP⟩ := lw_pre_spec hpre.2.2 hpre.2.1
  obtain ⟨k, o, h1, h2, h3, hQ⟩ := lw_walk l hflags b xs p e ha hc hk s m args below hf ((Spec.applies_iff_loose hf).mp happ).1 hP trivial
  exact ⟨k, o, h1, h2, h3, hQ⟩
theorem lw_frame {s t : State} {o : Outcome} {args : Array Value} (h : State.butDraws s t lw_cs (fun t1 => Framed s o t1 [] 600000 7302250)) :
    State.butDraws s t [Jvm.Choice.named "NaN.bits"] (fun t1 => Framed s o t1 (fieldLocs frame_1_writes args s ++ arrayLocs frame_1_arrays args s ++ staticLocs frame_1_statics s) 600000 7302250) := h
theorem lw_limb (L : Cond) (hL : ∀ (args : Array Value) (s t : State), L.after args s (.returned (some (.int 1))) t = true) :
    ArmFor flags0 classFile x code maxLocals ret World_1 tables_1 room_1 Calls_1 rest_1 Pre_1
      (fun tb e a s o t => postC L tb e a s o t ∧ State.butDraws s t [Jvm.Choice.named "NaN.bits"] (fun t1 => Framed s o t1 (fieldLocs frame_1_writes a s ++ arrayLocs frame_1_arrays a s ++ staticLocs frame_1_statics s) 600000 7302250)) := by
  intro l hflags _ _ p e ha hc hk s m args below hf hfit hheap happ hpre
  obtain ⟨k, o, h1, h2, h3, rfl, hF⟩ := lw_comes l hflags p e ha hc hk s m args below hf hfit hheap happ hpre
  exact ⟨k, _, h1, h2, h3, hL args s _, lw_frame hF⟩
theorem i_vc : Claimed_1_1 ∧ Claimed_1_2 := ⟨lw_limb limb_1_1 (fun args s t => by simp [limb_1_1, Cond.after, Cond.holds, Cond.value]), lw_limb limb_1_2 (fun args s t => Cond.after_iff.mpr (by
  first | (rw [show limb_1_2 = Cond.eq .result (.int 1) from rfl, Cond.eq_ints (x := 1) (y := 1) rfl rfl]; simp; done) | (simp [limb_1_2, Cond.value, Term.eval]; done)))⟩
