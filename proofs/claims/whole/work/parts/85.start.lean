-- THE LAW'S START AND ITS LOOP
theorem xt_N_in : ∀ w ∈ xt_N, w ∈ lw_tbl := by decide +kernel
theorem lw_t1 : Cond.laysStatic Bundle.tN "UNASSIGNED_STACK" Bundle.steD ∈ lw_tbl := by decide +kernel
theorem lw_t2 : Cond.laysStatic Bundle.tN "SUPPRESSED_SENTINEL" Bundle.listD ∈ lw_tbl := by decide +kernel
theorem lw_t3 : Cond.initialized Bundle.tN ∈ lw_tbl := by decide +kernel
theorem lw_t4 : Cond.methodLinkNest R_Desk 48 y_Divisor_init R_Desk ∈ lw_tbl := by decide +kernel
theorem lw_t5 : Cond.arrayOver (.object R_Whole) ∈ lw_tbl := by decide +kernel
theorem lw_blind {ws : List Value} {dC : Nat → ClassId} {dI : Nat → Nat → Nat} {wo : va_W} {tys : List (ClassId × FieldType)} {sz : Nat} : FrameBlind (fun v U => xc_W ws dC dI wo tys sz v U ∧ va_Nw (.methodLinkNest R_Desk 48 y_Divisor_init R_Desk) U ∧ va_AO R_Whole U) := fun a U g mk q => ⟨xc_W_blind a U g mk q.1, va_Nw.same (u := U) (U := U.calling g mk a) rfl rfl q.2.1, va_AO.moved (u := U) (U := U.calling g mk a) (Vm.Alike.refl U.vm) q.2.2⟩
theorem lw_K {s : State} {args : Array Value} (hts : ∀ w ∈ gw_tbl, w.before args s = true) : ∃ (dC : Nat → ClassId) (dI : Nat → Nat → Nat) (cA cJ : ClassId), va_K (dC, dI) classes [(cA, .int), (cJ, .long)] s := by
  obtain ⟨c0, i0, k0⟩ := u_known hts i_Desk (hts _ k_inst_Desk)
  obtain ⟨c1, i1, k1⟩ := u_known hts i_Whole (hts _ k_inst_Whole)
  obtain ⟨c2, i2, k2⟩ := u_known hts i_Divisor (hts _ k_inst_Divisor)
  obtain ⟨c3, i3, k3⟩ := u_known hts i_Model (hts _ k_inst_Model)
  obtain ⟨cA, hcA⟩ := xn_arrI (hts _ k_arr_int)
  obtain ⟨cJ, hcJ⟩ := xn_arrJ (hts _ k_arr_long)
  refine ⟨fun k => if k = 0 then c0 else if k = 1 then c1 else if k = 2 then c2 else c3, fun k => if k = 0 then i0 else if k = 1 then i1 else if k = 2 then i2 else i3, cA, cJ, fun k q hk => ?_, fun k q hk => ?_⟩
  · have hk4 : k < 4 := (List.getElem?_eq_some_iff.mp hk).1
    rcases (show k = 0 ∨ k = 1 ∨ k = 2 ∨ k = 3 by omega) with rfl | rfl | rfl | rfl <;> cases hk
    · exact k0
    · exact k1
    · exact k2
    · exact k3
  · have hk2 : k < 2 := (List.getElem?_eq_some_iff.mp hk).1
    rcases (show k = 0 ∨ k = 1 by omega) with rfl | rfl <;> cases hk
    · exact hcA
    · exact hcJ
set_option maxHeartbeats 8000000 in
set_option maxRecDepth 100000 in
/-- the law's loop -/
theorem lw_loop {p : Program} {e : Env} {s : State} {m : MethodId} {below : List Frame} {meth : Method} {c : Code} (l : Launch) (hlt : l.stackTraces = false) {b L : Nat} {xs : Nat → Int32} (hL : L ≤ 2560) (hx : p.tables.exec = Jvm.exec) (hb : c.code = code) (hml : c.maxLocals = 8) (hown : s.vm.findClass R_Law = some m.cls) (hts : ∀ w ∈ gw_tbl, w.before #[Value.ref b] s = true) (hX : va_X b L xs s s.heap) (hbl : b < s.heap.size) {A : Nat → Prop} (hA : ∀ q : Nat, s.heap.size ≤ q → A q) (hbA : ¬ A b) (hE : xt_E A s s.heap)
    (dC : Nat → ClassId) (dI : Nat → Nat → Nat) (x0 gv cl d0 h0d q0d h0u q0u h0e q0e h0p q0p h0q q0q h0o q0o h0r q0r : Nat) (cA cJ cW : ClassId) (m0 ma mS mt mo mb mg mh mr ou : Nat) (hK : va_K (dC, dI) classes [(cA, .int), (cJ, .long), (cW, .object "EquationDesk$Whole")] s) 
    (hr : meth.sig.returnType = ret) (hlocks : meth.locks = false) (hAe : ∀ q, A q → s.heap.size ≤ q) : ∀ (n0 i : Nat) (D : dS) (M : mT) (o1 : Nat → Int64), lw_R D M → i ≤ L → L + 1 ≤ i + n0 → ∀ (H : Heap) (locs : List Loc), va_P (dC, dI) classes (mv m0 ma mS mt mo mb mg mh mr cA cJ M ++ (ob ou cJ o1 ++ dv x0 gv cl d0 h0d q0d h0u q0u h0e q0e h0p q0p h0q q0q h0o q0o h0r q0r cA cJ cW D)) H → va_D A (mv m0 ma mS mt mo mb mg mh mr cA cJ M ++ (ob ou cJ o1 ++ dv x0 gv cl d0 h0d q0d h0u q0u h0e q0e h0p q0p h0q q0q h0o q0o h0r q0r cA cJ cW D)) → va_S A s.heap H locs → ∀ ls : Array Slot, lv_has ls 8 [(4, .int (nI i)), (3, .ref ou), (2, .ref m0), (1, .ref x0), (0, .ref b)] → W p l e room_1 s m #[Value.ref b] below meth c H locs (340 + i) (468547 + 6 * i) (lw_Z below #[Value.ref b] s) (F0 m 23 ls []) := by
  intro n0
  induction n0 with
  | zero => intro i D M o1 hR hi hn_; exact absurd hn_ (by omega)
  | succ n0 ih =>
    intro i D M o1 hR hi hn_ H locs hP hD hS ls hl
    refine lv_iload hx hb d_Law_law_23 (lv_at hl 0 rfl) ?_
    refine lv_aload_n hx hb d_Law_law_25 rfl (lv_at hl 4 rfl) ?_
    refine lw_slen hx hb hX hbl hbA hS d_Law_law_26 ?_
    refine lv_iconst (v := nI 5) hx hb d_Law_law_27 rfl ?_
    refine lv_isub hx hb d_Law_law_28 ?_
    refine lv_icmp_gt (tgt := 543) hx hb d_Law_law_29 (by decide) (fun hge => ?_) (fun hge => ?_)
    · refine lv_iconst (v := 1) hx hb d_Law_law_543 (by decide) ?_
      refine va_forget (fun q hq => hAe _ (hS.2.2 q hq)) (W.widen (k := 601024) (n := 7293034) (by omega) (by omega) ?_)
      exact lw_ret hx hb hr hlocks d_Law_law_544
    have hi5 : i + 5 ≤ L := lr_turn hL hi hge
    refine lv_aload_n hx hb d_Law_law_32 rfl (lv_at hl 4 rfl) ?_
    refine lv_iload hx hb d_Law_law_33 (lv_at hl 0 rfl) ?_
    refine lw_sld hx hb hX hbl hbA hS (i := i) (by omega) hL d_Law_law_35 ?_
    refine lv_bipush (v := nI 7) hx hb d_Law_law_36 rfl ?_
    obtain ⟨k7, hk7, e7⟩ := lr_and7 (xs i)
    refine xe_iand (v := nI k7) hx hb d_Law_law_38 e7 ?_
    have kk : ∀ (D : dS) (M : mT) (o1 : Nat → Int64), lw_R D M → ∀ (H : Heap) (locs : List Loc), va_P (dC, dI) classes (mv m0 ma mS mt mo mb mg mh mr cA cJ M ++ (ob ou cJ o1 ++ dv x0 gv cl d0 h0d q0d h0u q0u h0e q0e h0p q0p h0q q0q h0o q0o h0r q0r cA cJ cW D)) H → va_D A (mv m0 ma mS mt mo mb mg mh mr cA cJ M ++ (ob ou cJ o1 ++ dv x0 gv cl d0 h0d q0d h0u q0u h0e q0e h0p q0p h0q q0q h0o q0o h0r q0r cA cJ cW D)) → va_S A s.heap H locs → ∀ ls : Array Slot, lv_has ls 8 [(4, .int (nI i)), (3, .ref ou), (2, .ref m0), (1, .ref x0), (0, .ref b)] → W p l e room_1 s m #[Value.ref b] below meth c H locs (340 + (i + 5)) (468547 + 6 * (i + 5)) (lw_Z below #[Value.ref b] s) (F0 m 537 ls []) := by
      intro D M o1 hR H locs hP hD hS ls hl
      refine lv_iinc (v := nI (i + 5)) (lv' := [(4, .int (nI (i + 5))), (3, .ref ou), (2, .ref m0), (1, .ref x0), (0, .ref b)]) hx hb d_Law_law_537 hl (k := 0) rfl (nI_add _ 5) (by decide) rfl (fun ls hl => ?_)
      refine lv_goto (tgt := 23) hx hb d_Law_law_540 (by decide) ?_
      exact ih (i + 5) D M o1 hR hi5 (by omega) H locs hP hD hS ls hl
    have hcl : 340 + (i + 5) ≤ room_1.cells := by show _ ≤ 601024; omega
    have hsl : 468547 + 6 * (i + 5) ≤ room_1.slots := by show _ ≤ 7293034; omega
    rcases (show k7 = 0 ∨ k7 = 1 ∨ k7 = 2 ∨ k7 = 3 ∨ k7 = 4 ∨ k7 = 5 ∨ k7 = 6 ∨ k7 = 7 by omega) with rfl | rfl | rfl | rfl | rfl | rfl | rfl | rfl
    · refine lv_tableIn (off := 45) (tgt := 84) hx hb d_Law_law_39 (by decide +kernel) (by decide +kernel) (by decide +kernel) (by decide) ?_
      exact lw_c0 l hlt hL hx hb hml hown hts hX hbl hA hbA hE dC dI x0 gv cl d0 h0d q0d h0u q0u h0e q0e h0p q0p h0q q0q h0o q0o h0r q0r cA cJ cW m0 ma mS mt mo mb mg mh mr ou hK (by omega) (by omega) hcl hsl hi5 kk D M o1 hR H locs hP hD hS ls hl
    · refine lv_tableIn (off := 81) (tgt := 120) hx hb d_Law_law_39 (by decide +kernel) (by decide +kernel) (by decide +kernel) (by decide) ?_
      exact lw_c1 l hlt hL hx hb hml hown hts hX hbl hA hbA hE dC dI x0 gv cl d0 h0d q0d h0u q0u h0e q0e h0p q0p h0q q0q h0o q0o h0r q0r cA cJ cW m0 ma mS mt mo mb mg mh mr ou hK (by omega) (by omega) hcl hsl hi5 kk D M o1 hR H locs hP hD hS ls hl
    · refine lv_tableIn (off := 192) (tgt := 231) hx hb d_Law_law_39 (by decide +kernel) (by decide +kernel) (by decide +kernel) (by decide) ?_
      exact lw_c2 l hlt hL hx hb hml hown hts hX hbl hA hbA hE dC dI x0 gv cl d0 h0d q0d h0u q0u h0e q0e h0p q0p h0q q0q h0o q0o h0r q0r cA cJ cW m0 ma mS mt mo mb mg mh mr ou hK (by omega) (by omega) hcl hsl hi5 kk D M o1 hR H locs hP hD hS ls hl
    · refine lv_tableIn (off := 205) (tgt := 244) hx hb d_Law_law_39 (by decide +kernel) (by decide +kernel) (by decide +kernel) (by decide) ?_
      exact lw_c3 l hlt hL hx hb hml hown hts hX hbl hA hbA hE dC dI x0 gv cl d0 h0d q0d h0u q0u h0e q0e h0p q0p h0q q0q h0o q0o h0r q0r cA cJ cW m0 ma mS mt mo mb mg mh mr ou hK (by omega) (by omega) hcl hsl hi5 kk D M o1 hR H locs hP hD hS ls hl
    · refine lv_tableIn (off := 261) (tgt := 300) hx hb d_Law_law_39 (by decide +kernel) (by decide +kernel) (by decide +kernel) (by decide) ?_
      exact lw_c4 l hlt hL hx hb hml hown hts hX hbl hA hbA hE dC dI x0 gv cl d0 h0d q0d h0u q0u h0e q0e h0p q0p h0q q0q h0o q0o h0r q0r cA cJ cW m0 ma mS mt mo mb mg mh mr ou hK (by omega) (by omega) hcl hsl hi5 kk D M o1 hR H locs hP hD hS ls hl
    · refine lv_tableIn (off := 305) (tgt := 344) hx hb d_Law_law_39 (by decide +kernel) (by decide +kernel) (by decide +kernel) (by decide) ?_
      exact lw_c5 l hlt hL hx hb hml hown hts hX hbl hA hbA hE dC dI x0 gv cl d0 h0d q0d h0u q0u h0e q0e h0p q0p h0q q0q h0o q0o h0r q0r cA cJ cW m0 ma mS mt mo mb mg mh mr ou hK (by omega) (by omega) hcl hsl hi5 kk D M o1 hR H locs hP hD hS ls hl
    · refine lv_tableIn (off := 373) (tgt := 412) hx hb d_Law_law_39 (by decide +kernel) (by decide +kernel) (by decide +kernel) (by decide) ?_
      exact lw_c6 l hlt hL hx hb hml hown hts hX hbl hA hbA hE dC dI x0 gv cl d0 h0d q0d h0u q0u h0e q0e h0p q0p h0q q0q h0o q0o h0r q0r cA cJ cW m0 ma mS mt mo mb mg mh mr ou hK (by omega) (by omega) hcl hsl hi5 kk D M o1 hR H locs hP hD hS ls hl
    · refine lv_tableIn (off := 414) (tgt := 453) hx hb d_Law_law_39 (by decide +kernel) (by decide +kernel) (by decide +kernel) (by decide) ?_
      exact lw_c7 l hlt hL hx hb hml hown hts hX hbl hA hbA hE dC dI x0 gv cl d0 h0d q0d h0u q0u h0e q0e h0p q0p h0q q0q h0o q0o h0r q0r cA cJ cW m0 ma mS mt mo mb mg mh mr ou hK (by omega) (by omega) hcl hsl hi5 kk D M o1 hR H locs hP hD hS ls hl
set_option maxHeartbeats 8000000 in
set_option maxRecDepth 100000 in
/-- from the entry, for every script of at most 2560 ints, the law comes to its end with true -/
theorem whole_start {p : Program} {e : Env} {s : State} {m : MethodId} {below : List Frame} {meth : Method} {c : Code} (l : Launch) (hlt : l.stackTraces = false) {b L : Nat} {xs : Nat → Int32} (hL : L ≤ 2560) (C0 : lw_At p s m meth c b L xs) : W p l e room_1 s m #[Value.ref b] below meth c s.heap [] 0 0 (lw_Z below #[Value.ref b] s) (entryFrame m ([Value.ref b] : List Value).toArray 8) := by
  obtain ⟨hx, hb, hr, hml, hown0, htl, hX, hbl, hlocks, hgv⟩ := C0
  have hown : s.vm.findClass R_Law = some m.cls := hown0
  have hts : ∀ w ∈ gw_tbl, w.before #[Value.ref b] s = true := fun w h => htl w (List.mem_filter.mp h).1
  have hfl := flat_of_before _ hgv
  obtain ⟨A, hA, hAe⟩ : ∃ A : Nat → Prop, (∀ q : Nat, s.heap.size ≤ q → A q) ∧ ∀ q : Nat, A q → s.heap.size ≤ q := ⟨fun q => s.heap.size ≤ q, fun _ h => h, fun _ h => h⟩
  have hAn : ∀ q : Nat, q < s.heap.size → ¬ A q := fun q h z => absurd (hAe q z) (Nat.not_le.mpr h)
  have hbA : ¬ A b := hAn b hbl
  have hS : va_S A s.heap s.heap [] := va_S.rf
  have hE : xt_E A s s.heap := ⟨vx_Zqof (htl _ lw_t1) (htl _ lw_t3) (hfl _ (by decide +kernel)) hAn, vx_Zqof (htl _ lw_t2) (htl _ lw_t3) (hfl _ (by decide +kernel)) hAn, fun w hw => va_Nw.of (xt_N_tab w hw) (htl w (xt_N_in w hw)), va_Nc.of (hfl _ (by decide +kernel))⟩
  have hNw : va_Nw (.methodLinkNest R_Desk 48 y_Divisor_init R_Desk) s := va_Nw.of rfl (htl _ lw_t4)
  have hAO : va_AO R_Whole s := va_AO.of (htl _ lw_t5)
  obtain ⟨dC, dI, cA, cJ, hK⟩ := lw_K hts
  have hP : va_P (dC, dI) classes [] s.heap := fun k q h => by simp at h
  have hD : va_D A [] := ⟨fun i j a b ha => by simp at ha, fun k q h => by simp at h⟩
  have hl := lv_entry ([.ref b]) (n := 8) (Nat.le_of_ble_eq_true rfl)
  rw [lg_entry_eq]
  generalize (lg_sl ([.ref b]) ++ List.replicate (8 - (lg_sl ([.ref b])).length) Slot.unset).toArray = ls at hl ⊢
  have hl : lv_has ls 8 [(0, .ref b)] := hl
  refine va_new (ci := 0) (fs := [.null, .int 0, .int 0, .null, .null, .null, .null, .null, .null, .null]) (C := R_Desk) (T := F_Desk) (N := 10) hx hb hts i_Desk t_Desk t_Desk_ok hown (hts _ k_cl_Law_8) (hts _ k_inst_Desk) (hts _ k_ini_Desk) hK hP hD hS hA rfl (fun j hj => by rcases (show j = 0 ∨ j = 1 ∨ j = 2 ∨ j = 3 ∨ j = 4 ∨ j = 5 ∨ j = 6 ∨ j = 7 ∨ j = 8 ∨ j = 9 by omega) with rfl | rfl | rfl | rfl | rfl | rfl | rfl | rfl | rfl | rfl <;> rfl) (Nat.le_of_ble_eq_true rfl) (Nat.le_of_ble_eq_true rfl) d_Law_law_0 (fun x0 H hP hD hS => ?_)
  refine lv_dup hx hb d_Law_law_3 rfl ?_
  have hPc := xg_P hP
  have hDc := (xg_D hD).weaken (B := fun _ => True) (fun _ _ _ _ => trivial)
  have hFc := xg_F hD hS hA
  refine va_callv (va_runI (As := []) (rest := [.ref x0]) ⟨hx, hb, hml, hown, hts⟩ (c_Desk_init l dC dI H.size cA cJ x0) (cwI 0 hts (gw_I k_code_Desk_init) rfl rfl rfl (hts _ k_ini_Desk) (hts _ k_ml_Law_39) (hts _ k_im_Desk_init) rfl (by decide +kernel) ⟨(Nat.le_of_ble_eq_true rfl), (Nat.le_of_ble_eq_true rfl)⟩) ⟨lw_blind, fun U hU hW => ⟨⟨rfl, by rw [hU], by rw [hU]; exact hPc, va_K.moved hW.alike hK, hDc⟩, va_Nw.warmM hW hNw, va_AO.moved hW.alike hAO⟩⟩ rfl rfl hl.1 rfl (lv_room (Nat.le_of_ble_eq_true rfl)) d_Law_law_4 ⟨(Nat.le_of_ble_eq_true rfl), (Nat.le_of_ble_eq_true rfl)⟩) hS (fun q _ h => hFc q h) hFc (fun D t_ H locs ht_ hvm_ hw hB hz1 hk1 hS => ?_)
  obtain ⟨gv, cl, d0, h0d, q0d, h0u, q0u, h0e, q0e, h0p, q0p, h0q, q0q, h0o, q0o, h0r, q0r, cW, hP1, hD1, hK1⟩ := hB
  rw [ht_] at hP1
  obtain ⟨hP, hD⟩ := xg_1 hP hD hk1 hFc hP1 hD1
  have hK : va_K (dC, dI) classes [(cA, .int), (cJ, .long), (cW, .object "EquationDesk$Whole")] s := va_K.moved hvm_.symm hK1
  have hP : va_P (dC, dI) classes (dv x0 gv cl d0 h0d q0d h0u q0u h0e q0e h0p q0p h0q q0q h0o q0o h0r q0r cA cJ cW D) H := hP
  have hD : va_D A (dv x0 gv cl d0 h0d q0d h0u q0u h0e q0e h0p q0p h0q q0q h0o q0o h0r q0r cA cJ cW D) := hD
  refine lv_astore_n (lv' := [(1, .ref x0), (0, .ref b)]) hx hb d_Law_law_7 rfl hl (by decide) rfl (fun ls hl => ?_)
  refine va_new (ci := 3) (fs := [.int 0, .int 0, .int 0, .null, .null, .null, .null, .null, .null, .null, .null]) (C := R_Model) (T := F_Model) (N := 11) hx hb hts i_Model t_Model t_Model_ok hown (hts _ k_cl_Law_40) (hts _ k_inst_Model) (hts _ k_ini_Model) hK hP hD hS hA rfl (fun j hj => by rcases (show j = 0 ∨ j = 1 ∨ j = 2 ∨ j = 3 ∨ j = 4 ∨ j = 5 ∨ j = 6 ∨ j = 7 ∨ j = 8 ∨ j = 9 ∨ j = 10 by omega) with rfl | rfl | rfl | rfl | rfl | rfl | rfl | rfl | rfl | rfl | rfl <;> rfl) (Nat.le_of_ble_eq_true rfl) (Nat.le_of_ble_eq_true rfl) d_Law_law_8 (fun m0 H hP hD hS => ?_)
  refine lv_dup hx hb d_Law_law_11 rfl ?_
  have hPc := xg_P hP
  have hDc := (xg_D hD).weaken (B := fun _ => True) (fun _ _ _ _ => trivial)
  have hFc := xg_F hD hS hA
  refine va_callv (va_runI (As := []) (rest := [.ref m0]) ⟨hx, hb, hml, hown, hts⟩ (c_Model_init l dC dI H.size cA cJ m0) (cwI 0 hts (gw_I k_code_Model_init) rfl rfl rfl (hts _ k_ini_Model) (hts _ k_ml_Law_42) (hts _ k_im_Model_init) rfl (by decide +kernel) ⟨(Nat.le_of_ble_eq_true rfl), (Nat.le_of_ble_eq_true rfl)⟩) ⟨xc_W_blind, fun U hU hW => ⟨rfl, by rw [hU], by rw [hU]; exact hPc, va_K.moved hW.alike (hK.sub (tys' := [(cA, .int), (cJ, .long)]) [0, 1] rfl), hDc⟩⟩ rfl rfl hl.1 rfl (lv_room (Nat.le_of_ble_eq_true rfl)) d_Law_law_12 ⟨(Nat.le_of_ble_eq_true rfl), (Nat.le_of_ble_eq_true rfl)⟩) hS (fun q _ h => hFc q h) hFc (fun M t_ H locs ht_ hvm_ hv hB hz1 hk1 hS => ?_)
  obtain ⟨ma, mS, mt, mo, mb, mg, mh, mr, hP1, hD1⟩ := hB
  rw [ht_] at hP1
  obtain ⟨hP, hD⟩ := xg_1 hP hD hk1 hFc hP1 hD1
  have hP : va_P (dC, dI) classes (dv x0 gv cl d0 h0d q0d h0u q0u h0e q0e h0p q0p h0q q0q h0o q0o h0r q0r cA cJ cW D ++ mv m0 ma mS mt mo mb mg mh mr cA cJ M) H := hP
  have hD : va_D A (dv x0 gv cl d0 h0d q0d h0u q0u h0e q0e h0p q0p h0q q0q h0o q0o h0r q0r cA cJ cW D ++ mv m0 ma mS mt mo mb mg mh mr cA cJ M) := hD
  refine lv_astore_n (lv' := [(2, .ref m0), (1, .ref x0), (0, .ref b)]) hx hb d_Law_law_15 rfl hl (by decide) rfl (fun ls hl => ?_)
  refine lv_iconst (v := nI 1) hx hb d_Law_law_16 rfl ?_
  refine xn_newJ hx hb (hts _ k_arr_long) hK hP hD hS hA 1 rfl (N := 1) (by omega) (Nat.le_of_ble_eq_true rfl) (Nat.le_of_ble_eq_true rfl) d_Law_law_17 (fun ou H hP hD hS => ?_)
  have hP : va_P (dC, dI) classes (mv m0 ma mS mt mo mb mg mh mr cA cJ M ++ (ob ou cJ (fun _ => 0) ++ dv x0 gv cl d0 h0d q0d h0u q0u h0e q0e h0p q0p h0q q0q h0o q0o h0r q0r cA cJ cW D)) H := by
    have h9 : va_P (dC, dI) classes (dv x0 gv cl d0 h0d q0d h0u q0u h0e q0e h0p q0p h0q q0q h0o q0o h0r q0r cA cJ cW D ++ (mv m0 ma mS mt mo mb mg mh mr cA cJ M ++ ob ou cJ (fun _ => 0))) H := by rw [← List.append_assoc]; exact hP
    have h8 := xz_rotP h9
    rw [List.append_assoc] at h8
    exact h8
  have hD : va_D A (mv m0 ma mS mt mo mb mg mh mr cA cJ M ++ (ob ou cJ (fun _ => 0) ++ dv x0 gv cl d0 h0d q0d h0u q0u h0e q0e h0p q0p h0q q0q h0o q0o h0r q0r cA cJ cW D)) := by
    have h9 : va_D A (dv x0 gv cl d0 h0d q0d h0u q0u h0e q0e h0p q0p h0q q0q h0o q0o h0r q0r cA cJ cW D ++ (mv m0 ma mS mt mo mb mg mh mr cA cJ M ++ ob ou cJ (fun _ => 0))) := by rw [← List.append_assoc]; exact hD
    have h8 := xz_rotD h9
    rw [List.append_assoc] at h8
    exact h8
  refine lv_astore_n (lv' := [(3, .ref ou), (2, .ref m0), (1, .ref x0), (0, .ref b)]) hx hb d_Law_law_19 rfl hl (by decide) rfl (fun ls hl => ?_)
  refine lv_iconst (v := nI 0) hx hb d_Law_law_20 rfl ?_
  refine lv_istore (lv' := [(4, .int (nI 0)), (3, .ref ou), (2, .ref m0), (1, .ref x0), (0, .ref b)]) hx hb d_Law_law_21 hl (by decide) rfl (fun ls hl => ?_)
  have hR : lw_R D M := ⟨hw.1, hv.1, by rw [hw.2.1, hv.2.1], by rw [hw.2.2.1, hv.2.2.1], by rw [hw.2.2.2.1, hv.2.2.2.1], by rw [hw.2.2.2.2.1, hv.2.2.2.2.1], by rw [hw.2.2.2.2.2, hv.2.2.2.2.2]⟩
  refine W.widen (k := 340 + 0) (n := 468547 + 6 * 0) (by omega) (by omega) ?_
  exact lw_loop l hlt hL hx hb hml hown hts hX hbl hA hbA hE dC dI x0 gv cl d0 h0d q0d h0u q0u h0e q0e h0p q0p h0q q0q h0o q0o h0r q0r cA cJ cW m0 ma mS mt mo mb mg mh mr ou hK hr hlocks hAe (L + 1) 0 D M (fun _ => 0) hR (Nat.zero_le _) (by omega) H locs hP hD hS ls (lv_sub hl [0, 1, 2, 3, 4] rfl)
