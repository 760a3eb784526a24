set_option maxHeartbeats 8000000 in
set_option maxRecDepth 100000 in
/-- setResult -/
theorem c_Desk_setResult (l : Launch) (dC : Nat → ClassId) (dI : Nat → Nat → Nat) (sz : Nat) (x0 gv cl d0 h0d q0d h0u q0u h0e q0e h0p q0p h0q q0q h0o q0o h0r q0r : Nat) (cA cJ cW : ClassId) (n : Nat) (sv : Int32) (a : Nat → Int64) (lend : Nat) (fd : Nat → Nat) (sgd : Int32) (lenu : Nat) (fu : Nat → Nat) (sgu : Int32) (lene : Nat) (fe : Nat → Nat) (sge : Int32) (lenp : Nat) (fp : Nat → Nat) (sgp : Int32) (lenq : Nat) (fq : Nat → Nat) (sgq : Int32) (leno : Nat) (fo : Nat → Nat) (sgo : Int32) (lenr : Nat) (fr : Nat → Nat) (sgr : Int32) (tw iv : Nat) (hw qw : Nat → Nat) (gg : Nat → Nat → Nat) (ln : Nat → Nat) (sn : Nat → Int32) (cc : Nat) (hcc : cc < 156) (hok : wk gg ln sn) (hod : wh_ok 26 fd lend sgd) (hnz : wh_z fd lend sgd ≠ 0) (hou : wh_ok 26 fu lenu sgu) (hoe : wh_ok 26 fe lene sge) (hfo : ∀ x, fo x < 2147483648) (hfr : ∀ x, fr x < 2147483648) (hbz : (wz gg ln sn cc).natAbs < 2 ^ 785) (hbd : (wh_z fd lend sgd).natAbs < 2 ^ 785) : Met l y_Desk_setResult w_Desk_setResult ({ frames := 5, cells := 0, slots := 0, locals := 117 }) (xc_W [.ref x0, .ref (hw cc), .ref h0d] dC dI (dw x0 gv cl d0 h0d q0d h0u q0u h0e q0e h0p q0p h0q q0q h0o q0o h0r q0r cA cJ cW n sv a lend fd sgd lenu fu sgu lene fe sge lenp fp sgp lenq fq sgq leno fo sgo lenr fr sgr tw iv hw qw gg ln sn) [(cA, .int), (cJ, .long), (cW, .object "EquationDesk$Whole")] sz) (va_Qv (S := dS) (fun u => wh_ok 26 u.fu u.lenu u.sgu ∧ wh_ok 26 u.fe u.lene u.sge ∧ (∀ x, u.fo x < 2147483648) ∧ (∀ x, u.fr x < 2147483648) ∧ lb_v u.fu u.lenu = (wz gg ln sn cc).natAbs / (Nat.gcd (wz gg ln sn cc).natAbs (wh_z fd lend sgd).natAbs) ∧ lb_v u.fe u.lene = (wh_z fd lend sgd).natAbs / (Nat.gcd (wz gg ln sn cc).natAbs (wh_z fd lend sgd).natAbs) ∧ u.sgu.toInt = (wz gg ln sn cc).sign * (wh_z fd lend sgd).sign) (fun u t => va_P (dC, dI) classes (dw x0 gv cl d0 h0d q0d h0u q0u h0e q0e h0p q0p h0q q0q h0o q0o h0r q0r cA cJ cW n sv a lend fd sgd u.lenu u.fu u.sgu u.lene u.fe u.sge lenp fp sgp lenq fq sgq u.leno u.fo u.sgo u.lenr u.fr u.sgr u.tw u.iv hw qw gg ln sn) t.heap ∧ va_D (va_A (dw x0 gv cl d0 h0d q0d h0u q0u h0e q0e h0p q0p h0q q0q h0o q0o h0r q0r cA cJ cW n sv a lend fd sgd lenu fu sgu lene fe sge lenp fp sgp lenq fq sgq leno fo sgo lenr fr sgr tw iv hw qw gg ln sn) sz) (dw x0 gv cl d0 h0d q0d h0u q0u h0e q0e h0p q0p h0q q0q h0o q0o h0r q0r cA cJ cW n sv a lend fd sgd u.lenu u.fu u.sgu u.lene u.fe u.sge lenp fp sgp lenq fq sgq u.leno u.fo u.sgo u.lenr u.fr u.sgr u.tw u.iv hw qw gg ln sn)) (va_A (dw x0 gv cl d0 h0d q0d h0u q0u h0e q0e h0p q0p h0q q0q h0o q0o h0r q0r cA cJ cW n sv a lend fd sgd lenu fu sgu lene fe sge lenp fp sgp lenq fq sgq leno fo sgo lenr fr sgr tw iv hw qw gg ln sn) sz)) 0 0 (va_A (dw x0 gv cl d0 h0d q0d h0u q0u h0e q0e h0p q0p h0q q0q h0o q0o h0r q0r cA cJ cW n sv a lend fd sgd lenu fu sgu lene fe sge lenp fp sgp lenq fq sgq leno fo sgo lenr fr sgr tw iv hw qw gg ln sn) sz) := by
  refine Met.ofW (cc := b_Desk_setResult) (maxL := 3) (ret := none) (by decide) rfl ?_
  intro p e s m args below meth c s₁ B hml hv
  obtain ⟨rfl, hsz, hP, hK, hD0⟩ := hv
  have hx := B.exec
  have hb := B.bytes
  have hr := B.returns
  have hts : ∀ w ∈ gw_tbl, w.before ([.ref x0, .ref (hw cc), .ref h0d] : List Value).toArray s = true := fun w h => atoms_spec (ws := w_Desk_setResult) B.pre w (List.mem_cons_of_mem _ h)
  have hown : s.vm.findClass R_Desk = some m.cls := findClass_of_methodNamed B.named
  have hlocks := B.notSynchronized
  subst hsz
  have hD := hD0.self (sz := s.heap.size)
  generalize hAe : va_A (dw x0 gv cl d0 h0d q0d h0u q0u h0e q0e h0p q0p h0q q0q h0o q0o h0r q0r cA cJ cW n sv a lend fd sgd lenu fu sgu lene fe sge lenp fp sgp lenq fq sgq leno fo sgo lenr fr sgr tw iv hw qw gg ln sn) s.heap.size = A at hD ⊢
  have hA : ∀ q : Nat, s.heap.size ≤ q → A q := fun q h => by rw [← hAe]; exact Or.inr h
  have hS : va_S A s.heap s.heap [] := va_S.rf
  have hl := lv_entry ([.ref x0, .ref (hw cc), .ref h0d]) (n := 3) (Nat.le_of_ble_eq_true rfl)
  rw [lg_entry_eq]
  generalize (lg_sl ([.ref x0, .ref (hw cc), .ref h0d]) ++ List.replicate (3 - (lg_sl ([.ref x0, .ref (hw cc), .ref h0d])).length) Slot.unset).toArray = ls at hl ⊢
  have hl : lv_has ls 3 [(0, .ref x0), (1, .ref (hw cc)), (2, .ref h0d)] := hl
  have o1 := hok _ hcc
  have hbZ : lb_v (gg cc) (ln cc) < 2 ^ 785 := by rw [← wh_abs o1]; exact hbz
  have hbD : lb_v fd lend < 2 ^ 785 := by rw [← wh_abs hod]; exact hbd
  refine lv_aload_n hx hb d_Desk_setResult_0 rfl (lv_at hl 0 rfl) ?_
  refine va_get (D := (dC, dI)) (ci := 0) (v := .ref h0u) (C := R_Desk) (T := F_Desk) (N := 10) hx hb hts i_Desk hown hK hP 0 rfl rfl 5 (by decide) (hts _ k_fl_Desk_34) (fun _ h9 => h9) rfl d_Desk_setResult_1 ?_
  refine lv_aload_n hx hb d_Desk_setResult_4 rfl (lv_at hl 1 rfl) ?_
  have hq_2 : (dw x0 gv cl d0 h0d q0d h0u q0u h0e q0e h0p q0p h0q q0q h0o q0o h0r q0r cA cJ cW n sv a lend fd sgd lenu fu sgu lene fe sge lenp fp sgp lenq fq sgq leno fo sgo lenr fr sgr tw iv hw qw gg ln sn)[18 + 2 * cc]? = some (hw cc, .inr (1, [.ref (qw cc), .int (nI (ln cc)), .int (sn cc)])) := (cw_w rfl hcc)
  have hq_3 : (dw x0 gv cl d0 h0d q0d h0u q0u h0e q0e h0p q0p h0q q0q h0o q0o h0r q0r cA cJ cW n sv a lend fd sgd lenu fu sgu lene fe sge lenp fp sgp lenq fq sgq leno fo sgo lenr fr sgr tw iv hw qw gg ln sn)[18 + 2 * cc + 1]? = some (qw cc, .inl (cA, 26, .inl (xn_f (gg cc)))) := (cw_q rfl hcc)
  have hs_ : ([5, 6, 18 + 2 * cc, 18 + 2 * cc + 1] : List Nat).map (fun i => (dw x0 gv cl d0 h0d q0d h0u q0u h0e q0e h0p q0p h0q q0q h0o q0o h0r q0r cA cJ cW n sv a lend fd sgd lenu fu sgu lene fe sge lenp fp sgp lenq fq sgq leno fo sgo lenr fr sgr tw iv hw qw gg ln sn)[i]?) = ([(h0u, .inr (1, [.ref q0u, .int (nI lenu), .int sgu])), (q0u, .inl (cA, 26, .inl (xn_f fu))), (hw cc, .inr (1, [.ref (qw cc), .int (nI (ln cc)), .int (sn cc)])), (qw cc, .inl (cA, 26, .inl (xn_f (gg cc))))]).map some := by
    simp only [List.map_cons, List.map_nil]
    rw [hq_2, hq_3]
    rfl
  have hPc := xp_P hP [5, 6, 18 + 2 * cc, 18 + 2 * cc + 1] hs_
  have hDc := (hD.sub [5, 6, 18 + 2 * cc, 18 + 2 * cc + 1] (by simp only [va_nd, List.mem_cons, List.not_mem_nil, or_false, not_false_eq_true, decide_true, Bool.and_true, Bool.and_eq_true, decide_eq_true_eq, not_or]; omega) hs_).weaken (B := fun _ => True) (fun _ _ _ _ => trivial)
  have hFc := va_free hD hS hA [5, 6, 18 + 2 * cc, 18 + 2 * cc + 1] hs_
  refine va_callv (va_runV (As := [.ref (hw cc)]) (rest := []) ⟨hx, hb, hml, hown, hts⟩ (c_Whole_setWhole l dC dI s.heap.size cA h0u q0u 26 lenu fu sgu (hw cc) (qw cc) 26 (ln cc) (gg cc) (sn cc) (by decide) (by decide) o1.1 o1.1) (cwV 1 hts (gw_V k_ml_Desk_88 k_im_Whole_setWhole k_sel_Whole_setWhole k_ini_Whole k_code_Whole_setWhole) rfl rfl rfl (by decide +kernel) ⟨Nat.le_of_ble_eq_true rfl, Nat.le_of_ble_eq_true rfl⟩) ⟨xc_W_blind, va_recv hK hP (ci := 1) (q0 := 5) rfl rfl, fun U hU hW => ⟨rfl, by rw [hU], by rw [hU]; exact hPc, va_K.moved hW.alike (hK.sub (tys' := [(cA, .int)]) [0] rfl), hDc⟩⟩ rfl rfl hl.1 rfl (lv_room (Nat.le_of_ble_eq_true rfl)) d_Desk_setResult_5 ⟨Nat.zero_le _, Nat.zero_le _⟩) hS (fun q _ h => hFc q h) hFc (fun u t_ H locs ht_ hvm_ w1 hB hz1 hk1 hS => ?_)
  obtain ⟨U1, lu1, su1⟩ := u
  try dsimp only at w1
  rw [ht_] at hB
  obtain ⟨hP, hD⟩ := xj_4 5 6 (18 + 2 * cc) (18 + 2 * cc + 1) hP hD rfl rfl (cw_w rfl hcc) (cw_q rfl hcc) hk1 hB
  have h8 : va_P (dC, dI) classes (((dx x0 gv cl d0 h0d q0d h0u q0u h0e q0e h0p q0p h0q q0q h0o q0o h0r q0r cA cJ cW n sv a lend fd sgd lu1 U1 su1 lene fe sge lenp fp sgp lenq fq sgq leno fo sgo lenr fr sgr tw iv (fun j => some (hw j)) ++ cw (cf cA hw qw gg ln sn)).set (18 + 2 * cc) (hw cc, .inr (1, [.ref (qw cc), .int (nI (ln cc)), .int (sn cc)]))).set (18 + 2 * cc + 1) (qw cc, .inl (cA, 26, .inl (xn_f (gg cc))))) H := hP
  have h9 : va_D A (((dx x0 gv cl d0 h0d q0d h0u q0u h0e q0e h0p q0p h0q q0q h0o q0o h0r q0r cA cJ cW n sv a lend fd sgd lu1 U1 su1 lene fe sge lenp fp sgp lenq fq sgq leno fo sgo lenr fr sgr tw iv (fun j => some (hw j)) ++ cw (cf cA hw qw gg ln sn)).set (18 + 2 * cc) (hw cc, .inr (1, [.ref (qw cc), .int (nI (ln cc)), .int (sn cc)]))).set (18 + 2 * cc + 1) (qw cc, .inl (cA, 26, .inl (xn_f (gg cc))))) := hD
  have e9 := cw_keep (X := dx x0 gv cl d0 h0d q0d h0u q0u h0e q0e h0p q0p h0q q0q h0o q0o h0r q0r cA cJ cW n sv a lend fd sgd lu1 U1 su1 lene fe sge lenp fp sgp lenq fq sgq leno fo sgo lenr fr sgr tw iv (fun j => some (hw j))) (cA := cA) (hw := hw) (qw := qw) (gg := gg) (ln := ln) (sn := sn) (n := 18) (j := cc) rfl
  rw [e9] at h8 h9
  have hP : va_P (dC, dI) classes (dw x0 gv cl d0 h0d q0d h0u q0u h0e q0e h0p q0p h0q q0q h0o q0o h0r q0r cA cJ cW n sv a lend fd sgd lu1 U1 su1 lene fe sge lenp fp sgp lenq fq sgq leno fo sgo lenr fr sgr tw iv hw qw gg ln sn) H := h8
  have hD : va_D A (dw x0 gv cl d0 h0d q0d h0u q0u h0e q0e h0p q0p h0q q0q h0o q0o h0r q0r cA cJ cW n sv a lend fd sgd lu1 U1 su1 lene fe sge lenp fp sgp lenq fq sgq leno fo sgo lenr fr sgr tw iv hw qw gg ln sn) := h9
  obtain ⟨e1, e2, e3⟩ := w1
  have e1 := e1.symm
  have e2 := e2.symm
  subst e1
  subst e2
  obtain ⟨-, c2, c3⟩ := cp_n o1 o1.1 hou.2.1 e3
  have v1 : wh_z U1 (ln cc) (sn cc) = wz gg ln sn cc := by unfold wz wh_z; rw [c2]
  refine lv_aload_n hx hb d_Desk_setResult_8 rfl (lv_at hl 1 rfl) ?_
  refine va_get (D := (dC, dI)) (ci := 1) (v := .int (sn cc)) (C := R_Whole) (T := F_Whole) (N := 3) hx hb hts i_Whole hown hK hP (18 + 2 * cc) (cw_w rfl hcc) rfl 2 (by decide) (hts _ k_fl_Desk_85) (fun _ h9 => h9) rfl d_Desk_setResult_9 ?_
  refine lv_if_ne (tgt := 24) hx hb d_Desk_setResult_12 (by decide) (fun hs0 => ?_) (fun hs0 => ?_)
  rotate_left
  · refine lv_aload_n hx hb d_Desk_setResult_15 rfl (lv_at hl 0 rfl) ?_
    refine va_get (D := (dC, dI)) (ci := 0) (v := .ref h0e) (C := R_Desk) (T := F_Desk) (N := 10) hx hb hts i_Desk hown hK hP 0 rfl rfl 6 (by decide) (hts _ k_fl_Desk_37) (fun _ h9 => h9) rfl d_Desk_setResult_16 ?_
    refine lv_lconst (v := lN 1) hx hb d_Desk_setResult_19 rfl ?_
    have hs_ : ([7, 8] : List Nat).map (fun i => (dw x0 gv cl d0 h0d q0d h0u q0u h0e q0e h0p q0p h0q q0q h0o q0o h0r q0r cA cJ cW n sv a lend fd sgd (ln cc) U1 (sn cc) lene fe sge lenp fp sgp lenq fq sgq leno fo sgo lenr fr sgr tw iv hw qw gg ln sn)[i]?) = ([(h0e, .inr (1, [.ref q0e, .int (nI lene), .int sge])), (q0e, .inl (cA, 26, .inl (xn_f fe)))]).map some := rfl
    have hPc := xp_P hP [7, 8] hs_
    have hDc := (hD.sub [7, 8] (by decide) hs_).weaken (B := fun _ => True) (fun _ _ _ _ => trivial)
    have hFc := va_free hD hS hA [7, 8] hs_
    refine va_callv (va_runV (As := [.long (lN 1)]) (rest := []) ⟨hx, hb, hml, hown, hts⟩ (c_Whole_setLong l dC dI H.size cA h0e q0e 26 lene fe sge (lN 1) (by decide) (by decide) hoe.2.1) (cwV 1 hts (gw_V k_ml_Desk_53 k_im_Whole_setLong k_sel_Whole_setLong k_ini_Whole k_code_Whole_setLong) rfl rfl rfl (by decide +kernel) ⟨Nat.le_of_ble_eq_true rfl, Nat.le_of_ble_eq_true rfl⟩) ⟨xc_W_blind, va_recv hK hP (ci := 1) (q0 := 7) rfl rfl, fun U hU hW => ⟨rfl, by rw [hU], by rw [hU]; exact hPc, va_K.moved hW.alike (hK.sub (tys' := [(cA, .int)]) [0] rfl), hDc⟩⟩ rfl rfl hl.1 rfl (lv_room (Nat.le_of_ble_eq_true rfl)) d_Desk_setResult_20 ⟨Nat.zero_le _, Nat.zero_le _⟩) hS (fun q _ h => hFc q h) hFc (fun u t_ H locs ht_ hvm_ w2 hB hz1 hk1 hS => ?_)
    obtain ⟨E1, le1, se1⟩ := u
    try dsimp only at w2
    rw [ht_] at hB
    obtain ⟨hP, hD⟩ := xj_2 7 8 hP hD rfl rfl hk1 hB
    have h8 : va_P (dC, dI) classes (dx x0 gv cl d0 h0d q0d h0u q0u h0e q0e h0p q0p h0q q0q h0o q0o h0r q0r cA cJ cW n sv a lend fd sgd (ln cc) U1 (sn cc) le1 E1 se1 lenp fp sgp lenq fq sgq leno fo sgo lenr fr sgr tw iv (fun j => some (hw j)) ++ cw (cf cA hw qw gg ln sn)) H := hP
    have h9 : va_D A (dx x0 gv cl d0 h0d q0d h0u q0u h0e q0e h0p q0p h0q q0q h0o q0o h0r q0r cA cJ cW n sv a lend fd sgd (ln cc) U1 (sn cc) le1 E1 se1 lenp fp sgp lenq fq sgq leno fo sgo lenr fr sgr tw iv (fun j => some (hw j)) ++ cw (cf cA hw qw gg ln sn)) := hD
    have hP : va_P (dC, dI) classes (dw x0 gv cl d0 h0d q0d h0u q0u h0e q0e h0p q0p h0q q0q h0o q0o h0r q0r cA cJ cW n sv a lend fd sgd (ln cc) U1 (sn cc) le1 E1 se1 lenp fp sgp lenq fq sgq leno fo sgo lenr fr sgr tw iv hw qw gg ln sn) H := h8
    have hD : va_D A (dw x0 gv cl d0 h0d q0d h0u q0u h0e q0e h0p q0p h0q q0q h0o q0o h0r q0r cA cJ cW n sv a lend fd sgd (ln cc) U1 (sn cc) le1 E1 se1 lenp fp sgp lenq fq sgq leno fo sgo lenr fr sgr tw iv hw qw gg ln sn) := h9
    have hz0 : wz gg ln sn cc = 0 := (wh_z0 o1).mpr hs0
    have w2v : wh_z E1 le1 se1 = 1 := w2.2
    have hpost : wh_ok 26 U1 (ln cc) (sn cc) ∧ wh_ok 26 E1 le1 se1 ∧ (∀ x, fo x < 2147483648) ∧ (∀ x, fr x < 2147483648) ∧ lb_v U1 (ln cc) = (wz gg ln sn cc).natAbs / (Nat.gcd (wz gg ln sn cc).natAbs (wh_z fd lend sgd).natAbs) ∧ lb_v E1 le1 = (wh_z fd lend sgd).natAbs / (Nat.gcd (wz gg ln sn cc).natAbs (wh_z fd lend sgd).natAbs) ∧ (sn cc).toInt = (wz gg ln sn cc).sign * (wh_z fd lend sgd).sign := by
      refine ⟨c3, w2.1, hfo, hfr, ?_, ?_, ?_⟩
      · rw [← wh_abs c3, v1, hz0]; show 0 = 0 / _; rw [Nat.zero_div]
      · rw [← wh_abs w2.1, w2v, hz0]; show 1 = _ / Nat.gcd 0 _; rw [Nat.gcd_zero_left, Nat.div_self (Int.natAbs_pos.mpr hnz)]
      · rw [hz0, hs0]; rw [Int.sign_zero, Int.zero_mul]; decide
    exact W.vret hx hb hr (fun T_ ht_ hW_ => ⟨⟨(⟨n, sv, a, lend, fd, sgd, ln cc, U1, sn cc, le1, E1, se1, lenp, fp, sgp, lenq, fq, sgq, leno, fo, sgo, lenr, fr, sgr, tw, iv, hw, qw, gg, ln, sn⟩ : dS), rfl, hpost, by show va_P (dC, dI) classes _ T_.heap; rw [ht_]; exact hP, hD⟩, hS.F ht_⟩) hS.2.2 d_Desk_setResult_23
  have hznz : wz gg ln sn cc ≠ 0 := fun z => hs0 ((wh_z0 o1).mp z)
  refine lv_aload_n hx hb d_Desk_setResult_24 rfl (lv_at hl 0 rfl) ?_
  refine va_get (D := (dC, dI)) (ci := 0) (v := .ref h0e) (C := R_Desk) (T := F_Desk) (N := 10) hx hb hts i_Desk hown hK hP 0 rfl rfl 6 (by decide) (hts _ k_fl_Desk_37) (fun _ h9 => h9) rfl d_Desk_setResult_25 ?_
  refine lv_aload_n hx hb d_Desk_setResult_28 rfl (lv_at hl 2 rfl) ?_
  have hs_ : ([7, 8, 3, 4] : List Nat).map (fun i => (dw x0 gv cl d0 h0d q0d h0u q0u h0e q0e h0p q0p h0q q0q h0o q0o h0r q0r cA cJ cW n sv a lend fd sgd (ln cc) U1 (sn cc) lene fe sge lenp fp sgp lenq fq sgq leno fo sgo lenr fr sgr tw iv hw qw gg ln sn)[i]?) = ([(h0e, .inr (1, [.ref q0e, .int (nI lene), .int sge])), (q0e, .inl (cA, 26, .inl (xn_f fe))), (h0d, .inr (1, [.ref q0d, .int (nI lend), .int sgd])), (q0d, .inl (cA, 26, .inl (xn_f fd)))]).map some := rfl
  have hPc := xp_P hP [7, 8, 3, 4] hs_
  have hDc := (hD.sub [7, 8, 3, 4] (by decide) hs_).weaken (B := fun _ => True) (fun _ _ _ _ => trivial)
  have hFc := va_free hD hS hA [7, 8, 3, 4] hs_
  refine va_callv (va_runV (As := [.ref h0d]) (rest := []) ⟨hx, hb, hml, hown, hts⟩ (c_Whole_setWhole l dC dI H.size cA h0e q0e 26 lene fe sge h0d q0d 26 lend fd sgd (by decide) (by decide) hod.1 hod.1) (cwV 1 hts (gw_V k_ml_Desk_88 k_im_Whole_setWhole k_sel_Whole_setWhole k_ini_Whole k_code_Whole_setWhole) rfl rfl rfl (by decide +kernel) ⟨Nat.le_of_ble_eq_true rfl, Nat.le_of_ble_eq_true rfl⟩) ⟨xc_W_blind, va_recv hK hP (ci := 1) (q0 := 7) rfl rfl, fun U hU hW => ⟨rfl, by rw [hU], by rw [hU]; exact hPc, va_K.moved hW.alike (hK.sub (tys' := [(cA, .int)]) [0] rfl), hDc⟩⟩ rfl rfl hl.1 rfl (lv_room (Nat.le_of_ble_eq_true rfl)) d_Desk_setResult_29 ⟨Nat.zero_le _, Nat.zero_le _⟩) hS (fun q _ h => hFc q h) hFc (fun u t_ H locs ht_ hvm_ w1 hB hz1 hk1 hS => ?_)
  obtain ⟨E1, le1, se1⟩ := u
  try dsimp only at w1
  rw [ht_] at hB
  obtain ⟨hP, hD⟩ := xj_4 7 8 3 4 hP hD rfl rfl rfl rfl hk1 hB
  have h8 : va_P (dC, dI) classes (dx x0 gv cl d0 h0d q0d h0u q0u h0e q0e h0p q0p h0q q0q h0o q0o h0r q0r cA cJ cW n sv a lend fd sgd (ln cc) U1 (sn cc) le1 E1 se1 lenp fp sgp lenq fq sgq leno fo sgo lenr fr sgr tw iv (fun j => some (hw j)) ++ cw (cf cA hw qw gg ln sn)) H := hP
  have h9 : va_D A (dx x0 gv cl d0 h0d q0d h0u q0u h0e q0e h0p q0p h0q q0q h0o q0o h0r q0r cA cJ cW n sv a lend fd sgd (ln cc) U1 (sn cc) le1 E1 se1 lenp fp sgp lenq fq sgq leno fo sgo lenr fr sgr tw iv (fun j => some (hw j)) ++ cw (cf cA hw qw gg ln sn)) := hD
  have hP : va_P (dC, dI) classes (dw x0 gv cl d0 h0d q0d h0u q0u h0e q0e h0p q0p h0q q0q h0o q0o h0r q0r cA cJ cW n sv a lend fd sgd (ln cc) U1 (sn cc) le1 E1 se1 lenp fp sgp lenq fq sgq leno fo sgo lenr fr sgr tw iv hw qw gg ln sn) H := h8
  have hD : va_D A (dw x0 gv cl d0 h0d q0d h0u q0u h0e q0e h0p q0p h0q q0q h0o q0o h0r q0r cA cJ cW n sv a lend fd sgd (ln cc) U1 (sn cc) le1 E1 se1 lenp fp sgp lenq fq sgq leno fo sgo lenr fr sgr tw iv hw qw gg ln sn) := h9
  obtain ⟨e1, e2, e3⟩ := w1
  have e1 := e1.symm
  have e2 := e2.symm
  subst e1
  subst e2
  obtain ⟨-, c4, c5⟩ := cp_n hod hod.1 hoe.2.1 e3
  have v2 : wh_z E1 lend sgd = wh_z fd lend sgd := by unfold wh_z; rw [c4]
  refine lv_aload_n hx hb d_Desk_setResult_32 rfl (lv_at hl 0 rfl) ?_
  refine va_get (D := (dC, dI)) (ci := 0) (v := .ref d0) (C := R_Desk) (T := F_Desk) (N := 10) hx hb hts i_Desk hown hK hP 0 rfl rfl 9 (by decide) (hts _ k_fl_Desk_49) (fun _ h9 => h9) rfl d_Desk_setResult_33 ?_
  refine lv_aload_n hx hb d_Desk_setResult_36 rfl (lv_at hl 1 rfl) ?_
  refine lv_aload_n hx hb d_Desk_setResult_37 rfl (lv_at hl 2 rfl) ?_
  have nz1 : lb_v (gg cc) (ln cc) ≠ 0 := by rw [← wh_abs o1]; exact Int.natAbs_ne_zero.mpr hznz
  have nz2 : lb_v fd lend ≠ 0 := by rw [← wh_abs hod]; exact Int.natAbs_ne_zero.mpr hnz
  have hpr : lb_v (gg cc) (ln cc) * lb_v fd lend < 2 ^ 1611 := by
    have h9 := Nat.mul_lt_mul'' hbZ hbD
    rw [← Nat.pow_add] at h9
    exact Nat.lt_of_lt_of_le h9 (Nat.pow_le_pow_right (by decide) (by decide))
  have hq_5 : (dw x0 gv cl d0 h0d q0d h0u q0u h0e q0e h0p q0p h0q q0q h0o q0o h0r q0r cA cJ cW n sv a lend fd sgd (ln cc) U1 (sn cc) lend E1 sgd lenp fp sgp lenq fq sgq leno fo sgo lenr fr sgr tw iv hw qw gg ln sn)[18 + 2 * cc]? = some (hw cc, .inr (1, [.ref (qw cc), .int (nI (ln cc)), .int (sn cc)])) := (cw_w rfl hcc)
  have hq_6 : (dw x0 gv cl d0 h0d q0d h0u q0u h0e q0e h0p q0p h0q q0q h0o q0o h0r q0r cA cJ cW n sv a lend fd sgd (ln cc) U1 (sn cc) lend E1 sgd lenp fp sgp lenq fq sgq leno fo sgo lenr fr sgr tw iv hw qw gg ln sn)[18 + 2 * cc + 1]? = some (qw cc, .inl (cA, 26, .inl (xn_f (gg cc)))) := (cw_q rfl hcc)
  have hs_ : ([13, 14, 15, 16, 17, 18 + 2 * cc, 18 + 2 * cc + 1, 3, 4] : List Nat).map (fun i => (dw x0 gv cl d0 h0d q0d h0u q0u h0e q0e h0p q0p h0q q0q h0o q0o h0r q0r cA cJ cW n sv a lend fd sgd (ln cc) U1 (sn cc) lend E1 sgd lenp fp sgp lenq fq sgq leno fo sgo lenr fr sgr tw iv hw qw gg ln sn)[i]?) = ([(d0, .inr (2, [.ref h0o, .ref h0r, .int (nI tw), .int (nI iv)])), (h0o, .inr (1, [.ref q0o, .int (nI leno), .int sgo])), (q0o, .inl (cA, 26, .inl (xn_f fo))), (h0r, .inr (1, [.ref q0r, .int (nI lenr), .int sgr])), (q0r, .inl (cA, 26, .inl (xn_f fr))), (hw cc, .inr (1, [.ref (qw cc), .int (nI (ln cc)), .int (sn cc)])), (qw cc, .inl (cA, 26, .inl (xn_f (gg cc)))), (h0d, .inr (1, [.ref q0d, .int (nI lend), .int sgd])), (q0d, .inl (cA, 26, .inl (xn_f fd)))]).map some := by
    simp only [List.map_cons, List.map_nil]
    rw [hq_5, hq_6]
    rfl
  have hPc := xp_P hP [13, 14, 15, 16, 17, 18 + 2 * cc, 18 + 2 * cc + 1, 3, 4] hs_
  have hDc := (hD.sub [13, 14, 15, 16, 17, 18 + 2 * cc, 18 + 2 * cc + 1, 3, 4] (by simp only [va_nd, List.mem_cons, List.not_mem_nil, or_false, not_false_eq_true, decide_true, Bool.and_true, Bool.and_eq_true, decide_eq_true_eq, not_or]; omega) hs_).weaken (B := fun _ => True) (fun _ _ _ _ => trivial)
  have hFc := va_free hD hS hA [13, 14, 15, 16, 17, 18 + 2 * cc, 18 + 2 * cc + 1, 3, 4] hs_
  refine va_callv (va_runV (As := [.ref (hw cc), .ref h0d]) (rest := []) ⟨hx, hb, hml, hown, hts⟩ (c_Divisor_setCommon l dC dI H.size cA d0 h0r tw iv h0o q0o 26 leno fo sgo q0r 26 lenr fr sgr (hw cc) (qw cc) 26 (ln cc) (gg cc) (sn cc) h0d q0d 26 lend fd sgd (by decide) (by decide) (by decide) (by decide) hfo hfr o1 hod nz1 nz2 o1.1 hod.1 hpr) (cwV 2 hts (gw_V k_ml_Desk_128 k_im_Divisor_setCommon k_sel_Divisor_setCommon k_ini_Divisor k_code_Divisor_setCommon) rfl rfl rfl (by decide +kernel) ⟨Nat.le_of_ble_eq_true rfl, Nat.le_of_ble_eq_true rfl⟩) ⟨xc_W_blind, va_recv hK hP (ci := 2) (q0 := 13) rfl rfl, fun U hU hW => ⟨rfl, by rw [hU], by rw [hU]; exact hPc, va_K.moved hW.alike (hK.sub (tys' := [(cA, .int)]) [0] rfl), hDc⟩⟩ rfl rfl hl.1 rfl (lv_room (Nat.le_of_ble_eq_true rfl)) d_Desk_setResult_38 ⟨Nat.zero_le _, Nat.zero_le _⟩) hS (fun q _ h => hFc q h) hFc (fun u t_ H locs ht_ hvm_ w2 hB hz1 hk1 hS => ?_)
  obtain ⟨tw2, iv2, O2, lo2, R2, lr2⟩ := u
  try dsimp only at w2
  rw [ht_] at hB
  obtain ⟨hP, hD⟩ := xj_9 13 14 15 16 17 (18 + 2 * cc) (18 + 2 * cc + 1) 3 4 hP hD rfl rfl rfl rfl rfl (cw_w rfl hcc) (cw_q rfl hcc) rfl rfl hk1 hB
  have h8 : va_P (dC, dI) classes (((((dx x0 gv cl d0 h0d q0d h0u q0u h0e q0e h0p q0p h0q q0q h0o q0o h0r q0r cA cJ cW n sv a lend fd sgd (ln cc) U1 (sn cc) lend E1 sgd lenp fp sgp lenq fq sgq lo2 O2 1 lr2 R2 sgd tw2 iv2 (fun j => some (hw j)) ++ cw (cf cA hw qw gg ln sn)).set (18 + 2 * cc) (hw cc, .inr (1, [.ref (qw cc), .int (nI (ln cc)), .int (sn cc)]))).set (18 + 2 * cc + 1) (qw cc, .inl (cA, 26, .inl (xn_f (gg cc))))).set (3) (h0d, .inr (1, [.ref q0d, .int (nI lend), .int sgd]))).set (4) (q0d, .inl (cA, 26, .inl (xn_f fd)))) H := hP
  have h9 : va_D A (((((dx x0 gv cl d0 h0d q0d h0u q0u h0e q0e h0p q0p h0q q0q h0o q0o h0r q0r cA cJ cW n sv a lend fd sgd (ln cc) U1 (sn cc) lend E1 sgd lenp fp sgp lenq fq sgq lo2 O2 1 lr2 R2 sgd tw2 iv2 (fun j => some (hw j)) ++ cw (cf cA hw qw gg ln sn)).set (18 + 2 * cc) (hw cc, .inr (1, [.ref (qw cc), .int (nI (ln cc)), .int (sn cc)]))).set (18 + 2 * cc + 1) (qw cc, .inl (cA, 26, .inl (xn_f (gg cc))))).set (3) (h0d, .inr (1, [.ref q0d, .int (nI lend), .int sgd]))).set (4) (q0d, .inl (cA, 26, .inl (xn_f fd)))) := hD
  have e9 := cw_keep (X := dx x0 gv cl d0 h0d q0d h0u q0u h0e q0e h0p q0p h0q q0q h0o q0o h0r q0r cA cJ cW n sv a lend fd sgd (ln cc) U1 (sn cc) lend E1 sgd lenp fp sgp lenq fq sgq lo2 O2 1 lr2 R2 sgd tw2 iv2 (fun j => some (hw j))) (cA := cA) (hw := hw) (qw := qw) (gg := gg) (ln := ln) (sn := sn) (n := 18) (j := cc) rfl
  rw [e9] at h8 h9
  have hP : va_P (dC, dI) classes (dw x0 gv cl d0 h0d q0d h0u q0u h0e q0e h0p q0p h0q q0q h0o q0o h0r q0r cA cJ cW n sv a lend fd sgd (ln cc) U1 (sn cc) lend E1 sgd lenp fp sgp lenq fq sgq lo2 O2 1 lr2 R2 sgd tw2 iv2 hw qw gg ln sn) H := h8
  have hD : va_D A (dw x0 gv cl d0 h0d q0d h0u q0u h0e q0e h0p q0p h0q q0q h0o q0o h0r q0r cA cJ cW n sv a lend fd sgd (ln cc) U1 (sn cc) lend E1 sgd lenp fp sgp lenq fq sgq lo2 O2 1 lr2 R2 sgd tw2 iv2 hw qw gg ln sn) := h9
  obtain ⟨y1, y2, y3, y4, y5, y6, y7⟩ := w2
  rw [← wh_abs o1, ← wh_abs hod] at y6
  have y6 : lb_v O2 lo2 * 2 ^ tw2 = Nat.gcd (wz gg ln sn cc).natAbs (wh_z fd lend sgd).natAbs := y6
  obtain ⟨gd, egd⟩ : ∃ gd, gd = Nat.gcd (wz gg ln sn cc).natAbs (wh_z fd lend sgd).natAbs := ⟨_, rfl⟩
  rw [← egd] at y6
  have hgp : 0 < gd := by rw [egd]; exact Nat.gcd_pos_of_pos_right _ (Int.natAbs_pos.mpr hnz)
  obtain ⟨Qn, hQn⟩ := rs_dv (z := wz gg ln sn cc) (g := gd) (by rw [egd]; exact Nat.gcd_dvd_left _ _)
  obtain ⟨Qd, hQd⟩ := rs_dv (z := wh_z fd lend sgd) (g := gd) (by rw [egd]; exact Nat.gcd_dvd_right _ _)
  refine lv_aload_n hx hb d_Desk_setResult_41 rfl (lv_at hl 0 rfl) ?_
  refine va_get (D := (dC, dI)) (ci := 0) (v := .ref d0) (C := R_Desk) (T := F_Desk) (N := 10) hx hb hts i_Desk hown hK hP 0 rfl rfl 9 (by decide) (hts _ k_fl_Desk_49) (fun _ h9 => h9) rfl d_Desk_setResult_42 ?_
  refine lv_aload_n hx hb d_Desk_setResult_45 rfl (lv_at hl 0 rfl) ?_
  refine va_get (D := (dC, dI)) (ci := 0) (v := .ref h0u) (C := R_Desk) (T := F_Desk) (N := 10) hx hb hts i_Desk hown hK hP 0 rfl rfl 5 (by decide) (hts _ k_fl_Desk_34) (fun _ h9 => h9) rfl d_Desk_setResult_46 ?_
  have hs_ : ([13, 14, 15, 5, 6] : List Nat).map (fun i => (dw x0 gv cl d0 h0d q0d h0u q0u h0e q0e h0p q0p h0q q0q h0o q0o h0r q0r cA cJ cW n sv a lend fd sgd (ln cc) U1 (sn cc) lend E1 sgd lenp fp sgp lenq fq sgq lo2 O2 1 lr2 R2 sgd tw2 iv2 hw qw gg ln sn)[i]?) = ([(d0, .inr (2, [.ref h0o, .ref h0r, .int (nI tw2), .int (nI iv2)])), (h0o, .inr (1, [.ref q0o, .int (nI lo2), .int 1])), (q0o, .inl (cA, 26, .inl (xn_f O2))), (h0u, .inr (1, [.ref q0u, .int (nI (ln cc)), .int (sn cc)])), (q0u, .inl (cA, 26, .inl (xn_f U1)))]).map some := rfl
  have hPc := xp_P hP [13, 14, 15, 5, 6] hs_
  have hDc := (hD.sub [13, 14, 15, 5, 6] (by decide) hs_).weaken (B := fun _ => True) (fun _ _ _ _ => trivial)
  have hFc := va_free hD hS hA [13, 14, 15, 5, 6] hs_
  refine va_callv (va_runV (As := [.ref h0u]) (rest := []) ⟨hx, hb, hml, hown, hts⟩ (c_Divisor_divide l dC dI H.size cA d0 h0r tw2 iv2 h0o q0o 26 lo2 O2 1 h0u q0u 26 (ln cc) U1 (sn cc) Qn (by decide) (by decide) y1 y2 y3 y4 (Or.inl rfl) c3 y5 (by rw [v1, y6, wh_t1, Int.one_mul]; exact hQn)) (cwV 1 hts (gw_V k_ml_Desk_125 k_im_Divisor_divide k_sel_Divisor_divide k_ini_Divisor k_code_Divisor_divide) rfl rfl rfl (by decide +kernel) ⟨Nat.le_of_ble_eq_true rfl, Nat.le_of_ble_eq_true rfl⟩) ⟨xc_W_blind, va_recv hK hP (ci := 2) (q0 := 13) rfl rfl, fun U hU hW => ⟨rfl, by rw [hU], by rw [hU]; exact hPc, va_K.moved hW.alike (hK.sub (tys' := [(cA, .int)]) [0] rfl), hDc⟩⟩ rfl rfl hl.1 rfl (lv_room (Nat.le_of_ble_eq_true rfl)) d_Desk_setResult_49 ⟨Nat.zero_le _, Nat.zero_le _⟩) hS (fun q _ h => hFc q h) hFc (fun u t_ H locs ht_ hvm_ w3 hB hz1 hk1 hS => ?_)
  obtain ⟨U2, lu2, su2⟩ := u
  try dsimp only at w3
  rw [ht_] at hB
  obtain ⟨hP, hD⟩ := xj_5 13 14 15 5 6 hP hD rfl rfl rfl rfl rfl hk1 hB
  have h8 : va_P (dC, dI) classes (dx x0 gv cl d0 h0d q0d h0u q0u h0e q0e h0p q0p h0q q0q h0o q0o h0r q0r cA cJ cW n sv a lend fd sgd lu2 U2 su2 lend E1 sgd lenp fp sgp lenq fq sgq lo2 O2 1 lr2 R2 sgd tw2 iv2 (fun j => some (hw j)) ++ cw (cf cA hw qw gg ln sn)) H := hP
  have h9 : va_D A (dx x0 gv cl d0 h0d q0d h0u q0u h0e q0e h0p q0p h0q q0q h0o q0o h0r q0r cA cJ cW n sv a lend fd sgd lu2 U2 su2 lend E1 sgd lenp fp sgp lenq fq sgq lo2 O2 1 lr2 R2 sgd tw2 iv2 (fun j => some (hw j)) ++ cw (cf cA hw qw gg ln sn)) := hD
  have hP : va_P (dC, dI) classes (dw x0 gv cl d0 h0d q0d h0u q0u h0e q0e h0p q0p h0q q0q h0o q0o h0r q0r cA cJ cW n sv a lend fd sgd lu2 U2 su2 lend E1 sgd lenp fp sgp lenq fq sgq lo2 O2 1 lr2 R2 sgd tw2 iv2 hw qw gg ln sn) H := h8
  have hD : va_D A (dw x0 gv cl d0 h0d q0d h0u q0u h0e q0e h0p q0p h0q q0q h0o q0o h0r q0r cA cJ cW n sv a lend fd sgd lu2 U2 su2 lend E1 sgd lenp fp sgp lenq fq sgq lo2 O2 1 lr2 R2 sgd tw2 iv2 hw qw gg ln sn) := h9
  refine lv_aload_n hx hb d_Desk_setResult_52 rfl (lv_at hl 0 rfl) ?_
  refine va_get (D := (dC, dI)) (ci := 0) (v := .ref d0) (C := R_Desk) (T := F_Desk) (N := 10) hx hb hts i_Desk hown hK hP 0 rfl rfl 9 (by decide) (hts _ k_fl_Desk_49) (fun _ h9 => h9) rfl d_Desk_setResult_53 ?_
  refine lv_aload_n hx hb d_Desk_setResult_56 rfl (lv_at hl 0 rfl) ?_
  refine va_get (D := (dC, dI)) (ci := 0) (v := .ref h0e) (C := R_Desk) (T := F_Desk) (N := 10) hx hb hts i_Desk hown hK hP 0 rfl rfl 6 (by decide) (hts _ k_fl_Desk_37) (fun _ h9 => h9) rfl d_Desk_setResult_57 ?_
  have hs_ : ([13, 14, 15, 7, 8] : List Nat).map (fun i => (dw x0 gv cl d0 h0d q0d h0u q0u h0e q0e h0p q0p h0q q0q h0o q0o h0r q0r cA cJ cW n sv a lend fd sgd lu2 U2 su2 lend E1 sgd lenp fp sgp lenq fq sgq lo2 O2 1 lr2 R2 sgd tw2 iv2 hw qw gg ln sn)[i]?) = ([(d0, .inr (2, [.ref h0o, .ref h0r, .int (nI tw2), .int (nI iv2)])), (h0o, .inr (1, [.ref q0o, .int (nI lo2), .int 1])), (q0o, .inl (cA, 26, .inl (xn_f O2))), (h0e, .inr (1, [.ref q0e, .int (nI lend), .int sgd])), (q0e, .inl (cA, 26, .inl (xn_f E1)))]).map some := rfl
  have hPc := xp_P hP [13, 14, 15, 7, 8] hs_
  have hDc := (hD.sub [13, 14, 15, 7, 8] (by decide) hs_).weaken (B := fun _ => True) (fun _ _ _ _ => trivial)
  have hFc := va_free hD hS hA [13, 14, 15, 7, 8] hs_
  refine va_callv (va_runV (As := [.ref h0e]) (rest := []) ⟨hx, hb, hml, hown, hts⟩ (c_Divisor_divide l dC dI H.size cA d0 h0r tw2 iv2 h0o q0o 26 lo2 O2 1 h0e q0e 26 lend E1 sgd Qd (by decide) (by decide) y1 y2 y3 y4 (Or.inl rfl) c5 y5 (by rw [v2, y6, wh_t1, Int.one_mul]; exact hQd)) (cwV 1 hts (gw_V k_ml_Desk_125 k_im_Divisor_divide k_sel_Divisor_divide k_ini_Divisor k_code_Divisor_divide) rfl rfl rfl (by decide +kernel) ⟨Nat.le_of_ble_eq_true rfl, Nat.le_of_ble_eq_true rfl⟩) ⟨xc_W_blind, va_recv hK hP (ci := 2) (q0 := 13) rfl rfl, fun U hU hW => ⟨rfl, by rw [hU], by rw [hU]; exact hPc, va_K.moved hW.alike (hK.sub (tys' := [(cA, .int)]) [0] rfl), hDc⟩⟩ rfl rfl hl.1 rfl (lv_room (Nat.le_of_ble_eq_true rfl)) d_Desk_setResult_60 ⟨Nat.zero_le _, Nat.zero_le _⟩) hS (fun q _ h => hFc q h) hFc (fun u t_ H locs ht_ hvm_ w4 hB hz1 hk1 hS => ?_)
  obtain ⟨E2, le2, se2⟩ := u
  try dsimp only at w4
  rw [ht_] at hB
  obtain ⟨hP, hD⟩ := xj_5 13 14 15 7 8 hP hD rfl rfl rfl rfl rfl hk1 hB
  have h8 : va_P (dC, dI) classes (dx x0 gv cl d0 h0d q0d h0u q0u h0e q0e h0p q0p h0q q0q h0o q0o h0r q0r cA cJ cW n sv a lend fd sgd lu2 U2 su2 le2 E2 se2 lenp fp sgp lenq fq sgq lo2 O2 1 lr2 R2 sgd tw2 iv2 (fun j => some (hw j)) ++ cw (cf cA hw qw gg ln sn)) H := hP
  have h9 : va_D A (dx x0 gv cl d0 h0d q0d h0u q0u h0e q0e h0p q0p h0q q0q h0o q0o h0r q0r cA cJ cW n sv a lend fd sgd lu2 U2 su2 le2 E2 se2 lenp fp sgp lenq fq sgq lo2 O2 1 lr2 R2 sgd tw2 iv2 (fun j => some (hw j)) ++ cw (cf cA hw qw gg ln sn)) := hD
  have hP : va_P (dC, dI) classes (dw x0 gv cl d0 h0d q0d h0u q0u h0e q0e h0p q0p h0q q0q h0o q0o h0r q0r cA cJ cW n sv a lend fd sgd lu2 U2 su2 le2 E2 se2 lenp fp sgp lenq fq sgq lo2 O2 1 lr2 R2 sgd tw2 iv2 hw qw gg ln sn) H := h8
  have hD : va_D A (dw x0 gv cl d0 h0d q0d h0u q0u h0e q0e h0p q0p h0q q0q h0o q0o h0r q0r cA cJ cW n sv a lend fd sgd lu2 U2 su2 le2 E2 se2 lenp fp sgp lenq fq sgq lo2 O2 1 lr2 R2 sgd tw2 iv2 hw qw gg ln sn) := h9
  obtain ⟨r1, r2, r3, r4⟩ := rs_val w3.1 w4.1 w3.2 w4.2 hQn hQd hgp
  rw [egd] at r1 r2
  have hse : se2 = 1 ∨ se2 = -1 := by
    rcases w4.1.2.2.1 with e | e | e
    · rw [e, wh_t0] at r4
      exact absurd (Int.sign_eq_zero_iff_zero.mp r4.symm) hnz
    · exact Or.inl e
    · exact Or.inr e
  refine lv_aload_n hx hb d_Desk_setResult_63 rfl (lv_at hl 0 rfl) ?_
  refine va_get (D := (dC, dI)) (ci := 0) (v := .ref h0e) (C := R_Desk) (T := F_Desk) (N := 10) hx hb hts i_Desk hown hK hP 0 rfl rfl 6 (by decide) (hts _ k_fl_Desk_37) (fun _ h9 => h9) rfl d_Desk_setResult_64 ?_
  refine va_get (D := (dC, dI)) (ci := 1) (v := .int se2) (C := R_Whole) (T := F_Whole) (N := 3) hx hb hts i_Whole hown hK hP 7 rfl rfl 2 (by decide) (hts _ k_fl_Desk_85) (fun _ h9 => h9) rfl d_Desk_setResult_67 ?_
  refine lv_if_ge (tgt := 96) hx hb d_Desk_setResult_70 (by decide) (fun hge => ?_) (fun hge => ?_)
  · have e1 : se2 = 1 := by
      rcases hse with e | e
      · exact e
      · rw [e] at hge; exact absurd hge (by decide)
    rw [e1, wh_t1] at r4
    have hpost : wh_ok 26 U2 lu2 su2 ∧ wh_ok 26 E2 le2 se2 ∧ (∀ x, O2 x < 2147483648) ∧ (∀ x, R2 x < 2147483648) ∧ lb_v U2 lu2 = (wz gg ln sn cc).natAbs / (Nat.gcd (wz gg ln sn cc).natAbs (wh_z fd lend sgd).natAbs) ∧ lb_v E2 le2 = (wh_z fd lend sgd).natAbs / (Nat.gcd (wz gg ln sn cc).natAbs (wh_z fd lend sgd).natAbs) ∧ su2.toInt = (wz gg ln sn cc).sign * (wh_z fd lend sgd).sign := ⟨w3.1, w4.1, y1.2.1, y7.2.1, r1, r2, by rw [← r4, Int.mul_one]; exact r3⟩
    exact W.vret hx hb hr (fun T_ ht_ hW_ => ⟨⟨(⟨n, sv, a, lend, fd, sgd, lu2, U2, su2, le2, E2, se2, lenp, fp, sgp, lenq, fq, sgq, lo2, O2, 1, lr2, R2, sgd, tw2, iv2, hw, qw, gg, ln, sn⟩ : dS), rfl, hpost, by show va_P (dC, dI) classes _ T_.heap; rw [ht_]; exact hP, hD⟩, hS.F ht_⟩) hS.2.2 d_Desk_setResult_96
  have e1 : se2 = -1 := by
    rcases hse with e | e
    · rw [e] at hge; exact absurd (by decide) hge
    · exact e
  rw [e1, wh_tm] at r4
  refine lv_aload_n hx hb d_Desk_setResult_73 rfl (lv_at hl 0 rfl) ?_
  refine va_get (D := (dC, dI)) (ci := 0) (v := .ref h0u) (C := R_Desk) (T := F_Desk) (N := 10) hx hb hts i_Desk hown hK hP 0 rfl rfl 5 (by decide) (hts _ k_fl_Desk_34) (fun _ h9 => h9) rfl d_Desk_setResult_74 ?_
  refine lv_aload_n hx hb d_Desk_setResult_77 rfl (lv_at hl 0 rfl) ?_
  refine va_get (D := (dC, dI)) (ci := 0) (v := .ref h0u) (C := R_Desk) (T := F_Desk) (N := 10) hx hb hts i_Desk hown hK hP 0 rfl rfl 5 (by decide) (hts _ k_fl_Desk_34) (fun _ h9 => h9) rfl d_Desk_setResult_78 ?_
  refine va_get (D := (dC, dI)) (ci := 1) (v := .int su2) (C := R_Whole) (T := F_Whole) (N := 3) hx hb hts i_Whole hown hK hP 5 rfl rfl 2 (by decide) (hts _ k_fl_Desk_85) (fun _ h9 => h9) rfl d_Desk_setResult_81 ?_
  refine xn_ineg (v := -su2) hx hb d_Desk_setResult_84 rfl ?_
  refine va_put (D := (dC, dI)) (ci := 1) (v := .int (-su2)) (ty := .int) (C := R_Whole) (T := F_Whole) (N := 3) hx hb hts i_Whole t_Whole t_Whole_ok n_Whole hown hK hP hD hS 5 rfl rfl 2 (by decide) (hts _ k_fl_Desk_85) (fun _ h9 => h9) rfl (by decide +kernel) rfl rfl (Nat.le_of_ble_eq_true rfl) d_Desk_setResult_85 (fun H locs hP hD hS => ?_)
  have hP : va_P (dC, dI) classes (dw x0 gv cl d0 h0d q0d h0u q0u h0e q0e h0p q0p h0q q0q h0o q0o h0r q0r cA cJ cW n sv a lend fd sgd lu2 U2 (-su2) le2 E2 se2 lenp fp sgp lenq fq sgq lo2 O2 1 lr2 R2 sgd tw2 iv2 hw qw gg ln sn) H := hP
  have hD : va_D A (dw x0 gv cl d0 h0d q0d h0u q0u h0e q0e h0p q0p h0q q0q h0o q0o h0r q0r cA cJ cW n sv a lend fd sgd lu2 U2 (-su2) le2 E2 se2 lenp fp sgp lenq fq sgq lo2 O2 1 lr2 R2 sgd tw2 iv2 hw qw gg ln sn) := hD
  refine lv_aload_n hx hb d_Desk_setResult_88 rfl (lv_at hl 0 rfl) ?_
  refine va_get (D := (dC, dI)) (ci := 0) (v := .ref h0e) (C := R_Desk) (T := F_Desk) (N := 10) hx hb hts i_Desk hown hK hP 0 rfl rfl 6 (by decide) (hts _ k_fl_Desk_37) (fun _ h9 => h9) rfl d_Desk_setResult_89 ?_
  refine lv_iconst (v := nI 1) hx hb d_Desk_setResult_92 rfl ?_
  refine va_put (D := (dC, dI)) (ci := 1) (v := .int (nI 1)) (ty := .int) (C := R_Whole) (T := F_Whole) (N := 3) hx hb hts i_Whole t_Whole t_Whole_ok n_Whole hown hK hP hD hS 7 rfl rfl 2 (by decide) (hts _ k_fl_Desk_85) (fun _ h9 => h9) rfl (by decide +kernel) rfl rfl (Nat.le_of_ble_eq_true rfl) d_Desk_setResult_93 (fun H locs hP hD hS => ?_)
  have hP : va_P (dC, dI) classes (dw x0 gv cl d0 h0d q0d h0u q0u h0e q0e h0p q0p h0q q0q h0o q0o h0r q0r cA cJ cW n sv a lend fd sgd lu2 U2 (-su2) le2 E2 (nI 1) lenp fp sgp lenq fq sgq lo2 O2 1 lr2 R2 sgd tw2 iv2 hw qw gg ln sn) H := hP
  have hD : va_D A (dw x0 gv cl d0 h0d q0d h0u q0u h0e q0e h0p q0p h0q q0q h0o q0o h0r q0r cA cJ cW n sv a lend fd sgd lu2 U2 (-su2) le2 E2 (nI 1) lenp fp sgp lenq fq sgq lo2 O2 1 lr2 R2 sgd tw2 iv2 hw qw gg ln sn) := hD
  have n1 := (wh_neg w3.1).1
  have n2 : wh_ok 26 E2 le2 (nI 1) := by
    have h9 := (wh_neg w4.1).1
    rw [e1] at h9
    exact h9
  have hpost : wh_ok 26 U2 lu2 (-su2) ∧ wh_ok 26 E2 le2 (nI 1) ∧ (∀ x, O2 x < 2147483648) ∧ (∀ x, R2 x < 2147483648) ∧ lb_v U2 lu2 = (wz gg ln sn cc).natAbs / (Nat.gcd (wz gg ln sn cc).natAbs (wh_z fd lend sgd).natAbs) ∧ lb_v E2 le2 = (wh_z fd lend sgd).natAbs / (Nat.gcd (wz gg ln sn cc).natAbs (wh_z fd lend sgd).natAbs) ∧ (-su2).toInt = (wz gg ln sn cc).sign * (wh_z fd lend sgd).sign := ⟨n1, n2, y1.2.1, y7.2.1, r1, r2, by rw [← r4, rs_neg w3.1.2.2.1, r3, Int.mul_neg, Int.mul_one]⟩
  have hP : va_P (dC, dI) classes (dw x0 gv cl d0 h0d q0d h0u q0u h0e q0e h0p q0p h0q q0q h0o q0o h0r q0r cA cJ cW n sv a lend fd sgd lu2 U2 (-su2) le2 E2 (nI 1) lenp fp sgp lenq fq sgq lo2 O2 1 lr2 R2 sgd tw2 iv2 hw qw gg ln sn) H := hP
  have hD : va_D A (dw x0 gv cl d0 h0d q0d h0u q0u h0e q0e h0p q0p h0q q0q h0o q0o h0r q0r cA cJ cW n sv a lend fd sgd lu2 U2 (-su2) le2 E2 (nI 1) lenp fp sgp lenq fq sgq lo2 O2 1 lr2 R2 sgd tw2 iv2 hw qw gg ln sn) := hD
  exact W.vret hx hb hr (fun T_ ht_ hW_ => ⟨⟨(⟨n, sv, a, lend, fd, sgd, lu2, U2, -su2, le2, E2, nI 1, lenp, fp, sgp, lenq, fq, sgq, lo2, O2, 1, lr2, R2, sgd, tw2, iv2, hw, qw, gg, ln, sn⟩ : dS), rfl, hpost, by show va_P (dC, dI) classes _ T_.heap; rw [ht_]; exact hP, hD⟩, hS.F ht_⟩) hS.2.2 d_Desk_setResult_96
set_option maxHeartbeats 8000000 in
set_option maxRecDepth 100000 in
/-- isUnknown -/
theorem c_Desk_isUnknown (l : Launch) (dC : Nat → ClassId) (dI : Nat → Nat → Nat) (x0 gv cl d0 h0d q0d h0u q0u h0e q0e h0p q0p h0q q0q h0o q0o h0r q0r : Nat) (cA cJ cW : ClassId) (n : Nat) (sv : Int32) (a : Nat → Int64) (lend : Nat) (fd : Nat → Nat) (sgd : Int32) (lenu : Nat) (fu : Nat → Nat) (sgu : Int32) (lene : Nat) (fe : Nat → Nat) (sge : Int32) (lenp : Nat) (fp : Nat → Nat) (sgp : Int32) (lenq : Nat) (fq : Nat → Nat) (sgq : Int32) (leno : Nat) (fo : Nat → Nat) (sgo : Int32) (lenr : Nat) (fr : Nat → Nat) (sgr : Int32) (tw iv : Nat) (hw qw : Nat → Nat) (gg : Nat → Nat → Nat) (ln : Nat → Nat) (sn : Nat → Int32) (k : Int32) (hn : n ≤ 12) : Met l y_Desk_isUnknown w_Desk_isUnknown ({ frames := 0, cells := 0, slots := 0, locals := 0 }) (xc_R [.ref x0, .int k] dC dI (dw x0 gv cl d0 h0d q0d h0u q0u h0e q0e h0p q0p h0q q0q h0o q0o h0r q0r cA cJ cW n sv a lend fd sgd lenu fu sgu lene fe sge lenp fp sgp lenq fq sgq leno fo sgo lenr fr sgr tw iv hw qw gg ln sn) [(cA, .int), (cJ, .long), (cW, .object "EquationDesk$Whole")]) (vp_Si (fun r => (r = 1 ∧ 0 ≤ k.toInt ∧ k.toInt < n) ∨ (r = 0 ∧ ¬ (0 ≤ k.toInt ∧ k.toInt < n)))) 0 0 (fun _ => False) := by
  refine Met.ofW (cc := b_Desk_isUnknown) (maxL := 2) (ret := (some .boolean)) (by decide) rfl ?_
  intro p e s m args below meth c s₁ B hml hv
  obtain ⟨rfl, hP, hK⟩ := hv
  have hx := B.exec
  have hb := B.bytes
  have hr := B.returns
  have hts : ∀ w ∈ gw_tbl, w.before ([.ref x0, .int k] : List Value).toArray s = true := fun w h => atoms_spec (ws := w_Desk_isUnknown) B.pre w (List.mem_cons_of_mem _ h)
  have hown : s.vm.findClass R_Desk = some m.cls := findClass_of_methodNamed B.named
  have hlocks := B.notSynchronized
  have hl := lv_entry ([.ref x0, .int k]) (n := 2) (Nat.le_of_ble_eq_true rfl)
  rw [lg_entry_eq]
  generalize (lg_sl ([.ref x0, .int k]) ++ List.replicate (2 - (lg_sl ([.ref x0, .int k])).length) Slot.unset).toArray = ls at hl ⊢
  have hl : lv_has ls 2 [(0, .ref x0), (1, .int k)] := hl
  refine lv_iload_n hx hb d_Desk_isUnknown_0 rfl (lv_at hl 1 rfl) ?_
  have hnt : (nI n).toInt = (n : Int) := nI_toInt (by omega)
  refine lv_if_lt (tgt := 16) hx hb d_Desk_isUnknown_1 (by decide) (fun hlt => ?_) (fun hlt => ?_)
  · refine lv_iconst (v := nI 0) hx hb d_Desk_isUnknown_16 rfl ?_
    exact W.zret (v := nI 0) hx hb hr (by rfl) (fun T_ ht_ hW_ => ⟨_, rfl, Or.inr ⟨by decide, fun z => by rw [Int32.lt_iff_toInt_lt] at hlt; have : (0 : Int32).toInt = 0 := rfl; omega⟩, ht_⟩) (fun q hq => by cases hq) d_Desk_isUnknown_17
  refine lv_iload_n hx hb d_Desk_isUnknown_4 rfl (lv_at hl 1 rfl) ?_
  refine lv_aload_n hx hb d_Desk_isUnknown_5 rfl (lv_at hl 0 rfl) ?_
  refine va_get (D := (dC, dI)) (ci := 0) (v := .int (nI n)) (C := R_Desk) (T := F_Desk) (N := 10) hx hb hts i_Desk hown hK hP 0 rfl rfl 1 (by decide) (hts _ k_fl_Desk_13) (fun _ h9 => h9) rfl d_Desk_isUnknown_6 ?_
  refine lv_icmp_ge (tgt := 16) hx hb d_Desk_isUnknown_9 (by decide) (fun hge => ?_) (fun hge => ?_)
  · refine lv_iconst (v := nI 0) hx hb d_Desk_isUnknown_16 rfl ?_
    exact W.zret (v := nI 0) hx hb hr (by rfl) (fun T_ ht_ hW_ => ⟨_, rfl, Or.inr ⟨by decide, fun z => by rw [Int32.le_iff_toInt_le, hnt] at hge; omega⟩, ht_⟩) (fun q hq => by cases hq) d_Desk_isUnknown_17
  refine lv_iconst (v := nI 1) hx hb d_Desk_isUnknown_12 rfl ?_
  refine lv_goto (tgt := 17) hx hb d_Desk_isUnknown_13 (by decide) ?_
  exact W.zret (v := nI 1) hx hb hr (by rfl) (fun T_ ht_ hW_ => ⟨_, rfl, Or.inl ⟨by decide, by rw [Int32.lt_iff_toInt_lt] at hlt; have : (0 : Int32).toInt = 0 := rfl; omega, by rw [Int32.le_iff_toInt_le, hnt] at hge; omega⟩, ht_⟩) (fun q hq => by cases hq) d_Desk_isUnknown_17
set_option maxHeartbeats 8000000 in
set_option maxRecDepth 100000 in
/-- resultPart -/
theorem c_Desk_resultPart (l : Launch) (dC : Nat → ClassId) (dI : Nat → Nat → Nat) (x0 gv cl d0 h0d q0d h0u q0u h0e q0e h0p q0p h0q q0q h0o q0o h0r q0r : Nat) (cA cJ cW : ClassId) (n : Nat) (sv : Int32) (a : Nat → Int64) (lend : Nat) (fd : Nat → Nat) (sgd : Int32) (lenu : Nat) (fu : Nat → Nat) (sgu : Int32) (lene : Nat) (fe : Nat → Nat) (sge : Int32) (lenp : Nat) (fp : Nat → Nat) (sgp : Int32) (lenq : Nat) (fq : Nat → Nat) (sgq : Int32) (leno : Nat) (fo : Nat → Nat) (sgo : Int32) (lenr : Nat) (fr : Nat → Nat) (sgr : Int32) (tw iv : Nat) (hw qw : Nat → Nat) (gg : Nat → Nat → Nat) (ln : Nat → Nat) (sn : Nat → Int32) (b : Int32)  : Met l y_Desk_resultPart w_Desk_resultPart ({ frames := 0, cells := 0, slots := 0, locals := 0 }) (xc_R [.ref x0, .int b] dC dI (dw x0 gv cl d0 h0d q0d h0u q0u h0e q0e h0p q0p h0q q0q h0o q0o h0r q0r cA cJ cW n sv a lend fd sgd lenu fu sgu lene fe sge lenp fp sgp lenq fq sgq leno fo sgo lenr fr sgr tw iv hw qw gg ln sn) [(cA, .int), (cJ, .long), (cW, .object "EquationDesk$Whole")]) (va_Sr (fun k => k = if b = 0 then h0u else h0e) (fun k => .ref k)) 0 0 (fun _ => False) := by
  refine Met.ofW (cc := b_Desk_resultPart) (maxL := 2) (ret := (some (.object "EquationDesk$Whole"))) (by decide) rfl ?_
  intro p e s m args below meth c s₁ B hml hv
  obtain ⟨rfl, hP, hK⟩ := hv
  have hx := B.exec
  have hb := B.bytes
  have hr := B.returns
  have hts : ∀ w ∈ gw_tbl, w.before ([.ref x0, .int b] : List Value).toArray s = true := fun w h => atoms_spec (ws := w_Desk_resultPart) B.pre w (List.mem_cons_of_mem _ h)
  have hown : s.vm.findClass R_Desk = some m.cls := findClass_of_methodNamed B.named
  have hlocks := B.notSynchronized
  have hl := lv_entry ([.ref x0, .int b]) (n := 2) (Nat.le_of_ble_eq_true rfl)
  rw [lg_entry_eq]
  generalize (lg_sl ([.ref x0, .int b]) ++ List.replicate (2 - (lg_sl ([.ref x0, .int b])).length) Slot.unset).toArray = ls at hl ⊢
  have hl : lv_has ls 2 [(0, .ref x0), (1, .int b)] := hl
  refine lv_iload_n hx hb d_Desk_resultPart_0 rfl (lv_at hl 1 rfl) ?_
  refine lv_if_eq (tgt := 11) hx hb d_Desk_resultPart_1 (by decide) (fun hb0 => ?_) (fun hb0 => ?_)
  · refine lv_aload_n hx hb d_Desk_resultPart_11 rfl (lv_at hl 0 rfl) ?_
    refine va_get (D := (dC, dI)) (ci := 0) (v := .ref h0u) (C := R_Desk) (T := F_Desk) (N := 10) hx hb hts i_Desk hown hK hP 0 rfl rfl 5 (by decide) (hts _ k_fl_Desk_34) (fun _ h9 => h9) rfl d_Desk_resultPart_12 ?_
    exact W.aret (v := .ref h0u) hx hb hr (Or.inl ⟨_, rfl⟩) (Or.inr ⟨_, rfl⟩) (fun T_ ht_ hW_ => ⟨h0u, rfl, (if_pos hb0).symm, ht_⟩) (fun q hq => by cases hq) d_Desk_resultPart_15
  refine lv_aload_n hx hb d_Desk_resultPart_4 rfl (lv_at hl 0 rfl) ?_
  refine va_get (D := (dC, dI)) (ci := 0) (v := .ref h0e) (C := R_Desk) (T := F_Desk) (N := 10) hx hb hts i_Desk hown hK hP 0 rfl rfl 6 (by decide) (hts _ k_fl_Desk_37) (fun _ h9 => h9) rfl d_Desk_resultPart_5 ?_
  refine lv_goto (tgt := 15) hx hb d_Desk_resultPart_8 (by decide) ?_
  exact W.aret (v := .ref h0e) hx hb hr (Or.inl ⟨_, rfl⟩) (Or.inr ⟨_, rfl⟩) (fun T_ ht_ hW_ => ⟨h0e, rfl, (if_neg hb0).symm, ht_⟩) (fun q hq => by cases hq) d_Desk_resultPart_15
