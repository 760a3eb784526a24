set_option maxHeartbeats 8000000 in
set_option maxRecDepth 100000 in
/-- determinant of the reference -/
theorem c_Model_determinant (l : Launch) (dC : Nat → ClassId) (dI : Nat → Nat → Nat) (sz : Nat) (m0 ma mS mt mo mb mg mh mr : Nat) (cA cJ : ClassId) (M : mT) (hG : mG M) : Met l y_Model_determinant w_Model_determinant ({ frames := 1, cells := 0, slots := 0, locals := 23 }) (xc_W [.ref m0] dC dI (mw m0 ma mS mt mo mb mg mh mr cA cJ M.er M.n M.sv M.a M.S M.ft M.fo M.fb M.fg M.fh M.fr) [(cA, .int), (cJ, .long)] sz) (va_Qi (S := mT) (fun r u => mG u ∧ ((M.sv = 0 ∧ u.er = 1 ∧ u.fo = M.fo ∧ u.fb = M.fb) ∨ (M.sv = 1 ∧ u.er = 0 ∧ r.toInt = (dt_d (dA M.a) M.n).sign ∧ dg_v u.fo 56 = (dt_d (dA M.a) M.n).natAbs ∧ dg_v u.fb 56 = 1)) ∧ u.n = M.n ∧ u.sv = M.sv ∧ u.a = M.a) (fun u t => va_P (dC, dI) classes (mw m0 ma mS mt mo mb mg mh mr cA cJ u.er u.n u.sv u.a u.S u.ft u.fo u.fb u.fg u.fh u.fr) t.heap ∧ va_D (va_A (mw m0 ma mS mt mo mb mg mh mr cA cJ M.er M.n M.sv M.a M.S M.ft M.fo M.fb M.fg M.fh M.fr) sz) (mw m0 ma mS mt mo mb mg mh mr cA cJ u.er u.n u.sv u.a u.S u.ft u.fo u.fb u.fg u.fh u.fr)) (va_A (mw m0 ma mS mt mo mb mg mh mr cA cJ M.er M.n M.sv M.a M.S M.ft M.fo M.fb M.fg M.fh M.fr) sz)) 0 0 (va_A (mw m0 ma mS mt mo mb mg mh mr cA cJ M.er M.n M.sv M.a M.S M.ft M.fo M.fb M.fg M.fh M.fr) sz) := by
  refine Met.ofW (cc := b_Model_determinant) (maxL := 3) (ret := (some .int)) (by decide) rfl ?_
  intro p e s m args below meth c s₁ B hml hv
  obtain ⟨rfl, hsz, hP, hK, hD0⟩ := hv
  have hx := B.exec
  have hb := B.bytes
  have hr := B.returns
  have hts : ∀ w ∈ gw_tbl, w.before ([.ref m0] : List Value).toArray s = true := fun w h => atoms_spec (ws := w_Model_determinant) B.pre w (List.mem_cons_of_mem _ h)
  have hown : s.vm.findClass R_Model = some m.cls := findClass_of_methodNamed B.named
  have hlocks := B.notSynchronized
  subst hsz
  have hD := hD0.self (sz := s.heap.size)
  generalize hAe : va_A (mw m0 ma mS mt mo mb mg mh mr cA cJ M.er M.n M.sv M.a M.S M.ft M.fo M.fb M.fg M.fh M.fr) s.heap.size = A at hD ⊢
  have hA : ∀ q : Nat, s.heap.size ≤ q → A q := fun q h => by rw [← hAe]; exact Or.inr h
  have hS : va_S A s.heap s.heap [] := va_S.rf
  have hl := lv_entry ([.ref m0]) (n := 3) (Nat.le_of_ble_eq_true rfl)
  rw [lg_entry_eq]
  generalize (lg_sl ([.ref m0]) ++ List.replicate (3 - (lg_sl ([.ref m0])).length) Slot.unset).toArray = ls at hl ⊢
  have hl : lv_has ls 3 [(0, .ref m0)] := hl
  have hG0 := hG
  obtain ⟨g1, g2, g3, g4, g5, g6, g7, g8, g9, g10⟩ := hG
  have hall : 2 ^ (M.n + 1) ≤ 8192 := Nat.pow_le_pow_right (n := 2) (j := 13) (by decide) (by omega)
  have hn2 : 2 ^ (M.n + 1) = 2 ^ M.n * 2 := Nat.pow_succ ..
  have hnp := Nat.two_pow_pos M.n
  refine lv_aload_n hx hb d_Model_determinant_0 rfl (lv_at hl 0 rfl) ?_
  refine lv_iconst (v := nI 0) hx hb d_Model_determinant_1 rfl ?_
  refine va_put (D := (dC, dI)) (ci := 3) (v := .int (nI 0)) (ty := .int) (C := R_Model) (T := F_Model) (N := 11) hx hb hts i_Model t_Model t_Model_ok n_Model hown hK hP hD hS 0 rfl rfl 0 (by decide) (hts _ k_fl_Model_36) (fun _ h9 => h9) rfl (by decide +kernel) rfl rfl (Nat.le_of_ble_eq_true rfl) d_Model_determinant_2 (fun H locs hP hD hS => ?_)
  have hP : va_P (dC, dI) classes (mw m0 ma mS mt mo mb mg mh mr cA cJ (nI 0) M.n M.sv M.a M.S M.ft M.fo M.fb M.fg M.fh M.fr) H := hP
  have hD : va_D A (mw m0 ma mS mt mo mb mg mh mr cA cJ (nI 0) M.n M.sv M.a M.S M.ft M.fo M.fb M.fg M.fh M.fr) := hD
  refine lv_aload_n hx hb d_Model_determinant_5 rfl (lv_at hl 0 rfl) ?_
  refine lv_aload_n hx hb d_Model_determinant_6 rfl (lv_at hl 0 rfl) ?_
  refine va_get (D := (dC, dI)) (ci := 3) (v := .int M.sv) (C := R_Model) (T := F_Model) (N := 11) hx hb hts i_Model hown hK hP 0 rfl rfl 2 (by decide) (hts _ k_fl_Model_47) (fun _ h9 => h9) rfl d_Model_determinant_7 ?_
  refine lv_if_ne (tgt := 17) hx hb d_Model_determinant_10 (by decide) (fun hs => ?_) (fun hs => ?_)
  rotate_left
  · refine lv_iconst (v := nI 1) hx hb d_Model_determinant_13 rfl ?_
    refine lv_goto (tgt := 18) hx hb d_Model_determinant_14 (by decide) ?_
    refine lv_iconst (v := nI 1) hx hb d_Model_determinant_18 rfl ?_
    have hFc := va_free (wc := [(m0, .inr (3, [.int (nI 0), .int (nI M.n), .int M.sv, .ref ma, .ref mS, .ref mt, .ref mo, .ref mb, .ref mg, .ref mh, .ref mr]))]) hD hS hA [0] rfl
    refine va_calli (va_runV (As := [.int (nI 1), .int (nI 1)]) (rest := []) ⟨hx, hb, hml, hown, hts⟩ (c_Model_fails l dC dI H.size m0 ma mS mt mo mb mg mh mr (nI 0) M.n M.sv (nI 1) (nI 1)) (cwV 2 hts (gw_V k_ml_Model_40 k_im_Model_fails k_sel_Model_fails k_ini_Model k_code_Model_fails) rfl rfl rfl (by decide +kernel) ⟨Nat.le_of_ble_eq_true rfl, Nat.le_of_ble_eq_true rfl⟩) ⟨xc_W_blind, va_recv hK hP (ci := 3) (q0 := 0) rfl rfl, fun U hU hW => ⟨rfl, by rw [hU], by rw [hU]; exact hP.sub (ws' := [(m0, .inr (3, [.int (nI 0), .int (nI M.n), .int M.sv, .ref ma, .ref mS, .ref mt, .ref mo, .ref mb, .ref mg, .ref mh, .ref mr]))]) [0] rfl, va_K.moved hW.alike (hK.sub (tys' := []) [] rfl), (hD.sub (ws' := [(m0, .inr (3, [.int (nI 0), .int (nI M.n), .int M.sv, .ref ma, .ref mS, .ref mt, .ref mo, .ref mb, .ref mg, .ref mh, .ref mr]))]) [0] (by decide) rfl).weaken (fun _ _ _ _ => trivial)⟩⟩ rfl rfl hl.1 rfl (lv_room (Nat.le_of_ble_eq_true rfl)) d_Model_determinant_19 ⟨Nat.zero_le _, Nat.zero_le _⟩) hS (fun q _ h => hFc q h) hFc (fun rf u t_ H locs ht_ hvm_ wf hB hz1 hk1 hS => ?_)
    obtain ⟨e1_, e_e1_⟩ : ∃ z, z = u := ⟨u, rfl⟩
    rw [← e_e1_] at wf hB
    rw [ht_] at hB
    obtain ⟨hP, hD⟩ := xj_1 0 hP hD rfl hk1 hB
    have hP : va_P (dC, dI) classes (mw m0 ma mS mt mo mb mg mh mr cA cJ e1_ M.n M.sv M.a M.S M.ft M.fo M.fb M.fg M.fh M.fr) H := hP
    have hD : va_D A (mw m0 ma mS mt mo mb mg mh mr cA cJ e1_ M.n M.sv M.a M.S M.ft M.fo M.fb M.fg M.fh M.fr) := hD
    rw [if_neg (show ¬ (nI 1 : Int32) = 0 by decide), if_pos (show (nI 0 : Int32) = 0 by decide)] at wf
    obtain ⟨wf1, wf2⟩ := wf
    subst wf1
    rw [if_neg (show ¬ (nI 1 : Int32) = 0 by decide)] at wf2
    subst wf2
    have hP : va_P (dC, dI) classes (mw m0 ma mS mt mo mb mg mh mr cA cJ (nI 1) M.n M.sv M.a M.S M.ft M.fo M.fb M.fg M.fh M.fr) H := hP
    have hD : va_D A (mw m0 ma mS mt mo mb mg mh mr cA cJ (nI 1) M.n M.sv M.a M.S M.ft M.fo M.fb M.fg M.fh M.fr) := hD
    refine lv_if_eq (tgt := 27) hx hb d_Model_determinant_22 (by decide) (fun h9_ => absurd h9_ (by decide)) (fun _ => ?_)
    refine lv_iconst (v := nI 0) hx hb d_Model_determinant_25 rfl ?_
    have hpost : mG (⟨nI 1, M.n, M.sv, M.a, M.S, M.ft, M.fo, M.fb, M.fg, M.fh, M.fr⟩ : mT) ∧ ((M.sv = 0 ∧ (nI 1 : Int32) = 1 ∧ M.fo = M.fo ∧ M.fb = M.fb) ∨ (M.sv = 1 ∧ (nI 1 : Int32) = 0 ∧ (nI 0 : Int32).toInt = (dt_d (dA M.a) M.n).sign ∧ dg_v M.fo 56 = (dt_d (dA M.a) M.n).natAbs ∧ dg_v M.fb 56 = 1)) ∧ M.n = M.n ∧ M.sv = M.sv ∧ M.a = M.a := ⟨⟨g1, g2, g3, g4, g5, g6, g7, g8, g9, g10⟩, Or.inl ⟨hs, rfl, rfl, rfl⟩, rfl, rfl, rfl⟩
    exact W.iret (v := nI 0) hx hb hr (fun T_ ht_ hW_ => ⟨⟨_, (⟨nI 1, M.n, M.sv, M.a, M.S, M.ft, M.fo, M.fb, M.fg, M.fh, M.fr⟩ : mT), rfl, hpost, by show va_P (dC, dI) classes _ T_.heap; rw [ht_]; exact hP, hD⟩, hS.F ht_⟩) hS.2.2 d_Model_determinant_26
  refine lv_iconst (v := nI 0) hx hb d_Model_determinant_17 rfl ?_
  refine lv_iconst (v := nI 1) hx hb d_Model_determinant_18 rfl ?_
  have hFc := va_free (wc := [(m0, .inr (3, [.int (nI 0), .int (nI M.n), .int M.sv, .ref ma, .ref mS, .ref mt, .ref mo, .ref mb, .ref mg, .ref mh, .ref mr]))]) hD hS hA [0] rfl
  refine va_calli (va_runV (As := [.int (nI 0), .int (nI 1)]) (rest := []) ⟨hx, hb, hml, hown, hts⟩ (c_Model_fails l dC dI H.size m0 ma mS mt mo mb mg mh mr (nI 0) M.n M.sv (nI 0) (nI 1)) (cwV 2 hts (gw_V k_ml_Model_40 k_im_Model_fails k_sel_Model_fails k_ini_Model k_code_Model_fails) rfl rfl rfl (by decide +kernel) ⟨Nat.le_of_ble_eq_true rfl, Nat.le_of_ble_eq_true rfl⟩) ⟨xc_W_blind, va_recv hK hP (ci := 3) (q0 := 0) rfl rfl, fun U hU hW => ⟨rfl, by rw [hU], by rw [hU]; exact hP.sub (ws' := [(m0, .inr (3, [.int (nI 0), .int (nI M.n), .int M.sv, .ref ma, .ref mS, .ref mt, .ref mo, .ref mb, .ref mg, .ref mh, .ref mr]))]) [0] rfl, va_K.moved hW.alike (hK.sub (tys' := []) [] rfl), (hD.sub (ws' := [(m0, .inr (3, [.int (nI 0), .int (nI M.n), .int M.sv, .ref ma, .ref mS, .ref mt, .ref mo, .ref mb, .ref mg, .ref mh, .ref mr]))]) [0] (by decide) rfl).weaken (fun _ _ _ _ => trivial)⟩⟩ rfl rfl hl.1 rfl (lv_room (Nat.le_of_ble_eq_true rfl)) d_Model_determinant_19 ⟨Nat.zero_le _, Nat.zero_le _⟩) hS (fun q _ h => hFc q h) hFc (fun rf u t_ H locs ht_ hvm_ wf hB hz1 hk1 hS => ?_)
  obtain ⟨e1_, e_e1_⟩ : ∃ z, z = u := ⟨u, rfl⟩
  rw [← e_e1_] at wf hB
  rw [ht_] at hB
  obtain ⟨hP, hD⟩ := xj_1 0 hP hD rfl hk1 hB
  have hP : va_P (dC, dI) classes (mw m0 ma mS mt mo mb mg mh mr cA cJ e1_ M.n M.sv M.a M.S M.ft M.fo M.fb M.fg M.fh M.fr) H := hP
  have hD : va_D A (mw m0 ma mS mt mo mb mg mh mr cA cJ e1_ M.n M.sv M.a M.S M.ft M.fo M.fb M.fg M.fh M.fr) := hD
  rw [if_pos (show (nI 0 : Int32) = 0 by decide)] at wf
  obtain ⟨wf1, wf2⟩ := wf
  subst wf1
  rw [if_pos (show (nI 0 : Int32) = 0 by decide)] at wf2
  subst wf2
  have hP : va_P (dC, dI) classes (mw m0 ma mS mt mo mb mg mh mr cA cJ (nI 0) M.n M.sv M.a M.S M.ft M.fo M.fb M.fg M.fh M.fr) H := hP
  have hD : va_D A (mw m0 ma mS mt mo mb mg mh mr cA cJ (nI 0) M.n M.sv M.a M.S M.ft M.fo M.fb M.fg M.fh M.fr) := hD
  refine lv_if_eq (tgt := 27) hx hb d_Model_determinant_22 (by decide) (fun _ => ?_) (fun h9_ => absurd h9_ (by decide))
  have hs1 : M.sv = 1 := by
    rcases g2 with e | e
    · exact absurd e hs
    · exact e
  obtain ⟨d1, d2⟩ := g10 hs1
  obtain ⟨f1, f2⟩ := dE_full (dA M.a) g1
  have hXd := d2 (2 ^ M.n - 1) (by omega) (by omega)
  rw [f1] at hXd
  have hbd : (dt_d (dA M.a) M.n).natAbs < 2 ^ 785 := by rw [← f1]; exact bt_bd (fun i j => dA_bd M.a i j) (by omega)
  refine lv_aload_n hx hb d_Model_determinant_27 rfl (lv_at hl 0 rfl) ?_
  refine lv_aload_n hx hb d_Model_determinant_28 rfl (lv_at hl 0 rfl) ?_
  refine lv_iconst (v := -1) hx hb d_Model_determinant_29 (by decide) ?_
  refine vp_callSi (W.runV (As := [.int ((-1))]) (rest := [.ref m0]) ⟨hx, hb, hml, hown, hts⟩ (c_Model_place l dC dI m0 ma mS mt mo mb mg mh mr (nI 0) M.n M.sv (-1) g1 (Or.inl rfl)) (cwV 1 hts (gw_V k_ml_Model_72 k_im_Model_place k_sel_Model_place k_ini_Model k_code_Model_place) rfl rfl rfl (by decide +kernel) ⟨Nat.le_of_ble_eq_true rfl, Nat.le_of_ble_eq_true rfl⟩) ⟨xc_R_blind, va_recv hK hP (ci := 3) (q0 := 0) rfl rfl, fun U hU hW => ⟨rfl, by rw [hU]; exact hP.sub (ws' := [(m0, .inr (3, [.int (nI 0), .int (nI M.n), .int M.sv, .ref ma, .ref mS, .ref mt, .ref mo, .ref mb, .ref mg, .ref mh, .ref mr]))]) [0] rfl, va_K.moved hW.alike (hK.sub (tys' := []) [] rfl)⟩⟩ rfl rfl hl.1 rfl (lv_room (Nat.le_of_ble_eq_true rfl)) d_Model_determinant_30 ⟨Nat.zero_le _, Nat.zero_le _⟩) (fun rp e_p => ?_)
  have e_p := e_p.1 rfl
  subst e_p
  refine vp_callSi (W.runV (As := [.int (nI (56 * (2 ^ M.n - 1)))]) (rest := []) ⟨hx, hb, hml, hown, hts⟩ (c_Model_signAt l dC dI cA m0 ma mS mt mo mb mg mh mr (nI 0) M.n M.sv M.S (56 * (2 ^ M.n - 1)) g3 (by omega)) (cwV 1 hts (gw_V k_ml_Model_75 k_im_Model_signAt k_sel_Model_signAt k_ini_Model k_code_Model_signAt) rfl rfl rfl (by decide +kernel) ⟨Nat.le_of_ble_eq_true rfl, Nat.le_of_ble_eq_true rfl⟩) ⟨xc_R_blind, va_recv hK hP (ci := 3) (q0 := 0) rfl rfl, fun U hU hW => ⟨rfl, by rw [hU]; exact hP.sub (ws' := [(m0, .inr (3, [.int (nI 0), .int (nI M.n), .int M.sv, .ref ma, .ref mS, .ref mt, .ref mo, .ref mb, .ref mg, .ref mh, .ref mr])), (mS, .inl (cA, 458752, .inl (xn_f M.S)))]) [0, 2] rfl, va_K.moved hW.alike (hK.sub (tys' := [(cA, .int)]) [0] rfl)⟩⟩ rfl rfl hl.1 rfl (lv_room (Nat.le_of_ble_eq_true rfl)) d_Model_determinant_33 ⟨Nat.zero_le _, Nat.zero_le _⟩) (fun rs1 e_s => ?_)
  rw [hXd, sg_tc hbd] at e_s
  subst e_s
  refine lv_istore_n (lv' := [(1, .int (sgI (dt_d (dA M.a) M.n))), (0, .ref m0)]) hx hb d_Model_determinant_36 rfl hl (by decide) rfl (fun ls hl => ?_)
  refine lv_aload_n hx hb d_Model_determinant_37 rfl (lv_at hl 1 rfl) ?_
  refine lv_aload_n hx hb d_Model_determinant_38 rfl (lv_at hl 1 rfl) ?_
  refine lv_iconst (v := -1) hx hb d_Model_determinant_39 (by decide) ?_
  refine vp_callSi (W.runV (As := [.int ((-1))]) (rest := [.ref m0]) ⟨hx, hb, hml, hown, hts⟩ (c_Model_place l dC dI m0 ma mS mt mo mb mg mh mr (nI 0) M.n M.sv (-1) g1 (Or.inl rfl)) (cwV 1 hts (gw_V k_ml_Model_72 k_im_Model_place k_sel_Model_place k_ini_Model k_code_Model_place) rfl rfl rfl (by decide +kernel) ⟨Nat.le_of_ble_eq_true rfl, Nat.le_of_ble_eq_true rfl⟩) ⟨xc_R_blind, va_recv hK hP (ci := 3) (q0 := 0) rfl rfl, fun U hU hW => ⟨rfl, by rw [hU]; exact hP.sub (ws' := [(m0, .inr (3, [.int (nI 0), .int (nI M.n), .int M.sv, .ref ma, .ref mS, .ref mt, .ref mo, .ref mb, .ref mg, .ref mh, .ref mr]))]) [0] rfl, va_K.moved hW.alike (hK.sub (tys' := []) [] rfl)⟩⟩ rfl rfl hl.1 rfl (lv_room (Nat.le_of_ble_eq_true rfl)) d_Model_determinant_40 ⟨Nat.zero_le _, Nat.zero_le _⟩) (fun rp e_p => ?_)
  have e_p := e_p.1 rfl
  subst e_p
  refine lv_aload_n hx hb d_Model_determinant_43 rfl (lv_at hl 1 rfl) ?_
  refine va_get (D := (dC, dI)) (ci := 3) (v := .ref mo) (C := R_Model) (T := F_Model) (N := 11) hx hb hts i_Model hown hK hP 0 rfl rfl 6 (by decide) (hts _ k_fl_Model_21) (fun _ h9 => h9) rfl d_Model_determinant_44 ?_
  have hFc := va_free (wc := [(m0, .inr (3, [.int (nI 0), .int (nI M.n), .int M.sv, .ref ma, .ref mS, .ref mt, .ref mo, .ref mb, .ref mg, .ref mh, .ref mr])), (mS, .inl (cA, 458752, .inl (xn_f M.S))), (mo, .inl (cA, 56, .inl (xn_f M.fo)))]) hD hS hA [0, 2, 4] rfl
  refine va_callv (va_runV (As := [.int (nI (56 * (2 ^ M.n - 1))), .ref mo]) (rest := []) ⟨hx, hb, hml, hown, hts⟩ (c_Model_take l dC dI H.size cA m0 ma mS mt mo mb mg mh mr (nI 0) M.n M.sv M.S (56 * (2 ^ M.n - 1)) mo M.fo g3 (by omega) g5) (cwV 2 hts (gw_V k_ml_Model_101 k_im_Model_take k_sel_Model_take k_ini_Model k_code_Model_take) rfl rfl rfl (by decide +kernel) ⟨Nat.le_of_ble_eq_true rfl, Nat.le_of_ble_eq_true rfl⟩) ⟨xc_W_blind, va_recv hK hP (ci := 3) (q0 := 0) rfl rfl, fun U hU hW => ⟨rfl, by rw [hU], by rw [hU]; exact hP.sub (ws' := [(m0, .inr (3, [.int (nI 0), .int (nI M.n), .int M.sv, .ref ma, .ref mS, .ref mt, .ref mo, .ref mb, .ref mg, .ref mh, .ref mr])), (mS, .inl (cA, 458752, .inl (xn_f M.S))), (mo, .inl (cA, 56, .inl (xn_f M.fo)))]) [0, 2, 4] rfl, va_K.moved hW.alike (hK.sub (tys' := [(cA, .int)]) [0] rfl), (hD.sub (ws' := [(m0, .inr (3, [.int (nI 0), .int (nI M.n), .int M.sv, .ref ma, .ref mS, .ref mt, .ref mo, .ref mb, .ref mg, .ref mh, .ref mr])), (mS, .inl (cA, 458752, .inl (xn_f M.S))), (mo, .inl (cA, 56, .inl (xn_f M.fo)))]) [0, 2, 4] (by decide) rfl).weaken (fun _ _ _ _ => trivial)⟩⟩ rfl rfl hl.1 rfl (lv_room (Nat.le_of_ble_eq_true rfl)) d_Model_determinant_47 ⟨Nat.zero_le _, Nat.zero_le _⟩) hS (fun q _ h => hFc q h) hFc (fun u t_ H locs ht_ hvm_ w1 hB hz1 hk1 hS => ?_)
  obtain ⟨T1, e_T1⟩ : ∃ z, z = u := ⟨u, rfl⟩
  rw [← e_T1] at w1 hB
  rw [ht_] at hB
  obtain ⟨hP, hD⟩ := xj_3 0 2 4 hP hD rfl rfl rfl hk1 hB
  have hP : va_P (dC, dI) classes (mw m0 ma mS mt mo mb mg mh mr cA cJ (nI 0) M.n M.sv M.a M.S M.ft T1 M.fb M.fg M.fh M.fr) H := hP
  have hD : va_D A (mw m0 ma mS mt mo mb mg mh mr cA cJ (nI 0) M.n M.sv M.a M.S M.ft T1 M.fb M.fg M.fh M.fr) := hD
  rw [hXd] at w1
  have loop : ∀ (n0 : Nat) (k : Nat) (T2 B2 : Nat → Nat), (k ≤ 56) → (∀ i, T2 i < 65536) → (dg_v T2 56 = (dt_d (dA M.a) M.n).natAbs) → (∀ i, B2 i < 65536) → (∀ i, i < k → B2 i = 0) → (57 ≤ k + n0) → ∀ (H : Heap) (locs : List Loc), va_P (dC, dI) classes (mw m0 ma mS mt mo mb mg mh mr cA cJ (nI 0) M.n M.sv M.a M.S M.ft T2 B2 M.fg M.fh M.fr) H → va_D A (mw m0 ma mS mt mo mb mg mh mr cA cJ (nI 0) M.n M.sv M.a M.S M.ft T2 B2 M.fg M.fh M.fr) → va_S A s.heap H locs → ∀ (ls : Array Slot), lv_has ls 3 [(2, .int (nI k)), (1, .int (sgI (dt_d (dA M.a) M.n))), (0, .ref m0)] → W p l e (headSpec w_Model_determinant ({ frames := 1, cells := 0, slots := 0, locals := 23 })).room s m ([.ref m0] : List Value).toArray below meth c H locs 0 0 (MQ below (va_Qi (S := mT) (fun r u => mG u ∧ ((M.sv = 0 ∧ u.er = 1 ∧ u.fo = M.fo ∧ u.fb = M.fb) ∨ (M.sv = 1 ∧ u.er = 0 ∧ r.toInt = (dt_d (dA M.a) M.n).sign ∧ dg_v u.fo 56 = (dt_d (dA M.a) M.n).natAbs ∧ dg_v u.fb 56 = 1)) ∧ u.n = M.n ∧ u.sv = M.sv ∧ u.a = M.a) (fun u t => va_P (dC, dI) classes (mw m0 ma mS mt mo mb mg mh mr cA cJ u.er u.n u.sv u.a u.S u.ft u.fo u.fb u.fg u.fh u.fr) t.heap ∧ va_D A (mw m0 ma mS mt mo mb mg mh mr cA cJ u.er u.n u.sv u.a u.S u.ft u.fo u.fb u.fg u.fh u.fr)) A) ([.ref m0] : List Value).toArray s 0 0 A) (F0 m 63 ls []) := by
    intro n0
    induction n0 with
    | zero => intro k T2 B2 hk hT2 vT hB2 hz hn_; exact absurd hn_ (by omega)
    | succ n0 ih =>
      intro k T2 B2 hk hT2 vT hB2 hz hn_ H locs hP hD hS ls hl
      refine lv_iload_n hx hb d_Model_determinant_63 rfl (lv_at hl 0 rfl) ?_
      refine lv_bipush (v := nI 56) hx hb d_Model_determinant_64 rfl ?_
      refine xn_icmp_ge (tgt := 82) hx hb (by omega) (by omega) d_Model_determinant_66 (by decide) (fun hge => ?_) (fun hge => ?_)
      · refine lv_aload_n hx hb d_Model_determinant_82 rfl (lv_at hl 2 rfl) ?_
        refine va_get (D := (dC, dI)) (ci := 3) (v := .ref mb) (C := R_Model) (T := F_Model) (N := 11) hx hb hts i_Model hown hK hP 0 rfl rfl 7 (by decide) (hts _ k_fl_Model_24) (fun _ h9 => h9) rfl d_Model_determinant_83 ?_
        refine lv_iconst (v := nI 0) hx hb d_Model_determinant_86 rfl ?_
        refine lv_iconst (v := nI 1) hx hb d_Model_determinant_87 rfl ?_
        refine xn_iast hx hb hK hP hD hS 5 0 rfl rfl (i := 0) (x := 1) (by omega) (by omega) d_Model_determinant_88 (fun H locs hP hD hS => ?_)
        have hP : va_P (dC, dI) classes (mw m0 ma mS mt mo mb mg mh mr cA cJ (nI 0) M.n M.sv M.a M.S M.ft T2 (va_up B2 0 1) M.fg M.fh M.fr) H := hP
        have hD : va_D A (mw m0 ma mS mt mo mb mg mh mr cA cJ (nI 0) M.n M.sv M.a M.S M.ft T2 (va_up B2 0 1) M.fg M.fh M.fr) := hD
        refine lv_iload_n hx hb d_Model_determinant_89 rfl (lv_at hl 1 rfl) ?_
        have hb1 : dg_v (va_up B2 0 1) 56 = 1 := dg_one (va_up_self ..) (fun i h1 h2 => by rw [va_up_ne _ _ (by omega)]; exact hz i (by omega))
        have hpost : mG (⟨nI 0, M.n, M.sv, M.a, M.S, M.ft, T2, va_up B2 0 1, M.fg, M.fh, M.fr⟩ : mT) ∧ ((M.sv = 0 ∧ (nI 0 : Int32) = 1 ∧ T2 = M.fo ∧ va_up B2 0 1 = M.fb) ∨ (M.sv = 1 ∧ (nI 0 : Int32) = 0 ∧ (sgI (dt_d (dA M.a) M.n)).toInt = (dt_d (dA M.a) M.n).sign ∧ dg_v T2 56 = (dt_d (dA M.a) M.n).natAbs ∧ dg_v (va_up B2 0 1) 56 = 1)) ∧ M.n = M.n ∧ M.sv = M.sv ∧ M.a = M.a := ⟨⟨g1, g2, g3, g4, hT2, va_up_lt hB2 (by decide), g7, g8, g9, g10⟩, Or.inr ⟨hs1, rfl, sgI_t _, vT, hb1⟩, rfl, rfl, rfl⟩
        exact W.iret (v := sgI (dt_d (dA M.a) M.n)) hx hb hr (fun T_ ht_ hW_ => ⟨⟨_, (⟨nI 0, M.n, M.sv, M.a, M.S, M.ft, T2, va_up B2 0 1, M.fg, M.fh, M.fr⟩ : mT), rfl, hpost, by show va_P (dC, dI) classes _ T_.heap; rw [ht_]; exact hP, hD⟩, hS.F ht_⟩) hS.2.2 d_Model_determinant_90
      refine lv_aload_n hx hb d_Model_determinant_69 rfl (lv_at hl 2 rfl) ?_
      refine va_get (D := (dC, dI)) (ci := 3) (v := .ref mb) (C := R_Model) (T := F_Model) (N := 11) hx hb hts i_Model hown hK hP 0 rfl rfl 7 (by decide) (hts _ k_fl_Model_24) (fun _ h9 => h9) rfl d_Model_determinant_70 ?_
      refine lv_iload_n hx hb d_Model_determinant_73 rfl (lv_at hl 0 rfl) ?_
      refine lv_iconst (v := nI 0) hx hb d_Model_determinant_74 rfl ?_
      refine xn_iast hx hb hK hP hD hS 5 0 rfl rfl (i := k) (x := 0) (by omega) (by omega) d_Model_determinant_75 (fun H locs hP hD hS => ?_)
      have hP : va_P (dC, dI) classes (mw m0 ma mS mt mo mb mg mh mr cA cJ (nI 0) M.n M.sv M.a M.S M.ft T2 (va_up B2 k 0) M.fg M.fh M.fr) H := hP
      have hD : va_D A (mw m0 ma mS mt mo mb mg mh mr cA cJ (nI 0) M.n M.sv M.a M.S M.ft T2 (va_up B2 k 0) M.fg M.fh M.fr) := hD
      refine lv_iinc (v := nI (k + 1)) (lv' := [(2, .int (nI (k + 1))), (1, .int (sgI (dt_d (dA M.a) M.n))), (0, .ref m0)]) hx hb d_Model_determinant_76 hl (k := 0) rfl (nI_1 _) (by decide) rfl (fun ls hl => ?_)
      refine lv_goto (tgt := 63) hx hb d_Model_determinant_79 (by decide) ?_
      exact ih (k + 1) T2 (va_up B2 k 0) (by omega) hT2 vT (va_up_lt hB2 (by decide)) (fun i hi => by
                by_cases q : i = k
                · rw [q, va_up_self]
                · rw [va_up_ne _ _ q]; exact hz i (by omega)) (by omega) H locs hP hD hS ls (lv_sub hl [0, 1, 2] rfl)
  refine lv_iload_n hx hb d_Model_determinant_50 rfl (lv_at hl 0 rfl) ?_
  refine lv_if_ge (tgt := 61) hx hb d_Model_determinant_51 (by decide) (fun hge => ?_) (fun hge => ?_)
  · refine lv_iconst (v := nI 0) hx hb d_Model_determinant_61 rfl ?_
    refine lv_istore_n (lv' := [(2, .int (nI 0)), (1, .int (sgI (dt_d (dA M.a) M.n))), (0, .ref m0)]) hx hb d_Model_determinant_62 rfl hl (by decide) rfl (fun ls hl => ?_)
    exact loop 57 0 T1 M.fb (Nat.zero_le _) w1.1 (tk_pos hbd w1.2 hge) g6 (fun i hi => absurd hi (Nat.not_lt_zero _)) (by omega) H locs hP hD hS ls (lv_sub hl [0, 1, 2] rfl)
  refine lv_aload_n hx hb d_Model_determinant_54 rfl (lv_at hl 1 rfl) ?_
  refine va_get (D := (dC, dI)) (ci := 3) (v := .ref mo) (C := R_Model) (T := F_Model) (N := 11) hx hb hts i_Model hown hK hP 0 rfl rfl 6 (by decide) (hts _ k_fl_Model_21) (fun _ h9 => h9) rfl d_Model_determinant_55 ?_
  have hFc := va_free (wc := [(mo, .inl (cA, 56, .inl (xn_f T1)))]) hD hS hA [4] rfl
  refine va_callv (va_runS (As := [.ref mo]) (rest := []) ⟨hx, hb, hml, hown, hts⟩ (c_Model_turn l dC dI H.size cA mo T1 w1.1) (cwS 1 hts (gw_S k_ml_Model_53 k_st_Model_turn k_ini_Model k_code_Model_turn) rfl rfl rfl (by decide +kernel) ⟨Nat.le_of_ble_eq_true rfl, Nat.le_of_ble_eq_true rfl⟩) ⟨xc_W_blind, fun U hU hW => ⟨rfl, by rw [hU], by rw [hU]; exact hP.sub (ws' := [(mo, .inl (cA, 56, .inl (xn_f T1)))]) [4] rfl, va_K.moved hW.alike (hK.sub (tys' := [(cA, .int)]) [0] rfl), (hD.sub (ws' := [(mo, .inl (cA, 56, .inl (xn_f T1)))]) [4] (by decide) rfl).weaken (fun _ _ _ _ => trivial)⟩⟩ rfl rfl hl.1 rfl (lv_room (Nat.le_of_ble_eq_true rfl)) d_Model_determinant_58 ⟨Nat.zero_le _, Nat.zero_le _⟩) hS (fun q _ h => hFc q h) hFc (fun u t_ H locs ht_ hvm_ w6 hB hz1 hk1 hS => ?_)
  obtain ⟨T2, e_T2⟩ : ∃ z, z = u := ⟨u, rfl⟩
  rw [← e_T2] at w6 hB
  rw [ht_] at hB
  obtain ⟨hP, hD⟩ := xj_1 4 hP hD rfl hk1 hB
  have hP : va_P (dC, dI) classes (mw m0 ma mS mt mo mb mg mh mr cA cJ (nI 0) M.n M.sv M.a M.S M.ft T2 M.fb M.fg M.fh M.fr) H := hP
  have hD : va_D A (mw m0 ma mS mt mo mb mg mh mr cA cJ (nI 0) M.n M.sv M.a M.S M.ft T2 M.fb M.fg M.fh M.fr) := hD
  refine lv_iconst (v := nI 0) hx hb d_Model_determinant_61 rfl ?_
  refine lv_istore_n (lv' := [(2, .int (nI 0)), (1, .int (sgI (dt_d (dA M.a) M.n))), (0, .ref m0)]) hx hb d_Model_determinant_62 rfl hl (by decide) rfl (fun ls hl => ?_)
  exact loop 57 0 T2 M.fb (Nat.zero_le _) w6.1 (tk_neg hbd w1.2 w6.2 hge) g6 (fun i hi => absurd hi (Nat.not_lt_zero _)) (by omega) H locs hP hD hS ls (lv_sub hl [0, 1, 2] rfl)
