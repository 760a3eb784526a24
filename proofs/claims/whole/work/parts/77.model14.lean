set_option maxHeartbeats 8000000 in
set_option maxRecDepth 100000 in
/-- compare of the reference -/
theorem c_Model_compare (l : Launch) (dC : Nat → ClassId) (dI : Nat → Nat → Nat) (sz : Nat) (m0 ma mS mt mo mb mg mh mr : Nat) (cA cJ : ClassId) (M : mT) (j k : Int32) (hG : mG M) : Met l y_Model_compare w_Model_compare ({ frames := 1, cells := 0, slots := 0, locals := 23 }) (xc_W [.ref m0, .int j, .int k] dC dI (mw m0 ma mS mt mo mb mg mh mr cA cJ M.er M.n M.sv M.a M.S M.ft M.fo M.fb M.fg M.fh M.fr) [(cA, .int), (cJ, .long)] sz) (va_Qi (S := mT) (fun r u => mG u ∧ ((M.sv = 0 ∧ u.er = 1) ∨ (M.sv = 1 ∧ ¬ (0 ≤ (j).toInt ∧ (j).toInt < M.n ∧ 0 ≤ (k).toInt ∧ (k).toInt < M.n) ∧ u.er = 2) ∨ (∃ j2 k2 : Nat, j = nI j2 ∧ k = nI k2 ∧ j2 < M.n ∧ k2 < M.n ∧ M.sv = 1 ∧ u.er = 0 ∧ r = wh_c (dt_y (dA M.a) j2 (M.n - 1 - j2) M.n) (dt_y (dA M.a) k2 (M.n - 1 - k2) M.n) * sgI (dt_d (dA M.a) M.n))) ∧ u.n = M.n ∧ u.sv = M.sv ∧ u.a = M.a ∧ u.fo = M.fo ∧ u.fb = M.fb) (fun u t => va_P (dC, dI) classes (mw m0 ma mS mt mo mb mg mh mr cA cJ u.er u.n u.sv u.a u.S u.ft u.fo u.fb u.fg u.fh u.fr) t.heap ∧ va_D (va_A (mw m0 ma mS mt mo mb mg mh mr cA cJ M.er M.n M.sv M.a M.S M.ft M.fo M.fb M.fg M.fh M.fr) sz) (mw m0 ma mS mt mo mb mg mh mr cA cJ u.er u.n u.sv u.a u.S u.ft u.fo u.fb u.fg u.fh u.fr)) (va_A (mw m0 ma mS mt mo mb mg mh mr cA cJ M.er M.n M.sv M.a M.S M.ft M.fo M.fb M.fg M.fh M.fr) sz)) 0 0 (va_A (mw m0 ma mS mt mo mb mg mh mr cA cJ M.er M.n M.sv M.a M.S M.ft M.fo M.fb M.fg M.fh M.fr) sz) := by
  refine Met.ofW (cc := b_Model_compare) (maxL := 3) (ret := (some .int)) (by decide) rfl ?_
  intro p e s m args below meth c s₁ B hml hv
  obtain ⟨rfl, hsz, hP, hK, hD0⟩ := hv
  have hx := B.exec
  have hb := B.bytes
  have hr := B.returns
  have hts : ∀ w ∈ gw_tbl, w.before ([.ref m0, .int j, .int k] : List Value).toArray s = true := fun w h => atoms_spec (ws := w_Model_compare) B.pre w (List.mem_cons_of_mem _ h)
  have hown : s.vm.findClass R_Model = some m.cls := findClass_of_methodNamed B.named
  have hlocks := B.notSynchronized
  subst hsz
  have hD := hD0.self (sz := s.heap.size)
  generalize hAe : va_A (mw m0 ma mS mt mo mb mg mh mr cA cJ M.er M.n M.sv M.a M.S M.ft M.fo M.fb M.fg M.fh M.fr) s.heap.size = A at hD ⊢
  have hA : ∀ q : Nat, s.heap.size ≤ q → A q := fun q h => by rw [← hAe]; exact Or.inr h
  have hS : va_S A s.heap s.heap [] := va_S.rf
  have hl := lv_entry ([.ref m0, .int j, .int k]) (n := 3) (Nat.le_of_ble_eq_true rfl)
  rw [lg_entry_eq]
  generalize (lg_sl ([.ref m0, .int j, .int k]) ++ List.replicate (3 - (lg_sl ([.ref m0, .int j, .int k])).length) Slot.unset).toArray = ls at hl ⊢
  have hl : lv_has ls 3 [(0, .ref m0), (1, .int j), (2, .int k)] := hl
  have hG0 := hG
  obtain ⟨g1, g2, g3, g4, g5, g6, g7, g8, g9, g10⟩ := hG
  have z0 : (0 : Int32).toInt = 0 := rfl
  have hnt : (nI M.n).toInt = (M.n : Int) := nI_toInt (by omega)
  have hall : 2 ^ (M.n + 1) ≤ 8192 := Nat.pow_le_pow_right (n := 2) (j := 13) (by decide) (by omega)
  have hn2 : 2 ^ (M.n + 1) = 2 ^ M.n * 2 := Nat.pow_succ ..
  have hnp := Nat.two_pow_pos M.n
  refine lv_aload_n hx hb d_Model_compare_0 rfl (lv_at hl 0 rfl) ?_
  refine lv_iconst (v := nI 0) hx hb d_Model_compare_1 rfl ?_
  refine va_put (D := (dC, dI)) (ci := 3) (v := .int (nI 0)) (ty := .int) (C := R_Model) (T := F_Model) (N := 11) hx hb hts i_Model t_Model t_Model_ok n_Model hown hK hP hD hS 0 rfl rfl 0 (by decide) (hts _ k_fl_Model_36) (fun _ h9 => h9) rfl (by decide +kernel) rfl rfl (Nat.le_of_ble_eq_true rfl) d_Model_compare_2 (fun H locs hP hD hS => ?_)
  have hP : va_P (dC, dI) classes (mw m0 ma mS mt mo mb mg mh mr cA cJ (nI 0) M.n M.sv M.a M.S M.ft M.fo M.fb M.fg M.fh M.fr) H := hP
  have hD : va_D A (mw m0 ma mS mt mo mb mg mh mr cA cJ (nI 0) M.n M.sv M.a M.S M.ft M.fo M.fb M.fg M.fh M.fr) := hD
  refine lv_aload_n hx hb d_Model_compare_5 rfl (lv_at hl 0 rfl) ?_
  refine lv_aload_n hx hb d_Model_compare_6 rfl (lv_at hl 0 rfl) ?_
  refine va_get (D := (dC, dI)) (ci := 3) (v := .int M.sv) (C := R_Model) (T := F_Model) (N := 11) hx hb hts i_Model hown hK hP 0 rfl rfl 2 (by decide) (hts _ k_fl_Model_47) (fun _ h9 => h9) rfl d_Model_compare_7 ?_
  refine lv_if_ne (tgt := 17) hx hb d_Model_compare_10 (by decide) (fun hs => ?_) (fun hs => ?_)
  rotate_left
  · refine lv_iconst (v := nI 1) hx hb d_Model_compare_13 rfl ?_
    refine lv_goto (tgt := 18) hx hb d_Model_compare_14 (by decide) ?_
    refine lv_iconst (v := nI 1) hx hb d_Model_compare_18 rfl ?_
    have hFc := va_free (wc := [(m0, .inr (3, [.int (nI 0), .int (nI M.n), .int M.sv, .ref ma, .ref mS, .ref mt, .ref mo, .ref mb, .ref mg, .ref mh, .ref mr]))]) hD hS hA [0] rfl
    refine va_calli (va_runV (As := [.int (nI 1), .int (nI 1)]) (rest := []) ⟨hx, hb, hml, hown, hts⟩ (c_Model_fails l dC dI H.size m0 ma mS mt mo mb mg mh mr (nI 0) M.n M.sv (nI 1) (nI 1)) (cwV 2 hts (gw_V k_ml_Model_40 k_im_Model_fails k_sel_Model_fails k_ini_Model k_code_Model_fails) rfl rfl rfl (by decide +kernel) ⟨Nat.le_of_ble_eq_true rfl, Nat.le_of_ble_eq_true rfl⟩) ⟨xc_W_blind, va_recv hK hP (ci := 3) (q0 := 0) rfl rfl, fun U hU hW => ⟨rfl, by rw [hU], by rw [hU]; exact hP.sub (ws' := [(m0, .inr (3, [.int (nI 0), .int (nI M.n), .int M.sv, .ref ma, .ref mS, .ref mt, .ref mo, .ref mb, .ref mg, .ref mh, .ref mr]))]) [0] rfl, va_K.moved hW.alike (hK.sub (tys' := []) [] rfl), (hD.sub (ws' := [(m0, .inr (3, [.int (nI 0), .int (nI M.n), .int M.sv, .ref ma, .ref mS, .ref mt, .ref mo, .ref mb, .ref mg, .ref mh, .ref mr]))]) [0] (by decide) rfl).weaken (fun _ _ _ _ => trivial)⟩⟩ rfl rfl hl.1 rfl (lv_room (Nat.le_of_ble_eq_true rfl)) d_Model_compare_19 ⟨Nat.zero_le _, Nat.zero_le _⟩) hS (fun q _ h => hFc q h) hFc (fun rf u t_ H locs ht_ hvm_ wf hB hz1 hk1 hS => ?_)
    obtain ⟨e1_, e_e1_⟩ : ∃ z, z = u := ⟨u, rfl⟩
    rw [← e_e1_] at wf hB
    rw [ht_] at hB
    obtain ⟨hP, hD⟩ := xj_1 0 hP hD rfl hk1 hB
    have hP : va_P (dC, dI) classes (mw m0 ma mS mt mo mb mg mh mr cA cJ e1_ M.n M.sv M.a M.S M.ft M.fo M.fb M.fg M.fh M.fr) H := hP
    have hD : va_D A (mw m0 ma mS mt mo mb mg mh mr cA cJ e1_ M.n M.sv M.a M.S M.ft M.fo M.fb M.fg M.fh M.fr) := hD
    rw [if_neg (show ¬ (nI 1 : Int32) = 0 by decide), if_pos (show (nI 0 : Int32) = 0 by decide)] at wf
    obtain ⟨wf1, wf2⟩ := wf
    subst wf1
    rw [if_neg (show ¬ (nI 1 : Int32) = 0 by decide)] at wf2
    subst wf2
    have hP : va_P (dC, dI) classes (mw m0 ma mS mt mo mb mg mh mr cA cJ (nI 1) M.n M.sv M.a M.S M.ft M.fo M.fb M.fg M.fh M.fr) H := hP
    have hD : va_D A (mw m0 ma mS mt mo mb mg mh mr cA cJ (nI 1) M.n M.sv M.a M.S M.ft M.fo M.fb M.fg M.fh M.fr) := hD
    refine lv_if_ne (tgt := 62) hx hb d_Model_compare_22 (by decide) (fun _ => ?_) (fun h9_ => absurd h9_ (by decide))
    refine lv_iconst (v := nI 0) hx hb d_Model_compare_62 rfl ?_
    have hpost : mG (⟨nI 1, M.n, M.sv, M.a, M.S, M.ft, M.fo, M.fb, M.fg, M.fh, M.fr⟩ : mT) ∧ ((M.sv = 0 ∧ (nI 1 : Int32) = 1) ∨ (M.sv = 1 ∧ ¬ (0 ≤ (j).toInt ∧ (j).toInt < M.n ∧ 0 ≤ (k).toInt ∧ (k).toInt < M.n) ∧ (nI 1 : Int32) = 2) ∨ (∃ j2 k2 : Nat, j = nI j2 ∧ k = nI k2 ∧ j2 < M.n ∧ k2 < M.n ∧ M.sv = 1 ∧ (nI 1 : Int32) = 0 ∧ (nI 0 : Int32) = wh_c (dt_y (dA M.a) j2 (M.n - 1 - j2) M.n) (dt_y (dA M.a) k2 (M.n - 1 - k2) M.n) * sgI (dt_d (dA M.a) M.n))) ∧ M.n = M.n ∧ M.sv = M.sv ∧ M.a = M.a ∧ M.fo = M.fo ∧ M.fb = M.fb := ⟨⟨g1, g2, g3, g4, g5, g6, g7, g8, g9, g10⟩, Or.inl ⟨hs, rfl⟩, rfl, rfl, rfl, rfl, rfl⟩
    exact W.iret (v := nI 0) hx hb hr (fun T_ ht_ hW_ => ⟨⟨_, (⟨nI 1, M.n, M.sv, M.a, M.S, M.ft, M.fo, M.fb, M.fg, M.fh, M.fr⟩ : mT), rfl, hpost, by show va_P (dC, dI) classes _ T_.heap; rw [ht_]; exact hP, hD⟩, hS.F ht_⟩) hS.2.2 d_Model_compare_63
  refine lv_iconst (v := nI 0) hx hb d_Model_compare_17 rfl ?_
  refine lv_iconst (v := nI 1) hx hb d_Model_compare_18 rfl ?_
  have hFc := va_free (wc := [(m0, .inr (3, [.int (nI 0), .int (nI M.n), .int M.sv, .ref ma, .ref mS, .ref mt, .ref mo, .ref mb, .ref mg, .ref mh, .ref mr]))]) hD hS hA [0] rfl
  refine va_calli (va_runV (As := [.int (nI 0), .int (nI 1)]) (rest := []) ⟨hx, hb, hml, hown, hts⟩ (c_Model_fails l dC dI H.size m0 ma mS mt mo mb mg mh mr (nI 0) M.n M.sv (nI 0) (nI 1)) (cwV 2 hts (gw_V k_ml_Model_40 k_im_Model_fails k_sel_Model_fails k_ini_Model k_code_Model_fails) rfl rfl rfl (by decide +kernel) ⟨Nat.le_of_ble_eq_true rfl, Nat.le_of_ble_eq_true rfl⟩) ⟨xc_W_blind, va_recv hK hP (ci := 3) (q0 := 0) rfl rfl, fun U hU hW => ⟨rfl, by rw [hU], by rw [hU]; exact hP.sub (ws' := [(m0, .inr (3, [.int (nI 0), .int (nI M.n), .int M.sv, .ref ma, .ref mS, .ref mt, .ref mo, .ref mb, .ref mg, .ref mh, .ref mr]))]) [0] rfl, va_K.moved hW.alike (hK.sub (tys' := []) [] rfl), (hD.sub (ws' := [(m0, .inr (3, [.int (nI 0), .int (nI M.n), .int M.sv, .ref ma, .ref mS, .ref mt, .ref mo, .ref mb, .ref mg, .ref mh, .ref mr]))]) [0] (by decide) rfl).weaken (fun _ _ _ _ => trivial)⟩⟩ rfl rfl hl.1 rfl (lv_room (Nat.le_of_ble_eq_true rfl)) d_Model_compare_19 ⟨Nat.zero_le _, Nat.zero_le _⟩) hS (fun q _ h => hFc q h) hFc (fun rf u t_ H locs ht_ hvm_ wf hB hz1 hk1 hS => ?_)
  obtain ⟨e1_, e_e1_⟩ : ∃ z, z = u := ⟨u, rfl⟩
  rw [← e_e1_] at wf hB
  rw [ht_] at hB
  obtain ⟨hP, hD⟩ := xj_1 0 hP hD rfl hk1 hB
  have hP : va_P (dC, dI) classes (mw m0 ma mS mt mo mb mg mh mr cA cJ e1_ M.n M.sv M.a M.S M.ft M.fo M.fb M.fg M.fh M.fr) H := hP
  have hD : va_D A (mw m0 ma mS mt mo mb mg mh mr cA cJ e1_ M.n M.sv M.a M.S M.ft M.fo M.fb M.fg M.fh M.fr) := hD
  rw [if_pos (show (nI 0 : Int32) = 0 by decide)] at wf
  obtain ⟨wf1, wf2⟩ := wf
  subst wf1
  rw [if_pos (show (nI 0 : Int32) = 0 by decide)] at wf2
  subst wf2
  have hP : va_P (dC, dI) classes (mw m0 ma mS mt mo mb mg mh mr cA cJ (nI 0) M.n M.sv M.a M.S M.ft M.fo M.fb M.fg M.fh M.fr) H := hP
  have hD : va_D A (mw m0 ma mS mt mo mb mg mh mr cA cJ (nI 0) M.n M.sv M.a M.S M.ft M.fo M.fb M.fg M.fh M.fr) := hD
  refine lv_if_ne (tgt := 62) hx hb d_Model_compare_22 (by decide) (fun h9_ => absurd h9_ (by decide)) (fun _ => ?_)
  have hs1 : M.sv = 1 := by
    rcases g2 with e | e
    · exact absurd e hs
    · exact e
  refine lv_aload_n hx hb d_Model_compare_25 rfl (lv_at hl 0 rfl) ?_
  refine lv_iload_n hx hb d_Model_compare_26 rfl (lv_at hl 1 rfl) ?_
  refine lv_if_lt (tgt := 50) hx hb d_Model_compare_27 (by decide) (fun h1 => ?_) (fun h1 => ?_)
  · refine lv_iconst (v := nI 1) hx hb d_Model_compare_50 rfl ?_
    refine lv_goto (tgt := 55) hx hb d_Model_compare_51 (by decide) ?_
    refine lv_iconst (v := nI 2) hx hb d_Model_compare_55 rfl ?_
    have hFc := va_free (wc := [(m0, .inr (3, [.int (nI 0), .int (nI M.n), .int M.sv, .ref ma, .ref mS, .ref mt, .ref mo, .ref mb, .ref mg, .ref mh, .ref mr]))]) hD hS hA [0] rfl
    refine va_calli (va_runV (As := [.int (nI 1), .int (nI 2)]) (rest := []) ⟨hx, hb, hml, hown, hts⟩ (c_Model_fails l dC dI H.size m0 ma mS mt mo mb mg mh mr (nI 0) M.n M.sv (nI 1) (nI 2)) (cwV 2 hts (gw_V k_ml_Model_40 k_im_Model_fails k_sel_Model_fails k_ini_Model k_code_Model_fails) rfl rfl rfl (by decide +kernel) ⟨Nat.le_of_ble_eq_true rfl, Nat.le_of_ble_eq_true rfl⟩) ⟨xc_W_blind, va_recv hK hP (ci := 3) (q0 := 0) rfl rfl, fun U hU hW => ⟨rfl, by rw [hU], by rw [hU]; exact hP.sub (ws' := [(m0, .inr (3, [.int (nI 0), .int (nI M.n), .int M.sv, .ref ma, .ref mS, .ref mt, .ref mo, .ref mb, .ref mg, .ref mh, .ref mr]))]) [0] rfl, va_K.moved hW.alike (hK.sub (tys' := []) [] rfl), (hD.sub (ws' := [(m0, .inr (3, [.int (nI 0), .int (nI M.n), .int M.sv, .ref ma, .ref mS, .ref mt, .ref mo, .ref mb, .ref mg, .ref mh, .ref mr]))]) [0] (by decide) rfl).weaken (fun _ _ _ _ => trivial)⟩⟩ rfl rfl hl.1 rfl (lv_room (Nat.le_of_ble_eq_true rfl)) d_Model_compare_56 ⟨Nat.zero_le _, Nat.zero_le _⟩) hS (fun q _ h => hFc q h) hFc (fun rf u t_ H locs ht_ hvm_ wf hB hz1 hk1 hS => ?_)
    obtain ⟨e1_, e_e1_⟩ : ∃ z, z = u := ⟨u, rfl⟩
    rw [← e_e1_] at wf hB
    rw [ht_] at hB
    obtain ⟨hP, hD⟩ := xj_1 0 hP hD rfl hk1 hB
    have hP : va_P (dC, dI) classes (mw m0 ma mS mt mo mb mg mh mr cA cJ e1_ M.n M.sv M.a M.S M.ft M.fo M.fb M.fg M.fh M.fr) H := hP
    have hD : va_D A (mw m0 ma mS mt mo mb mg mh mr cA cJ e1_ M.n M.sv M.a M.S M.ft M.fo M.fb M.fg M.fh M.fr) := hD
    rw [if_neg (show ¬ (nI 1 : Int32) = 0 by decide), if_pos (show (nI 0 : Int32) = 0 by decide)] at wf
    obtain ⟨wf1, wf2⟩ := wf
    subst wf1
    rw [if_neg (show ¬ (nI 2 : Int32) = 0 by decide)] at wf2
    subst wf2
    have hP : va_P (dC, dI) classes (mw m0 ma mS mt mo mb mg mh mr cA cJ (nI 2) M.n M.sv M.a M.S M.ft M.fo M.fb M.fg M.fh M.fr) H := hP
    have hD : va_D A (mw m0 ma mS mt mo mb mg mh mr cA cJ (nI 2) M.n M.sv M.a M.S M.ft M.fo M.fb M.fg M.fh M.fr) := hD
    refine lv_if_eq (tgt := 64) hx hb d_Model_compare_59 (by decide) (fun h9_ => absurd h9_ (by decide)) (fun _ => ?_)
    refine lv_iconst (v := nI 0) hx hb d_Model_compare_62 rfl ?_
    have hpost : mG (⟨nI 2, M.n, M.sv, M.a, M.S, M.ft, M.fo, M.fb, M.fg, M.fh, M.fr⟩ : mT) ∧ ((M.sv = 0 ∧ (nI 2 : Int32) = 1) ∨ (M.sv = 1 ∧ ¬ (0 ≤ (j).toInt ∧ (j).toInt < M.n ∧ 0 ≤ (k).toInt ∧ (k).toInt < M.n) ∧ (nI 2 : Int32) = 2) ∨ (∃ j2 k2 : Nat, j = nI j2 ∧ k = nI k2 ∧ j2 < M.n ∧ k2 < M.n ∧ M.sv = 1 ∧ (nI 2 : Int32) = 0 ∧ (nI 0 : Int32) = wh_c (dt_y (dA M.a) j2 (M.n - 1 - j2) M.n) (dt_y (dA M.a) k2 (M.n - 1 - k2) M.n) * sgI (dt_d (dA M.a) M.n))) ∧ M.n = M.n ∧ M.sv = M.sv ∧ M.a = M.a ∧ M.fo = M.fo ∧ M.fb = M.fb := ⟨⟨g1, g2, g3, g4, g5, g6, g7, g8, g9, g10⟩, Or.inr (Or.inl ⟨hs1, fun z => by rw [Int32.lt_iff_toInt_lt] at h1; omega, rfl⟩), rfl, rfl, rfl, rfl, rfl⟩
    exact W.iret (v := nI 0) hx hb hr (fun T_ ht_ hW_ => ⟨⟨_, (⟨nI 2, M.n, M.sv, M.a, M.S, M.ft, M.fo, M.fb, M.fg, M.fh, M.fr⟩ : mT), rfl, hpost, by show va_P (dC, dI) classes _ T_.heap; rw [ht_]; exact hP, hD⟩, hS.F ht_⟩) hS.2.2 d_Model_compare_63
  refine lv_iload_n hx hb d_Model_compare_30 rfl (lv_at hl 1 rfl) ?_
  refine lv_aload_n hx hb d_Model_compare_31 rfl (lv_at hl 0 rfl) ?_
  refine va_get (D := (dC, dI)) (ci := 3) (v := .int (nI M.n)) (C := R_Model) (T := F_Model) (N := 11) hx hb hts i_Model hown hK hP 0 rfl rfl 1 (by decide) (hts _ k_fl_Model_44) (fun _ h9 => h9) rfl d_Model_compare_32 ?_
  refine lv_icmp_ge (tgt := 50) hx hb d_Model_compare_35 (by decide) (fun h2 => ?_) (fun h2 => ?_)
  · refine lv_iconst (v := nI 1) hx hb d_Model_compare_50 rfl ?_
    refine lv_goto (tgt := 55) hx hb d_Model_compare_51 (by decide) ?_
    refine lv_iconst (v := nI 2) hx hb d_Model_compare_55 rfl ?_
    have hFc := va_free (wc := [(m0, .inr (3, [.int (nI 0), .int (nI M.n), .int M.sv, .ref ma, .ref mS, .ref mt, .ref mo, .ref mb, .ref mg, .ref mh, .ref mr]))]) hD hS hA [0] rfl
    refine va_calli (va_runV (As := [.int (nI 1), .int (nI 2)]) (rest := []) ⟨hx, hb, hml, hown, hts⟩ (c_Model_fails l dC dI H.size m0 ma mS mt mo mb mg mh mr (nI 0) M.n M.sv (nI 1) (nI 2)) (cwV 2 hts (gw_V k_ml_Model_40 k_im_Model_fails k_sel_Model_fails k_ini_Model k_code_Model_fails) rfl rfl rfl (by decide +kernel) ⟨Nat.le_of_ble_eq_true rfl, Nat.le_of_ble_eq_true rfl⟩) ⟨xc_W_blind, va_recv hK hP (ci := 3) (q0 := 0) rfl rfl, fun U hU hW => ⟨rfl, by rw [hU], by rw [hU]; exact hP.sub (ws' := [(m0, .inr (3, [.int (nI 0), .int (nI M.n), .int M.sv, .ref ma, .ref mS, .ref mt, .ref mo, .ref mb, .ref mg, .ref mh, .ref mr]))]) [0] rfl, va_K.moved hW.alike (hK.sub (tys' := []) [] rfl), (hD.sub (ws' := [(m0, .inr (3, [.int (nI 0), .int (nI M.n), .int M.sv, .ref ma, .ref mS, .ref mt, .ref mo, .ref mb, .ref mg, .ref mh, .ref mr]))]) [0] (by decide) rfl).weaken (fun _ _ _ _ => trivial)⟩⟩ rfl rfl hl.1 rfl (lv_room (Nat.le_of_ble_eq_true rfl)) d_Model_compare_56 ⟨Nat.zero_le _, Nat.zero_le _⟩) hS (fun q _ h => hFc q h) hFc (fun rf u t_ H locs ht_ hvm_ wf hB hz1 hk1 hS => ?_)
    obtain ⟨e1_, e_e1_⟩ : ∃ z, z = u := ⟨u, rfl⟩
    rw [← e_e1_] at wf hB
    rw [ht_] at hB
    obtain ⟨hP, hD⟩ := xj_1 0 hP hD rfl hk1 hB
    have hP : va_P (dC, dI) classes (mw m0 ma mS mt mo mb mg mh mr cA cJ e1_ M.n M.sv M.a M.S M.ft M.fo M.fb M.fg M.fh M.fr) H := hP
    have hD : va_D A (mw m0 ma mS mt mo mb mg mh mr cA cJ e1_ M.n M.sv M.a M.S M.ft M.fo M.fb M.fg M.fh M.fr) := hD
    rw [if_neg (show ¬ (nI 1 : Int32) = 0 by decide), if_pos (show (nI 0 : Int32) = 0 by decide)] at wf
    obtain ⟨wf1, wf2⟩ := wf
    subst wf1
    rw [if_neg (show ¬ (nI 2 : Int32) = 0 by decide)] at wf2
    subst wf2
    have hP : va_P (dC, dI) classes (mw m0 ma mS mt mo mb mg mh mr cA cJ (nI 2) M.n M.sv M.a M.S M.ft M.fo M.fb M.fg M.fh M.fr) H := hP
    have hD : va_D A (mw m0 ma mS mt mo mb mg mh mr cA cJ (nI 2) M.n M.sv M.a M.S M.ft M.fo M.fb M.fg M.fh M.fr) := hD
    refine lv_if_eq (tgt := 64) hx hb d_Model_compare_59 (by decide) (fun h9_ => absurd h9_ (by decide)) (fun _ => ?_)
    refine lv_iconst (v := nI 0) hx hb d_Model_compare_62 rfl ?_
    have hpost : mG (⟨nI 2, M.n, M.sv, M.a, M.S, M.ft, M.fo, M.fb, M.fg, M.fh, M.fr⟩ : mT) ∧ ((M.sv = 0 ∧ (nI 2 : Int32) = 1) ∨ (M.sv = 1 ∧ ¬ (0 ≤ (j).toInt ∧ (j).toInt < M.n ∧ 0 ≤ (k).toInt ∧ (k).toInt < M.n) ∧ (nI 2 : Int32) = 2) ∨ (∃ j2 k2 : Nat, j = nI j2 ∧ k = nI k2 ∧ j2 < M.n ∧ k2 < M.n ∧ M.sv = 1 ∧ (nI 2 : Int32) = 0 ∧ (nI 0 : Int32) = wh_c (dt_y (dA M.a) j2 (M.n - 1 - j2) M.n) (dt_y (dA M.a) k2 (M.n - 1 - k2) M.n) * sgI (dt_d (dA M.a) M.n))) ∧ M.n = M.n ∧ M.sv = M.sv ∧ M.a = M.a ∧ M.fo = M.fo ∧ M.fb = M.fb := ⟨⟨g1, g2, g3, g4, g5, g6, g7, g8, g9, g10⟩, Or.inr (Or.inl ⟨hs1, fun z => by rw [Int32.le_iff_toInt_le] at h2; omega, rfl⟩), rfl, rfl, rfl, rfl, rfl⟩
    exact W.iret (v := nI 0) hx hb hr (fun T_ ht_ hW_ => ⟨⟨_, (⟨nI 2, M.n, M.sv, M.a, M.S, M.ft, M.fo, M.fb, M.fg, M.fh, M.fr⟩ : mT), rfl, hpost, by show va_P (dC, dI) classes _ T_.heap; rw [ht_]; exact hP, hD⟩, hS.F ht_⟩) hS.2.2 d_Model_compare_63
  refine lv_iload_n hx hb d_Model_compare_38 rfl (lv_at hl 2 rfl) ?_
  refine lv_if_lt (tgt := 50) hx hb d_Model_compare_39 (by decide) (fun h3 => ?_) (fun h3 => ?_)
  · refine lv_iconst (v := nI 1) hx hb d_Model_compare_50 rfl ?_
    refine lv_goto (tgt := 55) hx hb d_Model_compare_51 (by decide) ?_
    refine lv_iconst (v := nI 2) hx hb d_Model_compare_55 rfl ?_
    have hFc := va_free (wc := [(m0, .inr (3, [.int (nI 0), .int (nI M.n), .int M.sv, .ref ma, .ref mS, .ref mt, .ref mo, .ref mb, .ref mg, .ref mh, .ref mr]))]) hD hS hA [0] rfl
    refine va_calli (va_runV (As := [.int (nI 1), .int (nI 2)]) (rest := []) ⟨hx, hb, hml, hown, hts⟩ (c_Model_fails l dC dI H.size m0 ma mS mt mo mb mg mh mr (nI 0) M.n M.sv (nI 1) (nI 2)) (cwV 2 hts (gw_V k_ml_Model_40 k_im_Model_fails k_sel_Model_fails k_ini_Model k_code_Model_fails) rfl rfl rfl (by decide +kernel) ⟨Nat.le_of_ble_eq_true rfl, Nat.le_of_ble_eq_true rfl⟩) ⟨xc_W_blind, va_recv hK hP (ci := 3) (q0 := 0) rfl rfl, fun U hU hW => ⟨rfl, by rw [hU], by rw [hU]; exact hP.sub (ws' := [(m0, .inr (3, [.int (nI 0), .int (nI M.n), .int M.sv, .ref ma, .ref mS, .ref mt, .ref mo, .ref mb, .ref mg, .ref mh, .ref mr]))]) [0] rfl, va_K.moved hW.alike (hK.sub (tys' := []) [] rfl), (hD.sub (ws' := [(m0, .inr (3, [.int (nI 0), .int (nI M.n), .int M.sv, .ref ma, .ref mS, .ref mt, .ref mo, .ref mb, .ref mg, .ref mh, .ref mr]))]) [0] (by decide) rfl).weaken (fun _ _ _ _ => trivial)⟩⟩ rfl rfl hl.1 rfl (lv_room (Nat.le_of_ble_eq_true rfl)) d_Model_compare_56 ⟨Nat.zero_le _, Nat.zero_le _⟩) hS (fun q _ h => hFc q h) hFc (fun rf u t_ H locs ht_ hvm_ wf hB hz1 hk1 hS => ?_)
    obtain ⟨e1_, e_e1_⟩ : ∃ z, z = u := ⟨u, rfl⟩
    rw [← e_e1_] at wf hB
    rw [ht_] at hB
    obtain ⟨hP, hD⟩ := xj_1 0 hP hD rfl hk1 hB
    have hP : va_P (dC, dI) classes (mw m0 ma mS mt mo mb mg mh mr cA cJ e1_ M.n M.sv M.a M.S M.ft M.fo M.fb M.fg M.fh M.fr) H := hP
    have hD : va_D A (mw m0 ma mS mt mo mb mg mh mr cA cJ e1_ M.n M.sv M.a M.S M.ft M.fo M.fb M.fg M.fh M.fr) := hD
    rw [if_neg (show ¬ (nI 1 : Int32) = 0 by decide), if_pos (show (nI 0 : Int32) = 0 by decide)] at wf
    obtain ⟨wf1, wf2⟩ := wf
    subst wf1
    rw [if_neg (show ¬ (nI 2 : Int32) = 0 by decide)] at wf2
    subst wf2
    have hP : va_P (dC, dI) classes (mw m0 ma mS mt mo mb mg mh mr cA cJ (nI 2) M.n M.sv M.a M.S M.ft M.fo M.fb M.fg M.fh M.fr) H := hP
    have hD : va_D A (mw m0 ma mS mt mo mb mg mh mr cA cJ (nI 2) M.n M.sv M.a M.S M.ft M.fo M.fb M.fg M.fh M.fr) := hD
    refine lv_if_eq (tgt := 64) hx hb d_Model_compare_59 (by decide) (fun h9_ => absurd h9_ (by decide)) (fun _ => ?_)
    refine lv_iconst (v := nI 0) hx hb d_Model_compare_62 rfl ?_
    have hpost : mG (⟨nI 2, M.n, M.sv, M.a, M.S, M.ft, M.fo, M.fb, M.fg, M.fh, M.fr⟩ : mT) ∧ ((M.sv = 0 ∧ (nI 2 : Int32) = 1) ∨ (M.sv = 1 ∧ ¬ (0 ≤ (j).toInt ∧ (j).toInt < M.n ∧ 0 ≤ (k).toInt ∧ (k).toInt < M.n) ∧ (nI 2 : Int32) = 2) ∨ (∃ j2 k2 : Nat, j = nI j2 ∧ k = nI k2 ∧ j2 < M.n ∧ k2 < M.n ∧ M.sv = 1 ∧ (nI 2 : Int32) = 0 ∧ (nI 0 : Int32) = wh_c (dt_y (dA M.a) j2 (M.n - 1 - j2) M.n) (dt_y (dA M.a) k2 (M.n - 1 - k2) M.n) * sgI (dt_d (dA M.a) M.n))) ∧ M.n = M.n ∧ M.sv = M.sv ∧ M.a = M.a ∧ M.fo = M.fo ∧ M.fb = M.fb := ⟨⟨g1, g2, g3, g4, g5, g6, g7, g8, g9, g10⟩, Or.inr (Or.inl ⟨hs1, fun z => by rw [Int32.lt_iff_toInt_lt] at h3; omega, rfl⟩), rfl, rfl, rfl, rfl, rfl⟩
    exact W.iret (v := nI 0) hx hb hr (fun T_ ht_ hW_ => ⟨⟨_, (⟨nI 2, M.n, M.sv, M.a, M.S, M.ft, M.fo, M.fb, M.fg, M.fh, M.fr⟩ : mT), rfl, hpost, by show va_P (dC, dI) classes _ T_.heap; rw [ht_]; exact hP, hD⟩, hS.F ht_⟩) hS.2.2 d_Model_compare_63
  refine lv_iload_n hx hb d_Model_compare_42 rfl (lv_at hl 2 rfl) ?_
  refine lv_aload_n hx hb d_Model_compare_43 rfl (lv_at hl 0 rfl) ?_
  refine va_get (D := (dC, dI)) (ci := 3) (v := .int (nI M.n)) (C := R_Model) (T := F_Model) (N := 11) hx hb hts i_Model hown hK hP 0 rfl rfl 1 (by decide) (hts _ k_fl_Model_44) (fun _ h9 => h9) rfl d_Model_compare_44 ?_
  refine lv_icmp_lt (tgt := 54) hx hb d_Model_compare_47 (by decide) (fun h4 => ?_) (fun h4 => ?_)
  rotate_left
  · refine lv_iconst (v := nI 1) hx hb d_Model_compare_50 rfl ?_
    refine lv_goto (tgt := 55) hx hb d_Model_compare_51 (by decide) ?_
    refine lv_iconst (v := nI 2) hx hb d_Model_compare_55 rfl ?_
    have hFc := va_free (wc := [(m0, .inr (3, [.int (nI 0), .int (nI M.n), .int M.sv, .ref ma, .ref mS, .ref mt, .ref mo, .ref mb, .ref mg, .ref mh, .ref mr]))]) hD hS hA [0] rfl
    refine va_calli (va_runV (As := [.int (nI 1), .int (nI 2)]) (rest := []) ⟨hx, hb, hml, hown, hts⟩ (c_Model_fails l dC dI H.size m0 ma mS mt mo mb mg mh mr (nI 0) M.n M.sv (nI 1) (nI 2)) (cwV 2 hts (gw_V k_ml_Model_40 k_im_Model_fails k_sel_Model_fails k_ini_Model k_code_Model_fails) rfl rfl rfl (by decide +kernel) ⟨Nat.le_of_ble_eq_true rfl, Nat.le_of_ble_eq_true rfl⟩) ⟨xc_W_blind, va_recv hK hP (ci := 3) (q0 := 0) rfl rfl, fun U hU hW => ⟨rfl, by rw [hU], by rw [hU]; exact hP.sub (ws' := [(m0, .inr (3, [.int (nI 0), .int (nI M.n), .int M.sv, .ref ma, .ref mS, .ref mt, .ref mo, .ref mb, .ref mg, .ref mh, .ref mr]))]) [0] rfl, va_K.moved hW.alike (hK.sub (tys' := []) [] rfl), (hD.sub (ws' := [(m0, .inr (3, [.int (nI 0), .int (nI M.n), .int M.sv, .ref ma, .ref mS, .ref mt, .ref mo, .ref mb, .ref mg, .ref mh, .ref mr]))]) [0] (by decide) rfl).weaken (fun _ _ _ _ => trivial)⟩⟩ rfl rfl hl.1 rfl (lv_room (Nat.le_of_ble_eq_true rfl)) d_Model_compare_56 ⟨Nat.zero_le _, Nat.zero_le _⟩) hS (fun q _ h => hFc q h) hFc (fun rf u t_ H locs ht_ hvm_ wf hB hz1 hk1 hS => ?_)
    obtain ⟨e1_, e_e1_⟩ : ∃ z, z = u := ⟨u, rfl⟩
    rw [← e_e1_] at wf hB
    rw [ht_] at hB
    obtain ⟨hP, hD⟩ := xj_1 0 hP hD rfl hk1 hB
    have hP : va_P (dC, dI) classes (mw m0 ma mS mt mo mb mg mh mr cA cJ e1_ M.n M.sv M.a M.S M.ft M.fo M.fb M.fg M.fh M.fr) H := hP
    have hD : va_D A (mw m0 ma mS mt mo mb mg mh mr cA cJ e1_ M.n M.sv M.a M.S M.ft M.fo M.fb M.fg M.fh M.fr) := hD
    rw [if_neg (show ¬ (nI 1 : Int32) = 0 by decide), if_pos (show (nI 0 : Int32) = 0 by decide)] at wf
    obtain ⟨wf1, wf2⟩ := wf
    subst wf1
    rw [if_neg (show ¬ (nI 2 : Int32) = 0 by decide)] at wf2
    subst wf2
    have hP : va_P (dC, dI) classes (mw m0 ma mS mt mo mb mg mh mr cA cJ (nI 2) M.n M.sv M.a M.S M.ft M.fo M.fb M.fg M.fh M.fr) H := hP
    have hD : va_D A (mw m0 ma mS mt mo mb mg mh mr cA cJ (nI 2) M.n M.sv M.a M.S M.ft M.fo M.fb M.fg M.fh M.fr) := hD
    refine lv_if_eq (tgt := 64) hx hb d_Model_compare_59 (by decide) (fun h9_ => absurd h9_ (by decide)) (fun _ => ?_)
    refine lv_iconst (v := nI 0) hx hb d_Model_compare_62 rfl ?_
    have hpost : mG (⟨nI 2, M.n, M.sv, M.a, M.S, M.ft, M.fo, M.fb, M.fg, M.fh, M.fr⟩ : mT) ∧ ((M.sv = 0 ∧ (nI 2 : Int32) = 1) ∨ (M.sv = 1 ∧ ¬ (0 ≤ (j).toInt ∧ (j).toInt < M.n ∧ 0 ≤ (k).toInt ∧ (k).toInt < M.n) ∧ (nI 2 : Int32) = 2) ∨ (∃ j2 k2 : Nat, j = nI j2 ∧ k = nI k2 ∧ j2 < M.n ∧ k2 < M.n ∧ M.sv = 1 ∧ (nI 2 : Int32) = 0 ∧ (nI 0 : Int32) = wh_c (dt_y (dA M.a) j2 (M.n - 1 - j2) M.n) (dt_y (dA M.a) k2 (M.n - 1 - k2) M.n) * sgI (dt_d (dA M.a) M.n))) ∧ M.n = M.n ∧ M.sv = M.sv ∧ M.a = M.a ∧ M.fo = M.fo ∧ M.fb = M.fb := ⟨⟨g1, g2, g3, g4, g5, g6, g7, g8, g9, g10⟩, Or.inr (Or.inl ⟨hs1, fun z => by rw [Int32.lt_iff_toInt_lt] at h4; omega, rfl⟩), rfl, rfl, rfl, rfl, rfl⟩
    exact W.iret (v := nI 0) hx hb hr (fun T_ ht_ hW_ => ⟨⟨_, (⟨nI 2, M.n, M.sv, M.a, M.S, M.ft, M.fo, M.fb, M.fg, M.fh, M.fr⟩ : mT), rfl, hpost, by show va_P (dC, dI) classes _ T_.heap; rw [ht_]; exact hP, hD⟩, hS.F ht_⟩) hS.2.2 d_Model_compare_63
  refine lv_iconst (v := nI 0) hx hb d_Model_compare_54 rfl ?_
  refine lv_iconst (v := nI 2) hx hb d_Model_compare_55 rfl ?_
  have hFc := va_free (wc := [(m0, .inr (3, [.int (nI 0), .int (nI M.n), .int M.sv, .ref ma, .ref mS, .ref mt, .ref mo, .ref mb, .ref mg, .ref mh, .ref mr]))]) hD hS hA [0] rfl
  refine va_calli (va_runV (As := [.int (nI 0), .int (nI 2)]) (rest := []) ⟨hx, hb, hml, hown, hts⟩ (c_Model_fails l dC dI H.size m0 ma mS mt mo mb mg mh mr (nI 0) M.n M.sv (nI 0) (nI 2)) (cwV 2 hts (gw_V k_ml_Model_40 k_im_Model_fails k_sel_Model_fails k_ini_Model k_code_Model_fails) rfl rfl rfl (by decide +kernel) ⟨Nat.le_of_ble_eq_true rfl, Nat.le_of_ble_eq_true rfl⟩) ⟨xc_W_blind, va_recv hK hP (ci := 3) (q0 := 0) rfl rfl, fun U hU hW => ⟨rfl, by rw [hU], by rw [hU]; exact hP.sub (ws' := [(m0, .inr (3, [.int (nI 0), .int (nI M.n), .int M.sv, .ref ma, .ref mS, .ref mt, .ref mo, .ref mb, .ref mg, .ref mh, .ref mr]))]) [0] rfl, va_K.moved hW.alike (hK.sub (tys' := []) [] rfl), (hD.sub (ws' := [(m0, .inr (3, [.int (nI 0), .int (nI M.n), .int M.sv, .ref ma, .ref mS, .ref mt, .ref mo, .ref mb, .ref mg, .ref mh, .ref mr]))]) [0] (by decide) rfl).weaken (fun _ _ _ _ => trivial)⟩⟩ rfl rfl hl.1 rfl (lv_room (Nat.le_of_ble_eq_true rfl)) d_Model_compare_56 ⟨Nat.zero_le _, Nat.zero_le _⟩) hS (fun q _ h => hFc q h) hFc (fun rf u t_ H locs ht_ hvm_ wf hB hz1 hk1 hS => ?_)
  obtain ⟨e1_, e_e1_⟩ : ∃ z, z = u := ⟨u, rfl⟩
  rw [← e_e1_] at wf hB
  rw [ht_] at hB
  obtain ⟨hP, hD⟩ := xj_1 0 hP hD rfl hk1 hB
  have hP : va_P (dC, dI) classes (mw m0 ma mS mt mo mb mg mh mr cA cJ e1_ M.n M.sv M.a M.S M.ft M.fo M.fb M.fg M.fh M.fr) H := hP
  have hD : va_D A (mw m0 ma mS mt mo mb mg mh mr cA cJ e1_ M.n M.sv M.a M.S M.ft M.fo M.fb M.fg M.fh M.fr) := hD
  rw [if_pos (show (nI 0 : Int32) = 0 by decide)] at wf
  obtain ⟨wf1, wf2⟩ := wf
  subst wf1
  rw [if_pos (show (nI 0 : Int32) = 0 by decide)] at wf2
  subst wf2
  have hP : va_P (dC, dI) classes (mw m0 ma mS mt mo mb mg mh mr cA cJ (nI 0) M.n M.sv M.a M.S M.ft M.fo M.fb M.fg M.fh M.fr) H := hP
  have hD : va_D A (mw m0 ma mS mt mo mb mg mh mr cA cJ (nI 0) M.n M.sv M.a M.S M.ft M.fo M.fb M.fg M.fh M.fr) := hD
  refine lv_if_eq (tgt := 64) hx hb d_Model_compare_59 (by decide) (fun _ => ?_) (fun h9_ => absurd h9_ (by decide))
  obtain ⟨jn, hjn, ej⟩ := nI_of h1
  obtain ⟨kn, hkn, ek⟩ := nI_of h3
  subst ej
  subst ek
  have t1 := nI_toInt hjn
  have t2 := nI_toInt hkn
  have hj2 : jn < M.n := by rw [Int32.le_iff_toInt_le] at h2; omega
  have hk2 : kn < M.n := by rw [Int32.lt_iff_toInt_lt] at h4; omega
  have hs1 : M.sv = 1 := by
    rcases g2 with e | e
    · exact absurd e hs
    · exact e
  obtain ⟨d1, d2⟩ := g10 hs1
  obtain ⟨f1, f2⟩ := dE_full (dA M.a) g1
  have hXd := d2 (2 ^ M.n - 1) (by omega) (by omega)
  rw [f1] at hXd
  have hbd : (dt_d (dA M.a) M.n).natAbs < 2 ^ 785 := by rw [← f1]; exact bt_bd (fun i j => dA_bd M.a i j) (by omega)
  obtain ⟨u1j, u2j⟩ := dE_k (dA M.a) g1 hj2
  have hpkj : 2 ^ jn < 2 ^ (M.n + 1) := Nat.pow_lt_pow_right (by decide) (by omega)
  have hpzj := Nat.two_pow_pos jn
  have hXkj := d2 (2 ^ (M.n + 1) - 1 - 2 ^ jn) (by omega) (by omega)
  rw [u1j] at hXkj
  have hbkj : (dt_sg (M.n - 1 - jn) * dt_y (dA M.a) jn (M.n - 1 - jn) M.n).natAbs < 2 ^ 785 := by rw [← u1j]; exact bt_bd (fun i j => dA_bd M.a i j) (by omega)
  obtain ⟨u1k, u2k⟩ := dE_k (dA M.a) g1 hk2
  have hpkk : 2 ^ kn < 2 ^ (M.n + 1) := Nat.pow_lt_pow_right (by decide) (by omega)
  have hpzk := Nat.two_pow_pos kn
  have hXkk := d2 (2 ^ (M.n + 1) - 1 - 2 ^ kn) (by omega) (by omega)
  rw [u1k] at hXkk
  have hbkk : (dt_sg (M.n - 1 - kn) * dt_y (dA M.a) kn (M.n - 1 - kn) M.n).natAbs < 2 ^ 785 := by rw [← u1k]; exact bt_bd (fun i j => dA_bd M.a i j) (by omega)
  have hbj : (dt_y (dA M.a) jn (M.n - 1 - jn) M.n).natAbs < 2 ^ 785 := by rw [← (sg_abs (M.n - 1 - jn) (dt_y (dA M.a) jn (M.n - 1 - jn) M.n)).1]; exact hbkj
  have hbk : (dt_y (dA M.a) kn (M.n - 1 - kn) M.n).natAbs < 2 ^ 785 := by rw [← (sg_abs (M.n - 1 - kn) (dt_y (dA M.a) kn (M.n - 1 - kn) M.n)).1]; exact hbkk
  refine lv_aload_n hx hb d_Model_compare_64 rfl (lv_at hl 0 rfl) ?_
  refine lv_aload_n hx hb d_Model_compare_65 rfl (lv_at hl 0 rfl) ?_
  refine lv_iload_n hx hb d_Model_compare_66 rfl (lv_at hl 1 rfl) ?_
  refine vp_callSi (W.runV (As := [.int (nI jn)]) (rest := [.ref m0]) ⟨hx, hb, hml, hown, hts⟩ (c_Model_place l dC dI m0 ma mS mt mo mb mg mh mr (nI 0) M.n M.sv (nI jn) g1 (Or.inr ⟨jn, rfl, (Nat.le_of_lt hj2)⟩)) (cwV 1 hts (gw_V k_ml_Model_72 k_im_Model_place k_sel_Model_place k_ini_Model k_code_Model_place) rfl rfl rfl (by decide +kernel) ⟨Nat.le_of_ble_eq_true rfl, Nat.le_of_ble_eq_true rfl⟩) ⟨xc_R_blind, va_recv hK hP (ci := 3) (q0 := 0) rfl rfl, fun U hU hW => ⟨rfl, by rw [hU]; exact hP.sub (ws' := [(m0, .inr (3, [.int (nI 0), .int (nI M.n), .int M.sv, .ref ma, .ref mS, .ref mt, .ref mo, .ref mb, .ref mg, .ref mh, .ref mr]))]) [0] rfl, va_K.moved hW.alike (hK.sub (tys' := []) [] rfl)⟩⟩ rfl rfl hl.1 rfl (lv_room (Nat.le_of_ble_eq_true rfl)) d_Model_compare_67 ⟨Nat.zero_le _, Nat.zero_le _⟩) (fun rp e_p => ?_)
  have e_p := e_p.2 jn rfl (Nat.le_of_lt hj2)
  subst e_p
  refine lv_aload_n hx hb d_Model_compare_70 rfl (lv_at hl 0 rfl) ?_
  refine va_get (D := (dC, dI)) (ci := 3) (v := .ref mg) (C := R_Model) (T := F_Model) (N := 11) hx hb hts i_Model hown hK hP 0 rfl rfl 8 (by decide) (hts _ k_fl_Model_27) (fun _ h9 => h9) rfl d_Model_compare_71 ?_
  have hFc := va_free (wc := [(m0, .inr (3, [.int (nI 0), .int (nI M.n), .int M.sv, .ref ma, .ref mS, .ref mt, .ref mo, .ref mb, .ref mg, .ref mh, .ref mr])), (mS, .inl (cA, 458752, .inl (xn_f M.S))), (mg, .inl (cA, 56, .inl (xn_f M.fg)))]) hD hS hA [0, 2, 6] rfl
  refine va_callv (va_runV (As := [.int (nI (56 * (2 ^ (M.n + 1) - 1 - 2 ^ jn))), .ref mg]) (rest := []) ⟨hx, hb, hml, hown, hts⟩ (c_Model_take l dC dI H.size cA m0 ma mS mt mo mb mg mh mr (nI 0) M.n M.sv M.S (56 * (2 ^ (M.n + 1) - 1 - 2 ^ jn)) mg M.fg g3 (by omega) g7) (cwV 2 hts (gw_V k_ml_Model_101 k_im_Model_take k_sel_Model_take k_ini_Model k_code_Model_take) rfl rfl rfl (by decide +kernel) ⟨Nat.le_of_ble_eq_true rfl, Nat.le_of_ble_eq_true rfl⟩) ⟨xc_W_blind, va_recv hK hP (ci := 3) (q0 := 0) rfl rfl, fun U hU hW => ⟨rfl, by rw [hU], by rw [hU]; exact hP.sub (ws' := [(m0, .inr (3, [.int (nI 0), .int (nI M.n), .int M.sv, .ref ma, .ref mS, .ref mt, .ref mo, .ref mb, .ref mg, .ref mh, .ref mr])), (mS, .inl (cA, 458752, .inl (xn_f M.S))), (mg, .inl (cA, 56, .inl (xn_f M.fg)))]) [0, 2, 6] rfl, va_K.moved hW.alike (hK.sub (tys' := [(cA, .int)]) [0] rfl), (hD.sub (ws' := [(m0, .inr (3, [.int (nI 0), .int (nI M.n), .int M.sv, .ref ma, .ref mS, .ref mt, .ref mo, .ref mb, .ref mg, .ref mh, .ref mr])), (mS, .inl (cA, 458752, .inl (xn_f M.S))), (mg, .inl (cA, 56, .inl (xn_f M.fg)))]) [0, 2, 6] (by decide) rfl).weaken (fun _ _ _ _ => trivial)⟩⟩ rfl rfl hl.1 rfl (lv_room (Nat.le_of_ble_eq_true rfl)) d_Model_compare_74 ⟨Nat.zero_le _, Nat.zero_le _⟩) hS (fun q _ h => hFc q h) hFc (fun u t_ H locs ht_ hvm_ w1 hB hz1 hk1 hS => ?_)
  obtain ⟨G1, e_G1⟩ : ∃ z, z = u := ⟨u, rfl⟩
  rw [← e_G1] at w1 hB
  rw [ht_] at hB
  obtain ⟨hP, hD⟩ := xj_3 0 2 6 hP hD rfl rfl rfl hk1 hB
  have hP : va_P (dC, dI) classes (mw m0 ma mS mt mo mb mg mh mr cA cJ (nI 0) M.n M.sv M.a M.S M.ft M.fo M.fb G1 M.fh M.fr) H := hP
  have hD : va_D A (mw m0 ma mS mt mo mb mg mh mr cA cJ (nI 0) M.n M.sv M.a M.S M.ft M.fo M.fb G1 M.fh M.fr) := hD
  refine lv_aload_n hx hb d_Model_compare_77 rfl (lv_at hl 0 rfl) ?_
  refine lv_aload_n hx hb d_Model_compare_78 rfl (lv_at hl 0 rfl) ?_
  refine lv_iload_n hx hb d_Model_compare_79 rfl (lv_at hl 2 rfl) ?_
  refine vp_callSi (W.runV (As := [.int (nI kn)]) (rest := [.ref m0]) ⟨hx, hb, hml, hown, hts⟩ (c_Model_place l dC dI m0 ma mS mt mo mb mg mh mr (nI 0) M.n M.sv (nI kn) g1 (Or.inr ⟨kn, rfl, (Nat.le_of_lt hk2)⟩)) (cwV 1 hts (gw_V k_ml_Model_72 k_im_Model_place k_sel_Model_place k_ini_Model k_code_Model_place) rfl rfl rfl (by decide +kernel) ⟨Nat.le_of_ble_eq_true rfl, Nat.le_of_ble_eq_true rfl⟩) ⟨xc_R_blind, va_recv hK hP (ci := 3) (q0 := 0) rfl rfl, fun U hU hW => ⟨rfl, by rw [hU]; exact hP.sub (ws' := [(m0, .inr (3, [.int (nI 0), .int (nI M.n), .int M.sv, .ref ma, .ref mS, .ref mt, .ref mo, .ref mb, .ref mg, .ref mh, .ref mr]))]) [0] rfl, va_K.moved hW.alike (hK.sub (tys' := []) [] rfl)⟩⟩ rfl rfl hl.1 rfl (lv_room (Nat.le_of_ble_eq_true rfl)) d_Model_compare_80 ⟨Nat.zero_le _, Nat.zero_le _⟩) (fun rp e_p => ?_)
  have e_p := e_p.2 kn rfl (Nat.le_of_lt hk2)
  subst e_p
  refine lv_aload_n hx hb d_Model_compare_83 rfl (lv_at hl 0 rfl) ?_
  refine va_get (D := (dC, dI)) (ci := 3) (v := .ref mh) (C := R_Model) (T := F_Model) (N := 11) hx hb hts i_Model hown hK hP 0 rfl rfl 9 (by decide) (hts _ k_fl_Model_30) (fun _ h9 => h9) rfl d_Model_compare_84 ?_
  have hFc := va_free (wc := [(m0, .inr (3, [.int (nI 0), .int (nI M.n), .int M.sv, .ref ma, .ref mS, .ref mt, .ref mo, .ref mb, .ref mg, .ref mh, .ref mr])), (mS, .inl (cA, 458752, .inl (xn_f M.S))), (mh, .inl (cA, 56, .inl (xn_f M.fh)))]) hD hS hA [0, 2, 7] rfl
  refine va_callv (va_runV (As := [.int (nI (56 * (2 ^ (M.n + 1) - 1 - 2 ^ kn))), .ref mh]) (rest := []) ⟨hx, hb, hml, hown, hts⟩ (c_Model_take l dC dI H.size cA m0 ma mS mt mo mb mg mh mr (nI 0) M.n M.sv M.S (56 * (2 ^ (M.n + 1) - 1 - 2 ^ kn)) mh M.fh g3 (by omega) g8) (cwV 2 hts (gw_V k_ml_Model_101 k_im_Model_take k_sel_Model_take k_ini_Model k_code_Model_take) rfl rfl rfl (by decide +kernel) ⟨Nat.le_of_ble_eq_true rfl, Nat.le_of_ble_eq_true rfl⟩) ⟨xc_W_blind, va_recv hK hP (ci := 3) (q0 := 0) rfl rfl, fun U hU hW => ⟨rfl, by rw [hU], by rw [hU]; exact hP.sub (ws' := [(m0, .inr (3, [.int (nI 0), .int (nI M.n), .int M.sv, .ref ma, .ref mS, .ref mt, .ref mo, .ref mb, .ref mg, .ref mh, .ref mr])), (mS, .inl (cA, 458752, .inl (xn_f M.S))), (mh, .inl (cA, 56, .inl (xn_f M.fh)))]) [0, 2, 7] rfl, va_K.moved hW.alike (hK.sub (tys' := [(cA, .int)]) [0] rfl), (hD.sub (ws' := [(m0, .inr (3, [.int (nI 0), .int (nI M.n), .int M.sv, .ref ma, .ref mS, .ref mt, .ref mo, .ref mb, .ref mg, .ref mh, .ref mr])), (mS, .inl (cA, 458752, .inl (xn_f M.S))), (mh, .inl (cA, 56, .inl (xn_f M.fh)))]) [0, 2, 7] (by decide) rfl).weaken (fun _ _ _ _ => trivial)⟩⟩ rfl rfl hl.1 rfl (lv_room (Nat.le_of_ble_eq_true rfl)) d_Model_compare_87 ⟨Nat.zero_le _, Nat.zero_le _⟩) hS (fun q _ h => hFc q h) hFc (fun u t_ H locs ht_ hvm_ w2 hB hz1 hk1 hS => ?_)
  obtain ⟨H1, e_H1⟩ : ∃ z, z = u := ⟨u, rfl⟩
  rw [← e_H1] at w2 hB
  rw [ht_] at hB
  obtain ⟨hP, hD⟩ := xj_3 0 2 7 hP hD rfl rfl rfl hk1 hB
  have hP : va_P (dC, dI) classes (mw m0 ma mS mt mo mb mg mh mr cA cJ (nI 0) M.n M.sv M.a M.S M.ft M.fo M.fb G1 H1 M.fr) H := hP
  have hD : va_D A (mw m0 ma mS mt mo mb mg mh mr cA cJ (nI 0) M.n M.sv M.a M.S M.ft M.fo M.fb G1 H1 M.fr) := hD
  rw [hXkj] at w1
  rw [hXkk] at w2
  obtain ⟨p1, p2⟩ := tn_sg w1.2
  obtain ⟨p3, p4⟩ := tn_sg w2.2
  have last : ∀ (G2 H2 : Nat → Nat), (∀ i, G2 i < 65536) → (∀ i, H2 i < 65536) → (dg_v G2 56 = tc (dt_y (dA M.a) jn (M.n - 1 - jn) M.n)) → (dg_v H2 56 = tc (dt_y (dA M.a) kn (M.n - 1 - kn) M.n)) → ∀ (H : Heap) (locs : List Loc), va_P (dC, dI) classes (mw m0 ma mS mt mo mb mg mh mr cA cJ (nI 0) M.n M.sv M.a M.S M.ft M.fo M.fb G2 H2 M.fr) H → va_D A (mw m0 ma mS mt mo mb mg mh mr cA cJ (nI 0) M.n M.sv M.a M.S M.ft M.fo M.fb G2 H2 M.fr) → va_S A s.heap H locs → ∀ (ls : Array Slot), lv_has ls 3 [(0, .ref m0), (1, .int (nI jn)), (2, .int (nI kn))] → W p l e (headSpec w_Model_compare ({ frames := 1, cells := 0, slots := 0, locals := 23 })).room s m ([.ref m0, .int (nI jn), .int (nI kn)] : List Value).toArray below meth c H locs 0 0 (MQ below (va_Qi (S := mT) (fun r u => mG u ∧ ((M.sv = 0 ∧ u.er = 1) ∨ (M.sv = 1 ∧ ¬ (0 ≤ ((nI jn)).toInt ∧ ((nI jn)).toInt < M.n ∧ 0 ≤ ((nI kn)).toInt ∧ ((nI kn)).toInt < M.n) ∧ u.er = 2) ∨ (∃ j2 k2 : Nat, (nI jn) = nI j2 ∧ (nI kn) = nI k2 ∧ j2 < M.n ∧ k2 < M.n ∧ M.sv = 1 ∧ u.er = 0 ∧ r = wh_c (dt_y (dA M.a) j2 (M.n - 1 - j2) M.n) (dt_y (dA M.a) k2 (M.n - 1 - k2) M.n) * sgI (dt_d (dA M.a) M.n))) ∧ u.n = M.n ∧ u.sv = M.sv ∧ u.a = M.a ∧ u.fo = M.fo ∧ u.fb = M.fb) (fun u t => va_P (dC, dI) classes (mw m0 ma mS mt mo mb mg mh mr cA cJ u.er u.n u.sv u.a u.S u.ft u.fo u.fb u.fg u.fh u.fr) t.heap ∧ va_D A (mw m0 ma mS mt mo mb mg mh mr cA cJ u.er u.n u.sv u.a u.S u.ft u.fo u.fb u.fg u.fh u.fr)) A) ([.ref m0, .int (nI jn), .int (nI kn)] : List Value).toArray s 0 0 A) (F0 m 132 ls []) := by
    intro G2 H2 hG2 hH2 vG vH H locs hP hD hS ls hl
    have bg := hG2 55
    have bh := hH2 55
    refine lv_aload_n hx hb d_Model_compare_132 rfl (lv_at hl 0 rfl) ?_
    refine va_get (D := (dC, dI)) (ci := 3) (v := .ref mg) (C := R_Model) (T := F_Model) (N := 11) hx hb hts i_Model hown hK hP 0 rfl rfl 8 (by decide) (hts _ k_fl_Model_27) (fun _ h9 => h9) rfl d_Model_compare_133 ?_
    refine lv_bipush (v := nI 55) hx hb d_Model_compare_136 rfl ?_
    refine lv_dup2_11 hx hb d_Model_compare_138 rfl rfl ?_
    refine xn_iald hx hb hK hP 6 0 rfl rfl (i := 55) (by omega) (by omega) d_Model_compare_139 ?_
    refine lv_ldc (v := nI 32768) hx hb hown (hts _ k_ldc_Model_78) d_Model_compare_140 ?_
    refine xe_ixor (v := nI ((G2 55 + 32768) % 65536)) hx hb d_Model_compare_142 (nI_x15 (by omega)) ?_
    refine xn_iast hx hb hK hP hD hS 6 0 rfl rfl (i := 55) (x := (G2 55 + 32768) % 65536) (by omega) (by omega) d_Model_compare_143 (fun H locs hP hD hS => ?_)
    have hP : va_P (dC, dI) classes (mw m0 ma mS mt mo mb mg mh mr cA cJ (nI 0) M.n M.sv M.a M.S M.ft M.fo M.fb (va_up G2 55 ((G2 55 + 32768) % 65536)) H2 M.fr) H := hP
    have hD : va_D A (mw m0 ma mS mt mo mb mg mh mr cA cJ (nI 0) M.n M.sv M.a M.S M.ft M.fo M.fb (va_up G2 55 ((G2 55 + 32768) % 65536)) H2 M.fr) := hD
    refine lv_aload_n hx hb d_Model_compare_144 rfl (lv_at hl 0 rfl) ?_
    refine va_get (D := (dC, dI)) (ci := 3) (v := .ref mh) (C := R_Model) (T := F_Model) (N := 11) hx hb hts i_Model hown hK hP 0 rfl rfl 9 (by decide) (hts _ k_fl_Model_30) (fun _ h9 => h9) rfl d_Model_compare_145 ?_
    refine lv_bipush (v := nI 55) hx hb d_Model_compare_148 rfl ?_
    refine lv_dup2_11 hx hb d_Model_compare_150 rfl rfl ?_
    refine xn_iald hx hb hK hP 7 0 rfl rfl (i := 55) (by omega) (by omega) d_Model_compare_151 ?_
    refine lv_ldc (v := nI 32768) hx hb hown (hts _ k_ldc_Model_78) d_Model_compare_152 ?_
    refine xe_ixor (v := nI ((H2 55 + 32768) % 65536)) hx hb d_Model_compare_154 (nI_x15 (by omega)) ?_
    refine xn_iast hx hb hK hP hD hS 7 0 rfl rfl (i := 55) (x := (H2 55 + 32768) % 65536) (by omega) (by omega) d_Model_compare_155 (fun H locs hP hD hS => ?_)
    have hP : va_P (dC, dI) classes (mw m0 ma mS mt mo mb mg mh mr cA cJ (nI 0) M.n M.sv M.a M.S M.ft M.fo M.fb (va_up G2 55 ((G2 55 + 32768) % 65536)) (va_up H2 55 ((H2 55 + 32768) % 65536)) M.fr) H := hP
    have hD : va_D A (mw m0 ma mS mt mo mb mg mh mr cA cJ (nI 0) M.n M.sv M.a M.S M.ft M.fo M.fb (va_up G2 55 ((G2 55 + 32768) % 65536)) (va_up H2 55 ((H2 55 + 32768) % 65536)) M.fr) := hD
    refine lv_aload_n hx hb d_Model_compare_156 rfl (lv_at hl 0 rfl) ?_
    refine va_get (D := (dC, dI)) (ci := 3) (v := .ref mg) (C := R_Model) (T := F_Model) (N := 11) hx hb hts i_Model hown hK hP 0 rfl rfl 8 (by decide) (hts _ k_fl_Model_27) (fun _ h9 => h9) rfl d_Model_compare_157 ?_
    refine lv_aload_n hx hb d_Model_compare_160 rfl (lv_at hl 0 rfl) ?_
    refine va_get (D := (dC, dI)) (ci := 3) (v := .ref mh) (C := R_Model) (T := F_Model) (N := 11) hx hb hts i_Model hown hK hP 0 rfl rfl 9 (by decide) (hts _ k_fl_Model_30) (fun _ h9 => h9) rfl d_Model_compare_161 ?_
    refine vp_callSi (W.runS (As := [.ref mg, .ref mh]) (rest := []) ⟨hx, hb, hml, hown, hts⟩ (c_Model_cmp l dC dI cA mg mh (va_up G2 55 ((G2 55 + 32768) % 65536)) (va_up H2 55 ((H2 55 + 32768) % 65536)) (va_up_lt hG2 (by omega)) (va_up_lt hH2 (by omega))) (cwS 2 hts (gw_S k_ml_Model_90 k_st_Model_cmp k_ini_Model k_code_Model_cmp) rfl rfl rfl (by decide +kernel) ⟨Nat.le_of_ble_eq_true rfl, Nat.le_of_ble_eq_true rfl⟩) ⟨xc_R_blind, fun U hU hW => ⟨rfl, by rw [hU]; exact hP.sub (ws' := [(mg, .inl (cA, 56, .inl (xn_f (va_up G2 55 ((G2 55 + 32768) % 65536))))), (mh, .inl (cA, 56, .inl (xn_f (va_up H2 55 ((H2 55 + 32768) % 65536)))))]) [6, 7] rfl, va_K.moved hW.alike (hK.sub (tys' := [(cA, .int)]) [0] rfl)⟩⟩ rfl rfl hl.1 rfl (lv_room (Nat.le_of_ble_eq_true rfl)) d_Model_compare_164 ⟨Nat.zero_le _, Nat.zero_le _⟩) (fun rc e_c => ?_)
    rw [xr_val hG2, xr_val hH2, vG, vH, cp_ord (tc_x hbj) (tc_x hbk)] at e_c
    subst e_c
    refine lv_aload_n hx hb d_Model_compare_167 rfl (lv_at hl 0 rfl) ?_
    refine lv_aload_n hx hb d_Model_compare_168 rfl (lv_at hl 0 rfl) ?_
    refine lv_iconst (v := -1) hx hb d_Model_compare_169 (by decide) ?_
    refine vp_callSi (W.runV (As := [.int ((-1))]) (rest := [.ref m0, .int (wh_c (dt_y (dA M.a) jn (M.n - 1 - jn) M.n) (dt_y (dA M.a) kn (M.n - 1 - kn) M.n))]) ⟨hx, hb, hml, hown, hts⟩ (c_Model_place l dC dI m0 ma mS mt mo mb mg mh mr (nI 0) M.n M.sv (-1) g1 (Or.inl rfl)) (cwV 1 hts (gw_V k_ml_Model_72 k_im_Model_place k_sel_Model_place k_ini_Model k_code_Model_place) rfl rfl rfl (by decide +kernel) ⟨Nat.le_of_ble_eq_true rfl, Nat.le_of_ble_eq_true rfl⟩) ⟨xc_R_blind, va_recv hK hP (ci := 3) (q0 := 0) rfl rfl, fun U hU hW => ⟨rfl, by rw [hU]; exact hP.sub (ws' := [(m0, .inr (3, [.int (nI 0), .int (nI M.n), .int M.sv, .ref ma, .ref mS, .ref mt, .ref mo, .ref mb, .ref mg, .ref mh, .ref mr]))]) [0] rfl, va_K.moved hW.alike (hK.sub (tys' := []) [] rfl)⟩⟩ rfl rfl hl.1 rfl (lv_room (Nat.le_of_ble_eq_true rfl)) d_Model_compare_170 ⟨Nat.zero_le _, Nat.zero_le _⟩) (fun rp e_p => ?_)
    have e_p := e_p.1 rfl
    subst e_p
    refine vp_callSi (W.runV (As := [.int (nI (56 * (2 ^ M.n - 1)))]) (rest := [.int (wh_c (dt_y (dA M.a) jn (M.n - 1 - jn) M.n) (dt_y (dA M.a) kn (M.n - 1 - kn) M.n))]) ⟨hx, hb, hml, hown, hts⟩ (c_Model_signAt l dC dI cA m0 ma mS mt mo mb mg mh mr (nI 0) M.n M.sv M.S (56 * (2 ^ M.n - 1)) g3 (by omega)) (cwV 1 hts (gw_V k_ml_Model_75 k_im_Model_signAt k_sel_Model_signAt k_ini_Model k_code_Model_signAt) rfl rfl rfl (by decide +kernel) ⟨Nat.le_of_ble_eq_true rfl, Nat.le_of_ble_eq_true rfl⟩) ⟨xc_R_blind, va_recv hK hP (ci := 3) (q0 := 0) rfl rfl, fun U hU hW => ⟨rfl, by rw [hU]; exact hP.sub (ws' := [(m0, .inr (3, [.int (nI 0), .int (nI M.n), .int M.sv, .ref ma, .ref mS, .ref mt, .ref mo, .ref mb, .ref mg, .ref mh, .ref mr])), (mS, .inl (cA, 458752, .inl (xn_f M.S)))]) [0, 2] rfl, va_K.moved hW.alike (hK.sub (tys' := [(cA, .int)]) [0] rfl)⟩⟩ rfl rfl hl.1 rfl (lv_room (Nat.le_of_ble_eq_true rfl)) d_Model_compare_173 ⟨Nat.zero_le _, Nat.zero_le _⟩) (fun rs1 e_s => ?_)
    rw [hXd, sg_tc hbd] at e_s
    subst e_s
    refine xe_imul (v := wh_c (dt_y (dA M.a) jn (M.n - 1 - jn) M.n) (dt_y (dA M.a) kn (M.n - 1 - kn) M.n) * sgI (dt_d (dA M.a) M.n)) hx hb d_Model_compare_176 rfl ?_
    have hpost : mG (⟨nI 0, M.n, M.sv, M.a, M.S, M.ft, M.fo, M.fb, va_up G2 55 ((G2 55 + 32768) % 65536), va_up H2 55 ((H2 55 + 32768) % 65536), M.fr⟩ : mT) ∧ ((M.sv = 0 ∧ (nI 0 : Int32) = 1) ∨ (M.sv = 1 ∧ ¬ (0 ≤ ((nI jn)).toInt ∧ ((nI jn)).toInt < M.n ∧ 0 ≤ ((nI kn)).toInt ∧ ((nI kn)).toInt < M.n) ∧ (nI 0 : Int32) = 2) ∨ (∃ j2 k2 : Nat, (nI jn) = nI j2 ∧ (nI kn) = nI k2 ∧ j2 < M.n ∧ k2 < M.n ∧ M.sv = 1 ∧ (nI 0 : Int32) = 0 ∧ (wh_c (dt_y (dA M.a) jn (M.n - 1 - jn) M.n) (dt_y (dA M.a) kn (M.n - 1 - kn) M.n) * sgI (dt_d (dA M.a) M.n)) = wh_c (dt_y (dA M.a) j2 (M.n - 1 - j2) M.n) (dt_y (dA M.a) k2 (M.n - 1 - k2) M.n) * sgI (dt_d (dA M.a) M.n))) ∧ M.n = M.n ∧ M.sv = M.sv ∧ M.a = M.a ∧ M.fo = M.fo ∧ M.fb = M.fb := ⟨⟨g1, g2, g3, g4, g5, g6, va_up_lt hG2 (by omega), va_up_lt hH2 (by omega), g9, g10⟩, Or.inr (Or.inr ⟨jn, kn, rfl, rfl, hj2, hk2, hs1, rfl, rfl⟩), rfl, rfl, rfl, rfl, rfl⟩
    exact W.iret (v := wh_c (dt_y (dA M.a) jn (M.n - 1 - jn) M.n) (dt_y (dA M.a) kn (M.n - 1 - kn) M.n) * sgI (dt_d (dA M.a) M.n)) hx hb hr (fun T_ ht_ hW_ => ⟨⟨_, (⟨nI 0, M.n, M.sv, M.a, M.S, M.ft, M.fo, M.fb, va_up G2 55 ((G2 55 + 32768) % 65536), va_up H2 55 ((H2 55 + 32768) % 65536), M.fr⟩ : mT), rfl, hpost, by show va_P (dC, dI) classes _ T_.heap; rw [ht_]; exact hP, hD⟩, hS.F ht_⟩) hS.2.2 d_Model_compare_177
  have mid : ∀ (G2 : Nat → Nat), (∀ i, G2 i < 65536) → (dg_v G2 56 = tc (dt_y (dA M.a) jn (M.n - 1 - jn) M.n)) → ∀ (H : Heap) (locs : List Loc), va_P (dC, dI) classes (mw m0 ma mS mt mo mb mg mh mr cA cJ (nI 0) M.n M.sv M.a M.S M.ft M.fo M.fb G2 H1 M.fr) H → va_D A (mw m0 ma mS mt mo mb mg mh mr cA cJ (nI 0) M.n M.sv M.a M.S M.ft M.fo M.fb G2 H1 M.fr) → va_S A s.heap H locs → ∀ (ls : Array Slot), lv_has ls 3 [(0, .ref m0), (1, .int (nI jn)), (2, .int (nI kn))] → W p l e (headSpec w_Model_compare ({ frames := 1, cells := 0, slots := 0, locals := 23 })).room s m ([.ref m0, .int (nI jn), .int (nI kn)] : List Value).toArray below meth c H locs 0 0 (MQ below (va_Qi (S := mT) (fun r u => mG u ∧ ((M.sv = 0 ∧ u.er = 1) ∨ (M.sv = 1 ∧ ¬ (0 ≤ ((nI jn)).toInt ∧ ((nI jn)).toInt < M.n ∧ 0 ≤ ((nI kn)).toInt ∧ ((nI kn)).toInt < M.n) ∧ u.er = 2) ∨ (∃ j2 k2 : Nat, (nI jn) = nI j2 ∧ (nI kn) = nI k2 ∧ j2 < M.n ∧ k2 < M.n ∧ M.sv = 1 ∧ u.er = 0 ∧ r = wh_c (dt_y (dA M.a) j2 (M.n - 1 - j2) M.n) (dt_y (dA M.a) k2 (M.n - 1 - k2) M.n) * sgI (dt_d (dA M.a) M.n))) ∧ u.n = M.n ∧ u.sv = M.sv ∧ u.a = M.a ∧ u.fo = M.fo ∧ u.fb = M.fb) (fun u t => va_P (dC, dI) classes (mw m0 ma mS mt mo mb mg mh mr cA cJ u.er u.n u.sv u.a u.S u.ft u.fo u.fb u.fg u.fh u.fr) t.heap ∧ va_D A (mw m0 ma mS mt mo mb mg mh mr cA cJ u.er u.n u.sv u.a u.S u.ft u.fo u.fb u.fg u.fh u.fr)) A) ([.ref m0, .int (nI jn), .int (nI kn)] : List Value).toArray s 0 0 A) (F0 m 111 ls []) := by
    intro G2 hG2 vG H locs hP hD hS ls hl
    refine lv_aload_n hx hb d_Model_compare_111 rfl (lv_at hl 0 rfl) ?_
    refine va_get (D := (dC, dI)) (ci := 3) (v := .int (nI M.n)) (C := R_Model) (T := F_Model) (N := 11) hx hb hts i_Model hown hK hP 0 rfl rfl 1 (by decide) (hts _ k_fl_Model_44) (fun _ h9 => h9) rfl d_Model_compare_112 ?_
    refine lv_iconst (v := nI 1) hx hb d_Model_compare_115 rfl ?_
    refine xn_isub hx hb (by omega) d_Model_compare_116 ?_
    refine lv_iload_n hx hb d_Model_compare_117 rfl (lv_at hl 2 rfl) ?_
    refine xn_isub hx hb (by omega) d_Model_compare_118 ?_
    refine lv_iconst (v := nI 1) hx hb d_Model_compare_119 rfl ?_
    refine xe_iand (v := nI ((M.n - 1 - kn) % 2)) hx hb d_Model_compare_120 (nI_bit (by omega)) ?_
    refine lv_iconst (v := nI 1) hx hb d_Model_compare_121 rfl ?_
    refine xn_icmp_ne (tgt := 132) hx hb (by omega) (by omega) d_Model_compare_122 (by decide) (fun hne => ?_) (fun hne => ?_)
    · exact last G2 H1 hG2 w2.1 vG (p3 hne) H locs hP hD hS ls (lv_sub hl [0, 1, 2] rfl)
    refine lv_aload_n hx hb d_Model_compare_125 rfl (lv_at hl 0 rfl) ?_
    refine va_get (D := (dC, dI)) (ci := 3) (v := .ref mh) (C := R_Model) (T := F_Model) (N := 11) hx hb hts i_Model hown hK hP 0 rfl rfl 9 (by decide) (hts _ k_fl_Model_30) (fun _ h9 => h9) rfl d_Model_compare_126 ?_
    have hFc := va_free (wc := [(mh, .inl (cA, 56, .inl (xn_f H1)))]) hD hS hA [7] rfl
    refine va_callv (va_runS (As := [.ref mh]) (rest := []) ⟨hx, hb, hml, hown, hts⟩ (c_Model_turn l dC dI H.size cA mh H1 w2.1) (cwS 1 hts (gw_S k_ml_Model_53 k_st_Model_turn k_ini_Model k_code_Model_turn) rfl rfl rfl (by decide +kernel) ⟨Nat.le_of_ble_eq_true rfl, Nat.le_of_ble_eq_true rfl⟩) ⟨xc_W_blind, fun U hU hW => ⟨rfl, by rw [hU], by rw [hU]; exact hP.sub (ws' := [(mh, .inl (cA, 56, .inl (xn_f H1)))]) [7] rfl, va_K.moved hW.alike (hK.sub (tys' := [(cA, .int)]) [0] rfl), (hD.sub (ws' := [(mh, .inl (cA, 56, .inl (xn_f H1)))]) [7] (by decide) rfl).weaken (fun _ _ _ _ => trivial)⟩⟩ rfl rfl hl.1 rfl (lv_room (Nat.le_of_ble_eq_true rfl)) d_Model_compare_129 ⟨Nat.zero_le _, Nat.zero_le _⟩) hS (fun q _ h => hFc q h) hFc (fun u t_ H locs ht_ hvm_ w6 hB hz1 hk1 hS => ?_)
    obtain ⟨H2, e_H2⟩ : ∃ z, z = u := ⟨u, rfl⟩
    rw [← e_H2] at w6 hB
    rw [ht_] at hB
    obtain ⟨hP, hD⟩ := xj_1 7 hP hD rfl hk1 hB
    have hP : va_P (dC, dI) classes (mw m0 ma mS mt mo mb mg mh mr cA cJ (nI 0) M.n M.sv M.a M.S M.ft M.fo M.fb G2 H2 M.fr) H := hP
    have hD : va_D A (mw m0 ma mS mt mo mb mg mh mr cA cJ (nI 0) M.n M.sv M.a M.S M.ft M.fo M.fb G2 H2 M.fr) := hD
    exact last G2 H2 hG2 w6.1 vG (p4 hne H2 w6.2) H locs hP hD hS ls (lv_sub hl [0, 1, 2] rfl)
  refine lv_aload_n hx hb d_Model_compare_90 rfl (lv_at hl 0 rfl) ?_
  refine va_get (D := (dC, dI)) (ci := 3) (v := .int (nI M.n)) (C := R_Model) (T := F_Model) (N := 11) hx hb hts i_Model hown hK hP 0 rfl rfl 1 (by decide) (hts _ k_fl_Model_44) (fun _ h9 => h9) rfl d_Model_compare_91 ?_
  refine lv_iconst (v := nI 1) hx hb d_Model_compare_94 rfl ?_
  refine xn_isub hx hb (by omega) d_Model_compare_95 ?_
  refine lv_iload_n hx hb d_Model_compare_96 rfl (lv_at hl 1 rfl) ?_
  refine xn_isub hx hb (by omega) d_Model_compare_97 ?_
  refine lv_iconst (v := nI 1) hx hb d_Model_compare_98 rfl ?_
  refine xe_iand (v := nI ((M.n - 1 - jn) % 2)) hx hb d_Model_compare_99 (nI_bit (by omega)) ?_
  refine lv_iconst (v := nI 1) hx hb d_Model_compare_100 rfl ?_
  refine xn_icmp_ne (tgt := 111) hx hb (by omega) (by omega) d_Model_compare_101 (by decide) (fun hne => ?_) (fun hne => ?_)
  · exact mid G1 w1.1 (p1 hne) H locs hP hD hS ls (lv_sub hl [0, 1, 2] rfl)
  refine lv_aload_n hx hb d_Model_compare_104 rfl (lv_at hl 0 rfl) ?_
  refine va_get (D := (dC, dI)) (ci := 3) (v := .ref mg) (C := R_Model) (T := F_Model) (N := 11) hx hb hts i_Model hown hK hP 0 rfl rfl 8 (by decide) (hts _ k_fl_Model_27) (fun _ h9 => h9) rfl d_Model_compare_105 ?_
  have hFc := va_free (wc := [(mg, .inl (cA, 56, .inl (xn_f G1)))]) hD hS hA [6] rfl
  refine va_callv (va_runS (As := [.ref mg]) (rest := []) ⟨hx, hb, hml, hown, hts⟩ (c_Model_turn l dC dI H.size cA mg G1 w1.1) (cwS 1 hts (gw_S k_ml_Model_53 k_st_Model_turn k_ini_Model k_code_Model_turn) rfl rfl rfl (by decide +kernel) ⟨Nat.le_of_ble_eq_true rfl, Nat.le_of_ble_eq_true rfl⟩) ⟨xc_W_blind, fun U hU hW => ⟨rfl, by rw [hU], by rw [hU]; exact hP.sub (ws' := [(mg, .inl (cA, 56, .inl (xn_f G1)))]) [6] rfl, va_K.moved hW.alike (hK.sub (tys' := [(cA, .int)]) [0] rfl), (hD.sub (ws' := [(mg, .inl (cA, 56, .inl (xn_f G1)))]) [6] (by decide) rfl).weaken (fun _ _ _ _ => trivial)⟩⟩ rfl rfl hl.1 rfl (lv_room (Nat.le_of_ble_eq_true rfl)) d_Model_compare_108 ⟨Nat.zero_le _, Nat.zero_le _⟩) hS (fun q _ h => hFc q h) hFc (fun u t_ H locs ht_ hvm_ w6 hB hz1 hk1 hS => ?_)
  obtain ⟨G2, e_G2⟩ : ∃ z, z = u := ⟨u, rfl⟩
  rw [← e_G2] at w6 hB
  rw [ht_] at hB
  obtain ⟨hP, hD⟩ := xj_1 6 hP hD rfl hk1 hB
  have hP : va_P (dC, dI) classes (mw m0 ma mS mt mo mb mg mh mr cA cJ (nI 0) M.n M.sv M.a M.S M.ft M.fo M.fb G2 H1 M.fr) H := hP
  have hD : va_D A (mw m0 ma mS mt mo mb mg mh mr cA cJ (nI 0) M.n M.sv M.a M.S M.ft M.fo M.fb G2 H1 M.fr) := hD
  exact mid G2 w6.1 (p2 hne G2 w6.2) H locs hP hD hS ls (lv_sub hl [0, 1, 2] rfl)
set_option maxHeartbeats 8000000 in
set_option maxRecDepth 100000 in
/-- bits of the reference -/
theorem c_Model_bits (l : Launch) (dC : Nat → ClassId) (dI : Nat → Nat → Nat) (sz : Nat) (m0 ma mS mt mo mb mg mh mr : Nat) (cA cJ : ClassId) (M : mT) (b : Int32) (hG : mG M) : Met l y_Model_bits w_Model_bits ({ frames := 1, cells := 0, slots := 0, locals := 21 }) (xc_W [.ref m0, .int b] dC dI (mw m0 ma mS mt mo mb mg mh mr cA cJ M.er M.n M.sv M.a M.S M.ft M.fo M.fb M.fg M.fh M.fr) [(cA, .int), (cJ, .long)] sz) (va_Qi (S := mT) (fun r u => mG u ∧ (∃ bl : Nat, r = nI bl ∧ (if b = 0 then dg_v M.fo 56 else dg_v M.fb 56) < 2 ^ bl ∧ ∀ q, bl = q + 1 → 2 ^ q ≤ (if b = 0 then dg_v M.fo 56 else dg_v M.fb 56)) ∧ u.er = 0 ∧ u.n = M.n ∧ u.sv = M.sv ∧ u.a = M.a ∧ u.fo = M.fo ∧ u.fb = M.fb) (fun u t => va_P (dC, dI) classes (mw m0 ma mS mt mo mb mg mh mr cA cJ u.er u.n u.sv u.a u.S u.ft u.fo u.fb u.fg u.fh u.fr) t.heap ∧ va_D (va_A (mw m0 ma mS mt mo mb mg mh mr cA cJ M.er M.n M.sv M.a M.S M.ft M.fo M.fb M.fg M.fh M.fr) sz) (mw m0 ma mS mt mo mb mg mh mr cA cJ u.er u.n u.sv u.a u.S u.ft u.fo u.fb u.fg u.fh u.fr)) (va_A (mw m0 ma mS mt mo mb mg mh mr cA cJ M.er M.n M.sv M.a M.S M.ft M.fo M.fb M.fg M.fh M.fr) sz)) 0 0 (va_A (mw m0 ma mS mt mo mb mg mh mr cA cJ M.er M.n M.sv M.a M.S M.ft M.fo M.fb M.fg M.fh M.fr) sz) := by
  refine Met.ofW (cc := b_Model_bits) (maxL := 2) (ret := (some .int)) (by decide) rfl ?_
  intro p e s m args below meth c s₁ B hml hv
  obtain ⟨rfl, hsz, hP, hK, hD0⟩ := hv
  have hx := B.exec
  have hb := B.bytes
  have hr := B.returns
  have hts : ∀ w ∈ gw_tbl, w.before ([.ref m0, .int b] : List Value).toArray s = true := fun w h => atoms_spec (ws := w_Model_bits) B.pre w (List.mem_cons_of_mem _ h)
  have hown : s.vm.findClass R_Model = some m.cls := findClass_of_methodNamed B.named
  have hlocks := B.notSynchronized
  subst hsz
  have hD := hD0.self (sz := s.heap.size)
  generalize hAe : va_A (mw m0 ma mS mt mo mb mg mh mr cA cJ M.er M.n M.sv M.a M.S M.ft M.fo M.fb M.fg M.fh M.fr) s.heap.size = A at hD ⊢
  have hA : ∀ q : Nat, s.heap.size ≤ q → A q := fun q h => by rw [← hAe]; exact Or.inr h
  have hS : va_S A s.heap s.heap [] := va_S.rf
  have hl := lv_entry ([.ref m0, .int b]) (n := 2) (Nat.le_of_ble_eq_true rfl)
  rw [lg_entry_eq]
  generalize (lg_sl ([.ref m0, .int b]) ++ List.replicate (2 - (lg_sl ([.ref m0, .int b])).length) Slot.unset).toArray = ls at hl ⊢
  have hl : lv_has ls 2 [(0, .ref m0), (1, .int b)] := hl
  have hG0 := hG
  obtain ⟨g1, g2, g3, g4, g5, g6, g7, g8, g9, g10⟩ := hG
  refine lv_aload_n hx hb d_Model_bits_0 rfl (lv_at hl 0 rfl) ?_
  refine lv_iconst (v := nI 0) hx hb d_Model_bits_1 rfl ?_
  refine va_put (D := (dC, dI)) (ci := 3) (v := .int (nI 0)) (ty := .int) (C := R_Model) (T := F_Model) (N := 11) hx hb hts i_Model t_Model t_Model_ok n_Model hown hK hP hD hS 0 rfl rfl 0 (by decide) (hts _ k_fl_Model_36) (fun _ h9 => h9) rfl (by decide +kernel) rfl rfl (Nat.le_of_ble_eq_true rfl) d_Model_bits_2 (fun H locs hP hD hS => ?_)
  have hP : va_P (dC, dI) classes (mw m0 ma mS mt mo mb mg mh mr cA cJ (nI 0) M.n M.sv M.a M.S M.ft M.fo M.fb M.fg M.fh M.fr) H := hP
  have hD : va_D A (mw m0 ma mS mt mo mb mg mh mr cA cJ (nI 0) M.n M.sv M.a M.S M.ft M.fo M.fb M.fg M.fh M.fr) := hD
  refine lv_iload_n hx hb d_Model_bits_5 rfl (lv_at hl 1 rfl) ?_
  refine lv_if_eq (tgt := 16) hx hb d_Model_bits_6 (by decide) (fun hb0 => ?_) (fun hb0 => ?_)
  · refine lv_aload_n hx hb d_Model_bits_16 rfl (lv_at hl 0 rfl) ?_
    refine va_get (D := (dC, dI)) (ci := 3) (v := .ref mo) (C := R_Model) (T := F_Model) (N := 11) hx hb hts i_Model hown hK hP 0 rfl rfl 6 (by decide) (hts _ k_fl_Model_21) (fun _ h9 => h9) rfl d_Model_bits_17 ?_
    refine vp_callSi (W.runS (As := [.ref mo]) (rest := []) ⟨hx, hb, hml, hown, hts⟩ (c_Model_bitsOf l dC dI cA mo M.fo g5) (cwS 1 hts (gw_S k_ml_Model_114 k_st_Model_bitsOf k_ini_Model k_code_Model_bitsOf) rfl rfl rfl (by decide +kernel) ⟨Nat.le_of_ble_eq_true rfl, Nat.le_of_ble_eq_true rfl⟩) ⟨xc_R_blind, fun U hU hW => ⟨rfl, by rw [hU]; exact hP.sub (ws' := [(mo, .inl (cA, 56, .inl (xn_f M.fo)))]) [4] rfl, va_K.moved hW.alike (hK.sub (tys' := [(cA, .int)]) [0] rfl)⟩⟩ rfl rfl hl.1 rfl (lv_room (Nat.le_of_ble_eq_true rfl)) d_Model_bits_20 ⟨Nat.zero_le _, Nat.zero_le _⟩) (fun r_ e_r => ?_)
    obtain ⟨bl, e1, e2, e3, e4⟩ := e_r
    have hpost : mG (⟨nI 0, M.n, M.sv, M.a, M.S, M.ft, M.fo, M.fb, M.fg, M.fh, M.fr⟩ : mT) ∧ (∃ bl : Nat, r_ = nI bl ∧ (if b = 0 then dg_v M.fo 56 else dg_v M.fb 56) < 2 ^ bl ∧ ∀ q, bl = q + 1 → 2 ^ q ≤ (if b = 0 then dg_v M.fo 56 else dg_v M.fb 56)) ∧ (nI 0 : Int32) = 0 ∧ M.n = M.n ∧ M.sv = M.sv ∧ M.a = M.a ∧ M.fo = M.fo ∧ M.fb = M.fb := ⟨⟨g1, g2, g3, g4, g5, g6, g7, g8, g9, g10⟩, ⟨bl, e1, by rw [if_pos hb0]; exact e3, by rw [if_pos hb0]; exact e4⟩, rfl, rfl, rfl, rfl, rfl, rfl⟩
    exact W.iret (v := r_) hx hb hr (fun T_ ht_ hW_ => ⟨⟨_, (⟨nI 0, M.n, M.sv, M.a, M.S, M.ft, M.fo, M.fb, M.fg, M.fh, M.fr⟩ : mT), rfl, hpost, by show va_P (dC, dI) classes _ T_.heap; rw [ht_]; exact hP, hD⟩, hS.F ht_⟩) hS.2.2 d_Model_bits_23
  refine lv_aload_n hx hb d_Model_bits_9 rfl (lv_at hl 0 rfl) ?_
  refine va_get (D := (dC, dI)) (ci := 3) (v := .ref mb) (C := R_Model) (T := F_Model) (N := 11) hx hb hts i_Model hown hK hP 0 rfl rfl 7 (by decide) (hts _ k_fl_Model_24) (fun _ h9 => h9) rfl d_Model_bits_10 ?_
  refine lv_goto (tgt := 20) hx hb d_Model_bits_13 (by decide) ?_
  refine vp_callSi (W.runS (As := [.ref mb]) (rest := []) ⟨hx, hb, hml, hown, hts⟩ (c_Model_bitsOf l dC dI cA mb M.fb g6) (cwS 1 hts (gw_S k_ml_Model_114 k_st_Model_bitsOf k_ini_Model k_code_Model_bitsOf) rfl rfl rfl (by decide +kernel) ⟨Nat.le_of_ble_eq_true rfl, Nat.le_of_ble_eq_true rfl⟩) ⟨xc_R_blind, fun U hU hW => ⟨rfl, by rw [hU]; exact hP.sub (ws' := [(mb, .inl (cA, 56, .inl (xn_f M.fb)))]) [5] rfl, va_K.moved hW.alike (hK.sub (tys' := [(cA, .int)]) [0] rfl)⟩⟩ rfl rfl hl.1 rfl (lv_room (Nat.le_of_ble_eq_true rfl)) d_Model_bits_20 ⟨Nat.zero_le _, Nat.zero_le _⟩) (fun r_ e_r => ?_)
  obtain ⟨bl, e1, e2, e3, e4⟩ := e_r
  have hpost : mG (⟨nI 0, M.n, M.sv, M.a, M.S, M.ft, M.fo, M.fb, M.fg, M.fh, M.fr⟩ : mT) ∧ (∃ bl : Nat, r_ = nI bl ∧ (if b = 0 then dg_v M.fo 56 else dg_v M.fb 56) < 2 ^ bl ∧ ∀ q, bl = q + 1 → 2 ^ q ≤ (if b = 0 then dg_v M.fo 56 else dg_v M.fb 56)) ∧ (nI 0 : Int32) = 0 ∧ M.n = M.n ∧ M.sv = M.sv ∧ M.a = M.a ∧ M.fo = M.fo ∧ M.fb = M.fb := ⟨⟨g1, g2, g3, g4, g5, g6, g7, g8, g9, g10⟩, ⟨bl, e1, by rw [if_neg hb0]; exact e3, by rw [if_neg hb0]; exact e4⟩, rfl, rfl, rfl, rfl, rfl, rfl⟩
  exact W.iret (v := r_) hx hb hr (fun T_ ht_ hW_ => ⟨⟨_, (⟨nI 0, M.n, M.sv, M.a, M.S, M.ft, M.fo, M.fb, M.fg, M.fh, M.fr⟩ : mT), rfl, hpost, by show va_P (dC, dI) classes _ T_.heap; rw [ht_]; exact hP, hD⟩, hS.F ht_⟩) hS.2.2 d_Model_bits_23
