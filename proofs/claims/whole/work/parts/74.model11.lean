set_option maxHeartbeats 8000000 in
set_option maxRecDepth 100000 in
/-- signOf -/
theorem c_Model_signOf (l : Launch) (dC : Nat → ClassId) (dI : Nat → Nat → Nat) (cA : ClassId) (m0 ma mS mt mo mb mg mh mr : Nat) (er : Int32) (n : Nat) (sv : Int32) (S : Nat → Nat) (k : Nat) (z d : Int) (hS0 : ∀ i, S i < 65536) (hn : n ≤ 12) (hk : k < n) (hz : dg_v (fun j => S (56 * (2 ^ (n + 1) - 1 - 2 ^ k) + j)) 56 = tc z) (hd : dg_v (fun j => S (56 * (2 ^ n - 1) + j)) 56 = tc d) (bz1 : z.natAbs < 2 ^ 785) (bd1 : d.natAbs < 2 ^ 785) : Met l y_Model_signOf w_Model_signOf ({ frames := 1, cells := 0, slots := 0, locals := 22 }) (xc_R [.ref m0, .int (nI k)] dC dI ([(m0, .inr (3, [.int er, .int (nI n), .int sv, .ref ma, .ref mS, .ref mt, .ref mo, .ref mb, .ref mg, .ref mh, .ref mr])), (mS, .inl (cA, 458752, .inl (xn_f S)))]) [(cA, .int)]) (vp_Si (fun r => r = if (n - 1 - k) % 2 = 1 then -(sgI z * sgI d) else sgI z * sgI d)) 0 0 (fun _ => False) := by
  refine Met.ofW (cc := b_Model_signOf) (maxL := 3) (ret := (some .int)) (by decide) rfl ?_
  intro p e s m args below meth c s₁ B hml hv
  obtain ⟨rfl, hP, hK⟩ := hv
  have hx := B.exec
  have hb := B.bytes
  have hr := B.returns
  have hts : ∀ w ∈ gw_tbl, w.before ([.ref m0, .int (nI k)] : List Value).toArray s = true := fun w h => atoms_spec (ws := w_Model_signOf) B.pre w (List.mem_cons_of_mem _ h)
  have hown : s.vm.findClass R_Model = some m.cls := findClass_of_methodNamed B.named
  have hlocks := B.notSynchronized
  have hl := lv_entry ([.ref m0, .int (nI k)]) (n := 3) (Nat.le_of_ble_eq_true rfl)
  rw [lg_entry_eq]
  generalize (lg_sl ([.ref m0, .int (nI k)]) ++ List.replicate (3 - (lg_sl ([.ref m0, .int (nI k)])).length) Slot.unset).toArray = ls at hl ⊢
  have hl : lv_has ls 3 [(0, .ref m0), (1, .int (nI k))] := hl
  have hall : 2 ^ (n + 1) ≤ 8192 := Nat.pow_le_pow_right (n := 2) (j := 13) (by decide) (by omega)
  have hn2 : 2 ^ (n + 1) = 2 ^ n * 2 := Nat.pow_succ ..
  have hpk0 := Nat.two_pow_pos k
  have hnp := Nat.two_pow_pos n
  refine lv_aload_n hx hb d_Model_signOf_0 rfl (lv_at hl 0 rfl) ?_
  refine lv_aload_n hx hb d_Model_signOf_1 rfl (lv_at hl 0 rfl) ?_
  refine lv_iload_n hx hb d_Model_signOf_2 rfl (lv_at hl 1 rfl) ?_
  refine vp_callSi (W.runV (As := [.int (nI k)]) (rest := [.ref m0]) ⟨hx, hb, hml, hown, hts⟩ (c_Model_place l dC dI m0 ma mS mt mo mb mg mh mr er n sv (nI k) hn (Or.inr ⟨k, rfl, (Nat.le_of_lt hk)⟩)) (cwV 1 hts (gw_V k_ml_Model_72 k_im_Model_place k_sel_Model_place k_ini_Model k_code_Model_place) rfl rfl rfl (by decide +kernel) ⟨Nat.le_of_ble_eq_true rfl, Nat.le_of_ble_eq_true rfl⟩) ⟨xc_R_blind, va_recv hK hP (ci := 3) (q0 := 0) rfl rfl, fun U hU hW => ⟨rfl, by rw [hU]; exact hP.sub (ws' := [(m0, .inr (3, [.int er, .int (nI n), .int sv, .ref ma, .ref mS, .ref mt, .ref mo, .ref mb, .ref mg, .ref mh, .ref mr]))]) [0] rfl, va_K.moved hW.alike (hK.sub (tys' := []) [] rfl)⟩⟩ rfl rfl hl.1 rfl (lv_room (Nat.le_of_ble_eq_true rfl)) d_Model_signOf_3 ⟨Nat.zero_le _, Nat.zero_le _⟩) (fun rp e_p => ?_)
  have e_p := e_p.2 k rfl (Nat.le_of_lt hk)
  subst e_p
  refine vp_callSi (W.runV (As := [.int (nI (56 * (2 ^ (n + 1) - 1 - 2 ^ k)))]) (rest := []) ⟨hx, hb, hml, hown, hts⟩ (c_Model_signAt l dC dI cA m0 ma mS mt mo mb mg mh mr er n sv S (56 * (2 ^ (n + 1) - 1 - 2 ^ k)) hS0 (by omega)) (cwV 1 hts (gw_V k_ml_Model_75 k_im_Model_signAt k_sel_Model_signAt k_ini_Model k_code_Model_signAt) rfl rfl rfl (by decide +kernel) ⟨Nat.le_of_ble_eq_true rfl, Nat.le_of_ble_eq_true rfl⟩) ⟨xc_R_blind, va_recv hK hP (ci := 3) (q0 := 0) rfl rfl, fun U hU hW => ⟨rfl, by rw [hU]; exact hP.sub (ws' := [(m0, .inr (3, [.int er, .int (nI n), .int sv, .ref ma, .ref mS, .ref mt, .ref mo, .ref mb, .ref mg, .ref mh, .ref mr])), (mS, .inl (cA, 458752, .inl (xn_f S)))]) [0, 1] rfl, va_K.moved hW.alike (hK.sub (tys' := [(cA, .int)]) [0] rfl)⟩⟩ rfl rfl hl.1 rfl (lv_room (Nat.le_of_ble_eq_true rfl)) d_Model_signOf_6 ⟨Nat.zero_le _, Nat.zero_le _⟩) (fun rs1 e_s => ?_)
  rw [hz, sg_tc bz1] at e_s
  subst e_s
  refine lv_aload_n hx hb d_Model_signOf_9 rfl (lv_at hl 0 rfl) ?_
  refine lv_aload_n hx hb d_Model_signOf_10 rfl (lv_at hl 0 rfl) ?_
  refine lv_iconst (v := -1) hx hb d_Model_signOf_11 (by decide) ?_
  refine vp_callSi (W.runV (As := [.int ((-1))]) (rest := [.ref m0, .int (sgI (z))]) ⟨hx, hb, hml, hown, hts⟩ (c_Model_place l dC dI m0 ma mS mt mo mb mg mh mr er n sv (-1) hn (Or.inl rfl)) (cwV 1 hts (gw_V k_ml_Model_72 k_im_Model_place k_sel_Model_place k_ini_Model k_code_Model_place) rfl rfl rfl (by decide +kernel) ⟨Nat.le_of_ble_eq_true rfl, Nat.le_of_ble_eq_true rfl⟩) ⟨xc_R_blind, va_recv hK hP (ci := 3) (q0 := 0) rfl rfl, fun U hU hW => ⟨rfl, by rw [hU]; exact hP.sub (ws' := [(m0, .inr (3, [.int er, .int (nI n), .int sv, .ref ma, .ref mS, .ref mt, .ref mo, .ref mb, .ref mg, .ref mh, .ref mr]))]) [0] rfl, va_K.moved hW.alike (hK.sub (tys' := []) [] rfl)⟩⟩ rfl rfl hl.1 rfl (lv_room (Nat.le_of_ble_eq_true rfl)) d_Model_signOf_12 ⟨Nat.zero_le _, Nat.zero_le _⟩) (fun rp e_p => ?_)
  have e_p := e_p.1 rfl
  subst e_p
  refine vp_callSi (W.runV (As := [.int (nI (56 * (2 ^ n - 1)))]) (rest := [.int (sgI (z))]) ⟨hx, hb, hml, hown, hts⟩ (c_Model_signAt l dC dI cA m0 ma mS mt mo mb mg mh mr er n sv S (56 * (2 ^ n - 1)) hS0 (by omega)) (cwV 1 hts (gw_V k_ml_Model_75 k_im_Model_signAt k_sel_Model_signAt k_ini_Model k_code_Model_signAt) rfl rfl rfl (by decide +kernel) ⟨Nat.le_of_ble_eq_true rfl, Nat.le_of_ble_eq_true rfl⟩) ⟨xc_R_blind, va_recv hK hP (ci := 3) (q0 := 0) rfl rfl, fun U hU hW => ⟨rfl, by rw [hU]; exact hP.sub (ws' := [(m0, .inr (3, [.int er, .int (nI n), .int sv, .ref ma, .ref mS, .ref mt, .ref mo, .ref mb, .ref mg, .ref mh, .ref mr])), (mS, .inl (cA, 458752, .inl (xn_f S)))]) [0, 1] rfl, va_K.moved hW.alike (hK.sub (tys' := [(cA, .int)]) [0] rfl)⟩⟩ rfl rfl hl.1 rfl (lv_room (Nat.le_of_ble_eq_true rfl)) d_Model_signOf_15 ⟨Nat.zero_le _, Nat.zero_le _⟩) (fun rs2 e_s => ?_)
  rw [hd, sg_tc bd1] at e_s
  subst e_s
  refine xe_imul (v := sgI z * sgI d) hx hb d_Model_signOf_18 rfl ?_
  refine lv_istore_n (lv' := [(2, .int (sgI z * sgI d)), (0, .ref m0), (1, .int (nI k))]) hx hb d_Model_signOf_19 rfl hl (by decide) rfl (fun ls hl => ?_)
  refine lv_aload_n hx hb d_Model_signOf_20 rfl (lv_at hl 1 rfl) ?_
  refine va_get (D := (dC, dI)) (ci := 3) (v := .int (nI n)) (C := R_Model) (T := F_Model) (N := 11) hx hb hts i_Model hown hK hP 0 rfl rfl 1 (by decide) (hts _ k_fl_Model_44) (fun _ h9 => h9) rfl d_Model_signOf_21 ?_
  refine lv_iconst (v := nI 1) hx hb d_Model_signOf_24 rfl ?_
  refine xn_isub hx hb (by omega) d_Model_signOf_25 ?_
  refine lv_iload_n hx hb d_Model_signOf_26 rfl (lv_at hl 2 rfl) ?_
  refine xn_isub hx hb (by omega) d_Model_signOf_27 ?_
  refine lv_iconst (v := nI 1) hx hb d_Model_signOf_28 rfl ?_
  refine xe_iand (v := nI ((n - 1 - k) % 2)) hx hb d_Model_signOf_29 (nI_bit (by omega)) ?_
  refine lv_iconst (v := nI 1) hx hb d_Model_signOf_30 rfl ?_
  refine xn_icmp_ne (tgt := 39) hx hb (by omega) (by omega) d_Model_signOf_31 (by decide) (fun hne => ?_) (fun hne => ?_)
  · refine lv_iload_n hx hb d_Model_signOf_39 rfl (lv_at hl 0 rfl) ?_
    exact W.iret (v := sgI z * sgI d) hx hb hr (fun T_ ht_ hW_ => ⟨_, rfl, by rw [if_neg hne], ht_⟩) (fun q hq => by cases hq) d_Model_signOf_40
  refine lv_iload_n hx hb d_Model_signOf_34 rfl (lv_at hl 0 rfl) ?_
  refine xn_ineg (v := -(sgI z * sgI d)) hx hb d_Model_signOf_35 rfl ?_
  refine lv_goto (tgt := 40) hx hb d_Model_signOf_36 (by decide) ?_
  exact W.iret (v := -(sgI z * sgI d)) hx hb hr (fun T_ ht_ hW_ => ⟨_, rfl, by rw [if_pos hne], ht_⟩) (fun q hq => by cases hq) d_Model_signOf_40
set_option maxHeartbeats 8000000 in
set_option maxRecDepth 100000 in
/-- unknown of the reference -/
theorem c_Model_unknown (l : Launch) (dC : Nat → ClassId) (dI : Nat → Nat → Nat) (sz : Nat) (m0 ma mS mt mo mb mg mh mr : Nat) (cA cJ : ClassId) (M : mT) (k : Int32) (hG : mG M) : Met l y_Model_unknown w_Model_unknown ({ frames := 2, cells := 0, slots := 0, locals := 46 }) (xc_W [.ref m0, .int k] dC dI (mw m0 ma mS mt mo mb mg mh mr cA cJ M.er M.n M.sv M.a M.S M.ft M.fo M.fb M.fg M.fh M.fr) [(cA, .int), (cJ, .long)] sz) (va_Qi (S := mT) (fun r u => mG u ∧ ((M.sv = 0 ∧ u.er = 1 ∧ u.fo = M.fo ∧ u.fb = M.fb) ∨ (M.sv = 1 ∧ ¬ (0 ≤ (k).toInt ∧ (k).toInt < M.n) ∧ u.er = 2 ∧ u.fo = M.fo ∧ u.fb = M.fb) ∨ (∃ k2 : Nat, k = nI k2 ∧ k2 < M.n ∧ M.sv = 1 ∧ u.er = 0 ∧ r.toInt = (dt_y (dA M.a) k2 (M.n - 1 - k2) M.n).sign * (dt_d (dA M.a) M.n).sign ∧ dg_v u.fo 56 = (dt_y (dA M.a) k2 (M.n - 1 - k2) M.n).natAbs / (Nat.gcd (dt_y (dA M.a) k2 (M.n - 1 - k2) M.n).natAbs (dt_d (dA M.a) M.n).natAbs) ∧ dg_v u.fb 56 = (dt_d (dA M.a) M.n).natAbs / (Nat.gcd (dt_y (dA M.a) k2 (M.n - 1 - k2) M.n).natAbs (dt_d (dA M.a) M.n).natAbs))) ∧ u.n = M.n ∧ u.sv = M.sv ∧ u.a = M.a) (fun u t => va_P (dC, dI) classes (mw m0 ma mS mt mo mb mg mh mr cA cJ u.er u.n u.sv u.a u.S u.ft u.fo u.fb u.fg u.fh u.fr) t.heap ∧ va_D (va_A (mw m0 ma mS mt mo mb mg mh mr cA cJ M.er M.n M.sv M.a M.S M.ft M.fo M.fb M.fg M.fh M.fr) sz) (mw m0 ma mS mt mo mb mg mh mr cA cJ u.er u.n u.sv u.a u.S u.ft u.fo u.fb u.fg u.fh u.fr)) (va_A (mw m0 ma mS mt mo mb mg mh mr cA cJ M.er M.n M.sv M.a M.S M.ft M.fo M.fb M.fg M.fh M.fr) sz)) 0 0 (va_A (mw m0 ma mS mt mo mb mg mh mr cA cJ M.er M.n M.sv M.a M.S M.ft M.fo M.fb M.fg M.fh M.fr) sz) := by
  refine Met.ofW (cc := b_Model_unknown) (maxL := 2) (ret := (some .int)) (by decide) rfl ?_
  intro p e s m args below meth c s₁ B hml hv
  obtain ⟨rfl, hsz, hP, hK, hD0⟩ := hv
  have hx := B.exec
  have hb := B.bytes
  have hr := B.returns
  have hts : ∀ w ∈ gw_tbl, w.before ([.ref m0, .int k] : List Value).toArray s = true := fun w h => atoms_spec (ws := w_Model_unknown) B.pre w (List.mem_cons_of_mem _ h)
  have hown : s.vm.findClass R_Model = some m.cls := findClass_of_methodNamed B.named
  have hlocks := B.notSynchronized
  subst hsz
  have hD := hD0.self (sz := s.heap.size)
  generalize hAe : va_A (mw m0 ma mS mt mo mb mg mh mr cA cJ M.er M.n M.sv M.a M.S M.ft M.fo M.fb M.fg M.fh M.fr) s.heap.size = A at hD ⊢
  have hA : ∀ q : Nat, s.heap.size ≤ q → A q := fun q h => by rw [← hAe]; exact Or.inr h
  have hS : va_S A s.heap s.heap [] := va_S.rf
  have hl := lv_entry ([.ref m0, .int k]) (n := 2) (Nat.le_of_ble_eq_true rfl)
  rw [lg_entry_eq]
  generalize (lg_sl ([.ref m0, .int k]) ++ List.replicate (2 - (lg_sl ([.ref m0, .int k])).length) Slot.unset).toArray = ls at hl ⊢
  have hl : lv_has ls 2 [(0, .ref m0), (1, .int k)] := hl
  have hG0 := hG
  obtain ⟨g1, g2, g3, g4, g5, g6, g7, g8, g9, g10⟩ := hG
  have z0 : (0 : Int32).toInt = 0 := rfl
  have hnt : (nI M.n).toInt = (M.n : Int) := nI_toInt (by omega)
  have hall : 2 ^ (M.n + 1) ≤ 8192 := Nat.pow_le_pow_right (n := 2) (j := 13) (by decide) (by omega)
  have hn2 : 2 ^ (M.n + 1) = 2 ^ M.n * 2 := Nat.pow_succ ..
  have hnp := Nat.two_pow_pos M.n
  refine lv_aload_n hx hb d_Model_unknown_0 rfl (lv_at hl 0 rfl) ?_
  refine lv_iconst (v := nI 0) hx hb d_Model_unknown_1 rfl ?_
  refine va_put (D := (dC, dI)) (ci := 3) (v := .int (nI 0)) (ty := .int) (C := R_Model) (T := F_Model) (N := 11) hx hb hts i_Model t_Model t_Model_ok n_Model hown hK hP hD hS 0 rfl rfl 0 (by decide) (hts _ k_fl_Model_36) (fun _ h9 => h9) rfl (by decide +kernel) rfl rfl (Nat.le_of_ble_eq_true rfl) d_Model_unknown_2 (fun H locs hP hD hS => ?_)
  have hP : va_P (dC, dI) classes (mw m0 ma mS mt mo mb mg mh mr cA cJ (nI 0) M.n M.sv M.a M.S M.ft M.fo M.fb M.fg M.fh M.fr) H := hP
  have hD : va_D A (mw m0 ma mS mt mo mb mg mh mr cA cJ (nI 0) M.n M.sv M.a M.S M.ft M.fo M.fb M.fg M.fh M.fr) := hD
  refine lv_aload_n hx hb d_Model_unknown_5 rfl (lv_at hl 0 rfl) ?_
  refine lv_aload_n hx hb d_Model_unknown_6 rfl (lv_at hl 0 rfl) ?_
  refine va_get (D := (dC, dI)) (ci := 3) (v := .int M.sv) (C := R_Model) (T := F_Model) (N := 11) hx hb hts i_Model hown hK hP 0 rfl rfl 2 (by decide) (hts _ k_fl_Model_47) (fun _ h9 => h9) rfl d_Model_unknown_7 ?_
  refine lv_if_ne (tgt := 17) hx hb d_Model_unknown_10 (by decide) (fun hs => ?_) (fun hs => ?_)
  rotate_left
  · refine lv_iconst (v := nI 1) hx hb d_Model_unknown_13 rfl ?_
    refine lv_goto (tgt := 18) hx hb d_Model_unknown_14 (by decide) ?_
    refine lv_iconst (v := nI 1) hx hb d_Model_unknown_18 rfl ?_
    have hFc := va_free (wc := [(m0, .inr (3, [.int (nI 0), .int (nI M.n), .int M.sv, .ref ma, .ref mS, .ref mt, .ref mo, .ref mb, .ref mg, .ref mh, .ref mr]))]) hD hS hA [0] rfl
    refine va_calli (va_runV (As := [.int (nI 1), .int (nI 1)]) (rest := []) ⟨hx, hb, hml, hown, hts⟩ (c_Model_fails l dC dI H.size m0 ma mS mt mo mb mg mh mr (nI 0) M.n M.sv (nI 1) (nI 1)) (cwV 2 hts (gw_V k_ml_Model_40 k_im_Model_fails k_sel_Model_fails k_ini_Model k_code_Model_fails) rfl rfl rfl (by decide +kernel) ⟨Nat.le_of_ble_eq_true rfl, Nat.le_of_ble_eq_true rfl⟩) ⟨xc_W_blind, va_recv hK hP (ci := 3) (q0 := 0) rfl rfl, fun U hU hW => ⟨rfl, by rw [hU], by rw [hU]; exact hP.sub (ws' := [(m0, .inr (3, [.int (nI 0), .int (nI M.n), .int M.sv, .ref ma, .ref mS, .ref mt, .ref mo, .ref mb, .ref mg, .ref mh, .ref mr]))]) [0] rfl, va_K.moved hW.alike (hK.sub (tys' := []) [] rfl), (hD.sub (ws' := [(m0, .inr (3, [.int (nI 0), .int (nI M.n), .int M.sv, .ref ma, .ref mS, .ref mt, .ref mo, .ref mb, .ref mg, .ref mh, .ref mr]))]) [0] (by decide) rfl).weaken (fun _ _ _ _ => trivial)⟩⟩ rfl rfl hl.1 rfl (lv_room (Nat.le_of_ble_eq_true rfl)) d_Model_unknown_19 ⟨Nat.zero_le _, Nat.zero_le _⟩) hS (fun q _ h => hFc q h) hFc (fun rf u t_ H locs ht_ hvm_ wf hB hz1 hk1 hS => ?_)
    obtain ⟨e1_, e_e1_⟩ : ∃ z, z = u := ⟨u, rfl⟩
    rw [← e_e1_] at wf hB
    rw [ht_] at hB
    obtain ⟨hP, hD⟩ := xj_1 0 hP hD rfl hk1 hB
    have hP : va_P (dC, dI) classes (mw m0 ma mS mt mo mb mg mh mr cA cJ e1_ M.n M.sv M.a M.S M.ft M.fo M.fb M.fg M.fh M.fr) H := hP
    have hD : va_D A (mw m0 ma mS mt mo mb mg mh mr cA cJ e1_ M.n M.sv M.a M.S M.ft M.fo M.fb M.fg M.fh M.fr) := hD
    rw [if_neg (show ¬ (nI 1 : Int32) = 0 by decide), if_pos (show (nI 0 : Int32) = 0 by decide)] at wf
    obtain ⟨wf1, wf2⟩ := wf
    subst wf1
    rw [if_neg (show ¬ (nI 1 : Int32) = 0 by decide)] at wf2
    subst wf2
    have hP : va_P (dC, dI) classes (mw m0 ma mS mt mo mb mg mh mr cA cJ (nI 1) M.n M.sv M.a M.S M.ft M.fo M.fb M.fg M.fh M.fr) H := hP
    have hD : va_D A (mw m0 ma mS mt mo mb mg mh mr cA cJ (nI 1) M.n M.sv M.a M.S M.ft M.fo M.fb M.fg M.fh M.fr) := hD
    refine lv_if_ne (tgt := 50) hx hb d_Model_unknown_22 (by decide) (fun _ => ?_) (fun h9_ => absurd h9_ (by decide))
    refine lv_iconst (v := nI 0) hx hb d_Model_unknown_50 rfl ?_
    have hpost : mG (⟨nI 1, M.n, M.sv, M.a, M.S, M.ft, M.fo, M.fb, M.fg, M.fh, M.fr⟩ : mT) ∧ ((M.sv = 0 ∧ (nI 1 : Int32) = 1 ∧ M.fo = M.fo ∧ M.fb = M.fb) ∨ (M.sv = 1 ∧ ¬ (0 ≤ (k).toInt ∧ (k).toInt < M.n) ∧ (nI 1 : Int32) = 2 ∧ M.fo = M.fo ∧ M.fb = M.fb) ∨ (∃ k2 : Nat, k = nI k2 ∧ k2 < M.n ∧ M.sv = 1 ∧ (nI 1 : Int32) = 0 ∧ (nI 0 : Int32).toInt = (dt_y (dA M.a) k2 (M.n - 1 - k2) M.n).sign * (dt_d (dA M.a) M.n).sign ∧ dg_v M.fo 56 = (dt_y (dA M.a) k2 (M.n - 1 - k2) M.n).natAbs / (Nat.gcd (dt_y (dA M.a) k2 (M.n - 1 - k2) M.n).natAbs (dt_d (dA M.a) M.n).natAbs) ∧ dg_v M.fb 56 = (dt_d (dA M.a) M.n).natAbs / (Nat.gcd (dt_y (dA M.a) k2 (M.n - 1 - k2) M.n).natAbs (dt_d (dA M.a) M.n).natAbs))) ∧ M.n = M.n ∧ M.sv = M.sv ∧ M.a = M.a := ⟨⟨g1, g2, g3, g4, g5, g6, g7, g8, g9, g10⟩, Or.inl ⟨hs, rfl, rfl, rfl⟩, rfl, rfl, rfl⟩
    exact W.iret (v := nI 0) hx hb hr (fun T_ ht_ hW_ => ⟨⟨_, (⟨nI 1, M.n, M.sv, M.a, M.S, M.ft, M.fo, M.fb, M.fg, M.fh, M.fr⟩ : mT), rfl, hpost, by show va_P (dC, dI) classes _ T_.heap; rw [ht_]; exact hP, hD⟩, hS.F ht_⟩) hS.2.2 d_Model_unknown_51
  refine lv_iconst (v := nI 0) hx hb d_Model_unknown_17 rfl ?_
  refine lv_iconst (v := nI 1) hx hb d_Model_unknown_18 rfl ?_
  have hFc := va_free (wc := [(m0, .inr (3, [.int (nI 0), .int (nI M.n), .int M.sv, .ref ma, .ref mS, .ref mt, .ref mo, .ref mb, .ref mg, .ref mh, .ref mr]))]) hD hS hA [0] rfl
  refine va_calli (va_runV (As := [.int (nI 0), .int (nI 1)]) (rest := []) ⟨hx, hb, hml, hown, hts⟩ (c_Model_fails l dC dI H.size m0 ma mS mt mo mb mg mh mr (nI 0) M.n M.sv (nI 0) (nI 1)) (cwV 2 hts (gw_V k_ml_Model_40 k_im_Model_fails k_sel_Model_fails k_ini_Model k_code_Model_fails) rfl rfl rfl (by decide +kernel) ⟨Nat.le_of_ble_eq_true rfl, Nat.le_of_ble_eq_true rfl⟩) ⟨xc_W_blind, va_recv hK hP (ci := 3) (q0 := 0) rfl rfl, fun U hU hW => ⟨rfl, by rw [hU], by rw [hU]; exact hP.sub (ws' := [(m0, .inr (3, [.int (nI 0), .int (nI M.n), .int M.sv, .ref ma, .ref mS, .ref mt, .ref mo, .ref mb, .ref mg, .ref mh, .ref mr]))]) [0] rfl, va_K.moved hW.alike (hK.sub (tys' := []) [] rfl), (hD.sub (ws' := [(m0, .inr (3, [.int (nI 0), .int (nI M.n), .int M.sv, .ref ma, .ref mS, .ref mt, .ref mo, .ref mb, .ref mg, .ref mh, .ref mr]))]) [0] (by decide) rfl).weaken (fun _ _ _ _ => trivial)⟩⟩ rfl rfl hl.1 rfl (lv_room (Nat.le_of_ble_eq_true rfl)) d_Model_unknown_19 ⟨Nat.zero_le _, Nat.zero_le _⟩) hS (fun q _ h => hFc q h) hFc (fun rf u t_ H locs ht_ hvm_ wf hB hz1 hk1 hS => ?_)
  obtain ⟨e1_, e_e1_⟩ : ∃ z, z = u := ⟨u, rfl⟩
  rw [← e_e1_] at wf hB
  rw [ht_] at hB
  obtain ⟨hP, hD⟩ := xj_1 0 hP hD rfl hk1 hB
  have hP : va_P (dC, dI) classes (mw m0 ma mS mt mo mb mg mh mr cA cJ e1_ M.n M.sv M.a M.S M.ft M.fo M.fb M.fg M.fh M.fr) H := hP
  have hD : va_D A (mw m0 ma mS mt mo mb mg mh mr cA cJ e1_ M.n M.sv M.a M.S M.ft M.fo M.fb M.fg M.fh M.fr) := hD
  rw [if_pos (show (nI 0 : Int32) = 0 by decide)] at wf
  obtain ⟨wf1, wf2⟩ := wf
  subst wf1
  rw [if_pos (show (nI 0 : Int32) = 0 by decide)] at wf2
  subst wf2
  have hP : va_P (dC, dI) classes (mw m0 ma mS mt mo mb mg mh mr cA cJ (nI 0) M.n M.sv M.a M.S M.ft M.fo M.fb M.fg M.fh M.fr) H := hP
  have hD : va_D A (mw m0 ma mS mt mo mb mg mh mr cA cJ (nI 0) M.n M.sv M.a M.S M.ft M.fo M.fb M.fg M.fh M.fr) := hD
  refine lv_if_ne (tgt := 50) hx hb d_Model_unknown_22 (by decide) (fun h9_ => absurd h9_ (by decide)) (fun _ => ?_)
  have hs1 : M.sv = 1 := by
    rcases g2 with e | e
    · exact absurd e hs
    · exact e
  refine lv_aload_n hx hb d_Model_unknown_25 rfl (lv_at hl 0 rfl) ?_
  refine lv_iload_n hx hb d_Model_unknown_26 rfl (lv_at hl 1 rfl) ?_
  refine lv_if_lt (tgt := 38) hx hb d_Model_unknown_27 (by decide) (fun h1 => ?_) (fun h1 => ?_)
  · refine lv_iconst (v := nI 1) hx hb d_Model_unknown_38 rfl ?_
    refine lv_goto (tgt := 43) hx hb d_Model_unknown_39 (by decide) ?_
    refine lv_iconst (v := nI 2) hx hb d_Model_unknown_43 rfl ?_
    have hFc := va_free (wc := [(m0, .inr (3, [.int (nI 0), .int (nI M.n), .int M.sv, .ref ma, .ref mS, .ref mt, .ref mo, .ref mb, .ref mg, .ref mh, .ref mr]))]) hD hS hA [0] rfl
    refine va_calli (va_runV (As := [.int (nI 1), .int (nI 2)]) (rest := []) ⟨hx, hb, hml, hown, hts⟩ (c_Model_fails l dC dI H.size m0 ma mS mt mo mb mg mh mr (nI 0) M.n M.sv (nI 1) (nI 2)) (cwV 2 hts (gw_V k_ml_Model_40 k_im_Model_fails k_sel_Model_fails k_ini_Model k_code_Model_fails) rfl rfl rfl (by decide +kernel) ⟨Nat.le_of_ble_eq_true rfl, Nat.le_of_ble_eq_true rfl⟩) ⟨xc_W_blind, va_recv hK hP (ci := 3) (q0 := 0) rfl rfl, fun U hU hW => ⟨rfl, by rw [hU], by rw [hU]; exact hP.sub (ws' := [(m0, .inr (3, [.int (nI 0), .int (nI M.n), .int M.sv, .ref ma, .ref mS, .ref mt, .ref mo, .ref mb, .ref mg, .ref mh, .ref mr]))]) [0] rfl, va_K.moved hW.alike (hK.sub (tys' := []) [] rfl), (hD.sub (ws' := [(m0, .inr (3, [.int (nI 0), .int (nI M.n), .int M.sv, .ref ma, .ref mS, .ref mt, .ref mo, .ref mb, .ref mg, .ref mh, .ref mr]))]) [0] (by decide) rfl).weaken (fun _ _ _ _ => trivial)⟩⟩ rfl rfl hl.1 rfl (lv_room (Nat.le_of_ble_eq_true rfl)) d_Model_unknown_44 ⟨Nat.zero_le _, Nat.zero_le _⟩) hS (fun q _ h => hFc q h) hFc (fun rf u t_ H locs ht_ hvm_ wf hB hz1 hk1 hS => ?_)
    obtain ⟨e1_, e_e1_⟩ : ∃ z, z = u := ⟨u, rfl⟩
    rw [← e_e1_] at wf hB
    rw [ht_] at hB
    obtain ⟨hP, hD⟩ := xj_1 0 hP hD rfl hk1 hB
    have hP : va_P (dC, dI) classes (mw m0 ma mS mt mo mb mg mh mr cA cJ e1_ M.n M.sv M.a M.S M.ft M.fo M.fb M.fg M.fh M.fr) H := hP
    have hD : va_D A (mw m0 ma mS mt mo mb mg mh mr cA cJ e1_ M.n M.sv M.a M.S M.ft M.fo M.fb M.fg M.fh M.fr) := hD
    rw [if_neg (show ¬ (nI 1 : Int32) = 0 by decide), if_pos (show (nI 0 : Int32) = 0 by decide)] at wf
    obtain ⟨wf1, wf2⟩ := wf
    subst wf1
    rw [if_neg (show ¬ (nI 2 : Int32) = 0 by decide)] at wf2
    subst wf2
    have hP : va_P (dC, dI) classes (mw m0 ma mS mt mo mb mg mh mr cA cJ (nI 2) M.n M.sv M.a M.S M.ft M.fo M.fb M.fg M.fh M.fr) H := hP
    have hD : va_D A (mw m0 ma mS mt mo mb mg mh mr cA cJ (nI 2) M.n M.sv M.a M.S M.ft M.fo M.fb M.fg M.fh M.fr) := hD
    refine lv_if_eq (tgt := 52) hx hb d_Model_unknown_47 (by decide) (fun h9_ => absurd h9_ (by decide)) (fun _ => ?_)
    refine lv_iconst (v := nI 0) hx hb d_Model_unknown_50 rfl ?_
    have hpost : mG (⟨nI 2, M.n, M.sv, M.a, M.S, M.ft, M.fo, M.fb, M.fg, M.fh, M.fr⟩ : mT) ∧ ((M.sv = 0 ∧ (nI 2 : Int32) = 1 ∧ M.fo = M.fo ∧ M.fb = M.fb) ∨ (M.sv = 1 ∧ ¬ (0 ≤ (k).toInt ∧ (k).toInt < M.n) ∧ (nI 2 : Int32) = 2 ∧ M.fo = M.fo ∧ M.fb = M.fb) ∨ (∃ k2 : Nat, k = nI k2 ∧ k2 < M.n ∧ M.sv = 1 ∧ (nI 2 : Int32) = 0 ∧ (nI 0 : Int32).toInt = (dt_y (dA M.a) k2 (M.n - 1 - k2) M.n).sign * (dt_d (dA M.a) M.n).sign ∧ dg_v M.fo 56 = (dt_y (dA M.a) k2 (M.n - 1 - k2) M.n).natAbs / (Nat.gcd (dt_y (dA M.a) k2 (M.n - 1 - k2) M.n).natAbs (dt_d (dA M.a) M.n).natAbs) ∧ dg_v M.fb 56 = (dt_d (dA M.a) M.n).natAbs / (Nat.gcd (dt_y (dA M.a) k2 (M.n - 1 - k2) M.n).natAbs (dt_d (dA M.a) M.n).natAbs))) ∧ M.n = M.n ∧ M.sv = M.sv ∧ M.a = M.a := ⟨⟨g1, g2, g3, g4, g5, g6, g7, g8, g9, g10⟩, Or.inr (Or.inl ⟨hs1, fun z => by rw [Int32.lt_iff_toInt_lt] at h1; omega, rfl, rfl, rfl⟩), rfl, rfl, rfl⟩
    exact W.iret (v := nI 0) hx hb hr (fun T_ ht_ hW_ => ⟨⟨_, (⟨nI 2, M.n, M.sv, M.a, M.S, M.ft, M.fo, M.fb, M.fg, M.fh, M.fr⟩ : mT), rfl, hpost, by show va_P (dC, dI) classes _ T_.heap; rw [ht_]; exact hP, hD⟩, hS.F ht_⟩) hS.2.2 d_Model_unknown_51
  refine lv_iload_n hx hb d_Model_unknown_30 rfl (lv_at hl 1 rfl) ?_
  refine lv_aload_n hx hb d_Model_unknown_31 rfl (lv_at hl 0 rfl) ?_
  refine va_get (D := (dC, dI)) (ci := 3) (v := .int (nI M.n)) (C := R_Model) (T := F_Model) (N := 11) hx hb hts i_Model hown hK hP 0 rfl rfl 1 (by decide) (hts _ k_fl_Model_44) (fun _ h9 => h9) rfl d_Model_unknown_32 ?_
  refine lv_icmp_lt (tgt := 42) hx hb d_Model_unknown_35 (by decide) (fun h2 => ?_) (fun h2 => ?_)
  rotate_left
  · refine lv_iconst (v := nI 1) hx hb d_Model_unknown_38 rfl ?_
    refine lv_goto (tgt := 43) hx hb d_Model_unknown_39 (by decide) ?_
    refine lv_iconst (v := nI 2) hx hb d_Model_unknown_43 rfl ?_
    have hFc := va_free (wc := [(m0, .inr (3, [.int (nI 0), .int (nI M.n), .int M.sv, .ref ma, .ref mS, .ref mt, .ref mo, .ref mb, .ref mg, .ref mh, .ref mr]))]) hD hS hA [0] rfl
    refine va_calli (va_runV (As := [.int (nI 1), .int (nI 2)]) (rest := []) ⟨hx, hb, hml, hown, hts⟩ (c_Model_fails l dC dI H.size m0 ma mS mt mo mb mg mh mr (nI 0) M.n M.sv (nI 1) (nI 2)) (cwV 2 hts (gw_V k_ml_Model_40 k_im_Model_fails k_sel_Model_fails k_ini_Model k_code_Model_fails) rfl rfl rfl (by decide +kernel) ⟨Nat.le_of_ble_eq_true rfl, Nat.le_of_ble_eq_true rfl⟩) ⟨xc_W_blind, va_recv hK hP (ci := 3) (q0 := 0) rfl rfl, fun U hU hW => ⟨rfl, by rw [hU], by rw [hU]; exact hP.sub (ws' := [(m0, .inr (3, [.int (nI 0), .int (nI M.n), .int M.sv, .ref ma, .ref mS, .ref mt, .ref mo, .ref mb, .ref mg, .ref mh, .ref mr]))]) [0] rfl, va_K.moved hW.alike (hK.sub (tys' := []) [] rfl), (hD.sub (ws' := [(m0, .inr (3, [.int (nI 0), .int (nI M.n), .int M.sv, .ref ma, .ref mS, .ref mt, .ref mo, .ref mb, .ref mg, .ref mh, .ref mr]))]) [0] (by decide) rfl).weaken (fun _ _ _ _ => trivial)⟩⟩ rfl rfl hl.1 rfl (lv_room (Nat.le_of_ble_eq_true rfl)) d_Model_unknown_44 ⟨Nat.zero_le _, Nat.zero_le _⟩) hS (fun q _ h => hFc q h) hFc (fun rf u t_ H locs ht_ hvm_ wf hB hz1 hk1 hS => ?_)
    obtain ⟨e1_, e_e1_⟩ : ∃ z, z = u := ⟨u, rfl⟩
    rw [← e_e1_] at wf hB
    rw [ht_] at hB
    obtain ⟨hP, hD⟩ := xj_1 0 hP hD rfl hk1 hB
    have hP : va_P (dC, dI) classes (mw m0 ma mS mt mo mb mg mh mr cA cJ e1_ M.n M.sv M.a M.S M.ft M.fo M.fb M.fg M.fh M.fr) H := hP
    have hD : va_D A (mw m0 ma mS mt mo mb mg mh mr cA cJ e1_ M.n M.sv M.a M.S M.ft M.fo M.fb M.fg M.fh M.fr) := hD
    rw [if_neg (show ¬ (nI 1 : Int32) = 0 by decide), if_pos (show (nI 0 : Int32) = 0 by decide)] at wf
    obtain ⟨wf1, wf2⟩ := wf
    subst wf1
    rw [if_neg (show ¬ (nI 2 : Int32) = 0 by decide)] at wf2
    subst wf2
    have hP : va_P (dC, dI) classes (mw m0 ma mS mt mo mb mg mh mr cA cJ (nI 2) M.n M.sv M.a M.S M.ft M.fo M.fb M.fg M.fh M.fr) H := hP
    have hD : va_D A (mw m0 ma mS mt mo mb mg mh mr cA cJ (nI 2) M.n M.sv M.a M.S M.ft M.fo M.fb M.fg M.fh M.fr) := hD
    refine lv_if_eq (tgt := 52) hx hb d_Model_unknown_47 (by decide) (fun h9_ => absurd h9_ (by decide)) (fun _ => ?_)
    refine lv_iconst (v := nI 0) hx hb d_Model_unknown_50 rfl ?_
    have hpost : mG (⟨nI 2, M.n, M.sv, M.a, M.S, M.ft, M.fo, M.fb, M.fg, M.fh, M.fr⟩ : mT) ∧ ((M.sv = 0 ∧ (nI 2 : Int32) = 1 ∧ M.fo = M.fo ∧ M.fb = M.fb) ∨ (M.sv = 1 ∧ ¬ (0 ≤ (k).toInt ∧ (k).toInt < M.n) ∧ (nI 2 : Int32) = 2 ∧ M.fo = M.fo ∧ M.fb = M.fb) ∨ (∃ k2 : Nat, k = nI k2 ∧ k2 < M.n ∧ M.sv = 1 ∧ (nI 2 : Int32) = 0 ∧ (nI 0 : Int32).toInt = (dt_y (dA M.a) k2 (M.n - 1 - k2) M.n).sign * (dt_d (dA M.a) M.n).sign ∧ dg_v M.fo 56 = (dt_y (dA M.a) k2 (M.n - 1 - k2) M.n).natAbs / (Nat.gcd (dt_y (dA M.a) k2 (M.n - 1 - k2) M.n).natAbs (dt_d (dA M.a) M.n).natAbs) ∧ dg_v M.fb 56 = (dt_d (dA M.a) M.n).natAbs / (Nat.gcd (dt_y (dA M.a) k2 (M.n - 1 - k2) M.n).natAbs (dt_d (dA M.a) M.n).natAbs))) ∧ M.n = M.n ∧ M.sv = M.sv ∧ M.a = M.a := ⟨⟨g1, g2, g3, g4, g5, g6, g7, g8, g9, g10⟩, Or.inr (Or.inl ⟨hs1, fun z => by rw [Int32.lt_iff_toInt_lt] at h2; omega, rfl, rfl, rfl⟩), rfl, rfl, rfl⟩
    exact W.iret (v := nI 0) hx hb hr (fun T_ ht_ hW_ => ⟨⟨_, (⟨nI 2, M.n, M.sv, M.a, M.S, M.ft, M.fo, M.fb, M.fg, M.fh, M.fr⟩ : mT), rfl, hpost, by show va_P (dC, dI) classes _ T_.heap; rw [ht_]; exact hP, hD⟩, hS.F ht_⟩) hS.2.2 d_Model_unknown_51
  refine lv_iconst (v := nI 0) hx hb d_Model_unknown_42 rfl ?_
  refine lv_iconst (v := nI 2) hx hb d_Model_unknown_43 rfl ?_
  have hFc := va_free (wc := [(m0, .inr (3, [.int (nI 0), .int (nI M.n), .int M.sv, .ref ma, .ref mS, .ref mt, .ref mo, .ref mb, .ref mg, .ref mh, .ref mr]))]) hD hS hA [0] rfl
  refine va_calli (va_runV (As := [.int (nI 0), .int (nI 2)]) (rest := []) ⟨hx, hb, hml, hown, hts⟩ (c_Model_fails l dC dI H.size m0 ma mS mt mo mb mg mh mr (nI 0) M.n M.sv (nI 0) (nI 2)) (cwV 2 hts (gw_V k_ml_Model_40 k_im_Model_fails k_sel_Model_fails k_ini_Model k_code_Model_fails) rfl rfl rfl (by decide +kernel) ⟨Nat.le_of_ble_eq_true rfl, Nat.le_of_ble_eq_true rfl⟩) ⟨xc_W_blind, va_recv hK hP (ci := 3) (q0 := 0) rfl rfl, fun U hU hW => ⟨rfl, by rw [hU], by rw [hU]; exact hP.sub (ws' := [(m0, .inr (3, [.int (nI 0), .int (nI M.n), .int M.sv, .ref ma, .ref mS, .ref mt, .ref mo, .ref mb, .ref mg, .ref mh, .ref mr]))]) [0] rfl, va_K.moved hW.alike (hK.sub (tys' := []) [] rfl), (hD.sub (ws' := [(m0, .inr (3, [.int (nI 0), .int (nI M.n), .int M.sv, .ref ma, .ref mS, .ref mt, .ref mo, .ref mb, .ref mg, .ref mh, .ref mr]))]) [0] (by decide) rfl).weaken (fun _ _ _ _ => trivial)⟩⟩ rfl rfl hl.1 rfl (lv_room (Nat.le_of_ble_eq_true rfl)) d_Model_unknown_44 ⟨Nat.zero_le _, Nat.zero_le _⟩) hS (fun q _ h => hFc q h) hFc (fun rf u t_ H locs ht_ hvm_ wf hB hz1 hk1 hS => ?_)
  obtain ⟨e1_, e_e1_⟩ : ∃ z, z = u := ⟨u, rfl⟩
  rw [← e_e1_] at wf hB
  rw [ht_] at hB
  obtain ⟨hP, hD⟩ := xj_1 0 hP hD rfl hk1 hB
  have hP : va_P (dC, dI) classes (mw m0 ma mS mt mo mb mg mh mr cA cJ e1_ M.n M.sv M.a M.S M.ft M.fo M.fb M.fg M.fh M.fr) H := hP
  have hD : va_D A (mw m0 ma mS mt mo mb mg mh mr cA cJ e1_ M.n M.sv M.a M.S M.ft M.fo M.fb M.fg M.fh M.fr) := hD
  rw [if_pos (show (nI 0 : Int32) = 0 by decide)] at wf
  obtain ⟨wf1, wf2⟩ := wf
  subst wf1
  rw [if_pos (show (nI 0 : Int32) = 0 by decide)] at wf2
  subst wf2
  have hP : va_P (dC, dI) classes (mw m0 ma mS mt mo mb mg mh mr cA cJ (nI 0) M.n M.sv M.a M.S M.ft M.fo M.fb M.fg M.fh M.fr) H := hP
  have hD : va_D A (mw m0 ma mS mt mo mb mg mh mr cA cJ (nI 0) M.n M.sv M.a M.S M.ft M.fo M.fb M.fg M.fh M.fr) := hD
  refine lv_if_eq (tgt := 52) hx hb d_Model_unknown_47 (by decide) (fun _ => ?_) (fun h9_ => absurd h9_ (by decide))
  obtain ⟨kn, hkn, ek⟩ := nI_of h1
  subst ek
  have t1 := nI_toInt hkn
  have hk2 : kn < M.n := by rw [Int32.lt_iff_toInt_lt] at h2; omega
  have hs1 : M.sv = 1 := by
    rcases g2 with e | e
    · exact absurd e hs
    · exact e
  obtain ⟨d1, d2⟩ := g10 hs1
  obtain ⟨f1, f2⟩ := dE_full (dA M.a) g1
  have hXd := d2 (2 ^ M.n - 1) (by omega) (by omega)
  rw [f1] at hXd
  have hbd : (dt_d (dA M.a) M.n).natAbs < 2 ^ 785 := by rw [← f1]; exact bt_bd (fun i j => dA_bd M.a i j) (by omega)
  obtain ⟨u1, u2⟩ := dE_k (dA M.a) g1 hk2
  have hpk : 2 ^ kn < 2 ^ (M.n + 1) := Nat.pow_lt_pow_right (by decide) (by omega)
  have hpz := Nat.two_pow_pos kn
  have hXk := d2 (2 ^ (M.n + 1) - 1 - 2 ^ kn) (by omega) (by omega)
  rw [u1] at hXk
  have hbk : (dt_sg (M.n - 1 - kn) * dt_y (dA M.a) kn (M.n - 1 - kn) M.n).natAbs < 2 ^ 785 := by rw [← u1]; exact bt_bd (fun i j => dA_bd M.a i j) (by omega)
  refine lv_aload_n hx hb d_Model_unknown_52 rfl (lv_at hl 0 rfl) ?_
  refine lv_aload_n hx hb d_Model_unknown_53 rfl (lv_at hl 0 rfl) ?_
  refine lv_iload_n hx hb d_Model_unknown_54 rfl (lv_at hl 1 rfl) ?_
  refine vp_callSi (W.runV (As := [.int (nI kn)]) (rest := [.ref m0]) ⟨hx, hb, hml, hown, hts⟩ (c_Model_place l dC dI m0 ma mS mt mo mb mg mh mr (nI 0) M.n M.sv (nI kn) g1 (Or.inr ⟨kn, rfl, (Nat.le_of_lt hk2)⟩)) (cwV 1 hts (gw_V k_ml_Model_72 k_im_Model_place k_sel_Model_place k_ini_Model k_code_Model_place) rfl rfl rfl (by decide +kernel) ⟨Nat.le_of_ble_eq_true rfl, Nat.le_of_ble_eq_true rfl⟩) ⟨xc_R_blind, va_recv hK hP (ci := 3) (q0 := 0) rfl rfl, fun U hU hW => ⟨rfl, by rw [hU]; exact hP.sub (ws' := [(m0, .inr (3, [.int (nI 0), .int (nI M.n), .int M.sv, .ref ma, .ref mS, .ref mt, .ref mo, .ref mb, .ref mg, .ref mh, .ref mr]))]) [0] rfl, va_K.moved hW.alike (hK.sub (tys' := []) [] rfl)⟩⟩ rfl rfl hl.1 rfl (lv_room (Nat.le_of_ble_eq_true rfl)) d_Model_unknown_55 ⟨Nat.zero_le _, Nat.zero_le _⟩) (fun rp e_p => ?_)
  have e_p := e_p.2 kn rfl (Nat.le_of_lt hk2)
  subst e_p
  refine lv_aload_n hx hb d_Model_unknown_58 rfl (lv_at hl 0 rfl) ?_
  refine va_get (D := (dC, dI)) (ci := 3) (v := .ref mo) (C := R_Model) (T := F_Model) (N := 11) hx hb hts i_Model hown hK hP 0 rfl rfl 6 (by decide) (hts _ k_fl_Model_21) (fun _ h9 => h9) rfl d_Model_unknown_59 ?_
  have hFc := va_free (wc := [(m0, .inr (3, [.int (nI 0), .int (nI M.n), .int M.sv, .ref ma, .ref mS, .ref mt, .ref mo, .ref mb, .ref mg, .ref mh, .ref mr])), (mS, .inl (cA, 458752, .inl (xn_f M.S))), (mo, .inl (cA, 56, .inl (xn_f M.fo)))]) hD hS hA [0, 2, 4] rfl
  refine va_callv (va_runV (As := [.int (nI (56 * (2 ^ (M.n + 1) - 1 - 2 ^ kn))), .ref mo]) (rest := []) ⟨hx, hb, hml, hown, hts⟩ (c_Model_take l dC dI H.size cA m0 ma mS mt mo mb mg mh mr (nI 0) M.n M.sv M.S (56 * (2 ^ (M.n + 1) - 1 - 2 ^ kn)) mo M.fo g3 (by omega) g5) (cwV 2 hts (gw_V k_ml_Model_101 k_im_Model_take k_sel_Model_take k_ini_Model k_code_Model_take) rfl rfl rfl (by decide +kernel) ⟨Nat.le_of_ble_eq_true rfl, Nat.le_of_ble_eq_true rfl⟩) ⟨xc_W_blind, va_recv hK hP (ci := 3) (q0 := 0) rfl rfl, fun U hU hW => ⟨rfl, by rw [hU], by rw [hU]; exact hP.sub (ws' := [(m0, .inr (3, [.int (nI 0), .int (nI M.n), .int M.sv, .ref ma, .ref mS, .ref mt, .ref mo, .ref mb, .ref mg, .ref mh, .ref mr])), (mS, .inl (cA, 458752, .inl (xn_f M.S))), (mo, .inl (cA, 56, .inl (xn_f M.fo)))]) [0, 2, 4] rfl, va_K.moved hW.alike (hK.sub (tys' := [(cA, .int)]) [0] rfl), (hD.sub (ws' := [(m0, .inr (3, [.int (nI 0), .int (nI M.n), .int M.sv, .ref ma, .ref mS, .ref mt, .ref mo, .ref mb, .ref mg, .ref mh, .ref mr])), (mS, .inl (cA, 458752, .inl (xn_f M.S))), (mo, .inl (cA, 56, .inl (xn_f M.fo)))]) [0, 2, 4] (by decide) rfl).weaken (fun _ _ _ _ => trivial)⟩⟩ rfl rfl hl.1 rfl (lv_room (Nat.le_of_ble_eq_true rfl)) d_Model_unknown_62 ⟨Nat.zero_le _, Nat.zero_le _⟩) hS (fun q _ h => hFc q h) hFc (fun u t_ H locs ht_ hvm_ w1 hB hz1 hk1 hS => ?_)
  obtain ⟨T1, e_T1⟩ : ∃ z, z = u := ⟨u, rfl⟩
  rw [← e_T1] at w1 hB
  rw [ht_] at hB
  obtain ⟨hP, hD⟩ := xj_3 0 2 4 hP hD rfl rfl rfl hk1 hB
  have hP : va_P (dC, dI) classes (mw m0 ma mS mt mo mb mg mh mr cA cJ (nI 0) M.n M.sv M.a M.S M.ft T1 M.fb M.fg M.fh M.fr) H := hP
  have hD : va_D A (mw m0 ma mS mt mo mb mg mh mr cA cJ (nI 0) M.n M.sv M.a M.S M.ft T1 M.fb M.fg M.fh M.fr) := hD
  refine lv_aload_n hx hb d_Model_unknown_65 rfl (lv_at hl 0 rfl) ?_
  refine lv_aload_n hx hb d_Model_unknown_66 rfl (lv_at hl 0 rfl) ?_
  refine lv_iconst (v := -1) hx hb d_Model_unknown_67 (by decide) ?_
  refine vp_callSi (W.runV (As := [.int ((-1))]) (rest := [.ref m0]) ⟨hx, hb, hml, hown, hts⟩ (c_Model_place l dC dI m0 ma mS mt mo mb mg mh mr (nI 0) M.n M.sv (-1) g1 (Or.inl rfl)) (cwV 1 hts (gw_V k_ml_Model_72 k_im_Model_place k_sel_Model_place k_ini_Model k_code_Model_place) rfl rfl rfl (by decide +kernel) ⟨Nat.le_of_ble_eq_true rfl, Nat.le_of_ble_eq_true rfl⟩) ⟨xc_R_blind, va_recv hK hP (ci := 3) (q0 := 0) rfl rfl, fun U hU hW => ⟨rfl, by rw [hU]; exact hP.sub (ws' := [(m0, .inr (3, [.int (nI 0), .int (nI M.n), .int M.sv, .ref ma, .ref mS, .ref mt, .ref mo, .ref mb, .ref mg, .ref mh, .ref mr]))]) [0] rfl, va_K.moved hW.alike (hK.sub (tys' := []) [] rfl)⟩⟩ rfl rfl hl.1 rfl (lv_room (Nat.le_of_ble_eq_true rfl)) d_Model_unknown_68 ⟨Nat.zero_le _, Nat.zero_le _⟩) (fun rp e_p => ?_)
  have e_p := e_p.1 rfl
  subst e_p
  refine lv_aload_n hx hb d_Model_unknown_71 rfl (lv_at hl 0 rfl) ?_
  refine va_get (D := (dC, dI)) (ci := 3) (v := .ref mb) (C := R_Model) (T := F_Model) (N := 11) hx hb hts i_Model hown hK hP 0 rfl rfl 7 (by decide) (hts _ k_fl_Model_24) (fun _ h9 => h9) rfl d_Model_unknown_72 ?_
  have hFc := va_free (wc := [(m0, .inr (3, [.int (nI 0), .int (nI M.n), .int M.sv, .ref ma, .ref mS, .ref mt, .ref mo, .ref mb, .ref mg, .ref mh, .ref mr])), (mS, .inl (cA, 458752, .inl (xn_f M.S))), (mb, .inl (cA, 56, .inl (xn_f M.fb)))]) hD hS hA [0, 2, 5] rfl
  refine va_callv (va_runV (As := [.int (nI (56 * (2 ^ M.n - 1))), .ref mb]) (rest := []) ⟨hx, hb, hml, hown, hts⟩ (c_Model_take l dC dI H.size cA m0 ma mS mt mo mb mg mh mr (nI 0) M.n M.sv M.S (56 * (2 ^ M.n - 1)) mb M.fb g3 (by omega) g6) (cwV 2 hts (gw_V k_ml_Model_101 k_im_Model_take k_sel_Model_take k_ini_Model k_code_Model_take) rfl rfl rfl (by decide +kernel) ⟨Nat.le_of_ble_eq_true rfl, Nat.le_of_ble_eq_true rfl⟩) ⟨xc_W_blind, va_recv hK hP (ci := 3) (q0 := 0) rfl rfl, fun U hU hW => ⟨rfl, by rw [hU], by rw [hU]; exact hP.sub (ws' := [(m0, .inr (3, [.int (nI 0), .int (nI M.n), .int M.sv, .ref ma, .ref mS, .ref mt, .ref mo, .ref mb, .ref mg, .ref mh, .ref mr])), (mS, .inl (cA, 458752, .inl (xn_f M.S))), (mb, .inl (cA, 56, .inl (xn_f M.fb)))]) [0, 2, 5] rfl, va_K.moved hW.alike (hK.sub (tys' := [(cA, .int)]) [0] rfl), (hD.sub (ws' := [(m0, .inr (3, [.int (nI 0), .int (nI M.n), .int M.sv, .ref ma, .ref mS, .ref mt, .ref mo, .ref mb, .ref mg, .ref mh, .ref mr])), (mS, .inl (cA, 458752, .inl (xn_f M.S))), (mb, .inl (cA, 56, .inl (xn_f M.fb)))]) [0, 2, 5] (by decide) rfl).weaken (fun _ _ _ _ => trivial)⟩⟩ rfl rfl hl.1 rfl (lv_room (Nat.le_of_ble_eq_true rfl)) d_Model_unknown_75 ⟨Nat.zero_le _, Nat.zero_le _⟩) hS (fun q _ h => hFc q h) hFc (fun u t_ H locs ht_ hvm_ w2 hB hz1 hk1 hS => ?_)
  obtain ⟨B1, e_B1⟩ : ∃ z, z = u := ⟨u, rfl⟩
  rw [← e_B1] at w2 hB
  rw [ht_] at hB
  obtain ⟨hP, hD⟩ := xj_3 0 2 5 hP hD rfl rfl rfl hk1 hB
  have hP : va_P (dC, dI) classes (mw m0 ma mS mt mo mb mg mh mr cA cJ (nI 0) M.n M.sv M.a M.S M.ft T1 B1 M.fg M.fh M.fr) H := hP
  have hD : va_D A (mw m0 ma mS mt mo mb mg mh mr cA cJ (nI 0) M.n M.sv M.a M.S M.ft T1 B1 M.fg M.fh M.fr) := hD
  rw [hXk] at w1
  rw [hXd] at w2
  have last : ∀ (T2 B2 : Nat → Nat), (∀ i, T2 i < 65536) → (∀ i, B2 i < 65536) → (dg_v T2 56 = (dt_sg (M.n - 1 - kn) * dt_y (dA M.a) kn (M.n - 1 - kn) M.n).natAbs) → (dg_v B2 56 = (dt_d (dA M.a) M.n).natAbs) → ∀ (H : Heap) (locs : List Loc), va_P (dC, dI) classes (mw m0 ma mS mt mo mb mg mh mr cA cJ (nI 0) M.n M.sv M.a M.S M.ft T2 B2 M.fg M.fh M.fr) H → va_D A (mw m0 ma mS mt mo mb mg mh mr cA cJ (nI 0) M.n M.sv M.a M.S M.ft T2 B2 M.fg M.fh M.fr) → va_S A s.heap H locs → ∀ (ls : Array Slot), lv_has ls 2 [(0, .ref m0), (1, .int (nI kn))] → W p l e (headSpec w_Model_unknown ({ frames := 2, cells := 0, slots := 0, locals := 46 })).room s m ([.ref m0, .int (nI kn)] : List Value).toArray below meth c H locs 0 0 (MQ below (va_Qi (S := mT) (fun r u => mG u ∧ ((M.sv = 0 ∧ u.er = 1 ∧ u.fo = M.fo ∧ u.fb = M.fb) ∨ (M.sv = 1 ∧ ¬ (0 ≤ ((nI kn)).toInt ∧ ((nI kn)).toInt < M.n) ∧ u.er = 2 ∧ u.fo = M.fo ∧ u.fb = M.fb) ∨ (∃ k2 : Nat, (nI kn) = nI k2 ∧ k2 < M.n ∧ M.sv = 1 ∧ u.er = 0 ∧ r.toInt = (dt_y (dA M.a) k2 (M.n - 1 - k2) M.n).sign * (dt_d (dA M.a) M.n).sign ∧ dg_v u.fo 56 = (dt_y (dA M.a) k2 (M.n - 1 - k2) M.n).natAbs / (Nat.gcd (dt_y (dA M.a) k2 (M.n - 1 - k2) M.n).natAbs (dt_d (dA M.a) M.n).natAbs) ∧ dg_v u.fb 56 = (dt_d (dA M.a) M.n).natAbs / (Nat.gcd (dt_y (dA M.a) k2 (M.n - 1 - k2) M.n).natAbs (dt_d (dA M.a) M.n).natAbs))) ∧ u.n = M.n ∧ u.sv = M.sv ∧ u.a = M.a) (fun u t => va_P (dC, dI) classes (mw m0 ma mS mt mo mb mg mh mr cA cJ u.er u.n u.sv u.a u.S u.ft u.fo u.fb u.fg u.fh u.fr) t.heap ∧ va_D A (mw m0 ma mS mt mo mb mg mh mr cA cJ u.er u.n u.sv u.a u.S u.ft u.fo u.fb u.fg u.fh u.fr)) A) ([.ref m0, .int (nI kn)] : List Value).toArray s 0 0 A) (F0 m 116 ls []) := by
    intro T2 B2 hT2 hB2 vT vB H locs hP hD hS ls hl
    refine lv_aload_n hx hb d_Model_unknown_116 rfl (lv_at hl 0 rfl) ?_
    have hdn : (dt_d (dA M.a) M.n).natAbs ≠ 0 := Int.natAbs_ne_zero.mpr d1
    have hPc := hP
    have hDc := hD.weaken (B := fun _ => True) (fun _ _ _ _ => trivial)
    have hFc := xp_all hD hS hA
    refine va_callv (va_runV (As := []) (rest := []) ⟨hx, hb, hml, hown, hts⟩ (c_Model_common l dC dI H.size m0 ma mS mt mo mb mg mh mr cA cJ (nI 0) M.n M.sv M.a M.S M.ft T2 B2 M.fg M.fh M.fr hT2 hB2 g7 g8 (by rw [vB]; exact hdn)) (cwV 0 hts (gw_V k_ml_Model_105 k_im_Model_common k_sel_Model_common k_ini_Model k_code_Model_common) rfl rfl rfl (by decide +kernel) ⟨Nat.le_of_ble_eq_true rfl, Nat.le_of_ble_eq_true rfl⟩) ⟨xc_W_blind, va_recv hK hP (ci := 3) (q0 := 0) rfl rfl, fun U hU hW => ⟨rfl, by rw [hU], by rw [hU]; exact hPc, va_K.moved hW.alike (hK.sub (tys' := [(cA, .int), (cJ, .long)]) [0, 1] rfl), hDc⟩⟩ rfl rfl hl.1 rfl (lv_room (Nat.le_of_ble_eq_true rfl)) d_Model_unknown_117 ⟨Nat.zero_le _, Nat.zero_le _⟩) hS (fun q _ h => hFc q h) hFc (fun u t_ H locs ht_ hvm_ w3 hB hz1 hk1 hS => ?_)
    obtain ⟨G1, H1⟩ := u
    try dsimp only at w3
    obtain ⟨hP, hD1⟩ := hB
    rw [ht_] at hP
    have hP : va_P (dC, dI) classes (mw m0 ma mS mt mo mb mg mh mr cA cJ (nI 0) M.n M.sv M.a M.S M.ft T2 B2 G1 H1 M.fr) H := hP
    have hD : va_D A (mw m0 ma mS mt mo mb mg mh mr cA cJ (nI 0) M.n M.sv M.a M.S M.ft T2 B2 G1 H1 M.fr) := hD1.weaken (fun k q _ h => hFc q.1 h)
    obtain ⟨c1, c2, c3⟩ := w3
    rw [vT, vB] at c3
    have hgp : 0 < dg_v G1 56 := by rw [c3]; exact Nat.gcd_pos_of_pos_right _ (Nat.pos_of_ne_zero hdn)
    refine lv_aload_n hx hb d_Model_unknown_120 rfl (lv_at hl 0 rfl) ?_
    refine lv_aload_n hx hb d_Model_unknown_121 rfl (lv_at hl 0 rfl) ?_
    refine va_get (D := (dC, dI)) (ci := 3) (v := .ref mo) (C := R_Model) (T := F_Model) (N := 11) hx hb hts i_Model hown hK hP 0 rfl rfl 6 (by decide) (hts _ k_fl_Model_21) (fun _ h9 => h9) rfl d_Model_unknown_122 ?_
    have hFc := va_free (wc := [(m0, .inr (3, [.int (nI 0), .int (nI M.n), .int M.sv, .ref ma, .ref mS, .ref mt, .ref mo, .ref mb, .ref mg, .ref mh, .ref mr])), (mg, .inl (cA, 56, .inl (xn_f G1))), (mh, .inl (cA, 56, .inl (xn_f H1))), (mr, .inl (cA, 56, .inl (xn_f M.fr))), (mo, .inl (cA, 56, .inl (xn_f T2)))]) hD hS hA [0, 6, 7, 8, 4] rfl
    refine va_callv (va_runV (As := [.ref mo]) (rest := []) ⟨hx, hb, hml, hown, hts⟩ (c_Model_divide l dC dI H.size cA m0 ma mS mt mo mb mg mh mr (nI 0) M.n M.sv mo G1 H1 M.fr T2 c1 c2 g9 hT2 hgp) (cwV 1 hts (gw_V k_ml_Model_108 k_im_Model_divide k_sel_Model_divide k_ini_Model k_code_Model_divide) rfl rfl rfl (by decide +kernel) ⟨Nat.le_of_ble_eq_true rfl, Nat.le_of_ble_eq_true rfl⟩) ⟨xc_W_blind, va_recv hK hP (ci := 3) (q0 := 0) rfl rfl, fun U hU hW => ⟨rfl, by rw [hU], by rw [hU]; exact hP.sub (ws' := [(m0, .inr (3, [.int (nI 0), .int (nI M.n), .int M.sv, .ref ma, .ref mS, .ref mt, .ref mo, .ref mb, .ref mg, .ref mh, .ref mr])), (mg, .inl (cA, 56, .inl (xn_f G1))), (mh, .inl (cA, 56, .inl (xn_f H1))), (mr, .inl (cA, 56, .inl (xn_f M.fr))), (mo, .inl (cA, 56, .inl (xn_f T2)))]) [0, 6, 7, 8, 4] rfl, va_K.moved hW.alike (hK.sub (tys' := [(cA, .int)]) [0] rfl), (hD.sub (ws' := [(m0, .inr (3, [.int (nI 0), .int (nI M.n), .int M.sv, .ref ma, .ref mS, .ref mt, .ref mo, .ref mb, .ref mg, .ref mh, .ref mr])), (mg, .inl (cA, 56, .inl (xn_f G1))), (mh, .inl (cA, 56, .inl (xn_f H1))), (mr, .inl (cA, 56, .inl (xn_f M.fr))), (mo, .inl (cA, 56, .inl (xn_f T2)))]) [0, 6, 7, 8, 4] (by decide) rfl).weaken (fun _ _ _ _ => trivial)⟩⟩ rfl rfl hl.1 rfl (lv_room (Nat.le_of_ble_eq_true rfl)) d_Model_unknown_125 ⟨Nat.zero_le _, Nat.zero_le _⟩) hS (fun q _ h => hFc q h) hFc (fun u t_ H locs ht_ hvm_ w4 hB hz1 hk1 hS => ?_)
    obtain ⟨T3, H2, R2⟩ := u
    rw [ht_] at hB
    obtain ⟨hP, hD⟩ := xj_5 0 6 7 8 4 hP hD rfl rfl rfl rfl rfl hk1 hB
    have hP : va_P (dC, dI) classes (mw m0 ma mS mt mo mb mg mh mr cA cJ (nI 0) M.n M.sv M.a M.S M.ft T3 B2 G1 H2 R2) H := hP
    have hD : va_D A (mw m0 ma mS mt mo mb mg mh mr cA cJ (nI 0) M.n M.sv M.a M.S M.ft T3 B2 G1 H2 R2) := hD
    try dsimp only at w4
    obtain ⟨x1, x2, x3, x4⟩ := w4
    rw [vT, c3] at x4
    refine lv_aload_n hx hb d_Model_unknown_128 rfl (lv_at hl 0 rfl) ?_
    refine lv_aload_n hx hb d_Model_unknown_129 rfl (lv_at hl 0 rfl) ?_
    refine va_get (D := (dC, dI)) (ci := 3) (v := .ref mb) (C := R_Model) (T := F_Model) (N := 11) hx hb hts i_Model hown hK hP 0 rfl rfl 7 (by decide) (hts _ k_fl_Model_24) (fun _ h9 => h9) rfl d_Model_unknown_130 ?_
    have hFc := va_free (wc := [(m0, .inr (3, [.int (nI 0), .int (nI M.n), .int M.sv, .ref ma, .ref mS, .ref mt, .ref mo, .ref mb, .ref mg, .ref mh, .ref mr])), (mg, .inl (cA, 56, .inl (xn_f G1))), (mh, .inl (cA, 56, .inl (xn_f H2))), (mr, .inl (cA, 56, .inl (xn_f R2))), (mb, .inl (cA, 56, .inl (xn_f B2)))]) hD hS hA [0, 6, 7, 8, 5] rfl
    refine va_callv (va_runV (As := [.ref mb]) (rest := []) ⟨hx, hb, hml, hown, hts⟩ (c_Model_divide l dC dI H.size cA m0 ma mS mt mo mb mg mh mr (nI 0) M.n M.sv mb G1 H2 R2 B2 c1 x2 x3 hB2 hgp) (cwV 1 hts (gw_V k_ml_Model_108 k_im_Model_divide k_sel_Model_divide k_ini_Model k_code_Model_divide) rfl rfl rfl (by decide +kernel) ⟨Nat.le_of_ble_eq_true rfl, Nat.le_of_ble_eq_true rfl⟩) ⟨xc_W_blind, va_recv hK hP (ci := 3) (q0 := 0) rfl rfl, fun U hU hW => ⟨rfl, by rw [hU], by rw [hU]; exact hP.sub (ws' := [(m0, .inr (3, [.int (nI 0), .int (nI M.n), .int M.sv, .ref ma, .ref mS, .ref mt, .ref mo, .ref mb, .ref mg, .ref mh, .ref mr])), (mg, .inl (cA, 56, .inl (xn_f G1))), (mh, .inl (cA, 56, .inl (xn_f H2))), (mr, .inl (cA, 56, .inl (xn_f R2))), (mb, .inl (cA, 56, .inl (xn_f B2)))]) [0, 6, 7, 8, 5] rfl, va_K.moved hW.alike (hK.sub (tys' := [(cA, .int)]) [0] rfl), (hD.sub (ws' := [(m0, .inr (3, [.int (nI 0), .int (nI M.n), .int M.sv, .ref ma, .ref mS, .ref mt, .ref mo, .ref mb, .ref mg, .ref mh, .ref mr])), (mg, .inl (cA, 56, .inl (xn_f G1))), (mh, .inl (cA, 56, .inl (xn_f H2))), (mr, .inl (cA, 56, .inl (xn_f R2))), (mb, .inl (cA, 56, .inl (xn_f B2)))]) [0, 6, 7, 8, 5] (by decide) rfl).weaken (fun _ _ _ _ => trivial)⟩⟩ rfl rfl hl.1 rfl (lv_room (Nat.le_of_ble_eq_true rfl)) d_Model_unknown_133 ⟨Nat.zero_le _, Nat.zero_le _⟩) hS (fun q _ h => hFc q h) hFc (fun u t_ H locs ht_ hvm_ w5 hB hz1 hk1 hS => ?_)
    obtain ⟨B3, H3, R3⟩ := u
    rw [ht_] at hB
    obtain ⟨hP, hD⟩ := xj_5 0 6 7 8 5 hP hD rfl rfl rfl rfl rfl hk1 hB
    have hP : va_P (dC, dI) classes (mw m0 ma mS mt mo mb mg mh mr cA cJ (nI 0) M.n M.sv M.a M.S M.ft T3 B3 G1 H3 R3) H := hP
    have hD : va_D A (mw m0 ma mS mt mo mb mg mh mr cA cJ (nI 0) M.n M.sv M.a M.S M.ft T3 B3 G1 H3 R3) := hD
    try dsimp only at w5
    obtain ⟨y1, y2, y3, y4⟩ := w5
    rw [vB, c3] at y4
    refine lv_aload_n hx hb d_Model_unknown_136 rfl (lv_at hl 0 rfl) ?_
    refine lv_iload_n hx hb d_Model_unknown_137 rfl (lv_at hl 1 rfl) ?_
    refine vp_callSi (W.runV (As := [.int (nI kn)]) (rest := []) ⟨hx, hb, hml, hown, hts⟩ (c_Model_signOf l dC dI cA m0 ma mS mt mo mb mg mh mr (nI 0) M.n M.sv M.S kn (dt_sg (M.n - 1 - kn) * dt_y (dA M.a) kn (M.n - 1 - kn) M.n) (dt_d (dA M.a) M.n) g3 g1 hk2 hXk hXd hbk hbd) (cwV 1 hts (gw_V k_ml_Model_111 k_im_Model_signOf k_sel_Model_signOf k_ini_Model k_code_Model_signOf) rfl rfl rfl (by decide +kernel) ⟨Nat.le_of_ble_eq_true rfl, Nat.le_of_ble_eq_true rfl⟩) ⟨xc_R_blind, va_recv hK hP (ci := 3) (q0 := 0) rfl rfl, fun U hU hW => ⟨rfl, by rw [hU]; exact hP.sub (ws' := [(m0, .inr (3, [.int (nI 0), .int (nI M.n), .int M.sv, .ref ma, .ref mS, .ref mt, .ref mo, .ref mb, .ref mg, .ref mh, .ref mr])), (mS, .inl (cA, 458752, .inl (xn_f M.S)))]) [0, 2] rfl, va_K.moved hW.alike (hK.sub (tys' := [(cA, .int)]) [0] rfl)⟩⟩ rfl rfl hl.1 rfl (lv_room (Nat.le_of_ble_eq_true rfl)) d_Model_unknown_138 ⟨Nat.zero_le _, Nat.zero_le _⟩) (fun r_ e_r => ?_)
    have hsg := so_fin e_r
    have hab := (sg_abs (M.n - 1 - kn) (dt_y (dA M.a) kn (M.n - 1 - kn) M.n)).1
    rw [hab] at x4 y4
    have hpost : mG (⟨nI 0, M.n, M.sv, M.a, M.S, M.ft, T3, B3, G1, H3, R3⟩ : mT) ∧ ((M.sv = 0 ∧ (nI 0 : Int32) = 1 ∧ T3 = M.fo ∧ B3 = M.fb) ∨ (M.sv = 1 ∧ ¬ (0 ≤ ((nI kn)).toInt ∧ ((nI kn)).toInt < M.n) ∧ (nI 0 : Int32) = 2 ∧ T3 = M.fo ∧ B3 = M.fb) ∨ (∃ k2 : Nat, (nI kn) = nI k2 ∧ k2 < M.n ∧ M.sv = 1 ∧ (nI 0 : Int32) = 0 ∧ r_.toInt = (dt_y (dA M.a) k2 (M.n - 1 - k2) M.n).sign * (dt_d (dA M.a) M.n).sign ∧ dg_v T3 56 = (dt_y (dA M.a) k2 (M.n - 1 - k2) M.n).natAbs / (Nat.gcd (dt_y (dA M.a) k2 (M.n - 1 - k2) M.n).natAbs (dt_d (dA M.a) M.n).natAbs) ∧ dg_v B3 56 = (dt_d (dA M.a) M.n).natAbs / (Nat.gcd (dt_y (dA M.a) k2 (M.n - 1 - k2) M.n).natAbs (dt_d (dA M.a) M.n).natAbs))) ∧ M.n = M.n ∧ M.sv = M.sv ∧ M.a = M.a := ⟨⟨g1, g2, g3, g4, x1, y1, c1, y2, y3, g10⟩, Or.inr (Or.inr ⟨kn, rfl, hk2, hs1, rfl, hsg, x4, y4⟩), rfl, rfl, rfl⟩
    exact W.iret (v := r_) hx hb hr (fun T_ ht_ hW_ => ⟨⟨_, (⟨nI 0, M.n, M.sv, M.a, M.S, M.ft, T3, B3, G1, H3, R3⟩ : mT), rfl, hpost, by show va_P (dC, dI) classes _ T_.heap; rw [ht_]; exact hP, hD⟩, hS.F ht_⟩) hS.2.2 d_Model_unknown_141
  have mid : ∀ (T2 : Nat → Nat), (∀ i, T2 i < 65536) → (dg_v T2 56 = (dt_sg (M.n - 1 - kn) * dt_y (dA M.a) kn (M.n - 1 - kn) M.n).natAbs) → ∀ (H : Heap) (locs : List Loc), va_P (dC, dI) classes (mw m0 ma mS mt mo mb mg mh mr cA cJ (nI 0) M.n M.sv M.a M.S M.ft T2 B1 M.fg M.fh M.fr) H → va_D A (mw m0 ma mS mt mo mb mg mh mr cA cJ (nI 0) M.n M.sv M.a M.S M.ft T2 B1 M.fg M.fh M.fr) → va_S A s.heap H locs → ∀ (ls : Array Slot), lv_has ls 2 [(0, .ref m0), (1, .int (nI kn))] → W p l e (headSpec w_Model_unknown ({ frames := 2, cells := 0, slots := 0, locals := 46 })).room s m ([.ref m0, .int (nI kn)] : List Value).toArray below meth c H locs 0 0 (MQ below (va_Qi (S := mT) (fun r u => mG u ∧ ((M.sv = 0 ∧ u.er = 1 ∧ u.fo = M.fo ∧ u.fb = M.fb) ∨ (M.sv = 1 ∧ ¬ (0 ≤ ((nI kn)).toInt ∧ ((nI kn)).toInt < M.n) ∧ u.er = 2 ∧ u.fo = M.fo ∧ u.fb = M.fb) ∨ (∃ k2 : Nat, (nI kn) = nI k2 ∧ k2 < M.n ∧ M.sv = 1 ∧ u.er = 0 ∧ r.toInt = (dt_y (dA M.a) k2 (M.n - 1 - k2) M.n).sign * (dt_d (dA M.a) M.n).sign ∧ dg_v u.fo 56 = (dt_y (dA M.a) k2 (M.n - 1 - k2) M.n).natAbs / (Nat.gcd (dt_y (dA M.a) k2 (M.n - 1 - k2) M.n).natAbs (dt_d (dA M.a) M.n).natAbs) ∧ dg_v u.fb 56 = (dt_d (dA M.a) M.n).natAbs / (Nat.gcd (dt_y (dA M.a) k2 (M.n - 1 - k2) M.n).natAbs (dt_d (dA M.a) M.n).natAbs))) ∧ u.n = M.n ∧ u.sv = M.sv ∧ u.a = M.a) (fun u t => va_P (dC, dI) classes (mw m0 ma mS mt mo mb mg mh mr cA cJ u.er u.n u.sv u.a u.S u.ft u.fo u.fb u.fg u.fh u.fr) t.heap ∧ va_D A (mw m0 ma mS mt mo mb mg mh mr cA cJ u.er u.n u.sv u.a u.S u.ft u.fo u.fb u.fg u.fh u.fr)) A) ([.ref m0, .int (nI kn)] : List Value).toArray s 0 0 A) (F0 m 97 ls []) := by
    intro T2 hT2 vT H locs hP hD hS ls hl
    refine lv_aload_n hx hb d_Model_unknown_97 rfl (lv_at hl 0 rfl) ?_
    refine lv_aload_n hx hb d_Model_unknown_98 rfl (lv_at hl 0 rfl) ?_
    refine lv_iconst (v := -1) hx hb d_Model_unknown_99 (by decide) ?_
    refine vp_callSi (W.runV (As := [.int ((-1))]) (rest := [.ref m0]) ⟨hx, hb, hml, hown, hts⟩ (c_Model_place l dC dI m0 ma mS mt mo mb mg mh mr (nI 0) M.n M.sv (-1) g1 (Or.inl rfl)) (cwV 1 hts (gw_V k_ml_Model_72 k_im_Model_place k_sel_Model_place k_ini_Model k_code_Model_place) rfl rfl rfl (by decide +kernel) ⟨Nat.le_of_ble_eq_true rfl, Nat.le_of_ble_eq_true rfl⟩) ⟨xc_R_blind, va_recv hK hP (ci := 3) (q0 := 0) rfl rfl, fun U hU hW => ⟨rfl, by rw [hU]; exact hP.sub (ws' := [(m0, .inr (3, [.int (nI 0), .int (nI M.n), .int M.sv, .ref ma, .ref mS, .ref mt, .ref mo, .ref mb, .ref mg, .ref mh, .ref mr]))]) [0] rfl, va_K.moved hW.alike (hK.sub (tys' := []) [] rfl)⟩⟩ rfl rfl hl.1 rfl (lv_room (Nat.le_of_ble_eq_true rfl)) d_Model_unknown_100 ⟨Nat.zero_le _, Nat.zero_le _⟩) (fun rp e_p => ?_)
    have e_p := e_p.1 rfl
    subst e_p
    refine vp_callSi (W.runV (As := [.int (nI (56 * (2 ^ M.n - 1)))]) (rest := []) ⟨hx, hb, hml, hown, hts⟩ (c_Model_signAt l dC dI cA m0 ma mS mt mo mb mg mh mr (nI 0) M.n M.sv M.S (56 * (2 ^ M.n - 1)) g3 (by omega)) (cwV 1 hts (gw_V k_ml_Model_75 k_im_Model_signAt k_sel_Model_signAt k_ini_Model k_code_Model_signAt) rfl rfl rfl (by decide +kernel) ⟨Nat.le_of_ble_eq_true rfl, Nat.le_of_ble_eq_true rfl⟩) ⟨xc_R_blind, va_recv hK hP (ci := 3) (q0 := 0) rfl rfl, fun U hU hW => ⟨rfl, by rw [hU]; exact hP.sub (ws' := [(m0, .inr (3, [.int (nI 0), .int (nI M.n), .int M.sv, .ref ma, .ref mS, .ref mt, .ref mo, .ref mb, .ref mg, .ref mh, .ref mr])), (mS, .inl (cA, 458752, .inl (xn_f M.S)))]) [0, 2] rfl, va_K.moved hW.alike (hK.sub (tys' := [(cA, .int)]) [0] rfl)⟩⟩ rfl rfl hl.1 rfl (lv_room (Nat.le_of_ble_eq_true rfl)) d_Model_unknown_103 ⟨Nat.zero_le _, Nat.zero_le _⟩) (fun rs1 e_s => ?_)
    rw [hXd, sg_tc hbd] at e_s
    subst e_s
    refine lv_if_ge (tgt := 116) hx hb d_Model_unknown_106 (by decide) (fun hge => ?_) (fun hge => ?_)
    · exact last T2 B1 hT2 w2.1 vT (tk_pos hbd w2.2 hge) H locs hP hD hS ls (lv_sub hl [0, 1] rfl)
    refine lv_aload_n hx hb d_Model_unknown_109 rfl (lv_at hl 0 rfl) ?_
    refine va_get (D := (dC, dI)) (ci := 3) (v := .ref mb) (C := R_Model) (T := F_Model) (N := 11) hx hb hts i_Model hown hK hP 0 rfl rfl 7 (by decide) (hts _ k_fl_Model_24) (fun _ h9 => h9) rfl d_Model_unknown_110 ?_
    have hFc := va_free (wc := [(mb, .inl (cA, 56, .inl (xn_f B1)))]) hD hS hA [5] rfl
    refine va_callv (va_runS (As := [.ref mb]) (rest := []) ⟨hx, hb, hml, hown, hts⟩ (c_Model_turn l dC dI H.size cA mb B1 w2.1) (cwS 1 hts (gw_S k_ml_Model_53 k_st_Model_turn k_ini_Model k_code_Model_turn) rfl rfl rfl (by decide +kernel) ⟨Nat.le_of_ble_eq_true rfl, Nat.le_of_ble_eq_true rfl⟩) ⟨xc_W_blind, fun U hU hW => ⟨rfl, by rw [hU], by rw [hU]; exact hP.sub (ws' := [(mb, .inl (cA, 56, .inl (xn_f B1)))]) [5] rfl, va_K.moved hW.alike (hK.sub (tys' := [(cA, .int)]) [0] rfl), (hD.sub (ws' := [(mb, .inl (cA, 56, .inl (xn_f B1)))]) [5] (by decide) rfl).weaken (fun _ _ _ _ => trivial)⟩⟩ rfl rfl hl.1 rfl (lv_room (Nat.le_of_ble_eq_true rfl)) d_Model_unknown_113 ⟨Nat.zero_le _, Nat.zero_le _⟩) hS (fun q _ h => hFc q h) hFc (fun u t_ H locs ht_ hvm_ w6 hB hz1 hk1 hS => ?_)
    obtain ⟨B2, e_B2⟩ : ∃ z, z = u := ⟨u, rfl⟩
    rw [← e_B2] at w6 hB
    rw [ht_] at hB
    obtain ⟨hP, hD⟩ := xj_1 5 hP hD rfl hk1 hB
    have hP : va_P (dC, dI) classes (mw m0 ma mS mt mo mb mg mh mr cA cJ (nI 0) M.n M.sv M.a M.S M.ft T2 B2 M.fg M.fh M.fr) H := hP
    have hD : va_D A (mw m0 ma mS mt mo mb mg mh mr cA cJ (nI 0) M.n M.sv M.a M.S M.ft T2 B2 M.fg M.fh M.fr) := hD
    exact last T2 B2 hT2 w6.1 vT (tk_neg hbd w2.2 w6.2 hge) H locs hP hD hS ls (lv_sub hl [0, 1] rfl)
  refine lv_aload_n hx hb d_Model_unknown_78 rfl (lv_at hl 0 rfl) ?_
  refine lv_aload_n hx hb d_Model_unknown_79 rfl (lv_at hl 0 rfl) ?_
  refine lv_iload_n hx hb d_Model_unknown_80 rfl (lv_at hl 1 rfl) ?_
  refine vp_callSi (W.runV (As := [.int (nI kn)]) (rest := [.ref m0]) ⟨hx, hb, hml, hown, hts⟩ (c_Model_place l dC dI m0 ma mS mt mo mb mg mh mr (nI 0) M.n M.sv (nI kn) g1 (Or.inr ⟨kn, rfl, (Nat.le_of_lt hk2)⟩)) (cwV 1 hts (gw_V k_ml_Model_72 k_im_Model_place k_sel_Model_place k_ini_Model k_code_Model_place) rfl rfl rfl (by decide +kernel) ⟨Nat.le_of_ble_eq_true rfl, Nat.le_of_ble_eq_true rfl⟩) ⟨xc_R_blind, va_recv hK hP (ci := 3) (q0 := 0) rfl rfl, fun U hU hW => ⟨rfl, by rw [hU]; exact hP.sub (ws' := [(m0, .inr (3, [.int (nI 0), .int (nI M.n), .int M.sv, .ref ma, .ref mS, .ref mt, .ref mo, .ref mb, .ref mg, .ref mh, .ref mr]))]) [0] rfl, va_K.moved hW.alike (hK.sub (tys' := []) [] rfl)⟩⟩ rfl rfl hl.1 rfl (lv_room (Nat.le_of_ble_eq_true rfl)) d_Model_unknown_81 ⟨Nat.zero_le _, Nat.zero_le _⟩) (fun rp e_p => ?_)
  have e_p := e_p.2 kn rfl (Nat.le_of_lt hk2)
  subst e_p
  refine vp_callSi (W.runV (As := [.int (nI (56 * (2 ^ (M.n + 1) - 1 - 2 ^ kn)))]) (rest := []) ⟨hx, hb, hml, hown, hts⟩ (c_Model_signAt l dC dI cA m0 ma mS mt mo mb mg mh mr (nI 0) M.n M.sv M.S (56 * (2 ^ (M.n + 1) - 1 - 2 ^ kn)) g3 (by omega)) (cwV 1 hts (gw_V k_ml_Model_75 k_im_Model_signAt k_sel_Model_signAt k_ini_Model k_code_Model_signAt) rfl rfl rfl (by decide +kernel) ⟨Nat.le_of_ble_eq_true rfl, Nat.le_of_ble_eq_true rfl⟩) ⟨xc_R_blind, va_recv hK hP (ci := 3) (q0 := 0) rfl rfl, fun U hU hW => ⟨rfl, by rw [hU]; exact hP.sub (ws' := [(m0, .inr (3, [.int (nI 0), .int (nI M.n), .int M.sv, .ref ma, .ref mS, .ref mt, .ref mo, .ref mb, .ref mg, .ref mh, .ref mr])), (mS, .inl (cA, 458752, .inl (xn_f M.S)))]) [0, 2] rfl, va_K.moved hW.alike (hK.sub (tys' := [(cA, .int)]) [0] rfl)⟩⟩ rfl rfl hl.1 rfl (lv_room (Nat.le_of_ble_eq_true rfl)) d_Model_unknown_84 ⟨Nat.zero_le _, Nat.zero_le _⟩) (fun rs1 e_s => ?_)
  rw [hXk, sg_tc hbk] at e_s
  subst e_s
  refine lv_if_ge (tgt := 97) hx hb d_Model_unknown_87 (by decide) (fun hge => ?_) (fun hge => ?_)
  · exact mid T1 w1.1 (tk_pos hbk w1.2 hge) H locs hP hD hS ls (lv_sub hl [0, 1] rfl)
  refine lv_aload_n hx hb d_Model_unknown_90 rfl (lv_at hl 0 rfl) ?_
  refine va_get (D := (dC, dI)) (ci := 3) (v := .ref mo) (C := R_Model) (T := F_Model) (N := 11) hx hb hts i_Model hown hK hP 0 rfl rfl 6 (by decide) (hts _ k_fl_Model_21) (fun _ h9 => h9) rfl d_Model_unknown_91 ?_
  have hFc := va_free (wc := [(mo, .inl (cA, 56, .inl (xn_f T1)))]) hD hS hA [4] rfl
  refine va_callv (va_runS (As := [.ref mo]) (rest := []) ⟨hx, hb, hml, hown, hts⟩ (c_Model_turn l dC dI H.size cA mo T1 w1.1) (cwS 1 hts (gw_S k_ml_Model_53 k_st_Model_turn k_ini_Model k_code_Model_turn) rfl rfl rfl (by decide +kernel) ⟨Nat.le_of_ble_eq_true rfl, Nat.le_of_ble_eq_true rfl⟩) ⟨xc_W_blind, fun U hU hW => ⟨rfl, by rw [hU], by rw [hU]; exact hP.sub (ws' := [(mo, .inl (cA, 56, .inl (xn_f T1)))]) [4] rfl, va_K.moved hW.alike (hK.sub (tys' := [(cA, .int)]) [0] rfl), (hD.sub (ws' := [(mo, .inl (cA, 56, .inl (xn_f T1)))]) [4] (by decide) rfl).weaken (fun _ _ _ _ => trivial)⟩⟩ rfl rfl hl.1 rfl (lv_room (Nat.le_of_ble_eq_true rfl)) d_Model_unknown_94 ⟨Nat.zero_le _, Nat.zero_le _⟩) hS (fun q _ h => hFc q h) hFc (fun u t_ H locs ht_ hvm_ w6 hB hz1 hk1 hS => ?_)
  obtain ⟨T2, e_T2⟩ : ∃ z, z = u := ⟨u, rfl⟩
  rw [← e_T2] at w6 hB
  rw [ht_] at hB
  obtain ⟨hP, hD⟩ := xj_1 4 hP hD rfl hk1 hB
  have hP : va_P (dC, dI) classes (mw m0 ma mS mt mo mb mg mh mr cA cJ (nI 0) M.n M.sv M.a M.S M.ft T2 B1 M.fg M.fh M.fr) H := hP
  have hD : va_D A (mw m0 ma mS mt mo mb mg mh mr cA cJ (nI 0) M.n M.sv M.a M.S M.ft T2 B1 M.fg M.fh M.fr) := hD
  exact mid T2 w6.1 (tk_neg hbk w1.2 w6.2 hge) H locs hP hD hS ls (lv_sub hl [0, 1] rfl)
