set_option maxHeartbeats 4000000 in
set_option maxRecDepth 100000 in
/-- Divisor.setWhole -/
theorem c_Divisor_setWhole (l : Launch) (dC : Nat → ClassId) (dI : Nat → Nat → Nat) (sz : Nat) (cA : ClassId) (d0 h0r tw iv : Nat) (h0o q0o : Nat) (capo leno : Nat) (fo : Nat → Nat) (sgo : Int32) (h0n q0n : Nat) (capn lenn : Nat) (fn : Nat → Nat) (sgn : Int32) (hcapo : capo ≤ 64) (hcapn : capn ≤ 64) (hfo : ∀ i, fo i < 2147483648) (hon : wh_ok capn fn lenn sgn) (hne : lb_v fn lenn ≠ 0) (hfit : lenn ≤ capo) : Met l y_Divisor_setWhole w_Divisor_setWhole ({ frames := 2, cells := 0, slots := 0, locals := 62 }) (xc_W [.ref d0, .ref h0n] dC dI ([(d0, .inr (2, [.ref h0o, .ref h0r, .int (nI tw), .int (nI iv)])), (h0o, .inr (1, [.ref q0o, .int (nI leno), .int sgo])), (q0o, .inl (cA, capo, .inl (xn_f fo))), (h0n, .inr (1, [.ref q0n, .int (nI lenn), .int sgn])), (q0n, .inl (cA, capn, .inl (xn_f fn)))]) [(cA, .int)] sz) (va_Qv (S := Nat × Nat × (Nat → Nat) × Nat) (fun u => lb_n capo u.2.2.1 u.2.2.2 ∧ 0 < u.2.2.2 ∧ u.2.2.1 0 % 2 = 1 ∧ u.2.2.1 0 * u.2.1 % 2147483648 = 1 ∧ u.1 < 2 ^ 30 ∧ lb_v u.2.2.1 u.2.2.2 * 2 ^ u.1 = lb_v fn lenn) (fun u t => va_P (dC, dI) classes ((fun u => [(d0, .inr (2, [.ref h0o, .ref h0r, .int (nI u.1), .int (nI u.2.1)])), (h0o, .inr (1, [.ref q0o, .int (nI u.2.2.2), .int sgn])), (q0o, .inl (cA, capo, .inl (xn_f u.2.2.1))), (h0n, .inr (1, [.ref q0n, .int (nI lenn), .int sgn])), (q0n, .inl (cA, capn, .inl (xn_f fn)))]) u) t.heap) (va_A ([(d0, .inr (2, [.ref h0o, .ref h0r, .int (nI tw), .int (nI iv)])), (h0o, .inr (1, [.ref q0o, .int (nI leno), .int sgo])), (q0o, .inl (cA, capo, .inl (xn_f fo))), (h0n, .inr (1, [.ref q0n, .int (nI lenn), .int sgn])), (q0n, .inl (cA, capn, .inl (xn_f fn)))]) sz)) 0 0 (va_A ([(d0, .inr (2, [.ref h0o, .ref h0r, .int (nI tw), .int (nI iv)])), (h0o, .inr (1, [.ref q0o, .int (nI leno), .int sgo])), (q0o, .inl (cA, capo, .inl (xn_f fo))), (h0n, .inr (1, [.ref q0n, .int (nI lenn), .int sgn])), (q0n, .inl (cA, capn, .inl (xn_f fn)))]) sz) := by
  refine Met.ofW (cc := b_Divisor_setWhole) (maxL := 2) (ret := none) (by decide) rfl ?_
  intro p e s m args below meth c s₁ B hml hv
  obtain ⟨rfl, hsz, hP, hK, hD0⟩ := hv
  have hx := B.exec
  have hb := B.bytes
  have hr := B.returns
  have hts : ∀ w ∈ gw_tbl, w.before ([.ref d0, .ref h0n] : List Value).toArray s = true := fun w h => atoms_spec (ws := w_Divisor_setWhole) B.pre w (List.mem_cons_of_mem _ h)
  have hown : s.vm.findClass R_Divisor = some m.cls := findClass_of_methodNamed B.named
  have hlocks := B.notSynchronized
  subst hsz
  have hD := hD0.self (sz := s.heap.size)
  generalize hAe : va_A ([(d0, .inr (2, [.ref h0o, .ref h0r, .int (nI tw), .int (nI iv)])), (h0o, .inr (1, [.ref q0o, .int (nI leno), .int sgo])), (q0o, .inl (cA, capo, .inl (xn_f fo))), (h0n, .inr (1, [.ref q0n, .int (nI lenn), .int sgn])), (q0n, .inl (cA, capn, .inl (xn_f fn)))]) s.heap.size = A at hD ⊢
  have hA : ∀ q : Nat, s.heap.size ≤ q → A q := fun q h => by rw [← hAe]; exact Or.inr h
  have hS : va_S A s.heap s.heap [] := va_S.rf
  have hl := lv_entry ([.ref d0, .ref h0n]) (n := 2) (Nat.le_of_ble_eq_true rfl)
  rw [lg_entry_eq]
  generalize (lg_sl ([.ref d0, .ref h0n]) ++ List.replicate (2 - (lg_sl ([.ref d0, .ref h0n])).length) Slot.unset).toArray = ls at hl ⊢
  have hl : lv_has ls 2 [(0, .ref d0), (1, .ref h0n)] := hl
  refine lv_aload_n hx hb d_Divisor_setWhole_0 rfl (lv_at hl 0 rfl) ?_
  refine va_get (D := (dC, dI)) (ci := 2) (v := .ref h0o) (C := R_Divisor) (T := F_Divisor) (N := 4) hx hb hts i_Divisor hown hK hP 0 rfl rfl 0 (by decide) (hts _ k_fl_Divisor_14) (fun _ h9 => h9) rfl d_Divisor_setWhole_1 ?_
  refine lv_aload_n hx hb d_Divisor_setWhole_4 rfl (lv_at hl 1 rfl) ?_
  have hFc := va_free (wc := [(h0o, .inr (1, [.ref q0o, .int (nI leno), .int sgo])), (q0o, .inl (cA, capo, .inl (xn_f fo))), (h0n, .inr (1, [.ref q0n, .int (nI lenn), .int sgn])), (q0n, .inl (cA, capn, .inl (xn_f fn)))]) hD hS hA [1, 2, 3, 4] rfl
  refine va_callv (va_runV (As := [.ref h0n]) (rest := []) ⟨hx, hb, hml, hown, hts⟩ (c_Whole_setWhole l dC dI s.heap.size cA h0o q0o capo leno fo sgo h0n q0n capn lenn fn sgn hcapo hcapn hon.1 hfit) (cwV 1 hts (gw_V k_ml_Divisor_30 k_im_Whole_setWhole k_sel_Whole_setWhole k_ini_Whole k_code_Whole_setWhole) rfl rfl rfl (by decide +kernel) ⟨Nat.le_of_ble_eq_true rfl, Nat.le_of_ble_eq_true rfl⟩) ⟨xc_W_blind, va_recv hK hP (ci := 1) (q0 := 1) rfl rfl, fun U hU hW => ⟨rfl, by rw [hU], by rw [hU]; exact hP.sub (ws' := [(h0o, .inr (1, [.ref q0o, .int (nI leno), .int sgo])), (q0o, .inl (cA, capo, .inl (xn_f fo))), (h0n, .inr (1, [.ref q0n, .int (nI lenn), .int sgn])), (q0n, .inl (cA, capn, .inl (xn_f fn)))]) [1, 2, 3, 4] rfl, va_K.moved hW.alike (hK.sub (tys' := [(cA, .int)]) [0] rfl), (hD.sub (ws' := [(h0o, .inr (1, [.ref q0o, .int (nI leno), .int sgo])), (q0o, .inl (cA, capo, .inl (xn_f fo))), (h0n, .inr (1, [.ref q0n, .int (nI lenn), .int sgn])), (q0n, .inl (cA, capn, .inl (xn_f fn)))]) [1, 2, 3, 4] (by decide) rfl).weaken (fun _ _ _ _ => trivial)⟩⟩ rfl rfl hl.1 rfl (lv_room (Nat.le_of_ble_eq_true rfl)) d_Divisor_setWhole_5 ⟨Nat.zero_le _, Nat.zero_le _⟩) hS (fun q _ h => hFc q h) hFc (fun u t_ H locs ht_ hvm_ hw hB hz1 hk1 hS => ?_)
  obtain ⟨F1, len1, sg1⟩ := u
  rw [ht_] at hB
  obtain ⟨hP, hD⟩ := xj_4 1 2 3 4 hP hD rfl rfl rfl rfl hk1 hB
  have hP : va_P (dC, dI) classes ([(d0, .inr (2, [.ref h0o, .ref h0r, .int (nI tw), .int (nI iv)])), (h0o, .inr (1, [.ref q0o, .int (nI len1), .int sg1])), (q0o, .inl (cA, capo, .inl (xn_f F1))), (h0n, .inr (1, [.ref q0n, .int (nI lenn), .int sgn])), (q0n, .inl (cA, capn, .inl (xn_f fn)))]) H := hP
  have hD : va_D A ([(d0, .inr (2, [.ref h0o, .ref h0r, .int (nI tw), .int (nI iv)])), (h0o, .inr (1, [.ref q0o, .int (nI len1), .int sg1])), (q0o, .inl (cA, capo, .inl (xn_f F1))), (h0n, .inr (1, [.ref q0n, .int (nI lenn), .int sgn])), (q0n, .inl (cA, capn, .inl (xn_f fn)))]) := hD
  dsimp only at hw
  obtain ⟨e1, e2, e3⟩ := hw
  have e1 := e1.symm
  have e2 := e2.symm
  subst e1
  subst e2
  obtain ⟨hn1, hv1, hk1⟩ := cp_n hon hfit hfo e3
  have hne1 : lb_v F1 lenn ≠ 0 := by omega
  refine lv_aload_n hx hb d_Divisor_setWhole_8 rfl (lv_at hl 0 rfl) ?_
  refine lv_aload_n hx hb d_Divisor_setWhole_9 rfl (lv_at hl 0 rfl) ?_
  refine va_get (D := (dC, dI)) (ci := 2) (v := .ref h0o) (C := R_Divisor) (T := F_Divisor) (N := 4) hx hb hts i_Divisor hown hK hP 0 rfl rfl 0 (by decide) (hts _ k_fl_Divisor_14) (fun _ h9 => h9) rfl d_Divisor_setWhole_10 ?_
  refine vp_callSi (W.runV (As := []) (rest := [.ref d0]) ⟨hx, hb, hml, hown, hts⟩ (c_Whole_countTwos l dC dI cA h0o q0o capo lenn F1 sgn hcapo hn1) (cwV 0 hts (gw_V k_ml_Divisor_34 k_im_Whole_countTwos k_sel_Whole_countTwos k_ini_Whole k_code_Whole_countTwos) rfl rfl rfl (by decide +kernel) ⟨Nat.le_of_ble_eq_true rfl, Nat.le_of_ble_eq_true rfl⟩) ⟨xc_R_blind, va_recv hK hP (ci := 1) (q0 := 1) rfl rfl, fun U hU hW => ⟨rfl, by rw [hU]; exact hP.sub (ws' := [(h0o, .inr (1, [.ref q0o, .int (nI lenn), .int sgn])), (q0o, .inl (cA, capo, .inl (xn_f F1)))]) [1, 2] rfl, va_K.moved hW.alike (hK.sub (tys' := [(cA, .int)]) [0] rfl)⟩⟩ rfl rfl hl.1 rfl (lv_room (Nat.le_of_ble_eq_true rfl)) d_Divisor_setWhole_13 ⟨Nat.zero_le _, Nat.zero_le _⟩) (fun r_ e_r => ?_)
  obtain ⟨t, et, ht1, -, ht2⟩ := e_r
  obtain ⟨o, ht3, ht4⟩ := ht2 hne1
  subst et
  refine va_put (D := (dC, dI)) (ci := 2) (v := .int (nI t)) (ty := .int) (C := R_Divisor) (T := F_Divisor) (N := 4) hx hb hts i_Divisor t_Divisor t_Divisor_ok n_Divisor hown hK hP hD hS 0 rfl rfl 2 (by decide) (hts _ k_fl_Divisor_23) (fun _ h9 => h9) rfl (by decide +kernel) rfl rfl (Nat.le_of_ble_eq_true rfl) d_Divisor_setWhole_16 (fun H locs hP hD hS => ?_)
  have hP : va_P (dC, dI) classes ([(d0, .inr (2, [.ref h0o, .ref h0r, .int (nI t), .int (nI iv)])), (h0o, .inr (1, [.ref q0o, .int (nI lenn), .int sgn])), (q0o, .inl (cA, capo, .inl (xn_f F1))), (h0n, .inr (1, [.ref q0n, .int (nI lenn), .int sgn])), (q0n, .inl (cA, capn, .inl (xn_f fn)))]) H := hP
  have hD : va_D A ([(d0, .inr (2, [.ref h0o, .ref h0r, .int (nI t), .int (nI iv)])), (h0o, .inr (1, [.ref q0o, .int (nI lenn), .int sgn])), (q0o, .inl (cA, capo, .inl (xn_f F1))), (h0n, .inr (1, [.ref q0n, .int (nI lenn), .int sgn])), (q0n, .inl (cA, capn, .inl (xn_f fn)))]) := hD
  refine lv_aload_n hx hb d_Divisor_setWhole_19 rfl (lv_at hl 0 rfl) ?_
  refine va_get (D := (dC, dI)) (ci := 2) (v := .ref h0o) (C := R_Divisor) (T := F_Divisor) (N := 4) hx hb hts i_Divisor hown hK hP 0 rfl rfl 0 (by decide) (hts _ k_fl_Divisor_14) (fun _ h9 => h9) rfl d_Divisor_setWhole_20 ?_
  refine lv_aload_n hx hb d_Divisor_setWhole_23 rfl (lv_at hl 0 rfl) ?_
  refine va_get (D := (dC, dI)) (ci := 2) (v := .int (nI t)) (C := R_Divisor) (T := F_Divisor) (N := 4) hx hb hts i_Divisor hown hK hP 0 rfl rfl 2 (by decide) (hts _ k_fl_Divisor_23) (fun _ h9 => h9) rfl d_Divisor_setWhole_24 ?_
  have hFc := va_free (wc := [(h0o, .inr (1, [.ref q0o, .int (nI lenn), .int sgn])), (q0o, .inl (cA, capo, .inl (xn_f F1)))]) hD hS hA [1, 2] rfl
  refine va_callv (va_runV (As := [.int (nI t)]) (rest := []) ⟨hx, hb, hml, hown, hts⟩ (c_Whole_shiftDown l dC dI H.size cA h0o q0o capo lenn F1 sgn t hcapo hn1 (by have := hn1.1; omega)) (cwV 1 hts (gw_V k_ml_Divisor_38 k_im_Whole_shiftDown k_sel_Whole_shiftDown k_ini_Whole k_code_Whole_shiftDown) rfl rfl rfl (by decide +kernel) ⟨Nat.le_of_ble_eq_true rfl, Nat.le_of_ble_eq_true rfl⟩) ⟨xc_W_blind, va_recv hK hP (ci := 1) (q0 := 1) rfl rfl, fun U hU hW => ⟨rfl, by rw [hU], by rw [hU]; exact hP.sub (ws' := [(h0o, .inr (1, [.ref q0o, .int (nI lenn), .int sgn])), (q0o, .inl (cA, capo, .inl (xn_f F1)))]) [1, 2] rfl, va_K.moved hW.alike (hK.sub (tys' := [(cA, .int)]) [0] rfl), (hD.sub (ws' := [(h0o, .inr (1, [.ref q0o, .int (nI lenn), .int sgn])), (q0o, .inl (cA, capo, .inl (xn_f F1)))]) [1, 2] (by decide) rfl).weaken (fun _ _ _ _ => trivial)⟩⟩ rfl rfl hl.1 rfl (lv_room (Nat.le_of_ble_eq_true rfl)) d_Divisor_setWhole_27 ⟨Nat.zero_le _, Nat.zero_le _⟩) hS (fun q _ h => hFc q h) hFc (fun u t_ H locs ht_ hvm_ hw hB hz1 hk1 hS => ?_)
  obtain ⟨F, len2, sg2⟩ := u
  rw [ht_] at hB
  obtain ⟨hP, hD⟩ := xj_2 1 2 hP hD rfl rfl hk1 hB
  have hP : va_P (dC, dI) classes ([(d0, .inr (2, [.ref h0o, .ref h0r, .int (nI t), .int (nI iv)])), (h0o, .inr (1, [.ref q0o, .int (nI len2), .int sg2])), (q0o, .inl (cA, capo, .inl (xn_f F))), (h0n, .inr (1, [.ref q0n, .int (nI lenn), .int sgn])), (q0n, .inl (cA, capn, .inl (xn_f fn)))]) H := hP
  have hD : va_D A ([(d0, .inr (2, [.ref h0o, .ref h0r, .int (nI t), .int (nI iv)])), (h0o, .inr (1, [.ref q0o, .int (nI len2), .int sg2])), (q0o, .inl (cA, capo, .inl (xn_f F))), (h0n, .inr (1, [.ref q0n, .int (nI lenn), .int sgn])), (q0n, .inl (cA, capn, .inl (xn_f fn)))]) := hD
  dsimp only at hw
  obtain ⟨hn2, hv2, hs2⟩ := hw
  rw [ht3, Nat.mul_div_cancel_left _ (Nat.two_pow_pos t)] at hv2
  have hne2 : lb_v F len2 ≠ 0 := by omega
  rw [if_neg (fun q => hne2 ((lb_n0 hn2).mpr q))] at hs2
  have hs2 := hs2.symm
  subst hs2
  obtain ⟨hp2, ho2⟩ := gd_low hn2.2.1 (show lb_v F len2 % 2 = 1 by omega)
  refine lv_aload_n hx hb d_Divisor_setWhole_30 rfl (lv_at hl 0 rfl) ?_
  have hFc := va_free (wc := [(d0, .inr (2, [.ref h0o, .ref h0r, .int (nI t), .int (nI iv)])), (h0o, .inr (1, [.ref q0o, .int (nI len2), .int sgn])), (q0o, .inl (cA, capo, .inl (xn_f F)))]) hD hS hA [0, 1, 2] rfl
  refine va_callv (va_runV (As := []) (rest := []) ⟨hx, hb, hml, hown, hts⟩ (c_Divisor_setInverse l dC dI H.size cA d0 h0r t iv h0o q0o capo len2 F sgn hcapo hn2 hp2 ho2) (cwV 0 hts (gw_V k_ml_Divisor_41 k_im_Divisor_setInverse k_sel_Divisor_setInverse k_ini_Divisor k_code_Divisor_setInverse) rfl rfl rfl (by decide +kernel) ⟨Nat.le_of_ble_eq_true rfl, Nat.le_of_ble_eq_true rfl⟩) ⟨xc_W_blind, va_recv hK hP (ci := 2) (q0 := 0) rfl rfl, fun U hU hW => ⟨rfl, by rw [hU], by rw [hU]; exact hP.sub (ws' := [(d0, .inr (2, [.ref h0o, .ref h0r, .int (nI t), .int (nI iv)])), (h0o, .inr (1, [.ref q0o, .int (nI len2), .int sgn])), (q0o, .inl (cA, capo, .inl (xn_f F)))]) [0, 1, 2] rfl, va_K.moved hW.alike (hK.sub (tys' := [(cA, .int)]) [0] rfl), (hD.sub (ws' := [(d0, .inr (2, [.ref h0o, .ref h0r, .int (nI t), .int (nI iv)])), (h0o, .inr (1, [.ref q0o, .int (nI len2), .int sgn])), (q0o, .inl (cA, capo, .inl (xn_f F)))]) [0, 1, 2] (by decide) rfl).weaken (fun _ _ _ _ => trivial)⟩⟩ rfl rfl hl.1 rfl (lv_room (Nat.le_of_ble_eq_true rfl)) d_Divisor_setWhole_31 ⟨Nat.zero_le _, Nat.zero_le _⟩) hS (fun q _ h => hFc q h) hFc (fun u t_ H locs ht_ hvm_ hw hB hz1 hk1 hS => ?_)
  obtain ⟨iv2, e_iv2⟩ : ∃ z, z = u := ⟨u, rfl⟩
  rw [← e_iv2] at hw hB
  rw [ht_] at hB
  obtain ⟨hP, hD⟩ := xj_3 0 1 2 hP hD rfl rfl rfl hk1 hB
  have hP : va_P (dC, dI) classes ([(d0, .inr (2, [.ref h0o, .ref h0r, .int (nI t), .int (nI iv2)])), (h0o, .inr (1, [.ref q0o, .int (nI len2), .int sgn])), (q0o, .inl (cA, capo, .inl (xn_f F))), (h0n, .inr (1, [.ref q0n, .int (nI lenn), .int sgn])), (q0n, .inl (cA, capn, .inl (xn_f fn)))]) H := hP
  have hD : va_D A ([(d0, .inr (2, [.ref h0o, .ref h0r, .int (nI t), .int (nI iv2)])), (h0o, .inr (1, [.ref q0o, .int (nI len2), .int sgn])), (q0o, .inl (cA, capo, .inl (xn_f F))), (h0n, .inr (1, [.ref q0n, .int (nI lenn), .int sgn])), (q0n, .inl (cA, capn, .inl (xn_f fn)))]) := hD
  have hpost : lb_n capo F len2 ∧ 0 < len2 ∧ F 0 % 2 = 1 ∧ F 0 * iv2 % 2147483648 = 1 ∧ t < 2 ^ 30 ∧ lb_v F len2 * 2 ^ t = lb_v fn lenn := ⟨hn2, hp2, ho2, hw.2, by have := hn1.1; omega, by rw [hv2, ← hv1, ht3, Nat.mul_comm]⟩
  exact W.vret hx hb hr (fun T_ ht_ hW_ => ⟨⟨(t, iv2, F, len2), rfl, hpost, by show va_P (dC, dI) classes _ T_.heap; rw [ht_]; exact hP⟩, hS.F ht_⟩) hS.2.2 d_Divisor_setWhole_34
set_option maxHeartbeats 4000000 in
set_option maxRecDepth 100000 in
/-- setCommon -/
theorem c_Divisor_setCommon (l : Launch) (dC : Nat → ClassId) (dI : Nat → Nat → Nat) (sz : Nat) (cA : ClassId) (d0 h0r tw iv : Nat) (h0o q0o : Nat) (capo leno : Nat) (fo : Nat → Nat) (sgo : Int32) (q0r : Nat) (capr lenr : Nat) (fr : Nat → Nat) (sgr : Int32) (h0a q0a : Nat) (capa lena : Nat) (fa : Nat → Nat) (sga : Int32) (h0b q0b : Nat) (capb lenb : Nat) (fb : Nat → Nat) (sgb : Int32) (hcapo : capo ≤ 64) (hcapr : capr ≤ 64) (hcapa : capa ≤ 64) (hcapb : capb ≤ 64) (hfo : ∀ i, fo i < 2147483648) (hfr : ∀ i, fr i < 2147483648) (hoa : wh_ok capa fa lena sga) (hob : wh_ok capb fb lenb sgb) (hna : lb_v fa lena ≠ 0) (hnb : lb_v fb lenb ≠ 0) (hfa : lena ≤ capo) (hfb2 : lenb ≤ capr) (hw0 : lb_v fa lena * lb_v fb lenb < 2 ^ 1611) : Met l y_Divisor_setCommon w_Divisor_setCommon ({ frames := 4, cells := 0, slots := 0, locals := 93 }) (xc_W [.ref d0, .ref h0a, .ref h0b] dC dI ([(d0, .inr (2, [.ref h0o, .ref h0r, .int (nI tw), .int (nI iv)])), (h0o, .inr (1, [.ref q0o, .int (nI leno), .int sgo])), (q0o, .inl (cA, capo, .inl (xn_f fo))), (h0r, .inr (1, [.ref q0r, .int (nI lenr), .int sgr])), (q0r, .inl (cA, capr, .inl (xn_f fr))), (h0a, .inr (1, [.ref q0a, .int (nI lena), .int sga])), (q0a, .inl (cA, capa, .inl (xn_f fa))), (h0b, .inr (1, [.ref q0b, .int (nI lenb), .int sgb])), (q0b, .inl (cA, capb, .inl (xn_f fb)))]) [(cA, .int)] sz) (va_Qv (S := Nat × Nat × (Nat → Nat) × Nat × (Nat → Nat) × Nat) (fun u => lb_n capo u.2.2.1 u.2.2.2.1 ∧ 0 < u.2.2.2.1 ∧ u.2.2.1 0 % 2 = 1 ∧ u.2.2.1 0 * u.2.1 % 2147483648 = 1 ∧ u.1 < 2 ^ 30 ∧ lb_v u.2.2.1 u.2.2.2.1 * 2 ^ u.1 = Nat.gcd (lb_v fa lena) (lb_v fb lenb) ∧ wh_ok capr u.2.2.2.2.1 u.2.2.2.2.2 sgb) (fun u t => va_P (dC, dI) classes ((fun u => [(d0, .inr (2, [.ref h0o, .ref h0r, .int (nI u.1), .int (nI u.2.1)])), (h0o, .inr (1, [.ref q0o, .int (nI u.2.2.2.1), .int 1])), (q0o, .inl (cA, capo, .inl (xn_f u.2.2.1))), (h0r, .inr (1, [.ref q0r, .int (nI u.2.2.2.2.2), .int sgb])), (q0r, .inl (cA, capr, .inl (xn_f u.2.2.2.2.1))), (h0a, .inr (1, [.ref q0a, .int (nI lena), .int sga])), (q0a, .inl (cA, capa, .inl (xn_f fa))), (h0b, .inr (1, [.ref q0b, .int (nI lenb), .int sgb])), (q0b, .inl (cA, capb, .inl (xn_f fb)))]) u) t.heap) (va_A ([(d0, .inr (2, [.ref h0o, .ref h0r, .int (nI tw), .int (nI iv)])), (h0o, .inr (1, [.ref q0o, .int (nI leno), .int sgo])), (q0o, .inl (cA, capo, .inl (xn_f fo))), (h0r, .inr (1, [.ref q0r, .int (nI lenr), .int sgr])), (q0r, .inl (cA, capr, .inl (xn_f fr))), (h0a, .inr (1, [.ref q0a, .int (nI lena), .int sga])), (q0a, .inl (cA, capa, .inl (xn_f fa))), (h0b, .inr (1, [.ref q0b, .int (nI lenb), .int sgb])), (q0b, .inl (cA, capb, .inl (xn_f fb)))]) sz)) 0 0 (va_A ([(d0, .inr (2, [.ref h0o, .ref h0r, .int (nI tw), .int (nI iv)])), (h0o, .inr (1, [.ref q0o, .int (nI leno), .int sgo])), (q0o, .inl (cA, capo, .inl (xn_f fo))), (h0r, .inr (1, [.ref q0r, .int (nI lenr), .int sgr])), (q0r, .inl (cA, capr, .inl (xn_f fr))), (h0a, .inr (1, [.ref q0a, .int (nI lena), .int sga])), (q0a, .inl (cA, capa, .inl (xn_f fa))), (h0b, .inr (1, [.ref q0b, .int (nI lenb), .int sgb])), (q0b, .inl (cA, capb, .inl (xn_f fb)))]) sz) := by
  refine Met.ofW (cc := b_Divisor_setCommon) (maxL := 5) (ret := none) (by decide) rfl ?_
  intro p e s m args below meth c s₁ B hml hv
  obtain ⟨rfl, hsz, hP, hK, hD0⟩ := hv
  have hx := B.exec
  have hb := B.bytes
  have hr := B.returns
  have hts : ∀ w ∈ gw_tbl, w.before ([.ref d0, .ref h0a, .ref h0b] : List Value).toArray s = true := fun w h => atoms_spec (ws := w_Divisor_setCommon) B.pre w (List.mem_cons_of_mem _ h)
  have hown : s.vm.findClass R_Divisor = some m.cls := findClass_of_methodNamed B.named
  have hlocks := B.notSynchronized
  subst hsz
  have hD := hD0.self (sz := s.heap.size)
  generalize hAe : va_A ([(d0, .inr (2, [.ref h0o, .ref h0r, .int (nI tw), .int (nI iv)])), (h0o, .inr (1, [.ref q0o, .int (nI leno), .int sgo])), (q0o, .inl (cA, capo, .inl (xn_f fo))), (h0r, .inr (1, [.ref q0r, .int (nI lenr), .int sgr])), (q0r, .inl (cA, capr, .inl (xn_f fr))), (h0a, .inr (1, [.ref q0a, .int (nI lena), .int sga])), (q0a, .inl (cA, capa, .inl (xn_f fa))), (h0b, .inr (1, [.ref q0b, .int (nI lenb), .int sgb])), (q0b, .inl (cA, capb, .inl (xn_f fb)))]) s.heap.size = A at hD ⊢
  have hA : ∀ q : Nat, s.heap.size ≤ q → A q := fun q h => by rw [← hAe]; exact Or.inr h
  have hS : va_S A s.heap s.heap [] := va_S.rf
  have hl := lv_entry ([.ref d0, .ref h0a, .ref h0b]) (n := 5) (Nat.le_of_ble_eq_true rfl)
  rw [lg_entry_eq]
  generalize (lg_sl ([.ref d0, .ref h0a, .ref h0b]) ++ List.replicate (5 - (lg_sl ([.ref d0, .ref h0a, .ref h0b])).length) Slot.unset).toArray = ls at hl ⊢
  have hl : lv_has ls 5 [(0, .ref d0), (1, .ref h0a), (2, .ref h0b)] := hl
  refine lv_aload_n hx hb d_Divisor_setCommon_0 rfl (lv_at hl 0 rfl) ?_
  refine va_get (D := (dC, dI)) (ci := 2) (v := .ref h0o) (C := R_Divisor) (T := F_Divisor) (N := 4) hx hb hts i_Divisor hown hK hP 0 rfl rfl 0 (by decide) (hts _ k_fl_Divisor_14) (fun _ h9 => h9) rfl d_Divisor_setCommon_1 ?_
  refine lv_aload_n hx hb d_Divisor_setCommon_4 rfl (lv_at hl 1 rfl) ?_
  have hFc := va_free (wc := [(h0o, .inr (1, [.ref q0o, .int (nI leno), .int sgo])), (q0o, .inl (cA, capo, .inl (xn_f fo))), (h0a, .inr (1, [.ref q0a, .int (nI lena), .int sga])), (q0a, .inl (cA, capa, .inl (xn_f fa)))]) hD hS hA [1, 2, 5, 6] rfl
  refine va_callv (va_runV (As := [.ref h0a]) (rest := []) ⟨hx, hb, hml, hown, hts⟩ (c_Whole_setWhole l dC dI s.heap.size cA h0o q0o capo leno fo sgo h0a q0a capa lena fa sga hcapo hcapa hoa.1 hfa) (cwV 1 hts (gw_V k_ml_Divisor_30 k_im_Whole_setWhole k_sel_Whole_setWhole k_ini_Whole k_code_Whole_setWhole) rfl rfl rfl (by decide +kernel) ⟨Nat.le_of_ble_eq_true rfl, Nat.le_of_ble_eq_true rfl⟩) ⟨xc_W_blind, va_recv hK hP (ci := 1) (q0 := 1) rfl rfl, fun U hU hW => ⟨rfl, by rw [hU], by rw [hU]; exact hP.sub (ws' := [(h0o, .inr (1, [.ref q0o, .int (nI leno), .int sgo])), (q0o, .inl (cA, capo, .inl (xn_f fo))), (h0a, .inr (1, [.ref q0a, .int (nI lena), .int sga])), (q0a, .inl (cA, capa, .inl (xn_f fa)))]) [1, 2, 5, 6] rfl, va_K.moved hW.alike (hK.sub (tys' := [(cA, .int)]) [0] rfl), (hD.sub (ws' := [(h0o, .inr (1, [.ref q0o, .int (nI leno), .int sgo])), (q0o, .inl (cA, capo, .inl (xn_f fo))), (h0a, .inr (1, [.ref q0a, .int (nI lena), .int sga])), (q0a, .inl (cA, capa, .inl (xn_f fa)))]) [1, 2, 5, 6] (by decide) rfl).weaken (fun _ _ _ _ => trivial)⟩⟩ rfl rfl hl.1 rfl (lv_room (Nat.le_of_ble_eq_true rfl)) d_Divisor_setCommon_5 ⟨Nat.zero_le _, Nat.zero_le _⟩) hS (fun q _ h => hFc q h) hFc (fun u t_ H locs ht_ hvm_ hw hB hz1 hk1 hS => ?_)
  obtain ⟨F1, len1, sg1⟩ := u
  rw [ht_] at hB
  obtain ⟨hP, hD⟩ := xj_4 1 2 5 6 hP hD rfl rfl rfl rfl hk1 hB
  have hP : va_P (dC, dI) classes ([(d0, .inr (2, [.ref h0o, .ref h0r, .int (nI tw), .int (nI iv)])), (h0o, .inr (1, [.ref q0o, .int (nI len1), .int sg1])), (q0o, .inl (cA, capo, .inl (xn_f F1))), (h0r, .inr (1, [.ref q0r, .int (nI lenr), .int sgr])), (q0r, .inl (cA, capr, .inl (xn_f fr))), (h0a, .inr (1, [.ref q0a, .int (nI lena), .int sga])), (q0a, .inl (cA, capa, .inl (xn_f fa))), (h0b, .inr (1, [.ref q0b, .int (nI lenb), .int sgb])), (q0b, .inl (cA, capb, .inl (xn_f fb)))]) H := hP
  have hD : va_D A ([(d0, .inr (2, [.ref h0o, .ref h0r, .int (nI tw), .int (nI iv)])), (h0o, .inr (1, [.ref q0o, .int (nI len1), .int sg1])), (q0o, .inl (cA, capo, .inl (xn_f F1))), (h0r, .inr (1, [.ref q0r, .int (nI lenr), .int sgr])), (q0r, .inl (cA, capr, .inl (xn_f fr))), (h0a, .inr (1, [.ref q0a, .int (nI lena), .int sga])), (q0a, .inl (cA, capa, .inl (xn_f fa))), (h0b, .inr (1, [.ref q0b, .int (nI lenb), .int sgb])), (q0b, .inl (cA, capb, .inl (xn_f fb)))]) := hD
  dsimp only at hw
  obtain ⟨e1, e2, e3⟩ := hw
  have e1 := e1.symm
  have e2 := e2.symm
  subst e1
  subst e2
  obtain ⟨hn1, hv1, hk1⟩ := cp_n hoa hfa hfo e3
  have hne1 : lb_v F1 lena ≠ 0 := by omega
  have hl1 := hn1.1
  refine lv_aload_n hx hb d_Divisor_setCommon_8 rfl (lv_at hl 0 rfl) ?_
  refine va_get (D := (dC, dI)) (ci := 2) (v := .ref h0r) (C := R_Divisor) (T := F_Divisor) (N := 4) hx hb hts i_Divisor hown hK hP 0 rfl rfl 1 (by decide) (hts _ k_fl_Divisor_20) (fun _ h9 => h9) rfl d_Divisor_setCommon_9 ?_
  refine lv_aload_n hx hb d_Divisor_setCommon_12 rfl (lv_at hl 2 rfl) ?_
  have hFc := va_free (wc := [(h0r, .inr (1, [.ref q0r, .int (nI lenr), .int sgr])), (q0r, .inl (cA, capr, .inl (xn_f fr))), (h0b, .inr (1, [.ref q0b, .int (nI lenb), .int sgb])), (q0b, .inl (cA, capb, .inl (xn_f fb)))]) hD hS hA [3, 4, 7, 8] rfl
  refine va_callv (va_runV (As := [.ref h0b]) (rest := []) ⟨hx, hb, hml, hown, hts⟩ (c_Whole_setWhole l dC dI H.size cA h0r q0r capr lenr fr sgr h0b q0b capb lenb fb sgb hcapr hcapb hob.1 hfb2) (cwV 1 hts (gw_V k_ml_Divisor_30 k_im_Whole_setWhole k_sel_Whole_setWhole k_ini_Whole k_code_Whole_setWhole) rfl rfl rfl (by decide +kernel) ⟨Nat.le_of_ble_eq_true rfl, Nat.le_of_ble_eq_true rfl⟩) ⟨xc_W_blind, va_recv hK hP (ci := 1) (q0 := 3) rfl rfl, fun U hU hW => ⟨rfl, by rw [hU], by rw [hU]; exact hP.sub (ws' := [(h0r, .inr (1, [.ref q0r, .int (nI lenr), .int sgr])), (q0r, .inl (cA, capr, .inl (xn_f fr))), (h0b, .inr (1, [.ref q0b, .int (nI lenb), .int sgb])), (q0b, .inl (cA, capb, .inl (xn_f fb)))]) [3, 4, 7, 8] rfl, va_K.moved hW.alike (hK.sub (tys' := [(cA, .int)]) [0] rfl), (hD.sub (ws' := [(h0r, .inr (1, [.ref q0r, .int (nI lenr), .int sgr])), (q0r, .inl (cA, capr, .inl (xn_f fr))), (h0b, .inr (1, [.ref q0b, .int (nI lenb), .int sgb])), (q0b, .inl (cA, capb, .inl (xn_f fb)))]) [3, 4, 7, 8] (by decide) rfl).weaken (fun _ _ _ _ => trivial)⟩⟩ rfl rfl hl.1 rfl (lv_room (Nat.le_of_ble_eq_true rfl)) d_Divisor_setCommon_13 ⟨Nat.zero_le _, Nat.zero_le _⟩) hS (fun q _ h => hFc q h) hFc (fun u t_ H locs ht_ hvm_ hw hB hz1 hk1 hS => ?_)
  obtain ⟨G1, len1, sg1⟩ := u
  rw [ht_] at hB
  obtain ⟨hP, hD⟩ := xj_4 3 4 7 8 hP hD rfl rfl rfl rfl hk1 hB
  have hP : va_P (dC, dI) classes ([(d0, .inr (2, [.ref h0o, .ref h0r, .int (nI tw), .int (nI iv)])), (h0o, .inr (1, [.ref q0o, .int (nI lena), .int sga])), (q0o, .inl (cA, capo, .inl (xn_f F1))), (h0r, .inr (1, [.ref q0r, .int (nI len1), .int sg1])), (q0r, .inl (cA, capr, .inl (xn_f G1))), (h0a, .inr (1, [.ref q0a, .int (nI lena), .int sga])), (q0a, .inl (cA, capa, .inl (xn_f fa))), (h0b, .inr (1, [.ref q0b, .int (nI lenb), .int sgb])), (q0b, .inl (cA, capb, .inl (xn_f fb)))]) H := hP
  have hD : va_D A ([(d0, .inr (2, [.ref h0o, .ref h0r, .int (nI tw), .int (nI iv)])), (h0o, .inr (1, [.ref q0o, .int (nI lena), .int sga])), (q0o, .inl (cA, capo, .inl (xn_f F1))), (h0r, .inr (1, [.ref q0r, .int (nI len1), .int sg1])), (q0r, .inl (cA, capr, .inl (xn_f G1))), (h0a, .inr (1, [.ref q0a, .int (nI lena), .int sga])), (q0a, .inl (cA, capa, .inl (xn_f fa))), (h0b, .inr (1, [.ref q0b, .int (nI lenb), .int sgb])), (q0b, .inl (cA, capb, .inl (xn_f fb)))]) := hD
  dsimp only at hw
  obtain ⟨e1, e2, e4⟩ := hw
  have e1 := e1.symm
  have e2 := e2.symm
  subst e1
  subst e2
  obtain ⟨hm1, hu1, hj1⟩ := cp_n hob hfb2 hfr e4
  have hme1 : lb_v G1 lenb ≠ 0 := by omega
  have hl2 := hm1.1
  refine lv_aload_n hx hb d_Divisor_setCommon_16 rfl (lv_at hl 0 rfl) ?_
  refine va_get (D := (dC, dI)) (ci := 2) (v := .ref h0o) (C := R_Divisor) (T := F_Divisor) (N := 4) hx hb hts i_Divisor hown hK hP 0 rfl rfl 0 (by decide) (hts _ k_fl_Divisor_14) (fun _ h9 => h9) rfl d_Divisor_setCommon_17 ?_
  refine vp_callSi (W.runV (As := []) (rest := []) ⟨hx, hb, hml, hown, hts⟩ (c_Whole_countTwos l dC dI cA h0o q0o capo lena F1 sga hcapo hn1) (cwV 0 hts (gw_V k_ml_Divisor_34 k_im_Whole_countTwos k_sel_Whole_countTwos k_ini_Whole k_code_Whole_countTwos) rfl rfl rfl (by decide +kernel) ⟨Nat.le_of_ble_eq_true rfl, Nat.le_of_ble_eq_true rfl⟩) ⟨xc_R_blind, va_recv hK hP (ci := 1) (q0 := 1) rfl rfl, fun U hU hW => ⟨rfl, by rw [hU]; exact hP.sub (ws' := [(h0o, .inr (1, [.ref q0o, .int (nI lena), .int sga])), (q0o, .inl (cA, capo, .inl (xn_f F1)))]) [1, 2] rfl, va_K.moved hW.alike (hK.sub (tys' := [(cA, .int)]) [0] rfl)⟩⟩ rfl rfl hl.1 rfl (lv_room (Nat.le_of_ble_eq_true rfl)) d_Divisor_setCommon_20 ⟨Nat.zero_le _, Nat.zero_le _⟩) (fun r_ e_r => ?_)
  obtain ⟨ta, et, ht1, -, ht2⟩ := e_r
  obtain ⟨oa, ht3, ht4⟩ := ht2 hne1
  subst et
  refine lv_istore_n (lv' := [(3, .int (nI ta)), (0, .ref d0), (1, .ref h0a), (2, .ref h0b)]) hx hb d_Divisor_setCommon_23 rfl hl (by decide) rfl (fun ls hl => ?_)
  refine lv_aload_n hx hb d_Divisor_setCommon_24 rfl (lv_at hl 1 rfl) ?_
  refine va_get (D := (dC, dI)) (ci := 2) (v := .ref h0r) (C := R_Divisor) (T := F_Divisor) (N := 4) hx hb hts i_Divisor hown hK hP 0 rfl rfl 1 (by decide) (hts _ k_fl_Divisor_20) (fun _ h9 => h9) rfl d_Divisor_setCommon_25 ?_
  refine vp_callSi (W.runV (As := []) (rest := []) ⟨hx, hb, hml, hown, hts⟩ (c_Whole_countTwos l dC dI cA h0r q0r capr lenb G1 sgb hcapr hm1) (cwV 0 hts (gw_V k_ml_Divisor_34 k_im_Whole_countTwos k_sel_Whole_countTwos k_ini_Whole k_code_Whole_countTwos) rfl rfl rfl (by decide +kernel) ⟨Nat.le_of_ble_eq_true rfl, Nat.le_of_ble_eq_true rfl⟩) ⟨xc_R_blind, va_recv hK hP (ci := 1) (q0 := 3) rfl rfl, fun U hU hW => ⟨rfl, by rw [hU]; exact hP.sub (ws' := [(h0r, .inr (1, [.ref q0r, .int (nI lenb), .int sgb])), (q0r, .inl (cA, capr, .inl (xn_f G1)))]) [3, 4] rfl, va_K.moved hW.alike (hK.sub (tys' := [(cA, .int)]) [0] rfl)⟩⟩ rfl rfl hl.1 rfl (lv_room (Nat.le_of_ble_eq_true rfl)) d_Divisor_setCommon_28 ⟨Nat.zero_le _, Nat.zero_le _⟩) (fun r_ e_r => ?_)
  obtain ⟨tb, et, hq1, -, hq2⟩ := e_r
  obtain ⟨ob, hq3, hq4⟩ := hq2 hme1
  subst et
  refine lv_istore (lv' := [(4, .int (nI tb)), (3, .int (nI ta)), (0, .ref d0), (1, .ref h0a), (2, .ref h0b)]) hx hb d_Divisor_setCommon_31 hl (by decide) rfl (fun ls hl => ?_)
  refine lv_aload_n hx hb d_Divisor_setCommon_33 rfl (lv_at hl 2 rfl) ?_
  refine lv_iload_n hx hb d_Divisor_setCommon_34 rfl (lv_at hl 1 rfl) ?_
  refine lv_iload hx hb d_Divisor_setCommon_35 (lv_at hl 0 rfl) ?_
  obtain ⟨tm, etm⟩ : ∃ tm, tm = min ta tb := ⟨_, rfl⟩
  refine xn_mmin (v := tm) hx hb (by rw [hml]; exact hl.1.symm) hown (hts _ k_ml_Divisor_44) (hts _ k_st_Math_min) (hts _ k_ini_Math) (hts _ k_code_Math_min) (Nat.le_of_ble_eq_true rfl) (Nat.le_of_ble_eq_true rfl) (Nat.zero_le _) (Nat.zero_le _) (by omega) (by omega) etm d_Divisor_setCommon_37 ?_
  refine va_put (D := (dC, dI)) (ci := 2) (v := .int (nI tm)) (ty := .int) (C := R_Divisor) (T := F_Divisor) (N := 4) hx hb hts i_Divisor t_Divisor t_Divisor_ok n_Divisor hown hK hP hD hS 0 rfl rfl 2 (by decide) (hts _ k_fl_Divisor_23) (fun _ h9 => h9) rfl (by decide +kernel) rfl rfl (Nat.le_of_ble_eq_true rfl) d_Divisor_setCommon_40 (fun H locs hP hD hS => ?_)
  have hP : va_P (dC, dI) classes ([(d0, .inr (2, [.ref h0o, .ref h0r, .int (nI tm), .int (nI iv)])), (h0o, .inr (1, [.ref q0o, .int (nI lena), .int sga])), (q0o, .inl (cA, capo, .inl (xn_f F1))), (h0r, .inr (1, [.ref q0r, .int (nI lenb), .int sgb])), (q0r, .inl (cA, capr, .inl (xn_f G1))), (h0a, .inr (1, [.ref q0a, .int (nI lena), .int sga])), (q0a, .inl (cA, capa, .inl (xn_f fa))), (h0b, .inr (1, [.ref q0b, .int (nI lenb), .int sgb])), (q0b, .inl (cA, capb, .inl (xn_f fb)))]) H := hP
  have hD : va_D A ([(d0, .inr (2, [.ref h0o, .ref h0r, .int (nI tm), .int (nI iv)])), (h0o, .inr (1, [.ref q0o, .int (nI lena), .int sga])), (q0o, .inl (cA, capo, .inl (xn_f F1))), (h0r, .inr (1, [.ref q0r, .int (nI lenb), .int sgb])), (q0r, .inl (cA, capr, .inl (xn_f G1))), (h0a, .inr (1, [.ref q0a, .int (nI lena), .int sga])), (q0a, .inl (cA, capa, .inl (xn_f fa))), (h0b, .inr (1, [.ref q0b, .int (nI lenb), .int sgb])), (q0b, .inl (cA, capb, .inl (xn_f fb)))]) := hD
  refine lv_aload_n hx hb d_Divisor_setCommon_43 rfl (lv_at hl 2 rfl) ?_
  refine va_get (D := (dC, dI)) (ci := 2) (v := .ref h0o) (C := R_Divisor) (T := F_Divisor) (N := 4) hx hb hts i_Divisor hown hK hP 0 rfl rfl 0 (by decide) (hts _ k_fl_Divisor_14) (fun _ h9 => h9) rfl d_Divisor_setCommon_44 ?_
  refine lv_iload_n hx hb d_Divisor_setCommon_47 rfl (lv_at hl 1 rfl) ?_
  have hFc := va_free (wc := [(h0o, .inr (1, [.ref q0o, .int (nI lena), .int sga])), (q0o, .inl (cA, capo, .inl (xn_f F1)))]) hD hS hA [1, 2] rfl
  refine va_callv (va_runV (As := [.int (nI ta)]) (rest := []) ⟨hx, hb, hml, hown, hts⟩ (c_Whole_shiftDown l dC dI H.size cA h0o q0o capo lena F1 sga ta hcapo hn1 (by omega)) (cwV 1 hts (gw_V k_ml_Divisor_38 k_im_Whole_shiftDown k_sel_Whole_shiftDown k_ini_Whole k_code_Whole_shiftDown) rfl rfl rfl (by decide +kernel) ⟨Nat.le_of_ble_eq_true rfl, Nat.le_of_ble_eq_true rfl⟩) ⟨xc_W_blind, va_recv hK hP (ci := 1) (q0 := 1) rfl rfl, fun U hU hW => ⟨rfl, by rw [hU], by rw [hU]; exact hP.sub (ws' := [(h0o, .inr (1, [.ref q0o, .int (nI lena), .int sga])), (q0o, .inl (cA, capo, .inl (xn_f F1)))]) [1, 2] rfl, va_K.moved hW.alike (hK.sub (tys' := [(cA, .int)]) [0] rfl), (hD.sub (ws' := [(h0o, .inr (1, [.ref q0o, .int (nI lena), .int sga])), (q0o, .inl (cA, capo, .inl (xn_f F1)))]) [1, 2] (by decide) rfl).weaken (fun _ _ _ _ => trivial)⟩⟩ rfl rfl hl.1 rfl (lv_room (Nat.le_of_ble_eq_true rfl)) d_Divisor_setCommon_48 ⟨Nat.zero_le _, Nat.zero_le _⟩) hS (fun q _ h => hFc q h) hFc (fun u t_ H locs ht_ hvm_ hw hB hz1 hk1 hS => ?_)
  obtain ⟨F, lenF, sg2⟩ := u
  rw [ht_] at hB
  obtain ⟨hP, hD⟩ := xj_2 1 2 hP hD rfl rfl hk1 hB
  have hP : va_P (dC, dI) classes ([(d0, .inr (2, [.ref h0o, .ref h0r, .int (nI tm), .int (nI iv)])), (h0o, .inr (1, [.ref q0o, .int (nI lenF), .int sg2])), (q0o, .inl (cA, capo, .inl (xn_f F))), (h0r, .inr (1, [.ref q0r, .int (nI lenb), .int sgb])), (q0r, .inl (cA, capr, .inl (xn_f G1))), (h0a, .inr (1, [.ref q0a, .int (nI lena), .int sga])), (q0a, .inl (cA, capa, .inl (xn_f fa))), (h0b, .inr (1, [.ref q0b, .int (nI lenb), .int sgb])), (q0b, .inl (cA, capb, .inl (xn_f fb)))]) H := hP
  have hD : va_D A ([(d0, .inr (2, [.ref h0o, .ref h0r, .int (nI tm), .int (nI iv)])), (h0o, .inr (1, [.ref q0o, .int (nI lenF), .int sg2])), (q0o, .inl (cA, capo, .inl (xn_f F))), (h0r, .inr (1, [.ref q0r, .int (nI lenb), .int sgb])), (q0r, .inl (cA, capr, .inl (xn_f G1))), (h0a, .inr (1, [.ref q0a, .int (nI lena), .int sga])), (q0a, .inl (cA, capa, .inl (xn_f fa))), (h0b, .inr (1, [.ref q0b, .int (nI lenb), .int sgb])), (q0b, .inl (cA, capb, .inl (xn_f fb)))]) := hD
  dsimp only at hw
  obtain ⟨hn2, hv2, hs2⟩ := hw
  rw [ht3, Nat.mul_div_cancel_left _ (Nat.two_pow_pos ta)] at hv2
  have hne2 : lb_v F lenF ≠ 0 := by omega
  rw [if_neg (fun q => hne2 ((lb_n0 hn2).mpr q))] at hs2
  have hs2 := hs2.symm
  subst hs2
  have hF := wh_re hoa hna hn2 hne2
  refine lv_aload_n hx hb d_Divisor_setCommon_51 rfl (lv_at hl 2 rfl) ?_
  refine va_get (D := (dC, dI)) (ci := 2) (v := .ref h0r) (C := R_Divisor) (T := F_Divisor) (N := 4) hx hb hts i_Divisor hown hK hP 0 rfl rfl 1 (by decide) (hts _ k_fl_Divisor_20) (fun _ h9 => h9) rfl d_Divisor_setCommon_52 ?_
  refine lv_iload hx hb d_Divisor_setCommon_55 (lv_at hl 0 rfl) ?_
  have hFc := va_free (wc := [(h0r, .inr (1, [.ref q0r, .int (nI lenb), .int sgb])), (q0r, .inl (cA, capr, .inl (xn_f G1)))]) hD hS hA [3, 4] rfl
  refine va_callv (va_runV (As := [.int (nI tb)]) (rest := []) ⟨hx, hb, hml, hown, hts⟩ (c_Whole_shiftDown l dC dI H.size cA h0r q0r capr lenb G1 sgb tb hcapr hm1 (by omega)) (cwV 1 hts (gw_V k_ml_Divisor_38 k_im_Whole_shiftDown k_sel_Whole_shiftDown k_ini_Whole k_code_Whole_shiftDown) rfl rfl rfl (by decide +kernel) ⟨Nat.le_of_ble_eq_true rfl, Nat.le_of_ble_eq_true rfl⟩) ⟨xc_W_blind, va_recv hK hP (ci := 1) (q0 := 3) rfl rfl, fun U hU hW => ⟨rfl, by rw [hU], by rw [hU]; exact hP.sub (ws' := [(h0r, .inr (1, [.ref q0r, .int (nI lenb), .int sgb])), (q0r, .inl (cA, capr, .inl (xn_f G1)))]) [3, 4] rfl, va_K.moved hW.alike (hK.sub (tys' := [(cA, .int)]) [0] rfl), (hD.sub (ws' := [(h0r, .inr (1, [.ref q0r, .int (nI lenb), .int sgb])), (q0r, .inl (cA, capr, .inl (xn_f G1)))]) [3, 4] (by decide) rfl).weaken (fun _ _ _ _ => trivial)⟩⟩ rfl rfl hl.1 rfl (lv_room (Nat.le_of_ble_eq_true rfl)) d_Divisor_setCommon_57 ⟨Nat.zero_le _, Nat.zero_le _⟩) hS (fun q _ h => hFc q h) hFc (fun u t_ H locs ht_ hvm_ hw hB hz1 hk1 hS => ?_)
  obtain ⟨G, lenG, sg2⟩ := u
  rw [ht_] at hB
  obtain ⟨hP, hD⟩ := xj_2 3 4 hP hD rfl rfl hk1 hB
  have hP : va_P (dC, dI) classes ([(d0, .inr (2, [.ref h0o, .ref h0r, .int (nI tm), .int (nI iv)])), (h0o, .inr (1, [.ref q0o, .int (nI lenF), .int sga])), (q0o, .inl (cA, capo, .inl (xn_f F))), (h0r, .inr (1, [.ref q0r, .int (nI lenG), .int sg2])), (q0r, .inl (cA, capr, .inl (xn_f G))), (h0a, .inr (1, [.ref q0a, .int (nI lena), .int sga])), (q0a, .inl (cA, capa, .inl (xn_f fa))), (h0b, .inr (1, [.ref q0b, .int (nI lenb), .int sgb])), (q0b, .inl (cA, capb, .inl (xn_f fb)))]) H := hP
  have hD : va_D A ([(d0, .inr (2, [.ref h0o, .ref h0r, .int (nI tm), .int (nI iv)])), (h0o, .inr (1, [.ref q0o, .int (nI lenF), .int sga])), (q0o, .inl (cA, capo, .inl (xn_f F))), (h0r, .inr (1, [.ref q0r, .int (nI lenG), .int sg2])), (q0r, .inl (cA, capr, .inl (xn_f G))), (h0a, .inr (1, [.ref q0a, .int (nI lena), .int sga])), (q0a, .inl (cA, capa, .inl (xn_f fa))), (h0b, .inr (1, [.ref q0b, .int (nI lenb), .int sgb])), (q0b, .inl (cA, capb, .inl (xn_f fb)))]) := hD
  dsimp only at hw
  obtain ⟨hm2, hu2, hs2⟩ := hw
  rw [hq3, Nat.mul_div_cancel_left _ (Nat.two_pow_pos tb)] at hu2
  have hme2 : lb_v G lenG ≠ 0 := by omega
  rw [if_neg (fun q => hme2 ((lb_n0 hm2).mpr q))] at hs2
  have hs2 := hs2.symm
  subst hs2
  have hG := wh_re hob hnb hm2 hme2
  have hw1 : lb_v F lenF * lb_v G lenG < 2 ^ 1611 := by
    have h1 : lb_v F lenF ≤ lb_v fa lena := by rw [← hv1, ht3, hv2]; exact Nat.le_mul_of_pos_left _ (Nat.two_pow_pos ta)
    have h2 : lb_v G lenG ≤ lb_v fb lenb := by rw [← hu1, hq3, hu2]; exact Nat.le_mul_of_pos_left _ (Nat.two_pow_pos tb)
    exact Nat.lt_of_le_of_lt (Nat.mul_le_mul h1 h2) hw0
  refine lv_aload_n hx hb d_Divisor_setCommon_60 rfl (lv_at hl 2 rfl) ?_
  have hFc := va_free (wc := [(d0, .inr (2, [.ref h0o, .ref h0r, .int (nI tm), .int (nI iv)])), (h0o, .inr (1, [.ref q0o, .int (nI lenF), .int sga])), (q0o, .inl (cA, capo, .inl (xn_f F))), (h0r, .inr (1, [.ref q0r, .int (nI lenG), .int sgb])), (q0r, .inl (cA, capr, .inl (xn_f G)))]) hD hS hA [0, 1, 2, 3, 4] rfl
  refine va_callv (va_runV (As := []) (rest := []) ⟨hx, hb, hml, hown, hts⟩ (c_Divisor_makeEqual l dC dI H.size cA d0 h0r tm iv h0o q0o capo lenF F sga q0r capr lenG G sgb hcapo hcapr hF hG (by omega) (by omega) hw1) (cwV 0 hts (gw_V k_ml_Divisor_50 k_im_Divisor_makeEqual k_sel_Divisor_makeEqual k_ini_Divisor k_code_Divisor_makeEqual) rfl rfl rfl (by decide +kernel) ⟨Nat.le_of_ble_eq_true rfl, Nat.le_of_ble_eq_true rfl⟩) ⟨xc_W_blind, va_recv hK hP (ci := 2) (q0 := 0) rfl rfl, fun U hU hW => ⟨rfl, by rw [hU], by rw [hU]; exact hP.sub (ws' := [(d0, .inr (2, [.ref h0o, .ref h0r, .int (nI tm), .int (nI iv)])), (h0o, .inr (1, [.ref q0o, .int (nI lenF), .int sga])), (q0o, .inl (cA, capo, .inl (xn_f F))), (h0r, .inr (1, [.ref q0r, .int (nI lenG), .int sgb])), (q0r, .inl (cA, capr, .inl (xn_f G)))]) [0, 1, 2, 3, 4] rfl, va_K.moved hW.alike (hK.sub (tys' := [(cA, .int)]) [0] rfl), (hD.sub (ws' := [(d0, .inr (2, [.ref h0o, .ref h0r, .int (nI tm), .int (nI iv)])), (h0o, .inr (1, [.ref q0o, .int (nI lenF), .int sga])), (q0o, .inl (cA, capo, .inl (xn_f F))), (h0r, .inr (1, [.ref q0r, .int (nI lenG), .int sgb])), (q0r, .inl (cA, capr, .inl (xn_f G)))]) [0, 1, 2, 3, 4] (by decide) rfl).weaken (fun _ _ _ _ => trivial)⟩⟩ rfl rfl hl.1 rfl (lv_room (Nat.le_of_ble_eq_true rfl)) d_Divisor_setCommon_61 ⟨Nat.zero_le _, Nat.zero_le _⟩) hS (fun q _ h => hFc q h) hFc (fun u t_ H locs ht_ hvm_ hw hB hz1 hk1 hS => ?_)
  obtain ⟨F2, len2, G2, len3⟩ := u
  rw [ht_] at hB
  obtain ⟨hP, hD⟩ := xj_5 0 1 2 3 4 hP hD rfl rfl rfl rfl rfl hk1 hB
  have hP : va_P (dC, dI) classes ([(d0, .inr (2, [.ref h0o, .ref h0r, .int (nI tm), .int (nI iv)])), (h0o, .inr (1, [.ref q0o, .int (nI len2), .int sga])), (q0o, .inl (cA, capo, .inl (xn_f F2))), (h0r, .inr (1, [.ref q0r, .int (nI len3), .int sgb])), (q0r, .inl (cA, capr, .inl (xn_f G2))), (h0a, .inr (1, [.ref q0a, .int (nI lena), .int sga])), (q0a, .inl (cA, capa, .inl (xn_f fa))), (h0b, .inr (1, [.ref q0b, .int (nI lenb), .int sgb])), (q0b, .inl (cA, capb, .inl (xn_f fb)))]) H := hP
  have hD : va_D A ([(d0, .inr (2, [.ref h0o, .ref h0r, .int (nI tm), .int (nI iv)])), (h0o, .inr (1, [.ref q0o, .int (nI len2), .int sga])), (q0o, .inl (cA, capo, .inl (xn_f F2))), (h0r, .inr (1, [.ref q0r, .int (nI len3), .int sgb])), (q0r, .inl (cA, capr, .inl (xn_f G2))), (h0a, .inr (1, [.ref q0a, .int (nI lena), .int sga])), (q0a, .inl (cA, capa, .inl (xn_f fa))), (h0b, .inr (1, [.ref q0b, .int (nI lenb), .int sgb])), (q0b, .inl (cA, capb, .inl (xn_f fb)))]) := hD
  dsimp only at hw
  obtain ⟨w1, w2, w3, w4⟩ := hw
  obtain ⟨hp2, ho2⟩ := gd_low w1.2.1 w4
  refine lv_aload_n hx hb d_Divisor_setCommon_64 rfl (lv_at hl 2 rfl) ?_
  refine va_get (D := (dC, dI)) (ci := 2) (v := .ref h0o) (C := R_Divisor) (T := F_Divisor) (N := 4) hx hb hts i_Divisor hown hK hP 0 rfl rfl 0 (by decide) (hts _ k_fl_Divisor_14) (fun _ h9 => h9) rfl d_Divisor_setCommon_65 ?_
  refine lv_iconst (v := nI 1) hx hb d_Divisor_setCommon_68 rfl ?_
  refine va_put (D := (dC, dI)) (ci := 1) (v := .int (nI 1)) (ty := .int) (C := R_Whole) (T := F_Whole) (N := 3) hx hb hts i_Whole t_Whole t_Whole_ok n_Whole hown hK hP hD hS 1 rfl rfl 2 (by decide) (hts _ k_fl_Divisor_53) (fun _ h9 => h9) rfl (by decide +kernel) rfl rfl (Nat.le_of_ble_eq_true rfl) d_Divisor_setCommon_69 (fun H locs hP hD hS => ?_)
  have hP : va_P (dC, dI) classes ([(d0, .inr (2, [.ref h0o, .ref h0r, .int (nI tm), .int (nI iv)])), (h0o, .inr (1, [.ref q0o, .int (nI len2), .int (nI 1)])), (q0o, .inl (cA, capo, .inl (xn_f F2))), (h0r, .inr (1, [.ref q0r, .int (nI len3), .int sgb])), (q0r, .inl (cA, capr, .inl (xn_f G2))), (h0a, .inr (1, [.ref q0a, .int (nI lena), .int sga])), (q0a, .inl (cA, capa, .inl (xn_f fa))), (h0b, .inr (1, [.ref q0b, .int (nI lenb), .int sgb])), (q0b, .inl (cA, capb, .inl (xn_f fb)))]) H := hP
  have hD : va_D A ([(d0, .inr (2, [.ref h0o, .ref h0r, .int (nI tm), .int (nI iv)])), (h0o, .inr (1, [.ref q0o, .int (nI len2), .int (nI 1)])), (q0o, .inl (cA, capo, .inl (xn_f F2))), (h0r, .inr (1, [.ref q0r, .int (nI len3), .int sgb])), (q0r, .inl (cA, capr, .inl (xn_f G2))), (h0a, .inr (1, [.ref q0a, .int (nI lena), .int sga])), (q0a, .inl (cA, capa, .inl (xn_f fa))), (h0b, .inr (1, [.ref q0b, .int (nI lenb), .int sgb])), (q0b, .inl (cA, capb, .inl (xn_f fb)))]) := hD
  refine lv_aload_n hx hb d_Divisor_setCommon_72 rfl (lv_at hl 2 rfl) ?_
  have hFc := va_free (wc := [(d0, .inr (2, [.ref h0o, .ref h0r, .int (nI tm), .int (nI iv)])), (h0o, .inr (1, [.ref q0o, .int (nI len2), .int (nI 1)])), (q0o, .inl (cA, capo, .inl (xn_f F2)))]) hD hS hA [0, 1, 2] rfl
  refine va_callv (va_runV (As := []) (rest := []) ⟨hx, hb, hml, hown, hts⟩ (c_Divisor_setInverse l dC dI H.size cA d0 h0r tm iv h0o q0o capo len2 F2 (nI 1) hcapo (wh_n w1) hp2 ho2) (cwV 0 hts (gw_V k_ml_Divisor_41 k_im_Divisor_setInverse k_sel_Divisor_setInverse k_ini_Divisor k_code_Divisor_setInverse) rfl rfl rfl (by decide +kernel) ⟨Nat.le_of_ble_eq_true rfl, Nat.le_of_ble_eq_true rfl⟩) ⟨xc_W_blind, va_recv hK hP (ci := 2) (q0 := 0) rfl rfl, fun U hU hW => ⟨rfl, by rw [hU], by rw [hU]; exact hP.sub (ws' := [(d0, .inr (2, [.ref h0o, .ref h0r, .int (nI tm), .int (nI iv)])), (h0o, .inr (1, [.ref q0o, .int (nI len2), .int (nI 1)])), (q0o, .inl (cA, capo, .inl (xn_f F2)))]) [0, 1, 2] rfl, va_K.moved hW.alike (hK.sub (tys' := [(cA, .int)]) [0] rfl), (hD.sub (ws' := [(d0, .inr (2, [.ref h0o, .ref h0r, .int (nI tm), .int (nI iv)])), (h0o, .inr (1, [.ref q0o, .int (nI len2), .int (nI 1)])), (q0o, .inl (cA, capo, .inl (xn_f F2)))]) [0, 1, 2] (by decide) rfl).weaken (fun _ _ _ _ => trivial)⟩⟩ rfl rfl hl.1 rfl (lv_room (Nat.le_of_ble_eq_true rfl)) d_Divisor_setCommon_73 ⟨Nat.zero_le _, Nat.zero_le _⟩) hS (fun q _ h => hFc q h) hFc (fun u t_ H locs ht_ hvm_ hw hB hz1 hk1 hS => ?_)
  obtain ⟨iv2, e_iv2⟩ : ∃ z, z = u := ⟨u, rfl⟩
  rw [← e_iv2] at hw hB
  rw [ht_] at hB
  obtain ⟨hP, hD⟩ := xj_3 0 1 2 hP hD rfl rfl rfl hk1 hB
  have hP : va_P (dC, dI) classes ([(d0, .inr (2, [.ref h0o, .ref h0r, .int (nI tm), .int (nI iv2)])), (h0o, .inr (1, [.ref q0o, .int (nI len2), .int (nI 1)])), (q0o, .inl (cA, capo, .inl (xn_f F2))), (h0r, .inr (1, [.ref q0r, .int (nI len3), .int sgb])), (q0r, .inl (cA, capr, .inl (xn_f G2))), (h0a, .inr (1, [.ref q0a, .int (nI lena), .int sga])), (q0a, .inl (cA, capa, .inl (xn_f fa))), (h0b, .inr (1, [.ref q0b, .int (nI lenb), .int sgb])), (q0b, .inl (cA, capb, .inl (xn_f fb)))]) H := hP
  have hD : va_D A ([(d0, .inr (2, [.ref h0o, .ref h0r, .int (nI tm), .int (nI iv2)])), (h0o, .inr (1, [.ref q0o, .int (nI len2), .int (nI 1)])), (q0o, .inl (cA, capo, .inl (xn_f F2))), (h0r, .inr (1, [.ref q0r, .int (nI len3), .int sgb])), (q0r, .inl (cA, capr, .inl (xn_f G2))), (h0a, .inr (1, [.ref q0a, .int (nI lena), .int sga])), (q0a, .inl (cA, capa, .inl (xn_f fa))), (h0b, .inr (1, [.ref q0b, .int (nI lenb), .int sgb])), (q0b, .inl (cA, capb, .inl (xn_f fb)))]) := hD
  have hpost : lb_n capo F2 len2 ∧ 0 < len2 ∧ F2 0 % 2 = 1 ∧ F2 0 * iv2 % 2147483648 = 1 ∧ tm < 2 ^ 30 ∧ lb_v F2 len2 * 2 ^ tm = Nat.gcd (lb_v fa lena) (lb_v fb lenb) ∧ wh_ok capr G2 len3 sgb := ⟨wh_n w1, hp2, ho2, hw.2, by omega, by rw [w3, hv2, hu2, ← hv1, ← hu1, ht3, hq3, gd_min ht4 hq4, etm], w2⟩
  exact W.vret hx hb hr (fun T_ ht_ hW_ => ⟨⟨(tm, iv2, F2, len2, G2, len3), rfl, hpost, by show va_P (dC, dI) classes _ T_.heap; rw [ht_]; exact hP⟩, hS.F ht_⟩) hS.2.2 d_Divisor_setCommon_76
