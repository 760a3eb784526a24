set_option maxHeartbeats 8000000 in
set_option maxRecDepth 100000 in
/-- new Whole(cap) -/
theorem c_Whole_init (l : Launch) (dC : Nat → ClassId) (dI : Nat → Nat → Nat) (sz : Nat) (cA : ClassId) (h0 cap : Nat) (hcap : cap ≤ 52) : Met l y_Whole_init w_Whole_init ({ frames := 1, cells := 1, slots := 52, locals := 12 }) (xc_W [.ref h0, .int (nI cap)] dC dI ([(h0, .inr (1, [.null, .int 0, .int 0]))]) [(cA, .int)] sz) (va_Qv (S := Nat) (fun _ => True) (fun u t => va_P (dC, dI) classes [(h0, .inr (1, [.ref u, .int (nI 0), .int (nI 0)])), (u, .inl (cA, cap, .inl (xn_f (fun _ => 0))))] t.heap ∧ va_D (va_A ([(h0, .inr (1, [.null, .int 0, .int 0]))]) sz) [(h0, .inr (1, [.ref u, .int (nI 0), .int (nI 0)])), (u, .inl (cA, cap, .inl (xn_f (fun _ => 0))))]) (va_A ([(h0, .inr (1, [.null, .int 0, .int 0]))]) sz)) 1 52 (va_A ([(h0, .inr (1, [.null, .int 0, .int 0]))]) sz) := by
  refine Met.ofW (cc := b_Whole_init) (maxL := 2) (ret := none) (by decide) rfl ?_
  intro p e s m args below meth c s₁ B hml hv
  obtain ⟨rfl, hsz, hP, hK, hD0⟩ := hv
  have hx := B.exec
  have hb := B.bytes
  have hr := B.returns
  have hts : ∀ w ∈ gw_tbl, w.before ([.ref h0, .int (nI cap)] : List Value).toArray s = true := fun w h => atoms_spec (ws := w_Whole_init) B.pre w (List.mem_cons_of_mem _ h)
  have hown : s.vm.findClass R_Whole = some m.cls := findClass_of_methodNamed B.named
  have hlocks := B.notSynchronized
  have hin : meth.name = "<init>" := (name_of_methodNamed B.named B.method).1
  subst hsz
  have hD := hD0.self (sz := s.heap.size)
  generalize hAe : va_A ([(h0, .inr (1, [.null, .int 0, .int 0]))]) s.heap.size = A at hD ⊢
  have hA : ∀ q : Nat, s.heap.size ≤ q → A q := fun q h => by rw [← hAe]; exact Or.inr h
  have hS : va_S A s.heap s.heap [] := va_S.rf
  have hl := lv_entry ([.ref h0, .int (nI cap)]) (n := 2) (Nat.le_of_ble_eq_true rfl)
  rw [lg_entry_eq]
  generalize (lg_sl ([.ref h0, .int (nI cap)]) ++ List.replicate (2 - (lg_sl ([.ref h0, .int (nI cap)])).length) Slot.unset).toArray = ls at hl ⊢
  have hl : lv_has ls 2 [(0, .ref h0), (1, .int (nI cap))] := hl
  refine lv_aload_n hx hb d_Whole_init_0 rfl (lv_at hl 0 rfl) ?_
  refine W.objInit hx hb hown (hts _ k_ml_Whole_3) (hts _ k_im_objectInit) (hts _ k_code_oi) rfl (by rw [hml]; exact hl.1) rfl d_Whole_init_1 (Nat.le_of_ble_eq_true rfl) (Nat.le_of_ble_eq_true rfl) ?_
  refine W.eq (g2 := F0 m 4 ls []) rfl ?_
  refine lv_aload_n hx hb d_Whole_init_4 rfl (lv_at hl 0 rfl) ?_
  refine lv_iconst (v := nI 0) hx hb d_Whole_init_5 rfl ?_
  refine va_put (D := (dC, dI)) (ci := 1) (v := .int (nI 0)) (ty := .int) (C := R_Whole) (T := F_Whole) (N := 3) hx hb hts i_Whole t_Whole t_Whole_ok n_Whole hown hK hP hD hS 0 rfl rfl 1 (by decide) (hts _ k_fl_Whole_9) (fun _ h9 => h9) rfl (by decide +kernel) rfl rfl (Nat.le_of_ble_eq_true rfl) d_Whole_init_6 (fun H locs hP hD hS => ?_)
  have hP : va_P (dC, dI) classes ([(h0, .inr (1, [.null, .int (nI 0), .int 0]))]) H := hP
  have hD : va_D A ([(h0, .inr (1, [.null, .int (nI 0), .int 0]))]) := hD
  refine lv_aload_n hx hb d_Whole_init_9 rfl (lv_at hl 0 rfl) ?_
  refine lv_iconst (v := nI 0) hx hb d_Whole_init_10 rfl ?_
  refine va_put (D := (dC, dI)) (ci := 1) (v := .int (nI 0)) (ty := .int) (C := R_Whole) (T := F_Whole) (N := 3) hx hb hts i_Whole t_Whole t_Whole_ok n_Whole hown hK hP hD hS 0 rfl rfl 2 (by decide) (hts _ k_fl_Whole_15) (fun _ h9 => h9) rfl (by decide +kernel) rfl rfl (Nat.le_of_ble_eq_true rfl) d_Whole_init_11 (fun H locs hP hD hS => ?_)
  have hP : va_P (dC, dI) classes ([(h0, .inr (1, [.null, .int (nI 0), .int (nI 0)]))]) H := hP
  have hD : va_D A ([(h0, .inr (1, [.null, .int (nI 0), .int (nI 0)]))]) := hD
  refine lv_aload_n hx hb d_Whole_init_14 rfl (lv_at hl 0 rfl) ?_
  refine lv_iload_n hx hb d_Whole_init_15 rfl (lv_at hl 1 rfl) ?_
  refine xn_newI hx hb (hts _ k_arr_int) hK hP hD hS hA 0 rfl (N := cap) (by omega) (Nat.le_of_ble_eq_true rfl) (show 0 + cap ≤ 52 by omega) d_Whole_init_16 (fun q0 H hP hD hS => ?_)
  have hP : va_P (dC, dI) classes ([(h0, .inr (1, [.null, .int (nI 0), .int (nI 0)])), (q0, .inl (cA, cap, .inl (xn_f (fun _ => 0))))]) H := hP
  have hD : va_D A ([(h0, .inr (1, [.null, .int (nI 0), .int (nI 0)])), (q0, .inl (cA, cap, .inl (xn_f (fun _ => 0))))]) := hD
  refine va_putF (D := (dC, dI)) (ci := 1) (v := .ref q0) (ty := .array .int) (C := R_Whole) (T := F_Whole) (N := 3) hx hb hts i_Whole t_Whole t_Whole_ok n_Whole hown hK hP hD hS 0 rfl rfl 0 (by decide) (hts _ k_fl_Whole_18) (fun _ h9 => h9) rfl hin rfl (by decide +kernel) rfl rfl (Nat.le_of_ble_eq_true rfl) d_Whole_init_18 (fun H locs hP hD hS => ?_)
  have hP : va_P (dC, dI) classes ([(h0, .inr (1, [.ref q0, .int (nI 0), .int (nI 0)])), (q0, .inl (cA, cap, .inl (xn_f (fun _ => 0))))]) H := hP
  have hD : va_D A ([(h0, .inr (1, [.ref q0, .int (nI 0), .int (nI 0)])), (q0, .inl (cA, cap, .inl (xn_f (fun _ => 0))))]) := hD
  refine W.widen (k := 1) (n := 52) (by omega) (by omega) ?_
  exact W.vret hx hb hr (fun T_ ht_ hW_ => ⟨⟨q0, rfl, trivial, by rw [ht_]; exact hP, hD⟩, hS.F ht_⟩) hS.2.2 d_Whole_init_21
set_option maxHeartbeats 8000000 in
set_option maxRecDepth 100000 in
/-- new Divisor() -/
theorem c_Divisor_init (l : Launch) (dC : Nat → ClassId) (dI : Nat → Nat → Nat) (sz : Nat) (cA : ClassId) (d0 : Nat)  : Met l y_Divisor_init w_Divisor_init ({ frames := 2, cells := 4, slots := 110, locals := 33 }) (xc_W [.ref d0] dC dI ([(d0, .inr (2, [.null, .null, .int 0, .int 0]))]) [(cA, .int)] sz) (va_Qv (S := Nat × Nat × Nat × Nat) (fun _ => True) (fun u t => va_P (dC, dI) classes [(d0, .inr (2, [.ref u.1, .ref u.2.2.1, .int (nI 0), .int (nI 0)])), (u.1, .inr (1, [.ref u.2.1, .int (nI 0), .int (nI 0)])), (u.2.1, .inl (cA, 26, .inl (xn_f (fun _ => 0)))), (u.2.2.1, .inr (1, [.ref u.2.2.2, .int (nI 0), .int (nI 0)])), (u.2.2.2, .inl (cA, 26, .inl (xn_f (fun _ => 0))))] t.heap ∧ va_D (va_A ([(d0, .inr (2, [.null, .null, .int 0, .int 0]))]) sz) [(d0, .inr (2, [.ref u.1, .ref u.2.2.1, .int (nI 0), .int (nI 0)])), (u.1, .inr (1, [.ref u.2.1, .int (nI 0), .int (nI 0)])), (u.2.1, .inl (cA, 26, .inl (xn_f (fun _ => 0)))), (u.2.2.1, .inr (1, [.ref u.2.2.2, .int (nI 0), .int (nI 0)])), (u.2.2.2, .inl (cA, 26, .inl (xn_f (fun _ => 0))))]) (va_A ([(d0, .inr (2, [.null, .null, .int 0, .int 0]))]) sz)) 4 110 (va_A ([(d0, .inr (2, [.null, .null, .int 0, .int 0]))]) sz) := by
  refine Met.ofW (cc := b_Divisor_init) (maxL := 1) (ret := none) (by decide) rfl ?_
  intro p e s m args below meth c s₁ B hml hv
  obtain ⟨rfl, hsz, hP, hK, hD0⟩ := hv
  have hx := B.exec
  have hb := B.bytes
  have hr := B.returns
  have hts : ∀ w ∈ gw_tbl, w.before ([.ref d0] : List Value).toArray s = true := fun w h => atoms_spec (ws := w_Divisor_init) B.pre w (List.mem_cons_of_mem _ h)
  have hown : s.vm.findClass R_Divisor = some m.cls := findClass_of_methodNamed B.named
  have hlocks := B.notSynchronized
  have hin : meth.name = "<init>" := (name_of_methodNamed B.named B.method).1
  subst hsz
  have hD := hD0.self (sz := s.heap.size)
  generalize hAe : va_A ([(d0, .inr (2, [.null, .null, .int 0, .int 0]))]) s.heap.size = A at hD ⊢
  have hA : ∀ q : Nat, s.heap.size ≤ q → A q := fun q h => by rw [← hAe]; exact Or.inr h
  have hS : va_S A s.heap s.heap [] := va_S.rf
  have hl := lv_entry ([.ref d0]) (n := 1) (Nat.le_of_ble_eq_true rfl)
  rw [lg_entry_eq]
  generalize (lg_sl ([.ref d0]) ++ List.replicate (1 - (lg_sl ([.ref d0])).length) Slot.unset).toArray = ls at hl ⊢
  have hl : lv_has ls 1 [(0, .ref d0)] := hl
  refine lv_aload_n hx hb d_Divisor_init_0 rfl (lv_at hl 0 rfl) ?_
  refine W.objInit hx hb hown (hts _ k_ml_Divisor_3) (hts _ k_im_objectInit) (hts _ k_code_oi) rfl (by rw [hml]; exact hl.1) rfl d_Divisor_init_1 (Nat.le_of_ble_eq_true rfl) (Nat.le_of_ble_eq_true rfl) ?_
  refine W.eq (g2 := F0 m 4 ls []) rfl ?_
  refine lv_aload_n hx hb d_Divisor_init_4 rfl (lv_at hl 0 rfl) ?_
  refine va_new (ci := 1) (fs := [.null, .int 0, .int 0]) (C := R_Whole) (T := F_Whole) (N := 3) hx hb hts i_Whole t_Whole t_Whole_ok hown (hts _ k_cl_Divisor_9) (hts _ k_inst_Whole) (hts _ k_ini_Whole) hK hP hD hS hA rfl (fun j hj => by rcases (show j = 0 ∨ j = 1 ∨ j = 2 by omega) with rfl | rfl | rfl <;> rfl) (Nat.le_of_ble_eq_true rfl) (Nat.le_of_ble_eq_true rfl) d_Divisor_init_5 (fun h0o H hP hD hS => ?_)
  refine lv_dup hx hb d_Divisor_init_8 rfl ?_
  refine lv_bipush (v := nI 26) hx hb d_Divisor_init_9 rfl ?_
  have hPc := xg_P hP
  have hDc := (xg_D hD).weaken (B := fun _ => True) (fun _ _ _ _ => trivial)
  have hFc := xg_F hD hS hA
  refine va_callv (va_runI (As := [.int (nI 26)]) (rest := [.ref h0o, .ref d0]) ⟨hx, hb, hml, hown, hts⟩ (c_Whole_init l dC dI H.size cA h0o 26 (by decide)) (cwI 1 hts (gw_I k_code_Whole_init) rfl rfl rfl (hts _ k_ini_Whole) (hts _ k_ml_Divisor_11) (hts _ k_im_Whole_init) rfl (by decide +kernel) ⟨(Nat.le_of_ble_eq_true rfl), (Nat.le_of_ble_eq_true rfl)⟩) ⟨xc_W_blind, fun U hU hW => ⟨rfl, by rw [hU], by rw [hU]; exact hPc, va_K.moved hW.alike (hK.sub (tys' := [(cA, .int)]) [0] rfl), hDc⟩⟩ rfl rfl hl.1 rfl (lv_room (Nat.le_of_ble_eq_true rfl)) d_Divisor_init_11 ⟨(Nat.le_of_ble_eq_true rfl), (Nat.le_of_ble_eq_true rfl)⟩) hS (fun q _ h => hFc q h) hFc (fun q0o t_ H locs ht_ hvm_ hw_ hB hz1 hk1 hS => ?_)
  obtain ⟨hP1, hD1⟩ := hB
  rw [ht_] at hP1
  obtain ⟨hP, hD⟩ := xg_1 hP hD hk1 hFc hP1 hD1
  have hP : va_P (dC, dI) classes ([(d0, .inr (2, [.null, .null, .int 0, .int 0])), (h0o, .inr (1, [.ref q0o, .int (nI 0), .int (nI 0)])), (q0o, .inl (cA, 26, .inl (xn_f (fun _ => 0))))]) H := hP
  have hD : va_D A ([(d0, .inr (2, [.null, .null, .int 0, .int 0])), (h0o, .inr (1, [.ref q0o, .int (nI 0), .int (nI 0)])), (q0o, .inl (cA, 26, .inl (xn_f (fun _ => 0))))]) := hD
  refine va_putF (D := (dC, dI)) (ci := 2) (v := .ref h0o) (ty := .object "EquationDesk$Whole") (C := R_Divisor) (T := F_Divisor) (N := 4) hx hb hts i_Divisor t_Divisor t_Divisor_ok n_Divisor hown hK hP hD hS 0 rfl rfl 0 (by decide) (hts _ k_fl_Divisor_14) (fun _ h9 => h9) rfl hin rfl (by decide +kernel) rfl rfl (Nat.le_of_ble_eq_true rfl) d_Divisor_init_14 (fun H locs hP hD hS => ?_)
  have hP : va_P (dC, dI) classes ([(d0, .inr (2, [.ref h0o, .null, .int 0, .int 0])), (h0o, .inr (1, [.ref q0o, .int (nI 0), .int (nI 0)])), (q0o, .inl (cA, 26, .inl (xn_f (fun _ => 0))))]) H := hP
  have hD : va_D A ([(d0, .inr (2, [.ref h0o, .null, .int 0, .int 0])), (h0o, .inr (1, [.ref q0o, .int (nI 0), .int (nI 0)])), (q0o, .inl (cA, 26, .inl (xn_f (fun _ => 0))))]) := hD
  refine lv_aload_n hx hb d_Divisor_init_17 rfl (lv_at hl 0 rfl) ?_
  refine va_new (ci := 1) (fs := [.null, .int 0, .int 0]) (C := R_Whole) (T := F_Whole) (N := 3) hx hb hts i_Whole t_Whole t_Whole_ok hown (hts _ k_cl_Divisor_9) (hts _ k_inst_Whole) (hts _ k_ini_Whole) hK hP hD hS hA rfl (fun j hj => by rcases (show j = 0 ∨ j = 1 ∨ j = 2 by omega) with rfl | rfl | rfl <;> rfl) (Nat.le_of_ble_eq_true rfl) (Nat.le_of_ble_eq_true rfl) d_Divisor_init_18 (fun h0r H hP hD hS => ?_)
  refine lv_dup hx hb d_Divisor_init_21 rfl ?_
  refine lv_bipush (v := nI 26) hx hb d_Divisor_init_22 rfl ?_
  have hPc := xg_P hP
  have hDc := (xg_D hD).weaken (B := fun _ => True) (fun _ _ _ _ => trivial)
  have hFc := xg_F hD hS hA
  refine va_callv (va_runI (As := [.int (nI 26)]) (rest := [.ref h0r, .ref d0]) ⟨hx, hb, hml, hown, hts⟩ (c_Whole_init l dC dI H.size cA h0r 26 (by decide)) (cwI 1 hts (gw_I k_code_Whole_init) rfl rfl rfl (hts _ k_ini_Whole) (hts _ k_ml_Divisor_11) (hts _ k_im_Whole_init) rfl (by decide +kernel) ⟨(Nat.le_of_ble_eq_true rfl), (Nat.le_of_ble_eq_true rfl)⟩) ⟨xc_W_blind, fun U hU hW => ⟨rfl, by rw [hU], by rw [hU]; exact hPc, va_K.moved hW.alike (hK.sub (tys' := [(cA, .int)]) [0] rfl), hDc⟩⟩ rfl rfl hl.1 rfl (lv_room (Nat.le_of_ble_eq_true rfl)) d_Divisor_init_24 ⟨(Nat.le_of_ble_eq_true rfl), (Nat.le_of_ble_eq_true rfl)⟩) hS (fun q _ h => hFc q h) hFc (fun q0r t_ H locs ht_ hvm_ hw_ hB hz1 hk1 hS => ?_)
  obtain ⟨hP1, hD1⟩ := hB
  rw [ht_] at hP1
  obtain ⟨hP, hD⟩ := xg_1 hP hD hk1 hFc hP1 hD1
  have hP : va_P (dC, dI) classes ([(d0, .inr (2, [.ref h0o, .null, .int 0, .int 0])), (h0o, .inr (1, [.ref q0o, .int (nI 0), .int (nI 0)])), (q0o, .inl (cA, 26, .inl (xn_f (fun _ => 0)))), (h0r, .inr (1, [.ref q0r, .int (nI 0), .int (nI 0)])), (q0r, .inl (cA, 26, .inl (xn_f (fun _ => 0))))]) H := hP
  have hD : va_D A ([(d0, .inr (2, [.ref h0o, .null, .int 0, .int 0])), (h0o, .inr (1, [.ref q0o, .int (nI 0), .int (nI 0)])), (q0o, .inl (cA, 26, .inl (xn_f (fun _ => 0)))), (h0r, .inr (1, [.ref q0r, .int (nI 0), .int (nI 0)])), (q0r, .inl (cA, 26, .inl (xn_f (fun _ => 0))))]) := hD
  refine va_putF (D := (dC, dI)) (ci := 2) (v := .ref h0r) (ty := .object "EquationDesk$Whole") (C := R_Divisor) (T := F_Divisor) (N := 4) hx hb hts i_Divisor t_Divisor t_Divisor_ok n_Divisor hown hK hP hD hS 0 rfl rfl 1 (by decide) (hts _ k_fl_Divisor_20) (fun _ h9 => h9) rfl hin rfl (by decide +kernel) rfl rfl (Nat.le_of_ble_eq_true rfl) d_Divisor_init_27 (fun H locs hP hD hS => ?_)
  have hP : va_P (dC, dI) classes ([(d0, .inr (2, [.ref h0o, .ref h0r, .int 0, .int 0])), (h0o, .inr (1, [.ref q0o, .int (nI 0), .int (nI 0)])), (q0o, .inl (cA, 26, .inl (xn_f (fun _ => 0)))), (h0r, .inr (1, [.ref q0r, .int (nI 0), .int (nI 0)])), (q0r, .inl (cA, 26, .inl (xn_f (fun _ => 0))))]) H := hP
  have hD : va_D A ([(d0, .inr (2, [.ref h0o, .ref h0r, .int 0, .int 0])), (h0o, .inr (1, [.ref q0o, .int (nI 0), .int (nI 0)])), (q0o, .inl (cA, 26, .inl (xn_f (fun _ => 0)))), (h0r, .inr (1, [.ref q0r, .int (nI 0), .int (nI 0)])), (q0r, .inl (cA, 26, .inl (xn_f (fun _ => 0))))]) := hD
  refine lv_aload_n hx hb d_Divisor_init_30 rfl (lv_at hl 0 rfl) ?_
  refine lv_iconst (v := nI 0) hx hb d_Divisor_init_31 rfl ?_
  refine va_put (D := (dC, dI)) (ci := 2) (v := .int (nI 0)) (ty := .int) (C := R_Divisor) (T := F_Divisor) (N := 4) hx hb hts i_Divisor t_Divisor t_Divisor_ok n_Divisor hown hK hP hD hS 0 rfl rfl 2 (by decide) (hts _ k_fl_Divisor_23) (fun _ h9 => h9) rfl (by decide +kernel) rfl rfl (Nat.le_of_ble_eq_true rfl) d_Divisor_init_32 (fun H locs hP hD hS => ?_)
  have hP : va_P (dC, dI) classes ([(d0, .inr (2, [.ref h0o, .ref h0r, .int (nI 0), .int 0])), (h0o, .inr (1, [.ref q0o, .int (nI 0), .int (nI 0)])), (q0o, .inl (cA, 26, .inl (xn_f (fun _ => 0)))), (h0r, .inr (1, [.ref q0r, .int (nI 0), .int (nI 0)])), (q0r, .inl (cA, 26, .inl (xn_f (fun _ => 0))))]) H := hP
  have hD : va_D A ([(d0, .inr (2, [.ref h0o, .ref h0r, .int (nI 0), .int 0])), (h0o, .inr (1, [.ref q0o, .int (nI 0), .int (nI 0)])), (q0o, .inl (cA, 26, .inl (xn_f (fun _ => 0)))), (h0r, .inr (1, [.ref q0r, .int (nI 0), .int (nI 0)])), (q0r, .inl (cA, 26, .inl (xn_f (fun _ => 0))))]) := hD
  refine lv_aload_n hx hb d_Divisor_init_35 rfl (lv_at hl 0 rfl) ?_
  refine lv_iconst (v := nI 0) hx hb d_Divisor_init_36 rfl ?_
  refine va_put (D := (dC, dI)) (ci := 2) (v := .int (nI 0)) (ty := .int) (C := R_Divisor) (T := F_Divisor) (N := 4) hx hb hts i_Divisor t_Divisor t_Divisor_ok n_Divisor hown hK hP hD hS 0 rfl rfl 3 (by decide) (hts _ k_fl_Divisor_27) (fun _ h9 => h9) rfl (by decide +kernel) rfl rfl (Nat.le_of_ble_eq_true rfl) d_Divisor_init_37 (fun H locs hP hD hS => ?_)
  have hP : va_P (dC, dI) classes ([(d0, .inr (2, [.ref h0o, .ref h0r, .int (nI 0), .int (nI 0)])), (h0o, .inr (1, [.ref q0o, .int (nI 0), .int (nI 0)])), (q0o, .inl (cA, 26, .inl (xn_f (fun _ => 0)))), (h0r, .inr (1, [.ref q0r, .int (nI 0), .int (nI 0)])), (q0r, .inl (cA, 26, .inl (xn_f (fun _ => 0))))]) H := hP
  have hD : va_D A ([(d0, .inr (2, [.ref h0o, .ref h0r, .int (nI 0), .int (nI 0)])), (h0o, .inr (1, [.ref q0o, .int (nI 0), .int (nI 0)])), (q0o, .inl (cA, 26, .inl (xn_f (fun _ => 0)))), (h0r, .inr (1, [.ref q0r, .int (nI 0), .int (nI 0)])), (q0r, .inl (cA, 26, .inl (xn_f (fun _ => 0))))]) := hD
  refine W.widen (k := 4) (n := 110) (by omega) (by omega) ?_
  exact W.vret hx hb hr (fun T_ ht_ hW_ => ⟨⟨(h0o, q0o, h0r, q0r), rfl, trivial, by rw [ht_]; exact hP, hD⟩, hS.F ht_⟩) hS.2.2 d_Divisor_init_40
