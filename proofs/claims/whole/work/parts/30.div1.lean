set_option maxHeartbeats 4000000 in
set_option maxRecDepth 100000 in
/-- setInverse -/
theorem c_Divisor_setInverse (l : Launch) (dC : Nat → ClassId) (dI : Nat → Nat → Nat) (sz : Nat) (cA : ClassId) (d0 h0r tw iv : Nat) (h0o q0o : Nat) (capo leno : Nat) (fo : Nat → Nat) (sgo : Int32) (hcapo : capo ≤ 64) (ho : lb_n capo fo leno) (hpos : 0 < leno) (hodd : fo 0 % 2 = 1) : Met l y_Divisor_setInverse w_Divisor_setInverse ({ frames := 1, cells := 0, slots := 0, locals := 21 }) (xc_W [.ref d0] dC dI ([(d0, .inr (2, [.ref h0o, .ref h0r, .int (nI tw), .int (nI iv)])), (h0o, .inr (1, [.ref q0o, .int (nI leno), .int sgo])), (q0o, .inl (cA, capo, .inl (xn_f fo)))]) [(cA, .int)] sz) (va_Qv (S := Nat) (fun u => u < 2147483648 ∧ fo 0 * u % 2147483648 = 1) (fun u t => va_P (dC, dI) classes ((fun u => [(d0, .inr (2, [.ref h0o, .ref h0r, .int (nI tw), .int (nI u)])), (h0o, .inr (1, [.ref q0o, .int (nI leno), .int sgo])), (q0o, .inl (cA, capo, .inl (xn_f fo)))]) u) t.heap) (va_A ([(d0, .inr (2, [.ref h0o, .ref h0r, .int (nI tw), .int (nI iv)])), (h0o, .inr (1, [.ref q0o, .int (nI leno), .int sgo])), (q0o, .inl (cA, capo, .inl (xn_f fo)))]) sz)) 0 0 (va_A ([(d0, .inr (2, [.ref h0o, .ref h0r, .int (nI tw), .int (nI iv)])), (h0o, .inr (1, [.ref q0o, .int (nI leno), .int sgo])), (q0o, .inl (cA, capo, .inl (xn_f fo)))]) sz) := by
  refine Met.ofW (cc := b_Divisor_setInverse) (maxL := 4) (ret := none) (by decide) rfl ?_
  intro p e s m args below meth c s₁ B hml hv
  obtain ⟨rfl, hsz, hP, hK, hD0⟩ := hv
  have hx := B.exec
  have hb := B.bytes
  have hr := B.returns
  have hts : ∀ w ∈ gw_tbl, w.before ([.ref d0] : List Value).toArray s = true := fun w h => atoms_spec (ws := w_Divisor_setInverse) B.pre w (List.mem_cons_of_mem _ h)
  have hown : s.vm.findClass R_Divisor = some m.cls := findClass_of_methodNamed B.named
  have hlocks := B.notSynchronized
  subst hsz
  have hD := hD0.self (sz := s.heap.size)
  generalize hAe : va_A ([(d0, .inr (2, [.ref h0o, .ref h0r, .int (nI tw), .int (nI iv)])), (h0o, .inr (1, [.ref q0o, .int (nI leno), .int sgo])), (q0o, .inl (cA, capo, .inl (xn_f fo)))]) s.heap.size = A at hD ⊢
  have hA : ∀ q : Nat, s.heap.size ≤ q → A q := fun q h => by rw [← hAe]; exact Or.inr h
  have hS : va_S A s.heap s.heap [] := va_S.rf
  have hl := lv_entry ([.ref d0]) (n := 4) (Nat.le_of_ble_eq_true rfl)
  rw [lg_entry_eq]
  generalize (lg_sl ([.ref d0]) ++ List.replicate (4 - (lg_sl ([.ref d0])).length) Slot.unset).toArray = ls at hl ⊢
  have hl : lv_has ls 4 [(0, .ref d0)] := hl
  refine lv_aload_n hx hb d_Divisor_setInverse_0 rfl (lv_at hl 0 rfl) ?_
  refine va_get (D := (dC, dI)) (ci := 2) (v := .ref h0o) (C := R_Divisor) (T := F_Divisor) (N := 4) hx hb hts i_Divisor hown hK hP 0 rfl rfl 0 (by decide) (hts _ k_fl_Divisor_14) (fun _ h9 => h9) rfl d_Divisor_setInverse_1 ?_
  refine lv_iconst (v := nI 0) hx hb d_Divisor_setInverse_4 rfl ?_
  refine vp_callSi (W.runV (As := [.int (nI 0)]) (rest := []) ⟨hx, hb, hml, hown, hts⟩ (c_Whole_limbAt l dC dI cA h0o q0o capo leno fo sgo 0 hcapo ho.1 (by decide)) (cwV 1 hts (gw_V k_ml_Divisor_67 k_im_Whole_limbAt k_sel_Whole_limbAt k_ini_Whole k_code_Whole_limbAt) rfl rfl rfl (by decide +kernel) ⟨Nat.le_of_ble_eq_true rfl, Nat.le_of_ble_eq_true rfl⟩) ⟨xc_R_blind, va_recv hK hP (ci := 1) (q0 := 1) rfl rfl, fun U hU hW => ⟨rfl, by rw [hU]; exact hP.sub (ws' := [(h0o, .inr (1, [.ref q0o, .int (nI leno), .int sgo])), (q0o, .inl (cA, capo, .inl (xn_f fo)))]) [1, 2] rfl, va_K.moved hW.alike (hK.sub (tys' := [(cA, .int)]) [0] rfl)⟩⟩ rfl rfl hl.1 rfl (lv_room (Nat.le_of_ble_eq_true rfl)) d_Divisor_setInverse_5 ⟨Nat.zero_le _, Nat.zero_le _⟩) (fun r_ e_r => ?_)
  subst e_r
  obtain ⟨L, eL⟩ : ∃ L, L = fo 0 := ⟨_, rfl⟩
  refine lv_topi (fun r2 er2 => ?_)
  rw [show r2 = nI L by rw [er2, if_pos hpos, eL]]
  rw [← eL] at hodd
  have hL := ho.2.1 0
  rw [← eL] at hL
  refine lv_istore_n (lv' := [(1, .int (nI L)), (0, .ref d0)]) hx hb d_Divisor_setInverse_8 rfl hl (by decide) rfl (fun ls hl => ?_)
  refine lv_iload_n hx hb d_Divisor_setInverse_9 rfl (lv_at hl 0 rfl) ?_
  rw [iZ_N L]
  rw [iZ_N L] at hl
  refine lv_istore_n (lv' := [(2, .int (iZ (L : Int))), (1, .int (iZ (L : Int))), (0, .ref d0)]) hx hb d_Divisor_setInverse_10 rfl hl (by decide) rfl (fun ls hl => ?_)
  refine lv_iconst (v := nI 0) hx hb d_Divisor_setInverse_11 rfl ?_
  refine lv_istore_n (lv' := [(3, .int (nI 0)), (2, .int (iZ (L : Int))), (1, .int (iZ (L : Int))), (0, .ref d0)]) hx hb d_Divisor_setInverse_12 rfl hl (by decide) rfl (fun ls hl => ?_)
  have loop : ∀ (n : Nat) (k : Nat) (y : Int), (k ≤ 4) → (∃ c2 : Int, (L : Int) * y = 1 + 2 ^ (3 * 2 ^ k) * c2) → (5 ≤ k + n) → ∀ (H : Heap) (locs : List Loc), va_P (dC, dI) classes ([(d0, .inr (2, [.ref h0o, .ref h0r, .int (nI tw), .int (nI iv)])), (h0o, .inr (1, [.ref q0o, .int (nI leno), .int sgo])), (q0o, .inl (cA, capo, .inl (xn_f fo)))]) H → va_D A ([(d0, .inr (2, [.ref h0o, .ref h0r, .int (nI tw), .int (nI iv)])), (h0o, .inr (1, [.ref q0o, .int (nI leno), .int sgo])), (q0o, .inl (cA, capo, .inl (xn_f fo)))]) → va_S A s.heap H locs → ∀ (ls : Array Slot), lv_has ls 4 [(3, .int (nI k)), (2, .int (iZ y)), (1, .int (iZ (L : Int))), (0, .ref d0)] → W p l e (headSpec w_Divisor_setInverse ({ frames := 1, cells := 0, slots := 0, locals := 21 })).room s m ([.ref d0] : List Value).toArray below meth c H locs 0 0 (MQ below (va_Qv (S := Nat) (fun u => u < 2147483648 ∧ fo 0 * u % 2147483648 = 1) (fun u t => va_P (dC, dI) classes ((fun u => [(d0, .inr (2, [.ref h0o, .ref h0r, .int (nI tw), .int (nI u)])), (h0o, .inr (1, [.ref q0o, .int (nI leno), .int sgo])), (q0o, .inl (cA, capo, .inl (xn_f fo)))]) u) t.heap) A) ([.ref d0] : List Value).toArray s 0 0 A) (F0 m 13 ls []) := by
    intro n
    induction n with
    | zero => intro k y hk hy hn; exact absurd hn (by omega)
    | succ n ih =>
      intro k y hk hy hn H locs hP hD hS ls hl
      refine lv_iload_n hx hb d_Divisor_setInverse_13 rfl (lv_at hl 0 rfl) ?_
      refine lv_iconst (v := nI 4) hx hb d_Divisor_setInverse_14 rfl ?_
      refine xn_icmp_ge (tgt := 32) hx hb (by omega) (by omega) d_Divisor_setInverse_15 (by decide) (fun hge => ?_) (fun hge => ?_)
      · have hk4 : 4 = k := by omega
        subst hk4
        obtain ⟨cc2, hcc⟩ := hy
        refine lv_aload_n hx hb d_Divisor_setInverse_32 rfl (lv_at hl 3 rfl) ?_
        refine lv_iload_n hx hb d_Divisor_setInverse_33 rfl (lv_at hl 1 rfl) ?_
        refine lv_ldc (v := nI 2147483647) hx hb hown (hts _ k_ldc_Divisor_71) d_Divisor_setInverse_34 ?_
        refine xe_iand (v := nI ((y % 2147483648).toNat)) hx hb d_Divisor_setInverse_36 (iZ_mask y) ?_
        refine va_put (D := (dC, dI)) (ci := 2) (v := .int (nI ((y % 2147483648).toNat))) (ty := .int) (C := R_Divisor) (T := F_Divisor) (N := 4) hx hb hts i_Divisor t_Divisor t_Divisor_ok n_Divisor hown hK hP hD hS 0 rfl rfl 3 (by decide) (hts _ k_fl_Divisor_27) (fun _ h9 => h9) rfl (by decide +kernel) rfl rfl (Nat.le_of_ble_eq_true rfl) d_Divisor_setInverse_37 (fun H locs hP hD hS => ?_)
        have hP : va_P (dC, dI) classes ([(d0, .inr (2, [.ref h0o, .ref h0r, .int (nI tw), .int (nI ((y % 2147483648).toNat))])), (h0o, .inr (1, [.ref q0o, .int (nI leno), .int sgo])), (q0o, .inl (cA, capo, .inl (xn_f fo)))]) H := hP
        have hD : va_D A ([(d0, .inr (2, [.ref h0o, .ref h0r, .int (nI tw), .int (nI ((y % 2147483648).toNat))])), (h0o, .inr (1, [.ref q0o, .int (nI leno), .int sgo])), (q0o, .inl (cA, capo, .inl (xn_f fo)))]) := hD
        have hpost : (y % 2147483648).toNat < 2147483648 ∧ fo 0 * (y % 2147483648).toNat % 2147483648 = 1 := ⟨by omega, by rw [← eL]; exact nw_end hcc⟩
        exact W.vret hx hb hr (fun T_ ht_ hW_ => ⟨⟨(y % 2147483648).toNat, rfl, hpost, by show va_P (dC, dI) classes _ T_.heap; rw [ht_]; exact hP⟩, hS.F ht_⟩) hS.2.2 d_Divisor_setInverse_40
      refine lv_iload_n hx hb d_Divisor_setInverse_18 rfl (lv_at hl 1 rfl) ?_
      refine lv_iconst (v := nI 2) hx hb d_Divisor_setInverse_19 rfl ?_
      refine lv_iload_n hx hb d_Divisor_setInverse_20 rfl (lv_at hl 2 rfl) ?_
      refine lv_iload_n hx hb d_Divisor_setInverse_21 rfl (lv_at hl 1 rfl) ?_
      refine xe_imul (v := iZ ((L : Int) * y)) hx hb d_Divisor_setInverse_22 (iZ_mul _ _) ?_
      refine xe_isub (v := iZ (2 - (L : Int) * y)) hx hb d_Divisor_setInverse_23 (iZ_sub 2 _) ?_
      refine xe_imul (v := iZ (y * (2 - (L : Int) * y))) hx hb d_Divisor_setInverse_24 (iZ_mul _ _) ?_
      refine lv_istore_n (lv' := [(2, .int (iZ (y * (2 - (L : Int) * y)))), (3, .int (nI k)), (1, .int (iZ (L : Int))), (0, .ref d0)]) hx hb d_Divisor_setInverse_25 rfl hl (by decide) rfl (fun ls hl => ?_)
      refine lv_iinc (v := nI (k + 1)) (lv' := [(3, .int (nI (k + 1))), (2, .int (iZ (y * (2 - (L : Int) * y)))), (1, .int (iZ (L : Int))), (0, .ref d0)]) hx hb d_Divisor_setInverse_26 hl (k := 1) rfl (nI_1 _) (by decide) rfl (fun ls hl => ?_)
      refine lv_goto (tgt := 13) hx hb d_Divisor_setInverse_29 (by decide) ?_
      exact ih (k + 1) (y * (2 - (L : Int) * y)) (by omega) (by
                obtain ⟨cc2, hcc⟩ := hy
                have := nw_step hcc
                rw [show 3 * 2 ^ (k + 1) = 3 * 2 ^ k + 3 * 2 ^ k by rw [Nat.pow_succ]; omega]
                exact this) (by omega) H locs hP hD hS ls (lv_sub hl [0, 1, 2, 3] rfl)
  exact loop 5 0 (L : Int) (by decide) (nw_start hodd) (by decide) s.heap [] hP hD hS ls (lv_sub hl [0, 1, 2, 3] rfl)
set_option maxHeartbeats 4000000 in
set_option maxRecDepth 100000 in
/-- subtractMultiple -/
theorem c_Divisor_subtractMultiple (l : Launch) (dC : Nat → ClassId) (dI : Nat → Nat → Nat) (sz : Nat) (cA : ClassId) (d0 h0r tw iv : Nat) (h0o q0o : Nat) (capo leno : Nat) (fo : Nat → Nat) (sgo : Int32) (qn capn : Nat) (f : Nat → Nat) (a mv en : Nat) (hcapo : capo ≤ 64) (hcapn : capn ≤ 64) (ho : lb_n capo fo leno) (hf : ∀ i, f i < 2147483648) (ha : a < 2147483648) (hmv : mv ≤ en) (hen : en ≤ capn) : Met l y_Divisor_subtractMultiple w_Divisor_subtractMultiple ({ frames := 1, cells := 0, slots := 0, locals := 21 }) (xc_W [.ref d0, .ref qn, .int (nI a), .int (nI mv), .int (nI en)] dC dI ([(d0, .inr (2, [.ref h0o, .ref h0r, .int (nI tw), .int (nI iv)])), (h0o, .inr (1, [.ref q0o, .int (nI leno), .int sgo])), (q0o, .inl (cA, capo, .inl (xn_f fo))), (qn, .inl (cA, capn, .inl (xn_f f)))]) [(cA, .int)] sz) (va_Qv (S := Nat → Nat) (fun u => (∀ i, u i < 2147483648) ∧ (∃ k, lb_v u en + a * lb_v fo (min leno (en - mv)) * lb_p mv = lb_v f en + k * lb_p en) ∧ (∀ i, i < mv ∨ en ≤ i → u i = f i)) (fun u t => va_P (dC, dI) classes ((fun u => [(d0, .inr (2, [.ref h0o, .ref h0r, .int (nI tw), .int (nI iv)])), (h0o, .inr (1, [.ref q0o, .int (nI leno), .int sgo])), (q0o, .inl (cA, capo, .inl (xn_f fo))), (qn, .inl (cA, capn, .inl (xn_f u)))]) u) t.heap) (va_A ([(d0, .inr (2, [.ref h0o, .ref h0r, .int (nI tw), .int (nI iv)])), (h0o, .inr (1, [.ref q0o, .int (nI leno), .int sgo])), (q0o, .inl (cA, capo, .inl (xn_f fo))), (qn, .inl (cA, capn, .inl (xn_f f)))]) sz)) 0 0 (va_A ([(d0, .inr (2, [.ref h0o, .ref h0r, .int (nI tw), .int (nI iv)])), (h0o, .inr (1, [.ref q0o, .int (nI leno), .int sgo])), (q0o, .inl (cA, capo, .inl (xn_f fo))), (qn, .inl (cA, capn, .inl (xn_f f)))]) sz) := by
  refine Met.ofW (cc := b_Divisor_subtractMultiple) (maxL := 13) (ret := none) (by decide) rfl ?_
  intro p e s m args below meth c s₁ B hml hv
  obtain ⟨rfl, hsz, hP, hK, hD0⟩ := hv
  have hx := B.exec
  have hb := B.bytes
  have hr := B.returns
  have hts : ∀ w ∈ gw_tbl, w.before ([.ref d0, .ref qn, .int (nI a), .int (nI mv), .int (nI en)] : List Value).toArray s = true := fun w h => atoms_spec (ws := w_Divisor_subtractMultiple) B.pre w (List.mem_cons_of_mem _ h)
  have hown : s.vm.findClass R_Divisor = some m.cls := findClass_of_methodNamed B.named
  have hlocks := B.notSynchronized
  subst hsz
  have hD := hD0.self (sz := s.heap.size)
  generalize hAe : va_A ([(d0, .inr (2, [.ref h0o, .ref h0r, .int (nI tw), .int (nI iv)])), (h0o, .inr (1, [.ref q0o, .int (nI leno), .int sgo])), (q0o, .inl (cA, capo, .inl (xn_f fo))), (qn, .inl (cA, capn, .inl (xn_f f)))]) s.heap.size = A at hD ⊢
  have hA : ∀ q : Nat, s.heap.size ≤ q → A q := fun q h => by rw [← hAe]; exact Or.inr h
  have hS : va_S A s.heap s.heap [] := va_S.rf
  have hl := lv_entry ([.ref d0, .ref qn, .int (nI a), .int (nI mv), .int (nI en)]) (n := 13) (Nat.le_of_ble_eq_true rfl)
  rw [lg_entry_eq]
  generalize (lg_sl ([.ref d0, .ref qn, .int (nI a), .int (nI mv), .int (nI en)]) ++ List.replicate (13 - (lg_sl ([.ref d0, .ref qn, .int (nI a), .int (nI mv), .int (nI en)])).length) Slot.unset).toArray = ls at hl ⊢
  have hl : lv_has ls 13 [(0, .ref d0), (1, .ref qn), (2, .int (nI a)), (3, .int (nI mv)), (4, .int (nI en))] := hl
  have hfo := ho.2.1
  have hleno := ho.1
  obtain ⟨rn, ern⟩ : ∃ rn, rn = min leno (en - mv) := ⟨_, rfl⟩
  rw [← ern]
  refine lv_iload_n hx hb d_Divisor_subtractMultiple_0 rfl (lv_at hl 2 rfl) ?_
  refine xn_i2l hx hb (by omega) d_Divisor_subtractMultiple_1 ?_
  refine lv_lstore (lv' := [(5, .long (lN a)), (0, .ref d0), (1, .ref qn), (2, .int (nI a)), (3, .int (nI mv)), (4, .int (nI en))]) hx hb d_Divisor_subtractMultiple_2 hl (by decide) rfl (fun ls hl => ?_)
  refine lv_lconst (v := lN 0) hx hb d_Divisor_subtractMultiple_4 rfl ?_
  rw [show lN 0 = lZ (-((0 : Nat) : Int)) from rfl]
  refine lv_lstore (lv' := [(7, .long (lZ (-((0 : Nat) : Int)))), (5, .long (lN a)), (0, .ref d0), (1, .ref qn), (2, .int (nI a)), (3, .int (nI mv)), (4, .int (nI en))]) hx hb d_Divisor_subtractMultiple_5 hl (by decide) rfl (fun ls hl => ?_)
  refine lv_aload_n hx hb d_Divisor_subtractMultiple_7 rfl (lv_at hl 2 rfl) ?_
  refine va_get (D := (dC, dI)) (ci := 2) (v := .ref h0o) (C := R_Divisor) (T := F_Divisor) (N := 4) hx hb hts i_Divisor hown hK hP 0 rfl rfl 0 (by decide) (hts _ k_fl_Divisor_14) (fun _ h9 => h9) rfl d_Divisor_subtractMultiple_8 ?_
  refine va_get (D := (dC, dI)) (ci := 1) (v := .int (nI leno)) (C := R_Whole) (T := F_Whole) (N := 3) hx hb hts i_Whole hown hK hP 1 rfl rfl 1 (by decide) (hts _ k_fl_Divisor_72) (fun _ h9 => h9) rfl d_Divisor_subtractMultiple_11 ?_
  refine lv_iload hx hb d_Divisor_subtractMultiple_14 (lv_at hl 6 rfl) ?_
  refine lv_iload_n hx hb d_Divisor_subtractMultiple_16 rfl (lv_at hl 5 rfl) ?_
  refine xn_isub hx hb (by omega) d_Divisor_subtractMultiple_17 ?_
  refine xn_mmin (v := rn) hx hb (by rw [hml]; exact hl.1.symm) hown (hts _ k_ml_Divisor_44) (hts _ k_st_Math_min) (hts _ k_ini_Math) (hts _ k_code_Math_min) (Nat.le_of_ble_eq_true rfl) (Nat.le_of_ble_eq_true rfl) (Nat.zero_le _) (Nat.zero_le _) (by omega) (by omega) ern d_Divisor_subtractMultiple_18 ?_
  refine lv_istore (lv' := [(9, .int (nI rn)), (7, .long (lZ (-((0 : Nat) : Int)))), (5, .long (lN a)), (0, .ref d0), (1, .ref qn), (2, .int (nI a)), (3, .int (nI mv)), (4, .int (nI en))]) hx hb d_Divisor_subtractMultiple_21 hl (by decide) rfl (fun ls hl => ?_)
  refine lv_iconst (v := nI 0) hx hb d_Divisor_subtractMultiple_23 rfl ?_
  refine lv_istore (lv' := [(10, .int (nI 0)), (9, .int (nI rn)), (7, .long (lZ (-((0 : Nat) : Int)))), (5, .long (lN a)), (0, .ref d0), (1, .ref qn), (2, .int (nI a)), (3, .int (nI mv)), (4, .int (nI en))]) hx hb d_Divisor_subtractMultiple_24 hl (by decide) rfl (fun ls hl => ?_)
  have loop2 : ∀ (n : Nat) (i b : Nat) (F : Nat → Nat), (mv ≤ i ∧ i ≤ en) → (b < 2147483648) → (∀ k, F k < 2147483648) → (∀ k, k < mv ∨ i ≤ k → F k = f k) → (lb_v F en + a * lb_v fo rn * lb_p mv = lb_v f en + b * lb_p i) → (en + 1 ≤ i + n) → ∀ (H : Heap) (locs : List Loc), va_P (dC, dI) classes ([(d0, .inr (2, [.ref h0o, .ref h0r, .int (nI tw), .int (nI iv)])), (h0o, .inr (1, [.ref q0o, .int (nI leno), .int sgo])), (q0o, .inl (cA, capo, .inl (xn_f fo))), (qn, .inl (cA, capn, .inl (xn_f F)))]) H → va_D A ([(d0, .inr (2, [.ref h0o, .ref h0r, .int (nI tw), .int (nI iv)])), (h0o, .inr (1, [.ref q0o, .int (nI leno), .int sgo])), (q0o, .inl (cA, capo, .inl (xn_f fo))), (qn, .inl (cA, capn, .inl (xn_f F)))]) → va_S A s.heap H locs → ∀ (ls : Array Slot), lv_has ls 13 [(10, .int (nI i)), (7, .long (lZ (-(b : Int)))), (9, .int (nI rn)), (5, .long (lN a)), (0, .ref d0), (1, .ref qn), (2, .int (nI a)), (3, .int (nI mv)), (4, .int (nI en))] → W p l e (headSpec w_Divisor_subtractMultiple ({ frames := 1, cells := 0, slots := 0, locals := 21 })).room s m ([.ref d0, .ref qn, .int (nI a), .int (nI mv), .int (nI en)] : List Value).toArray below meth c H locs 0 0 (MQ below (va_Qv (S := Nat → Nat) (fun u => (∀ i, u i < 2147483648) ∧ (∃ k, lb_v u en + a * lb_v fo rn * lb_p mv = lb_v f en + k * lb_p en) ∧ (∀ i, i < mv ∨ en ≤ i → u i = f i)) (fun u t => va_P (dC, dI) classes ((fun u => [(d0, .inr (2, [.ref h0o, .ref h0r, .int (nI tw), .int (nI iv)])), (h0o, .inr (1, [.ref q0o, .int (nI leno), .int sgo])), (q0o, .inl (cA, capo, .inl (xn_f fo))), (qn, .inl (cA, capn, .inl (xn_f u)))]) u) t.heap) A) ([.ref d0, .ref qn, .int (nI a), .int (nI mv), .int (nI en)] : List Value).toArray s 0 0 A) (F0 m 92 ls []) := by
    intro n
    induction n with
    | zero => intro i b F hi hbb hF hFk hinv hn; exact absurd hn (by omega)
    | succ n ih =>
      intro i b F hi hbb hF hFk hinv hn H locs hP hD hS ls hl
      refine lv_iload hx hb d_Divisor_subtractMultiple_92 (lv_at hl 0 rfl) ?_
      refine lv_iload hx hb d_Divisor_subtractMultiple_94 (lv_at hl 8 rfl) ?_
      refine xn_icmp_ge (tgt := 140) hx hb (by omega) (by omega) d_Divisor_subtractMultiple_96 (by decide) (fun hge => ?_) (fun hge => ?_)
      · have hie : en = i := by omega
        subst hie
        exact W.vret hx hb hr (fun T_ ht_ hW_ => ⟨⟨F, rfl, ⟨hF, ⟨b, hinv⟩, fun k hk => hFk k hk⟩, by show va_P (dC, dI) classes _ T_.heap; rw [ht_]; exact hP⟩, hS.F ht_⟩) hS.2.2 d_Divisor_subtractMultiple_140
      refine lv_lload hx hb d_Divisor_subtractMultiple_99 (lv_at hl 1 rfl) ?_
      refine lv_lconst (v := lN 0) hx hb d_Divisor_subtractMultiple_101 rfl ?_
      refine W.lcmp hx hb d_Divisor_subtractMultiple_102 ?_
      refine lv_if_eq (tgt := 140) hx hb d_Divisor_subtractMultiple_103 (by decide) (fun hcz => ?_) (fun hcz => ?_)
      · have hb0 := (lZ_0 (by omega)).mp ((lg_eq _ _).mp hcz)
        subst hb0
        have hFe : ∀ k, k < mv ∨ en ≤ k → F k = f k := fun k hk => hFk k (by omega)
        exact W.vret hx hb hr (fun T_ ht_ hW_ => ⟨⟨F, rfl, ⟨hF, ⟨0, by omega⟩, hFe⟩, by show va_P (dC, dI) classes _ T_.heap; rw [ht_]; exact hP⟩, hS.F ht_⟩) hS.2.2 d_Divisor_subtractMultiple_140
      refine lv_aload_n hx hb d_Divisor_subtractMultiple_106 rfl (lv_at hl 5 rfl) ?_
      refine lv_iload hx hb d_Divisor_subtractMultiple_107 (lv_at hl 0 rfl) ?_
      refine xn_iald hx hb hK hP 3 0 rfl rfl (i := i) (by omega) (by omega) d_Divisor_subtractMultiple_109 ?_
      obtain ⟨y, ey⟩ : ∃ y, y = F i := ⟨_, rfl⟩
      rw [← ey]
      have hy : y < 2147483648 := by rw [ey]; exact hF _
      refine xn_i2l hx hb (by omega) d_Divisor_subtractMultiple_110 ?_
      rw [lZ_N y]
      refine lv_lload hx hb d_Divisor_subtractMultiple_111 (lv_at hl 1 rfl) ?_
      obtain ⟨z, ez⟩ : ∃ z : Int, z = (y : Int) + -(b : Int) := ⟨_, rfl⟩
      obtain ⟨b', eb1, eb2, eb3⟩ : ∃ b' : Nat, b' < 2147483648 ∧ z / 2147483648 = -(b' : Int) ∧ (z % 2147483648).toNat + b = y + b' * 2147483648 := ⟨(-(z / 2147483648)).toNat, by omega, by omega, by omega⟩
      refine xe_ladd (v := lZ z) hx hb d_Divisor_subtractMultiple_113 (by rw [lZ_add, ez]) ?_
      refine lv_lstore (lv' := [(11, .long (lZ z)), (10, .int (nI i)), (7, .long (lZ (-(b : Int)))), (9, .int (nI rn)), (5, .long (lN a)), (0, .ref d0), (1, .ref qn), (2, .int (nI a)), (3, .int (nI mv)), (4, .int (nI en))]) hx hb d_Divisor_subtractMultiple_114 hl (by decide) rfl (fun ls hl => ?_)
      refine lv_aload_n hx hb d_Divisor_subtractMultiple_116 rfl (lv_at hl 6 rfl) ?_
      refine lv_iload hx hb d_Divisor_subtractMultiple_117 (lv_at hl 1 rfl) ?_
      refine lv_lload hx hb d_Divisor_subtractMultiple_119 (lv_at hl 0 rfl) ?_
      refine lv_ldc2 (v := lN 2147483647) hx hb hown (hts _ k_ldc_Divisor_89) d_Divisor_subtractMultiple_121 ?_
      obtain ⟨x, ex⟩ : ∃ x, x = (z % 2147483648).toNat := ⟨_, rfl⟩
      have hx2 : x < 2147483648 := by omega
      rw [← ex] at eb3
      refine xe_land (v := lN x) hx hb d_Divisor_subtractMultiple_124 (by rw [lZ_and, ex]) ?_
      refine xn_l2i hx hb d_Divisor_subtractMultiple_125 ?_
      refine xn_iast hx hb hK hP hD hS 3 0 rfl rfl (i := i) (x := x) (by omega) (by omega) d_Divisor_subtractMultiple_126 (fun H locs hP hD hS => ?_)
      have hP : va_P (dC, dI) classes ([(d0, .inr (2, [.ref h0o, .ref h0r, .int (nI tw), .int (nI iv)])), (h0o, .inr (1, [.ref q0o, .int (nI leno), .int sgo])), (q0o, .inl (cA, capo, .inl (xn_f fo))), (qn, .inl (cA, capn, .inl (xn_f (va_up F i x))))]) H := hP
      have hD : va_D A ([(d0, .inr (2, [.ref h0o, .ref h0r, .int (nI tw), .int (nI iv)])), (h0o, .inr (1, [.ref q0o, .int (nI leno), .int sgo])), (q0o, .inl (cA, capo, .inl (xn_f fo))), (qn, .inl (cA, capn, .inl (xn_f (va_up F i x))))]) := hD
      refine lv_lload hx hb d_Divisor_subtractMultiple_127 (lv_at hl 0 rfl) ?_
      refine lv_bipush (v := nI 31) hx hb d_Divisor_subtractMultiple_129 rfl ?_
      refine lv_lshr (v := lZ (-(b' : Int))) hx hb d_Divisor_subtractMultiple_131 (by rw [lZ_shr (by omega) (by omega), eb2]) ?_
      refine lv_lstore (lv' := [(7, .long (lZ (-(b' : Int)))), (11, .long (lZ z)), (10, .int (nI i)), (9, .int (nI rn)), (5, .long (lN a)), (0, .ref d0), (1, .ref qn), (2, .int (nI a)), (3, .int (nI mv)), (4, .int (nI en))]) hx hb d_Divisor_subtractMultiple_132 hl (by decide) rfl (fun ls hl => ?_)
      refine lv_iinc (v := nI (i + 1)) (lv' := [(10, .int (nI (i + 1))), (7, .long (lZ (-(b' : Int)))), (11, .long (lZ z)), (9, .int (nI rn)), (5, .long (lN a)), (0, .ref d0), (1, .ref qn), (2, .int (nI a)), (3, .int (nI mv)), (4, .int (nI en))]) hx hb d_Divisor_subtractMultiple_134 hl (k := 2) rfl (nI_1 _) (by decide) rfl (fun ls hl => ?_)
      refine lv_goto (tgt := 92) hx hb d_Divisor_subtractMultiple_137 (by decide) ?_
      have hup := lb_up F i x (n := en) (by omega)
      rw [← ey] at hup
      exact ih (i + 1) b' (va_up F i x) ⟨by omega, by omega⟩ eb1 (fun k => by by_cases q : k = i <;> simp [va_up, q, hF, hx2]) (fun k hk => by rw [va_up_ne F _ (show k ≠ i by omega)]; exact hFk k (by omega)) (by rw [lb_p1]; exact dv_msub2 hup eb3 hinv) (by omega) H locs hP hD hS ls (lv_sub hl [0, 1, 3, 4, 5, 6, 7, 8, 9] rfl)
  have loop1 : ∀ (n : Nat) (j b : Nat) (F : Nat → Nat), (j ≤ rn) → (b < 2147483648) → (∀ k, F k < 2147483648) → (∀ k, k < mv ∨ mv + j ≤ k → F k = f k) → (lb_v F en + a * lb_v fo j * lb_p mv = lb_v f en + b * (lb_p mv * lb_p j)) → (rn + 1 ≤ j + n) → ∀ (H : Heap) (locs : List Loc), va_P (dC, dI) classes ([(d0, .inr (2, [.ref h0o, .ref h0r, .int (nI tw), .int (nI iv)])), (h0o, .inr (1, [.ref q0o, .int (nI leno), .int sgo])), (q0o, .inl (cA, capo, .inl (xn_f fo))), (qn, .inl (cA, capn, .inl (xn_f F)))]) H → va_D A ([(d0, .inr (2, [.ref h0o, .ref h0r, .int (nI tw), .int (nI iv)])), (h0o, .inr (1, [.ref q0o, .int (nI leno), .int sgo])), (q0o, .inl (cA, capo, .inl (xn_f fo))), (qn, .inl (cA, capn, .inl (xn_f F)))]) → va_S A s.heap H locs → ∀ (ls : Array Slot), lv_has ls 13 [(10, .int (nI j)), (7, .long (lZ (-(b : Int)))), (9, .int (nI rn)), (5, .long (lN a)), (0, .ref d0), (1, .ref qn), (2, .int (nI a)), (3, .int (nI mv)), (4, .int (nI en))] → W p l e (headSpec w_Divisor_subtractMultiple ({ frames := 1, cells := 0, slots := 0, locals := 21 })).room s m ([.ref d0, .ref qn, .int (nI a), .int (nI mv), .int (nI en)] : List Value).toArray below meth c H locs 0 0 (MQ below (va_Qv (S := Nat → Nat) (fun u => (∀ i, u i < 2147483648) ∧ (∃ k, lb_v u en + a * lb_v fo rn * lb_p mv = lb_v f en + k * lb_p en) ∧ (∀ i, i < mv ∨ en ≤ i → u i = f i)) (fun u t => va_P (dC, dI) classes ((fun u => [(d0, .inr (2, [.ref h0o, .ref h0r, .int (nI tw), .int (nI iv)])), (h0o, .inr (1, [.ref q0o, .int (nI leno), .int sgo])), (q0o, .inl (cA, capo, .inl (xn_f fo))), (qn, .inl (cA, capn, .inl (xn_f u)))]) u) t.heap) A) ([.ref d0, .ref qn, .int (nI a), .int (nI mv), .int (nI en)] : List Value).toArray s 0 0 A) (F0 m 26 ls []) := by
    intro n
    induction n with
    | zero => intro j b F hj hbb hF hFk hinv hn; exact absurd hn (by omega)
    | succ n ih =>
      intro j b F hj hbb hF hFk hinv hn H locs hP hD hS ls hl
      refine lv_iload hx hb d_Divisor_subtractMultiple_26 (lv_at hl 0 rfl) ?_
      refine lv_iload hx hb d_Divisor_subtractMultiple_28 (lv_at hl 2 rfl) ?_
      refine xn_icmp_ge (tgt := 86) hx hb (by omega) (by omega) d_Divisor_subtractMultiple_30 (by decide) (fun hge => ?_) (fun hge => ?_)
      · have hje : rn = j := by omega
        subst hje
        refine lv_iload_n hx hb d_Divisor_subtractMultiple_86 rfl (lv_at hl 7 rfl) ?_
        refine lv_iload hx hb d_Divisor_subtractMultiple_87 (lv_at hl 2 rfl) ?_
        refine xn_iadd hx hb d_Divisor_subtractMultiple_89 ?_
        refine lv_istore (lv' := [(10, .int (nI (mv + rn))), (7, .long (lZ (-(b : Int)))), (9, .int (nI rn)), (5, .long (lN a)), (0, .ref d0), (1, .ref qn), (2, .int (nI a)), (3, .int (nI mv)), (4, .int (nI en))]) hx hb d_Divisor_subtractMultiple_90 hl (by decide) rfl (fun ls hl => ?_)
        exact loop2 (en + 1) (mv + rn) b F ⟨by omega, by omega⟩ hbb hF hFk (by rw [lb_pa]; exact hinv) (by omega) H locs hP hD hS ls (lv_sub hl [0, 1, 2, 3, 4, 5, 6, 7, 8] rfl)
      refine lv_aload_n hx hb d_Divisor_subtractMultiple_33 rfl (lv_at hl 5 rfl) ?_
      refine lv_iload_n hx hb d_Divisor_subtractMultiple_34 rfl (lv_at hl 7 rfl) ?_
      refine lv_iload hx hb d_Divisor_subtractMultiple_35 (lv_at hl 0 rfl) ?_
      refine xn_iadd hx hb d_Divisor_subtractMultiple_37 ?_
      refine xn_iald hx hb hK hP 3 0 rfl rfl (i := mv + j) (by omega) (by omega) d_Divisor_subtractMultiple_38 ?_
      obtain ⟨y, ey⟩ : ∃ y, y = F (mv + j) := ⟨_, rfl⟩
      rw [← ey]
      have hy : y < 2147483648 := by rw [ey]; exact hF _
      refine xn_i2l hx hb (by omega) d_Divisor_subtractMultiple_39 ?_
      refine lv_lload hx hb d_Divisor_subtractMultiple_40 (lv_at hl 3 rfl) ?_
      refine lv_aload_n hx hb d_Divisor_subtractMultiple_42 rfl (lv_at hl 4 rfl) ?_
      refine va_get (D := (dC, dI)) (ci := 2) (v := .ref h0o) (C := R_Divisor) (T := F_Divisor) (N := 4) hx hb hts i_Divisor hown hK hP 0 rfl rfl 0 (by decide) (hts _ k_fl_Divisor_14) (fun _ h9 => h9) rfl d_Divisor_subtractMultiple_43 ?_
      refine va_get (D := (dC, dI)) (ci := 1) (v := .ref q0o) (C := R_Whole) (T := F_Whole) (N := 3) hx hb hts i_Whole hown hK hP 1 rfl rfl 0 (by decide) (hts _ k_fl_Divisor_78) (fun _ h9 => h9) rfl d_Divisor_subtractMultiple_46 ?_
      refine lv_iload hx hb d_Divisor_subtractMultiple_49 (lv_at hl 0 rfl) ?_
      refine xn_iald hx hb hK hP 2 0 rfl rfl (i := j) (by omega) (by omega) d_Divisor_subtractMultiple_51 ?_
      obtain ⟨o, eo⟩ : ∃ o, o = fo j := ⟨_, rfl⟩
      rw [← eo]
      have ho2 : o < 2147483648 := by rw [eo]; exact hfo j
      refine xn_i2l hx hb (by omega) d_Divisor_subtractMultiple_52 ?_
      refine xn_lmul hx hb d_Divisor_subtractMultiple_53 ?_
      obtain ⟨z, ez⟩ : ∃ z : Int, z = (y : Int) - (a * o : Nat) + -(b : Int) := ⟨_, rfl⟩
      obtain ⟨b', eb1, eb2, eb3, eb4, eb5⟩ := dv_limb hy ha ho2 hbb z ez
      refine xe_lsub (v := lZ ((y : Int) - (a * o : Nat))) hx hb d_Divisor_subtractMultiple_54 (by rw [lZ_N, lZ_N, lZ_sub]) ?_
      refine lv_lload hx hb d_Divisor_subtractMultiple_55 (lv_at hl 1 rfl) ?_
      refine xe_ladd (v := lZ z) hx hb d_Divisor_subtractMultiple_57 (by rw [lZ_add, ez]) ?_
      refine lv_lstore (lv' := [(11, .long (lZ z)), (10, .int (nI j)), (7, .long (lZ (-(b : Int)))), (9, .int (nI rn)), (5, .long (lN a)), (0, .ref d0), (1, .ref qn), (2, .int (nI a)), (3, .int (nI mv)), (4, .int (nI en))]) hx hb d_Divisor_subtractMultiple_58 hl (by decide) rfl (fun ls hl => ?_)
      refine lv_aload_n hx hb d_Divisor_subtractMultiple_60 rfl (lv_at hl 6 rfl) ?_
      refine lv_iload_n hx hb d_Divisor_subtractMultiple_61 rfl (lv_at hl 8 rfl) ?_
      refine lv_iload hx hb d_Divisor_subtractMultiple_62 (lv_at hl 1 rfl) ?_
      refine xn_iadd hx hb d_Divisor_subtractMultiple_64 ?_
      refine lv_lload hx hb d_Divisor_subtractMultiple_65 (lv_at hl 0 rfl) ?_
      refine lv_ldc2 (v := lN 2147483647) hx hb hown (hts _ k_ldc_Divisor_89) d_Divisor_subtractMultiple_67 ?_
      obtain ⟨x, ex⟩ : ∃ x, x = (z % 2147483648).toNat := ⟨_, rfl⟩
      have hx2 : x < 2147483648 := by omega
      rw [← ex] at eb3
      refine xe_land (v := lN x) hx hb d_Divisor_subtractMultiple_70 (by rw [lZ_and, ex]) ?_
      refine xn_l2i hx hb d_Divisor_subtractMultiple_71 ?_
      refine xn_iast hx hb hK hP hD hS 3 0 rfl rfl (i := mv + j) (x := x) (by omega) (by omega) d_Divisor_subtractMultiple_72 (fun H locs hP hD hS => ?_)
      have hP : va_P (dC, dI) classes ([(d0, .inr (2, [.ref h0o, .ref h0r, .int (nI tw), .int (nI iv)])), (h0o, .inr (1, [.ref q0o, .int (nI leno), .int sgo])), (q0o, .inl (cA, capo, .inl (xn_f fo))), (qn, .inl (cA, capn, .inl (xn_f (va_up F (mv + j) x))))]) H := hP
      have hD : va_D A ([(d0, .inr (2, [.ref h0o, .ref h0r, .int (nI tw), .int (nI iv)])), (h0o, .inr (1, [.ref q0o, .int (nI leno), .int sgo])), (q0o, .inl (cA, capo, .inl (xn_f fo))), (qn, .inl (cA, capn, .inl (xn_f (va_up F (mv + j) x))))]) := hD
      refine lv_lload hx hb d_Divisor_subtractMultiple_73 (lv_at hl 0 rfl) ?_
      refine lv_bipush (v := nI 31) hx hb d_Divisor_subtractMultiple_75 rfl ?_
      refine lv_lshr (v := lZ (-(b' : Int))) hx hb d_Divisor_subtractMultiple_77 (by rw [lZ_shr eb4 eb5, eb2]) ?_
      refine lv_lstore (lv' := [(7, .long (lZ (-(b' : Int)))), (11, .long (lZ z)), (10, .int (nI j)), (9, .int (nI rn)), (5, .long (lN a)), (0, .ref d0), (1, .ref qn), (2, .int (nI a)), (3, .int (nI mv)), (4, .int (nI en))]) hx hb d_Divisor_subtractMultiple_78 hl (by decide) rfl (fun ls hl => ?_)
      refine lv_iinc (v := nI (j + 1)) (lv' := [(10, .int (nI (j + 1))), (7, .long (lZ (-(b' : Int)))), (11, .long (lZ z)), (9, .int (nI rn)), (5, .long (lN a)), (0, .ref d0), (1, .ref qn), (2, .int (nI a)), (3, .int (nI mv)), (4, .int (nI en))]) hx hb d_Divisor_subtractMultiple_80 hl (k := 2) rfl (nI_1 _) (by decide) rfl (fun ls hl => ?_)
      refine lv_goto (tgt := 26) hx hb d_Divisor_subtractMultiple_83 (by decide) ?_
      have hup := lb_up F (mv + j) x (n := en) (by omega)
      rw [← ey, lb_pa] at hup
      have hst := dv_msub (V := lb_v fo j) (o := o) (a := a) hup eb3 hinv
      exact ih (j + 1) b' (va_up F (mv + j) x) (by omega) eb1 (fun k => by by_cases q : k = mv + j <;> simp [va_up, q, hF, hx2]) (fun k hk => by rw [va_up_ne F _ (show k ≠ mv + j by omega)]; exact hFk k (by omega)) (by rw [lb_p1, lb_v1 fo j, ← eo, ← Nat.mul_assoc (lb_p mv)]; exact hst) (by omega) H locs hP hD hS ls (lv_sub hl [0, 1, 3, 4, 5, 6, 7, 8, 9] rfl)
  exact loop1 (rn + 1) 0 0 f (Nat.zero_le _) (by decide) hf (fun k _ => rfl) (by simp [lb_v]) (by omega) s.heap [] hP hD hS ls (lv_sub hl [0, 2, 1, 3, 4, 5, 6, 7, 8] rfl)
