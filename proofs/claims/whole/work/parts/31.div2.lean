set_option maxHeartbeats 4000000 in
set_option maxRecDepth 100000 in
/-- divide -/
theorem c_Divisor_divide (l : Launch) (dC : Nat → ClassId) (dI : Nat → Nat → Nat) (sz : Nat) (cA : ClassId) (d0 h0r tw iv : Nat) (h0o q0o : Nat) (capo leno : Nat) (fo : Nat → Nat) (sgo : Int32) (h0n q0n : Nat) (capn lenn : Nat) (fn : Nat → Nat) (sgn : Int32) (Q : Int) (hcapo : capo ≤ 64) (hcapn : capn ≤ 64) (ho : lb_n capo fo leno) (hpos : 0 < leno) (hodd : fo 0 % 2 = 1) (hiv : fo 0 * iv % 2147483648 = 1) (hsgo : sgo = 1 ∨ sgo = -1) (hon : wh_ok capn fn lenn sgn) (htw : tw < 2 ^ 30) (hQ : wh_z fn lenn sgn = Q * (sgo.toInt * ((lb_v fo leno * 2 ^ tw : Nat) : Int))) : Met l y_Divisor_divide w_Divisor_divide ({ frames := 2, cells := 0, slots := 0, locals := 53 }) (xc_W [.ref d0, .ref h0n] dC dI ([(d0, .inr (2, [.ref h0o, .ref h0r, .int (nI tw), .int (nI iv)])), (h0o, .inr (1, [.ref q0o, .int (nI leno), .int sgo])), (q0o, .inl (cA, capo, .inl (xn_f fo))), (h0n, .inr (1, [.ref q0n, .int (nI lenn), .int sgn])), (q0n, .inl (cA, capn, .inl (xn_f fn)))]) [(cA, .int)] sz) (va_Qv (S := (Nat → Nat) × Nat × Int32) (fun u => wh_ok capn u.1 u.2.1 u.2.2 ∧ wh_z u.1 u.2.1 u.2.2 = Q) (fun u t => va_P (dC, dI) classes ((fun u => [(d0, .inr (2, [.ref h0o, .ref h0r, .int (nI tw), .int (nI iv)])), (h0o, .inr (1, [.ref q0o, .int (nI leno), .int sgo])), (q0o, .inl (cA, capo, .inl (xn_f fo))), (h0n, .inr (1, [.ref q0n, .int (nI u.2.1), .int u.2.2])), (q0n, .inl (cA, capn, .inl (xn_f u.1)))]) u) t.heap) (va_A ([(d0, .inr (2, [.ref h0o, .ref h0r, .int (nI tw), .int (nI iv)])), (h0o, .inr (1, [.ref q0o, .int (nI leno), .int sgo])), (q0o, .inl (cA, capo, .inl (xn_f fo))), (h0n, .inr (1, [.ref q0n, .int (nI lenn), .int sgn])), (q0n, .inl (cA, capn, .inl (xn_f fn)))]) sz)) 0 0 (va_A ([(d0, .inr (2, [.ref h0o, .ref h0r, .int (nI tw), .int (nI iv)])), (h0o, .inr (1, [.ref q0o, .int (nI leno), .int sgo])), (q0o, .inl (cA, capo, .inl (xn_f fo))), (h0n, .inr (1, [.ref q0n, .int (nI lenn), .int sgn])), (q0n, .inl (cA, capn, .inl (xn_f fn)))]) sz) := by
  refine Met.ofW (cc := b_Divisor_divide) (maxL := 5) (ret := none) (by decide) rfl ?_
  intro p e s m args below meth c s₁ B hml hv
  obtain ⟨rfl, hsz, hP, hK, hD0⟩ := hv
  have hx := B.exec
  have hb := B.bytes
  have hr := B.returns
  have hts : ∀ w ∈ gw_tbl, w.before ([.ref d0, .ref h0n] : List Value).toArray s = true := fun w h => atoms_spec (ws := w_Divisor_divide) B.pre w (List.mem_cons_of_mem _ h)
  have hown : s.vm.findClass R_Divisor = some m.cls := findClass_of_methodNamed B.named
  have hlocks := B.notSynchronized
  subst hsz
  have hD := hD0.self (sz := s.heap.size)
  generalize hAe : va_A ([(d0, .inr (2, [.ref h0o, .ref h0r, .int (nI tw), .int (nI iv)])), (h0o, .inr (1, [.ref q0o, .int (nI leno), .int sgo])), (q0o, .inl (cA, capo, .inl (xn_f fo))), (h0n, .inr (1, [.ref q0n, .int (nI lenn), .int sgn])), (q0n, .inl (cA, capn, .inl (xn_f fn)))]) s.heap.size = A at hD ⊢
  have hA : ∀ q : Nat, s.heap.size ≤ q → A q := fun q h => by rw [← hAe]; exact Or.inr h
  have hS : va_S A s.heap s.heap [] := va_S.rf
  have hl := lv_entry ([.ref d0, .ref h0n]) (n := 5) (Nat.le_of_ble_eq_true rfl)
  rw [lg_entry_eq]
  generalize (lg_sl ([.ref d0, .ref h0n]) ++ List.replicate (5 - (lg_sl ([.ref d0, .ref h0n])).length) Slot.unset).toArray = ls at hl ⊢
  have hl : lv_has ls 5 [(0, .ref d0), (1, .ref h0n)] := hl
  have hfo := ho.2.1
  have hleno := ho.1
  have hlenn := hon.1
  have hO := dv_odd hfo hpos hodd
  have hO1 : 0 < lb_v fo leno := by omega
  have hD1 : 0 < lb_v fo leno * 2 ^ tw := Nat.mul_pos hO1 (Nat.two_pow_pos tw)
  have hab := dv_abs hon hsgo hQ
  refine lv_aload_n hx hb d_Divisor_divide_0 rfl (lv_at hl 1 rfl) ?_
  refine lv_aload_n hx hb d_Divisor_divide_1 rfl (lv_at hl 0 rfl) ?_
  refine va_get (D := (dC, dI)) (ci := 2) (v := .int (nI tw)) (C := R_Divisor) (T := F_Divisor) (N := 4) hx hb hts i_Divisor hown hK hP 0 rfl rfl 2 (by decide) (hts _ k_fl_Divisor_23) (fun _ h9 => h9) rfl d_Divisor_divide_2 ?_
  have hFc := va_free (wc := [(h0n, .inr (1, [.ref q0n, .int (nI lenn), .int sgn])), (q0n, .inl (cA, capn, .inl (xn_f fn)))]) hD hS hA [3, 4] rfl
  refine va_callv (va_runV (As := [.int (nI tw)]) (rest := []) ⟨hx, hb, hml, hown, hts⟩ (c_Whole_shiftDown l dC dI s.heap.size cA h0n q0n capn lenn fn sgn tw hcapn (wh_n hon) htw) (cwV 1 hts (gw_V k_ml_Divisor_38 k_im_Whole_shiftDown k_sel_Whole_shiftDown k_ini_Whole k_code_Whole_shiftDown) rfl rfl rfl (by decide +kernel) ⟨Nat.le_of_ble_eq_true rfl, Nat.le_of_ble_eq_true rfl⟩) ⟨xc_W_blind, va_recv hK hP (ci := 1) (q0 := 3) rfl rfl, fun U hU hW => ⟨rfl, by rw [hU], by rw [hU]; exact hP.sub (ws' := [(h0n, .inr (1, [.ref q0n, .int (nI lenn), .int sgn])), (q0n, .inl (cA, capn, .inl (xn_f fn)))]) [3, 4] rfl, va_K.moved hW.alike (hK.sub (tys' := [(cA, .int)]) [0] rfl), (hD.sub (ws' := [(h0n, .inr (1, [.ref q0n, .int (nI lenn), .int sgn])), (q0n, .inl (cA, capn, .inl (xn_f fn)))]) [3, 4] (by decide) rfl).weaken (fun _ _ _ _ => trivial)⟩⟩ rfl rfl hl.1 rfl (lv_room (Nat.le_of_ble_eq_true rfl)) d_Divisor_divide_5 ⟨Nat.zero_le _, Nat.zero_le _⟩) hS (fun q _ h => hFc q h) hFc (fun u t_ H locs ht_ hvm_ hw hB hz1 hk1 hS => ?_)
  obtain ⟨F1, len1, sg1⟩ := u
  rw [ht_] at hB
  obtain ⟨hP, hD⟩ := xj_2 3 4 hP hD rfl rfl hk1 hB
  have hP : va_P (dC, dI) classes ([(d0, .inr (2, [.ref h0o, .ref h0r, .int (nI tw), .int (nI iv)])), (h0o, .inr (1, [.ref q0o, .int (nI leno), .int sgo])), (q0o, .inl (cA, capo, .inl (xn_f fo))), (h0n, .inr (1, [.ref q0n, .int (nI len1), .int sg1])), (q0n, .inl (cA, capn, .inl (xn_f F1)))]) H := hP
  have hD : va_D A ([(d0, .inr (2, [.ref h0o, .ref h0r, .int (nI tw), .int (nI iv)])), (h0o, .inr (1, [.ref q0o, .int (nI leno), .int sgo])), (q0o, .inl (cA, capo, .inl (xn_f fo))), (h0n, .inr (1, [.ref q0n, .int (nI len1), .int sg1])), (q0n, .inl (cA, capn, .inl (xn_f F1)))]) := hD
  dsimp only at hw
  obtain ⟨hn1, hv1, hs1⟩ := hw
  have hF1 := hn1.2.1
  have hl1 := hn1.1
  rw [hab, ← Nat.mul_assoc, Nat.mul_div_cancel _ (Nat.two_pow_pos tw)] at hv1
  refine lv_aload_n hx hb d_Divisor_divide_8 rfl (lv_at hl 1 rfl) ?_
  refine va_get (D := (dC, dI)) (ci := 1) (v := .int (nI len1)) (C := R_Whole) (T := F_Whole) (N := 3) hx hb hts i_Whole hown hK hP 3 rfl rfl 1 (by decide) (hts _ k_fl_Divisor_72) (fun _ h9 => h9) rfl d_Divisor_divide_9 ?_
  refine lv_aload_n hx hb d_Divisor_divide_12 rfl (lv_at hl 0 rfl) ?_
  refine va_get (D := (dC, dI)) (ci := 2) (v := .ref h0o) (C := R_Divisor) (T := F_Divisor) (N := 4) hx hb hts i_Divisor hown hK hP 0 rfl rfl 0 (by decide) (hts _ k_fl_Divisor_14) (fun _ h9 => h9) rfl d_Divisor_divide_13 ?_
  refine va_get (D := (dC, dI)) (ci := 1) (v := .int (nI leno)) (C := R_Whole) (T := F_Whole) (N := 3) hx hb hts i_Whole hown hK hP 1 rfl rfl 1 (by decide) (hts _ k_fl_Divisor_72) (fun _ h9 => h9) rfl d_Divisor_divide_16 ?_
  refine xe_isub (v := nI len1 - nI leno) hx hb d_Divisor_divide_19 rfl ?_
  refine lv_iconst (v := nI 1) hx hb d_Divisor_divide_20 rfl ?_
  refine xe_iadd (v := nI (len1 + 1) - nI leno) hx hb d_Divisor_divide_21 (xn_sub1 len1 leno) ?_
  refine lv_iconst (v := nI 0) hx hb d_Divisor_divide_22 rfl ?_
  refine xn_mmax0 hx hb (by rw [hml]; exact hl.1.symm) hown (hts _ k_ml_Divisor_75) (hts _ k_st_Math_max) (hts _ k_ini_Math) (hts _ k_code_Math_max) (Nat.le_of_ble_eq_true rfl) (Nat.le_of_ble_eq_true rfl) (Nat.zero_le _) (Nat.zero_le _) (by omega) (by omega) d_Divisor_divide_23 ?_
  obtain ⟨cn, ecn⟩ : ∃ cn, cn = len1 + 1 - leno := ⟨_, rfl⟩
  rw [← ecn]
  refine lv_aload_n hx hb d_Divisor_divide_26 rfl (lv_at hl 1 rfl) ?_
  refine va_get (D := (dC, dI)) (ci := 1) (v := .int (nI len1)) (C := R_Whole) (T := F_Whole) (N := 3) hx hb hts i_Whole hown hK hP 3 rfl rfl 1 (by decide) (hts _ k_fl_Divisor_72) (fun _ h9 => h9) rfl d_Divisor_divide_27 ?_
  refine xn_mmin (v := cn) hx hb (by rw [hml]; exact hl.1.symm) hown (hts _ k_ml_Divisor_44) (hts _ k_st_Math_min) (hts _ k_ini_Math) (hts _ k_code_Math_min) (Nat.le_of_ble_eq_true rfl) (Nat.le_of_ble_eq_true rfl) (Nat.zero_le _) (Nat.zero_le _) (by omega) (by omega) (by omega) d_Divisor_divide_30 ?_
  refine lv_istore_n (lv' := [(2, .int (nI cn)), (0, .ref d0), (1, .ref h0n)]) hx hb d_Divisor_divide_33 rfl hl (by decide) rfl (fun ls hl => ?_)
  refine lv_iconst (v := nI 0) hx hb d_Divisor_divide_34 rfl ?_
  refine lv_istore_n (lv' := [(3, .int (nI 0)), (2, .int (nI cn)), (0, .ref d0), (1, .ref h0n)]) hx hb d_Divisor_divide_35 rfl hl (by decide) rfl (fun ls hl => ?_)
  have hq := dv_lt ho hpos (lb_lt len1 (fun i _ => hF1 i)) hv1
  rw [← ecn] at hq
  have loop : ∀ (n : Nat) (i : Nat) (F : Nat → Nat), (i ≤ cn) → (∀ k, F k < 2147483648) → (cg (lb_p cn) (lb_v fo leno * lb_v F i + lb_v F cn) (lb_v F1 len1 + lb_v F i)) → (cn + 1 ≤ i + n) → ∀ (H : Heap) (locs : List Loc), va_P (dC, dI) classes ([(d0, .inr (2, [.ref h0o, .ref h0r, .int (nI tw), .int (nI iv)])), (h0o, .inr (1, [.ref q0o, .int (nI leno), .int sgo])), (q0o, .inl (cA, capo, .inl (xn_f fo))), (h0n, .inr (1, [.ref q0n, .int (nI len1), .int sg1])), (q0n, .inl (cA, capn, .inl (xn_f F)))]) H → va_D A ([(d0, .inr (2, [.ref h0o, .ref h0r, .int (nI tw), .int (nI iv)])), (h0o, .inr (1, [.ref q0o, .int (nI leno), .int sgo])), (q0o, .inl (cA, capo, .inl (xn_f fo))), (h0n, .inr (1, [.ref q0n, .int (nI len1), .int sg1])), (q0n, .inl (cA, capn, .inl (xn_f F)))]) → va_S A s.heap H locs → ∀ (ls : Array Slot), lv_has ls 5 [(3, .int (nI i)), (2, .int (nI cn)), (0, .ref d0), (1, .ref h0n)] → W p l e (headSpec w_Divisor_divide ({ frames := 2, cells := 0, slots := 0, locals := 53 })).room s m ([.ref d0, .ref h0n] : List Value).toArray below meth c H locs 0 0 (MQ below (va_Qv (S := (Nat → Nat) × Nat × Int32) (fun u => wh_ok capn u.1 u.2.1 u.2.2 ∧ wh_z u.1 u.2.1 u.2.2 = Q) (fun u t => va_P (dC, dI) classes ((fun u => [(d0, .inr (2, [.ref h0o, .ref h0r, .int (nI tw), .int (nI iv)])), (h0o, .inr (1, [.ref q0o, .int (nI leno), .int sgo])), (q0o, .inl (cA, capo, .inl (xn_f fo))), (h0n, .inr (1, [.ref q0n, .int (nI u.2.1), .int u.2.2])), (q0n, .inl (cA, capn, .inl (xn_f u.1)))]) u) t.heap) A) ([.ref d0, .ref h0n] : List Value).toArray s 0 0 A) (F0 m 36 ls []) := by
    intro n
    induction n with
    | zero => intro i F hi hF hcg hn; exact absurd hn (by omega)
    | succ n ih =>
      intro i F hi hF hcg hn H locs hP hD hS ls hl
      refine lv_iload_n hx hb d_Divisor_divide_36 rfl (lv_at hl 0 rfl) ?_
      refine lv_iload_n hx hb d_Divisor_divide_37 rfl (lv_at hl 1 rfl) ?_
      refine xn_icmp_ge (tgt := 83) hx hb (by omega) (by omega) d_Divisor_divide_38 (by decide) (fun hge => ?_) (fun hge => ?_)
      · have hie : cn = i := by omega
        subst hie
        have hfin := dv_done hF hO hq hv1 hcg
        refine lv_aload_n hx hb d_Divisor_divide_83 rfl (lv_at hl 3 rfl) ?_
        refine lv_aload_n hx hb d_Divisor_divide_84 rfl (lv_at hl 3 rfl) ?_
        refine va_get (D := (dC, dI)) (ci := 1) (v := .int sg1) (C := R_Whole) (T := F_Whole) (N := 3) hx hb hts i_Whole hown hK hP 3 rfl rfl 2 (by decide) (hts _ k_fl_Divisor_53) (fun _ h9 => h9) rfl d_Divisor_divide_85 ?_
        refine lv_aload_n hx hb d_Divisor_divide_88 rfl (lv_at hl 2 rfl) ?_
        refine va_get (D := (dC, dI)) (ci := 2) (v := .ref h0o) (C := R_Divisor) (T := F_Divisor) (N := 4) hx hb hts i_Divisor hown hK hP 0 rfl rfl 0 (by decide) (hts _ k_fl_Divisor_14) (fun _ h9 => h9) rfl d_Divisor_divide_89 ?_
        refine va_get (D := (dC, dI)) (ci := 1) (v := .int sgo) (C := R_Whole) (T := F_Whole) (N := 3) hx hb hts i_Whole hown hK hP 1 rfl rfl 2 (by decide) (hts _ k_fl_Divisor_53) (fun _ h9 => h9) rfl d_Divisor_divide_92 ?_
        refine xe_imul (v := sg1 * sgo) hx hb d_Divisor_divide_95 rfl ?_
        refine va_put (D := (dC, dI)) (ci := 1) (v := .int (sg1 * sgo)) (ty := .int) (C := R_Whole) (T := F_Whole) (N := 3) hx hb hts i_Whole t_Whole t_Whole_ok n_Whole hown hK hP hD hS 3 rfl rfl 2 (by decide) (hts _ k_fl_Divisor_53) (fun _ h9 => h9) rfl (by decide +kernel) rfl rfl (Nat.le_of_ble_eq_true rfl) d_Divisor_divide_96 (fun H locs hP hD hS => ?_)
        have hP : va_P (dC, dI) classes ([(d0, .inr (2, [.ref h0o, .ref h0r, .int (nI tw), .int (nI iv)])), (h0o, .inr (1, [.ref q0o, .int (nI leno), .int sgo])), (q0o, .inl (cA, capo, .inl (xn_f fo))), (h0n, .inr (1, [.ref q0n, .int (nI len1), .int (sg1 * sgo)])), (q0n, .inl (cA, capn, .inl (xn_f F)))]) H := hP
        have hD : va_D A ([(d0, .inr (2, [.ref h0o, .ref h0r, .int (nI tw), .int (nI iv)])), (h0o, .inr (1, [.ref q0o, .int (nI leno), .int sgo])), (q0o, .inl (cA, capo, .inl (xn_f fo))), (h0n, .inr (1, [.ref q0n, .int (nI len1), .int (sg1 * sgo)])), (q0n, .inl (cA, capn, .inl (xn_f F)))]) := hD
        refine lv_aload_n hx hb d_Divisor_divide_99 rfl (lv_at hl 3 rfl) ?_
        refine lv_iload_n hx hb d_Divisor_divide_100 rfl (lv_at hl 1 rfl) ?_
        have hFc := va_free (wc := [(h0n, .inr (1, [.ref q0n, .int (nI len1), .int (sg1 * sgo)])), (q0n, .inl (cA, capn, .inl (xn_f F)))]) hD hS hA [3, 4] rfl
        refine va_callv (va_runV (As := [.int (nI cn)]) (rest := []) ⟨hx, hb, hml, hown, hts⟩ (c_Whole_trim l dC dI H.size cA h0n q0n capn len1 F (sg1 * sgo) cn hcapn hF (by omega)) (cwV 1 hts (gw_V k_ml_Divisor_86 k_im_Whole_trim k_sel_Whole_trim k_ini_Whole k_code_Whole_trim) rfl rfl rfl (by decide +kernel) ⟨Nat.le_of_ble_eq_true rfl, Nat.le_of_ble_eq_true rfl⟩) ⟨xc_W_blind, va_recv hK hP (ci := 1) (q0 := 3) rfl rfl, fun U hU hW => ⟨rfl, by rw [hU], by rw [hU]; exact hP.sub (ws' := [(h0n, .inr (1, [.ref q0n, .int (nI len1), .int (sg1 * sgo)])), (q0n, .inl (cA, capn, .inl (xn_f F)))]) [3, 4] rfl, va_K.moved hW.alike (hK.sub (tys' := [(cA, .int)]) [0] rfl), (hD.sub (ws' := [(h0n, .inr (1, [.ref q0n, .int (nI len1), .int (sg1 * sgo)])), (q0n, .inl (cA, capn, .inl (xn_f F)))]) [3, 4] (by decide) rfl).weaken (fun _ _ _ _ => trivial)⟩⟩ rfl rfl hl.1 rfl (lv_room (Nat.le_of_ble_eq_true rfl)) d_Divisor_divide_101 ⟨Nat.zero_le _, Nat.zero_le _⟩) hS (fun q _ h => hFc q h) hFc (fun u t_ H locs ht_ hvm_ hw hB hz1 hk1 hS => ?_)
        obtain ⟨len2, sg2⟩ := u
        rw [ht_] at hB
        obtain ⟨hP, hD⟩ := xj_2 3 4 hP hD rfl rfl hk1 hB
        have hP : va_P (dC, dI) classes ([(d0, .inr (2, [.ref h0o, .ref h0r, .int (nI tw), .int (nI iv)])), (h0o, .inr (1, [.ref q0o, .int (nI leno), .int sgo])), (q0o, .inl (cA, capo, .inl (xn_f fo))), (h0n, .inr (1, [.ref q0n, .int (nI len2), .int sg2])), (q0n, .inl (cA, capn, .inl (xn_f F)))]) H := hP
        have hD : va_D A ([(d0, .inr (2, [.ref h0o, .ref h0r, .int (nI tw), .int (nI iv)])), (h0o, .inr (1, [.ref q0o, .int (nI leno), .int sgo])), (q0o, .inl (cA, capo, .inl (xn_f fo))), (h0n, .inr (1, [.ref q0n, .int (nI len2), .int sg2])), (q0n, .inl (cA, capn, .inl (xn_f F)))]) := hD
        dsimp only at hw
        have hpost := dv_fin hon hsgo hD1 hQ hF (Nat.le_trans hw.1 (by omega)) hw.2.2.1 (hw.2.1.trans hfin) hs1 (fun q1 q2 => by
            rw [q2] at hv1
            rcases Nat.mul_eq_zero.mp (show Q.natAbs * lb_v fo leno = 0 from hv1.symm) with r | r <;> omega) hw.2.2.2
        exact W.vret hx hb hr (fun T_ ht_ hW_ => ⟨⟨(F, len2, sg2), rfl, hpost, by show va_P (dC, dI) classes _ T_.heap; rw [ht_]; exact hP⟩, hS.F ht_⟩) hS.2.2 d_Divisor_divide_104
      refine lv_aload_n hx hb d_Divisor_divide_41 rfl (lv_at hl 3 rfl) ?_
      refine va_get (D := (dC, dI)) (ci := 1) (v := .ref q0n) (C := R_Whole) (T := F_Whole) (N := 3) hx hb hts i_Whole hown hK hP 3 rfl rfl 0 (by decide) (hts _ k_fl_Divisor_78) (fun _ h9 => h9) rfl d_Divisor_divide_42 ?_
      refine lv_iload_n hx hb d_Divisor_divide_45 rfl (lv_at hl 0 rfl) ?_
      refine xn_iald hx hb hK hP 4 0 rfl rfl (i := i) (by omega) (by omega) d_Divisor_divide_46 ?_
      refine lv_aload_n hx hb d_Divisor_divide_47 rfl (lv_at hl 2 rfl) ?_
      refine va_get (D := (dC, dI)) (ci := 2) (v := .int (nI iv)) (C := R_Divisor) (T := F_Divisor) (N := 4) hx hb hts i_Divisor hown hK hP 0 rfl rfl 3 (by decide) (hts _ k_fl_Divisor_27) (fun _ h9 => h9) rfl d_Divisor_divide_48 ?_
      refine xn_imul hx hb d_Divisor_divide_51 ?_
      refine lv_ldc (v := nI 2147483647) hx hb hown (hts _ k_ldc_Divisor_71) d_Divisor_divide_52 ?_
      obtain ⟨ql, eql⟩ : ∃ ql, ql = F i * iv % 2147483648 := ⟨_, rfl⟩
      have hql : ql < 2147483648 := by rw [eql]; exact Nat.mod_lt _ (by decide)
      refine xe_iand (v := nI ql) hx hb d_Divisor_divide_54 (by rw [nI_mask, eql]) ?_
      refine lv_istore (lv' := [(4, .int (nI ql)), (3, .int (nI i)), (2, .int (nI cn)), (0, .ref d0), (1, .ref h0n)]) hx hb d_Divisor_divide_55 hl (by decide) rfl (fun ls hl => ?_)
      refine lv_aload_n hx hb d_Divisor_divide_57 rfl (lv_at hl 3 rfl) ?_
      refine lv_aload_n hx hb d_Divisor_divide_58 rfl (lv_at hl 4 rfl) ?_
      refine va_get (D := (dC, dI)) (ci := 1) (v := .ref q0n) (C := R_Whole) (T := F_Whole) (N := 3) hx hb hts i_Whole hown hK hP 3 rfl rfl 0 (by decide) (hts _ k_fl_Divisor_78) (fun _ h9 => h9) rfl d_Divisor_divide_59 ?_
      refine lv_iload hx hb d_Divisor_divide_62 (lv_at hl 0 rfl) ?_
      refine lv_iload_n hx hb d_Divisor_divide_64 rfl (lv_at hl 1 rfl) ?_
      refine lv_iload_n hx hb d_Divisor_divide_65 rfl (lv_at hl 2 rfl) ?_
      have hFc := va_free (wc := [(d0, .inr (2, [.ref h0o, .ref h0r, .int (nI tw), .int (nI iv)])), (h0o, .inr (1, [.ref q0o, .int (nI leno), .int sgo])), (q0o, .inl (cA, capo, .inl (xn_f fo))), (q0n, .inl (cA, capn, .inl (xn_f F)))]) hD hS hA [0, 1, 2, 4] rfl
      refine va_callv (va_runV (As := [.ref q0n, .int (nI ql), .int (nI i), .int (nI cn)]) (rest := []) ⟨hx, hb, hml, hown, hts⟩ (c_Divisor_subtractMultiple l dC dI H.size cA d0 h0r tw iv h0o q0o capo leno fo sgo q0n capn F ql i cn hcapo hcapn ho hF hql (by omega) (by omega)) (cwV 4 hts (gw_V k_ml_Divisor_82 k_im_Divisor_subtractMultiple k_sel_Divisor_subtractMultiple k_ini_Divisor k_code_Divisor_subtractMultiple) rfl rfl rfl (by decide +kernel) ⟨Nat.le_of_ble_eq_true rfl, Nat.le_of_ble_eq_true rfl⟩) ⟨xc_W_blind, va_recv hK hP (ci := 2) (q0 := 0) rfl rfl, fun U hU hW => ⟨rfl, by rw [hU], by rw [hU]; exact hP.sub (ws' := [(d0, .inr (2, [.ref h0o, .ref h0r, .int (nI tw), .int (nI iv)])), (h0o, .inr (1, [.ref q0o, .int (nI leno), .int sgo])), (q0o, .inl (cA, capo, .inl (xn_f fo))), (q0n, .inl (cA, capn, .inl (xn_f F)))]) [0, 1, 2, 4] rfl, va_K.moved hW.alike (hK.sub (tys' := [(cA, .int)]) [0] rfl), (hD.sub (ws' := [(d0, .inr (2, [.ref h0o, .ref h0r, .int (nI tw), .int (nI iv)])), (h0o, .inr (1, [.ref q0o, .int (nI leno), .int sgo])), (q0o, .inl (cA, capo, .inl (xn_f fo))), (q0n, .inl (cA, capn, .inl (xn_f F)))]) [0, 1, 2, 4] (by decide) rfl).weaken (fun _ _ _ _ => trivial)⟩⟩ rfl rfl hl.1 rfl (lv_room (Nat.le_of_ble_eq_true rfl)) d_Divisor_divide_66 ⟨Nat.zero_le _, Nat.zero_le _⟩) hS (fun q _ h => hFc q h) hFc (fun u t_ H locs ht_ hvm_ hw hB hz1 hk1 hS => ?_)
      obtain ⟨G, e_G⟩ : ∃ z, z = u := ⟨u, rfl⟩
      rw [← e_G] at hw hB
      rw [ht_] at hB
      obtain ⟨hP, hD⟩ := xj_4 0 1 2 4 hP hD rfl rfl rfl rfl hk1 hB
      have hP : va_P (dC, dI) classes ([(d0, .inr (2, [.ref h0o, .ref h0r, .int (nI tw), .int (nI iv)])), (h0o, .inr (1, [.ref q0o, .int (nI leno), .int sgo])), (q0o, .inl (cA, capo, .inl (xn_f fo))), (h0n, .inr (1, [.ref q0n, .int (nI len1), .int sg1])), (q0n, .inl (cA, capn, .inl (xn_f G)))]) H := hP
      have hD : va_D A ([(d0, .inr (2, [.ref h0o, .ref h0r, .int (nI tw), .int (nI iv)])), (h0o, .inr (1, [.ref q0o, .int (nI leno), .int sgo])), (q0o, .inl (cA, capo, .inl (xn_f fo))), (h0n, .inr (1, [.ref q0n, .int (nI len1), .int sg1])), (q0n, .inl (cA, capn, .inl (xn_f G)))]) := hD
      obtain ⟨hG, ⟨k, hk⟩, hGk⟩ := hw
      have hG0 := dv_zero hF hG hfo hge (show 0 < min leno (cn - i) by omega) hk (fun j hj => hGk j (Or.inl hj)) eql hiv
      have hcg2 := dv_next hge hG0 (fun j hj => hGk j (Or.inl hj)) (dv_cg hge hk) hcg
      refine lv_aload_n hx hb d_Divisor_divide_69 rfl (lv_at hl 4 rfl) ?_
      refine va_get (D := (dC, dI)) (ci := 1) (v := .ref q0n) (C := R_Whole) (T := F_Whole) (N := 3) hx hb hts i_Whole hown hK hP 3 rfl rfl 0 (by decide) (hts _ k_fl_Divisor_78) (fun _ h9 => h9) rfl d_Divisor_divide_70 ?_
      refine lv_iload_n hx hb d_Divisor_divide_73 rfl (lv_at hl 1 rfl) ?_
      refine lv_iload hx hb d_Divisor_divide_74 (lv_at hl 0 rfl) ?_
      refine xn_iast hx hb hK hP hD hS 4 0 rfl rfl (i := i) (x := ql) (by omega) (by omega) d_Divisor_divide_76 (fun H locs hP hD hS => ?_)
      have hP : va_P (dC, dI) classes ([(d0, .inr (2, [.ref h0o, .ref h0r, .int (nI tw), .int (nI iv)])), (h0o, .inr (1, [.ref q0o, .int (nI leno), .int sgo])), (q0o, .inl (cA, capo, .inl (xn_f fo))), (h0n, .inr (1, [.ref q0n, .int (nI len1), .int sg1])), (q0n, .inl (cA, capn, .inl (xn_f (va_up G i ql))))]) H := hP
      have hD : va_D A ([(d0, .inr (2, [.ref h0o, .ref h0r, .int (nI tw), .int (nI iv)])), (h0o, .inr (1, [.ref q0o, .int (nI leno), .int sgo])), (q0o, .inl (cA, capo, .inl (xn_f fo))), (h0n, .inr (1, [.ref q0n, .int (nI len1), .int sg1])), (q0n, .inl (cA, capn, .inl (xn_f (va_up G i ql))))]) := hD
      refine lv_iinc (v := nI (i + 1)) (lv' := [(3, .int (nI (i + 1))), (4, .int (nI ql)), (2, .int (nI cn)), (0, .ref d0), (1, .ref h0n)]) hx hb d_Divisor_divide_77 hl (k := 1) rfl (nI_1 _) (by decide) rfl (fun ls hl => ?_)
      refine lv_goto (tgt := 36) hx hb d_Divisor_divide_80 (by decide) ?_
      exact ih (i + 1) (va_up G i ql) (by omega) (fun k => by by_cases q : k = i <;> simp [va_up, q, hG, hql]) hcg2 (by omega) H locs hP hD hS ls (lv_sub hl [0, 2, 3, 4] rfl)
  have hst : cg (lb_p cn) (lb_v fo leno * lb_v F1 0 + lb_v F1 cn) (lb_v F1 len1 + lb_v F1 0) := by
    show cg (lb_p cn) (lb_v fo leno * 0 + lb_v F1 cn) (lb_v F1 len1 + 0)
    rw [Nat.mul_zero, Nat.zero_add, Nat.add_zero, ← lb_mod (n := len1) (show cn ≤ len1 by omega) (fun i _ => hF1 i)]
    exact cg_of_mod _ _
  exact loop (cn + 1) 0 F1 (Nat.zero_le _) hF1 hst (by omega) H locs hP hD hS ls (lv_sub hl [0, 1, 2, 3] rfl)
