set_option maxHeartbeats 8000000 in
set_option maxRecDepth 100000 in
/-- divide of the reference -/
theorem c_Model_divide (l : Launch) (dC : Nat → ClassId) (dI : Nat → Nat → Nat) (sz : Nat) (cA : ClassId) (m0 ma mS mt mo mb mg mh mr : Nat) (er : Int32) (n : Nat) (sv : Int32) (q1 : Nat) (fg fh fr x : Nat → Nat) (hfg : ∀ i, fg i < 65536) (hfh : ∀ i, fh i < 65536) (hfr : ∀ i, fr i < 65536) (hx0 : ∀ i, x i < 65536) (hG0 : 0 < dg_v fg 56) : Met l y_Model_divide w_Model_divide ({ frames := 1, cells := 0, slots := 0, locals := 23 }) (xc_W [.ref m0, .ref q1] dC dI ([(m0, .inr (3, [.int er, .int (nI n), .int sv, .ref ma, .ref mS, .ref mt, .ref mo, .ref mb, .ref mg, .ref mh, .ref mr])), (mg, .inl (cA, 56, .inl (xn_f fg))), (mh, .inl (cA, 56, .inl (xn_f fh))), (mr, .inl (cA, 56, .inl (xn_f fr))), (q1, .inl (cA, 56, .inl (xn_f x)))]) [(cA, .int)] sz) (va_Qv (S := (Nat → Nat) × (Nat → Nat) × (Nat → Nat)) (fun u => (∀ i, u.1 i < 65536) ∧ (∀ i, u.2.1 i < 65536) ∧ (∀ i, u.2.2 i < 65536) ∧ dg_v u.1 56 = dg_v x 56 / dg_v fg 56) (fun u t => va_P (dC, dI) classes ((fun u => [(m0, .inr (3, [.int er, .int (nI n), .int sv, .ref ma, .ref mS, .ref mt, .ref mo, .ref mb, .ref mg, .ref mh, .ref mr])), (mg, .inl (cA, 56, .inl (xn_f fg))), (mh, .inl (cA, 56, .inl (xn_f u.2.1))), (mr, .inl (cA, 56, .inl (xn_f u.2.2))), (q1, .inl (cA, 56, .inl (xn_f u.1)))]) u) t.heap) (va_A ([(m0, .inr (3, [.int er, .int (nI n), .int sv, .ref ma, .ref mS, .ref mt, .ref mo, .ref mb, .ref mg, .ref mh, .ref mr])), (mg, .inl (cA, 56, .inl (xn_f fg))), (mh, .inl (cA, 56, .inl (xn_f fh))), (mr, .inl (cA, 56, .inl (xn_f fr))), (q1, .inl (cA, 56, .inl (xn_f x)))]) sz)) 0 0 (va_A ([(m0, .inr (3, [.int er, .int (nI n), .int sv, .ref ma, .ref mS, .ref mt, .ref mo, .ref mb, .ref mg, .ref mh, .ref mr])), (mg, .inl (cA, 56, .inl (xn_f fg))), (mh, .inl (cA, 56, .inl (xn_f fh))), (mr, .inl (cA, 56, .inl (xn_f fr))), (q1, .inl (cA, 56, .inl (xn_f x)))]) sz) := by
  refine Met.ofW (cc := b_Model_divide) (maxL := 4) (ret := none) (by decide) rfl ?_
  intro p e s m args below meth c s₁ B hml hv
  obtain ⟨rfl, hsz, hP, hK, hD0⟩ := hv
  have hx := B.exec
  have hb := B.bytes
  have hr := B.returns
  have hts : ∀ w ∈ gw_tbl, w.before ([.ref m0, .ref q1] : List Value).toArray s = true := fun w h => atoms_spec (ws := w_Model_divide) B.pre w (List.mem_cons_of_mem _ h)
  have hown : s.vm.findClass R_Model = some m.cls := findClass_of_methodNamed B.named
  have hlocks := B.notSynchronized
  subst hsz
  have hD := hD0.self (sz := s.heap.size)
  generalize hAe : va_A ([(m0, .inr (3, [.int er, .int (nI n), .int sv, .ref ma, .ref mS, .ref mt, .ref mo, .ref mb, .ref mg, .ref mh, .ref mr])), (mg, .inl (cA, 56, .inl (xn_f fg))), (mh, .inl (cA, 56, .inl (xn_f fh))), (mr, .inl (cA, 56, .inl (xn_f fr))), (q1, .inl (cA, 56, .inl (xn_f x)))]) s.heap.size = A at hD ⊢
  have hA : ∀ q : Nat, s.heap.size ≤ q → A q := fun q h => by rw [← hAe]; exact Or.inr h
  have hS : va_S A s.heap s.heap [] := va_S.rf
  have hl := lv_entry ([.ref m0, .ref q1]) (n := 4) (Nat.le_of_ble_eq_true rfl)
  rw [lg_entry_eq]
  generalize (lg_sl ([.ref m0, .ref q1]) ++ List.replicate (4 - (lg_sl ([.ref m0, .ref q1])).length) Slot.unset).toArray = ls at hl ⊢
  have hl : lv_has ls 4 [(0, .ref m0), (1, .ref q1)] := hl
  obtain ⟨X, eX⟩ : ∃ X, X = dg_v x 56 := ⟨_, rfl⟩
  obtain ⟨D, eD⟩ : ∃ D, D = dg_v fg 56 := ⟨_, rfl⟩
  have hXp : X < dg_p 56 := by rw [eX]; exact dg_lt 56 (fun i _ => hx0 i)
  rw [← eD] at hG0
  have loop : ∀ (n0 : Nat) (mq : Nat) (Hh Rr : Nat → Nat), (mq ≤ 896) → (∀ i, Hh i < 65536) → (∀ i, Rr i < 65536) → (dg_v Hh 56 = X / 2 ^ mq / D) → (dg_v Rr 56 = X / 2 ^ mq % D) → (mq + 1 ≤ n0) → ∀ (H : Heap) (locs : List Loc), va_P (dC, dI) classes ([(m0, .inr (3, [.int er, .int (nI n), .int sv, .ref ma, .ref mS, .ref mt, .ref mo, .ref mb, .ref mg, .ref mh, .ref mr])), (mg, .inl (cA, 56, .inl (xn_f fg))), (mh, .inl (cA, 56, .inl (xn_f Hh))), (mr, .inl (cA, 56, .inl (xn_f Rr))), (q1, .inl (cA, 56, .inl (xn_f x)))]) H → va_D A ([(m0, .inr (3, [.int er, .int (nI n), .int sv, .ref ma, .ref mS, .ref mt, .ref mo, .ref mb, .ref mg, .ref mh, .ref mr])), (mg, .inl (cA, 56, .inl (xn_f fg))), (mh, .inl (cA, 56, .inl (xn_f Hh))), (mr, .inl (cA, 56, .inl (xn_f Rr))), (q1, .inl (cA, 56, .inl (xn_f x)))]) → va_S A s.heap H locs → ∀ (ls : Array Slot), lv_has ls 4 [(2, .int (nI mq - 1)), (0, .ref m0), (1, .ref q1)] → W p l e (headSpec w_Model_divide ({ frames := 1, cells := 0, slots := 0, locals := 23 })).room s m ([.ref m0, .ref q1] : List Value).toArray below meth c H locs 0 0 (MQ below (va_Qv (S := (Nat → Nat) × (Nat → Nat) × (Nat → Nat)) (fun u => (∀ i, u.1 i < 65536) ∧ (∀ i, u.2.1 i < 65536) ∧ (∀ i, u.2.2 i < 65536) ∧ dg_v u.1 56 = dg_v x 56 / dg_v fg 56) (fun u t => va_P (dC, dI) classes ((fun u => [(m0, .inr (3, [.int er, .int (nI n), .int sv, .ref ma, .ref mS, .ref mt, .ref mo, .ref mb, .ref mg, .ref mh, .ref mr])), (mg, .inl (cA, 56, .inl (xn_f fg))), (mh, .inl (cA, 56, .inl (xn_f u.2.1))), (mr, .inl (cA, 56, .inl (xn_f u.2.2))), (q1, .inl (cA, 56, .inl (xn_f u.1)))]) u) t.heap) A) ([.ref m0, .ref q1] : List Value).toArray s 0 0 A) (F0 m 32 ls []) := by
    intro n0
    induction n0 with
    | zero => intro mq Hh Rr hm hH hR hh hr9 hn_; exact absurd hn_ (by omega)
    | succ n0 ih =>
      intro mq Hh Rr hm hH hR hh hr9 hn_ H locs hP hD hS ls hl
      refine lv_iload_n hx hb d_Model_divide_32 rfl (lv_at hl 0 rfl) ?_
      refine lv_if_lt (tgt := 105) hx hb d_Model_divide_33 (by decide) (fun hneg => ?_) (fun hneg => ?_)
      · have hk0 : mq = 0 := by
          rcases Nat.eq_zero_or_pos mq with q | q
          · exact q
          · rw [xn_pre q] at hneg; exact absurd hneg (nI_pos (by omega))
        subst hk0
        rw [Nat.pow_zero, Nat.div_one] at hh hr9
        refine lv_aload_n hx hb d_Model_divide_105 rfl (lv_at hl 1 rfl) ?_
        refine va_get (D := (dC, dI)) (ci := 3) (v := .ref mh) (C := R_Model) (T := F_Model) (N := 11) hx hb hts i_Model hown hK hP 0 rfl rfl 9 (by decide) (hts _ k_fl_Model_30) (fun _ h9 => h9) rfl d_Model_divide_106 ?_
        refine lv_aload_n hx hb d_Model_divide_109 rfl (lv_at hl 2 rfl) ?_
        have hFc := va_free (wc := [(mh, .inl (cA, 56, .inl (xn_f Hh))), (q1, .inl (cA, 56, .inl (xn_f x)))]) hD hS hA [2, 4] rfl
        refine va_callv (va_runS (As := [.ref mh, .ref q1]) (rest := []) ⟨hx, hb, hml, hown, hts⟩ (c_Model_copy l dC dI H.size cA mh q1 Hh x hH hx0) (cwS 2 hts (gw_S k_ml_Model_79 k_st_Model_copy k_ini_Model k_code_Model_copy) rfl rfl rfl (by decide +kernel) ⟨Nat.le_of_ble_eq_true rfl, Nat.le_of_ble_eq_true rfl⟩) ⟨xc_W_blind, fun U hU hW => ⟨rfl, by rw [hU], by rw [hU]; exact hP.sub (ws' := [(mh, .inl (cA, 56, .inl (xn_f Hh))), (q1, .inl (cA, 56, .inl (xn_f x)))]) [2, 4] rfl, va_K.moved hW.alike (hK.sub (tys' := [(cA, .int)]) [0] rfl), (hD.sub (ws' := [(mh, .inl (cA, 56, .inl (xn_f Hh))), (q1, .inl (cA, 56, .inl (xn_f x)))]) [2, 4] (by decide) rfl).weaken (fun _ _ _ _ => trivial)⟩⟩ rfl rfl hl.1 rfl (lv_room (Nat.le_of_ble_eq_true rfl)) d_Model_divide_110 ⟨Nat.zero_le _, Nat.zero_le _⟩) hS (fun q _ h => hFc q h) hFc (fun u t_ H locs ht_ hvm_ w1 hB hz1 hk1 hS => ?_)
        obtain ⟨x2, e_x2⟩ : ∃ z, z = u := ⟨u, rfl⟩
        rw [← e_x2] at w1 hB
        rw [ht_] at hB
        obtain ⟨hP, hD⟩ := xj_2 2 4 hP hD rfl rfl hk1 hB
        have hP : va_P (dC, dI) classes ([(m0, .inr (3, [.int er, .int (nI n), .int sv, .ref ma, .ref mS, .ref mt, .ref mo, .ref mb, .ref mg, .ref mh, .ref mr])), (mg, .inl (cA, 56, .inl (xn_f fg))), (mh, .inl (cA, 56, .inl (xn_f Hh))), (mr, .inl (cA, 56, .inl (xn_f Rr))), (q1, .inl (cA, 56, .inl (xn_f x2)))]) H := hP
        have hD : va_D A ([(m0, .inr (3, [.int er, .int (nI n), .int sv, .ref ma, .ref mS, .ref mt, .ref mo, .ref mb, .ref mg, .ref mh, .ref mr])), (mg, .inl (cA, 56, .inl (xn_f fg))), (mh, .inl (cA, 56, .inl (xn_f Hh))), (mr, .inl (cA, 56, .inl (xn_f Rr))), (q1, .inl (cA, 56, .inl (xn_f x2)))]) := hD
        have hpost : (∀ i, x2 i < 65536) ∧ (∀ i, Hh i < 65536) ∧ (∀ i, Rr i < 65536) ∧ dg_v x2 56 = dg_v x 56 / dg_v fg 56 := ⟨w1.1, hH, hR, by rw [w1.2, hh, eX, eD]⟩
        exact W.vret hx hb hr (fun T_ ht_ hW_ => ⟨⟨(x2, Hh, Rr), rfl, hpost, by show va_P (dC, dI) classes _ T_.heap; rw [ht_]; exact hP⟩, hS.F ht_⟩) hS.2.2 d_Model_divide_113
      obtain ⟨j, ej⟩ : ∃ j, mq = j + 1 := by
        rcases Nat.eq_zero_or_pos mq with q | q
        · subst q; exact absurd (by decide) hneg
        · exact ⟨mq - 1, by omega⟩
      subst ej
      rw [xn_pre (Nat.succ_pos _)] at hl
      have hl : lv_has ls 4 [(2, .int (nI j)), (0, .ref m0), (1, .ref q1)] := hl
      have hbit := dg_bit (x := x) (n := 56) (i := j) (by omega) hx0
      have b0 := hx0 (j / 16)
      have hsm : x (j / 16) / 2 ^ (j % 16) ≤ x (j / 16) := Nat.div_le_self _ _
      rw [← eX] at hbit
      obtain ⟨v1, v2⟩ := dv_bit (X := X) (G := D) (m := j) hG0
      have hXj : X / 2 ^ j ≤ X := Nat.div_le_self _ _
      have hmo : X / 2 ^ (j + 1) % D ≤ X / 2 ^ (j + 1) := Nat.mod_le _ _
      have hdi : X / 2 ^ (j + 1) / D ≤ X / 2 ^ (j + 1) := Nat.div_le_self _ _
      have hdj : X / 2 ^ j / D ≤ X / 2 ^ j := Nat.div_le_self _ _
      refine lv_aload_n hx hb d_Model_divide_36 rfl (lv_at hl 1 rfl) ?_
      refine va_get (D := (dC, dI)) (ci := 3) (v := .ref mr) (C := R_Model) (T := F_Model) (N := 11) hx hb hts i_Model hown hK hP 0 rfl rfl 10 (by decide) (hts _ k_fl_Model_33) (fun _ h9 => h9) rfl d_Model_divide_37 ?_
      refine lv_aload_n hx hb d_Model_divide_40 rfl (lv_at hl 2 rfl) ?_
      refine lv_iload_n hx hb d_Model_divide_41 rfl (lv_at hl 0 rfl) ?_
      refine lv_iconst (v := nI 4) hx hb d_Model_divide_42 rfl ?_
      refine xe_ishr (v := nI (j / 16)) hx hb d_Model_divide_43 (nI_shr (k := 4) (by omega) (by decide)) ?_
      refine xn_iald hx hb hK hP 4 0 rfl rfl (i := j / 16) (by omega) (by omega) d_Model_divide_44 ?_
      refine lv_iload_n hx hb d_Model_divide_45 rfl (lv_at hl 0 rfl) ?_
      refine lv_bipush (v := nI 15) hx hb d_Model_divide_46 rfl ?_
      refine xe_iand (v := nI (j % 16)) hx hb d_Model_divide_48 (nI_15 (by omega)) ?_
      refine xe_ishr (v := nI (x (j / 16) / 2 ^ (j % 16))) hx hb d_Model_divide_49 (nI_shr (by omega) (by omega)) ?_
      refine lv_iconst (v := nI 1) hx hb d_Model_divide_50 rfl ?_
      obtain ⟨b, eb⟩ : ∃ b, b = X / 2 ^ j % 2 := ⟨_, rfl⟩
      rw [← eb] at v1 v2
      refine xe_iand (v := nI b) hx hb d_Model_divide_51 (by rw [eb, hbit]; exact nI_bit (by omega)) ?_
      have hFc := va_free (wc := [(mr, .inl (cA, 56, .inl (xn_f Rr)))]) hD hS hA [3] rfl
      refine va_callv (va_runS (As := [.ref mr, .int (nI b)]) (rest := []) ⟨hx, hb, hml, hown, hts⟩ (c_Model_twice l dC dI H.size cA mr Rr b hR (by omega) (by omega)) (cwS 2 hts (gw_S k_ml_Model_97 k_st_Model_twice k_ini_Model k_code_Model_twice) rfl rfl rfl (by decide +kernel) ⟨Nat.le_of_ble_eq_true rfl, Nat.le_of_ble_eq_true rfl⟩) ⟨xc_W_blind, fun U hU hW => ⟨rfl, by rw [hU], by rw [hU]; exact hP.sub (ws' := [(mr, .inl (cA, 56, .inl (xn_f Rr)))]) [3] rfl, va_K.moved hW.alike (hK.sub (tys' := [(cA, .int)]) [0] rfl), (hD.sub (ws' := [(mr, .inl (cA, 56, .inl (xn_f Rr)))]) [3] (by decide) rfl).weaken (fun _ _ _ _ => trivial)⟩⟩ rfl rfl hl.1 rfl (lv_room (Nat.le_of_ble_eq_true rfl)) d_Model_divide_52 ⟨Nat.zero_le _, Nat.zero_le _⟩) hS (fun q _ h => hFc q h) hFc (fun u t_ H locs ht_ hvm_ w1 hB hz1 hk1 hS => ?_)
      obtain ⟨R2, e_R2⟩ : ∃ z, z = u := ⟨u, rfl⟩
      rw [← e_R2] at w1 hB
      rw [ht_] at hB
      obtain ⟨hP, hD⟩ := xj_1 3 hP hD rfl hk1 hB
      have hP : va_P (dC, dI) classes ([(m0, .inr (3, [.int er, .int (nI n), .int sv, .ref ma, .ref mS, .ref mt, .ref mo, .ref mb, .ref mg, .ref mh, .ref mr])), (mg, .inl (cA, 56, .inl (xn_f fg))), (mh, .inl (cA, 56, .inl (xn_f Hh))), (mr, .inl (cA, 56, .inl (xn_f R2))), (q1, .inl (cA, 56, .inl (xn_f x)))]) H := hP
      have hD : va_D A ([(m0, .inr (3, [.int er, .int (nI n), .int sv, .ref ma, .ref mS, .ref mt, .ref mo, .ref mb, .ref mg, .ref mh, .ref mr])), (mg, .inl (cA, 56, .inl (xn_f fg))), (mh, .inl (cA, 56, .inl (xn_f Hh))), (mr, .inl (cA, 56, .inl (xn_f R2))), (q1, .inl (cA, 56, .inl (xn_f x)))]) := hD
      rw [hr9] at w1
      obtain ⟨k1, k2⟩ := dv_q (Y := X / 2 ^ (j + 1)) (b := b) (r := dg_v R2 56) hG0 w1.2 (by omega) (X / 2 ^ j) v1
      refine lv_aload_n hx hb d_Model_divide_55 rfl (lv_at hl 1 rfl) ?_
      refine va_get (D := (dC, dI)) (ci := 3) (v := .ref mr) (C := R_Model) (T := F_Model) (N := 11) hx hb hts i_Model hown hK hP 0 rfl rfl 10 (by decide) (hts _ k_fl_Model_33) (fun _ h9 => h9) rfl d_Model_divide_56 ?_
      refine lv_aload_n hx hb d_Model_divide_59 rfl (lv_at hl 1 rfl) ?_
      refine va_get (D := (dC, dI)) (ci := 3) (v := .ref mg) (C := R_Model) (T := F_Model) (N := 11) hx hb hts i_Model hown hK hP 0 rfl rfl 8 (by decide) (hts _ k_fl_Model_27) (fun _ h9 => h9) rfl d_Model_divide_60 ?_
      refine vp_callSi (W.runS (As := [.ref mr, .ref mg]) (rest := []) ⟨hx, hb, hml, hown, hts⟩ (c_Model_cmp l dC dI cA mr mg R2 fg w1.1 hfg) (cwS 2 hts (gw_S k_ml_Model_90 k_st_Model_cmp k_ini_Model k_code_Model_cmp) rfl rfl rfl (by decide +kernel) ⟨Nat.le_of_ble_eq_true rfl, Nat.le_of_ble_eq_true rfl⟩) ⟨xc_R_blind, fun U hU hW => ⟨rfl, by rw [hU]; exact hP.sub (ws' := [(mr, .inl (cA, 56, .inl (xn_f R2))), (mg, .inl (cA, 56, .inl (xn_f fg)))]) [3, 1] rfl, va_K.moved hW.alike (hK.sub (tys' := [(cA, .int)]) [0] rfl)⟩⟩ rfl rfl hl.1 rfl (lv_room (Nat.le_of_ble_eq_true rfl)) d_Model_divide_63 ⟨Nat.zero_le _, Nat.zero_le _⟩) (fun rc e_c => ?_)
      rw [← eD] at e_c
      refine lv_if_lt (tgt := 73) hx hb d_Model_divide_66 (by decide) (fun hc => ?_) (fun hc => ?_)
      · have hlt : dg_v R2 56 < D := by
          rcases Nat.lt_or_ge (dg_v R2 56) D with q | q
          · exact q
          · rw [if_neg (by omega)] at e_c; split at e_c <;> (rw [e_c] at hc; exact absurd hc (by decide))
        obtain ⟨k3, k4⟩ := k1 hlt
        refine lv_iconst (v := nI 0) hx hb d_Model_divide_73 rfl ?_
        refine lv_istore_n (lv' := [(3, .int (nI 0)), (2, .int (nI j)), (0, .ref m0), (1, .ref q1)]) hx hb d_Model_divide_74 rfl hl (by decide) rfl (fun ls hl => ?_)
        refine lv_iload_n hx hb d_Model_divide_75 rfl (lv_at hl 0 rfl) ?_
        refine lv_iconst (v := nI 1) hx hb d_Model_divide_76 rfl ?_
        refine xn_icmp_ne (tgt := 91) hx hb (by decide) (by decide) d_Model_divide_77 (by decide) (fun _ => ?_) (fun hx1 => absurd hx1 (by decide))
        refine lv_aload_n hx hb d_Model_divide_91 rfl (lv_at hl 2 rfl) ?_
        refine va_get (D := (dC, dI)) (ci := 3) (v := .ref mh) (C := R_Model) (T := F_Model) (N := 11) hx hb hts i_Model hown hK hP 0 rfl rfl 9 (by decide) (hts _ k_fl_Model_30) (fun _ h9 => h9) rfl d_Model_divide_92 ?_
        refine lv_iload_n hx hb d_Model_divide_95 rfl (lv_at hl 0 rfl) ?_
        have hFc := va_free (wc := [(mh, .inl (cA, 56, .inl (xn_f Hh)))]) hD hS hA [2] rfl
        refine va_callv (va_runS (As := [.ref mh, .int (nI 0)]) (rest := []) ⟨hx, hb, hml, hown, hts⟩ (c_Model_twice l dC dI H.size cA mh Hh 0 hH (by decide) (by rw [hh]; omega)) (cwS 2 hts (gw_S k_ml_Model_97 k_st_Model_twice k_ini_Model k_code_Model_twice) rfl rfl rfl (by decide +kernel) ⟨Nat.le_of_ble_eq_true rfl, Nat.le_of_ble_eq_true rfl⟩) ⟨xc_W_blind, fun U hU hW => ⟨rfl, by rw [hU], by rw [hU]; exact hP.sub (ws' := [(mh, .inl (cA, 56, .inl (xn_f Hh)))]) [2] rfl, va_K.moved hW.alike (hK.sub (tys' := [(cA, .int)]) [0] rfl), (hD.sub (ws' := [(mh, .inl (cA, 56, .inl (xn_f Hh)))]) [2] (by decide) rfl).weaken (fun _ _ _ _ => trivial)⟩⟩ rfl rfl hl.1 rfl (lv_room (Nat.le_of_ble_eq_true rfl)) d_Model_divide_96 ⟨Nat.zero_le _, Nat.zero_le _⟩) hS (fun q _ h => hFc q h) hFc (fun u t_ H locs ht_ hvm_ w2 hB hz1 hk1 hS => ?_)
        obtain ⟨H2, e_H2⟩ : ∃ z, z = u := ⟨u, rfl⟩
        rw [← e_H2] at w2 hB
        rw [ht_] at hB
        obtain ⟨hP, hD⟩ := xj_1 2 hP hD rfl hk1 hB
        have hP : va_P (dC, dI) classes ([(m0, .inr (3, [.int er, .int (nI n), .int sv, .ref ma, .ref mS, .ref mt, .ref mo, .ref mb, .ref mg, .ref mh, .ref mr])), (mg, .inl (cA, 56, .inl (xn_f fg))), (mh, .inl (cA, 56, .inl (xn_f H2))), (mr, .inl (cA, 56, .inl (xn_f R2))), (q1, .inl (cA, 56, .inl (xn_f x)))]) H := hP
        have hD : va_D A ([(m0, .inr (3, [.int er, .int (nI n), .int sv, .ref ma, .ref mS, .ref mt, .ref mo, .ref mb, .ref mg, .ref mh, .ref mr])), (mg, .inl (cA, 56, .inl (xn_f fg))), (mh, .inl (cA, 56, .inl (xn_f H2))), (mr, .inl (cA, 56, .inl (xn_f R2))), (q1, .inl (cA, 56, .inl (xn_f x)))]) := hD
        refine lv_iinc (v := nI j - 1) (lv' := [(2, .int (nI j - 1)), (3, .int (nI 0)), (0, .ref m0), (1, .ref q1)]) hx hb d_Model_divide_99 hl (k := 1) rfl (xn_m1 _) (by decide) rfl (fun ls hl => ?_)
        refine lv_goto (tgt := 32) hx hb d_Model_divide_102 (by decide) ?_
        exact ih j H2 R2 (by omega) w2.1 w1.1 (by rw [w2.2, hh]; omega) (by omega) (by omega) H locs hP hD hS ls (lv_sub hl [0, 2, 3] rfl)
      have hle : D ≤ dg_v R2 56 := by
        rcases Nat.lt_or_ge (dg_v R2 56) D with q | q
        · rw [if_pos q] at e_c; rw [e_c] at hc; exact absurd (by decide) hc
        · exact q
      obtain ⟨k3, k4⟩ := k2 hle
      refine lv_iconst (v := nI 1) hx hb d_Model_divide_69 rfl ?_
      refine lv_goto (tgt := 74) hx hb d_Model_divide_70 (by decide) ?_
      refine lv_istore_n (lv' := [(3, .int (nI 1)), (2, .int (nI j)), (0, .ref m0), (1, .ref q1)]) hx hb d_Model_divide_74 rfl hl (by decide) rfl (fun ls hl => ?_)
      refine lv_iload_n hx hb d_Model_divide_75 rfl (lv_at hl 0 rfl) ?_
      refine lv_iconst (v := nI 1) hx hb d_Model_divide_76 rfl ?_
      refine xn_icmp_ne (tgt := 91) hx hb (by decide) (by decide) d_Model_divide_77 (by decide) (fun hx1 => absurd rfl hx1) (fun _ => ?_)
      refine lv_aload_n hx hb d_Model_divide_80 rfl (lv_at hl 2 rfl) ?_
      refine va_get (D := (dC, dI)) (ci := 3) (v := .ref mr) (C := R_Model) (T := F_Model) (N := 11) hx hb hts i_Model hown hK hP 0 rfl rfl 10 (by decide) (hts _ k_fl_Model_33) (fun _ h9 => h9) rfl d_Model_divide_81 ?_
      refine lv_aload_n hx hb d_Model_divide_84 rfl (lv_at hl 2 rfl) ?_
      refine va_get (D := (dC, dI)) (ci := 3) (v := .ref mg) (C := R_Model) (T := F_Model) (N := 11) hx hb hts i_Model hown hK hP 0 rfl rfl 8 (by decide) (hts _ k_fl_Model_27) (fun _ h9 => h9) rfl d_Model_divide_85 ?_
      have hFc := va_free (wc := [(mr, .inl (cA, 56, .inl (xn_f R2))), (mg, .inl (cA, 56, .inl (xn_f fg)))]) hD hS hA [3, 1] rfl
      refine va_callv (va_runS (As := [.ref mr, .ref mg]) (rest := []) ⟨hx, hb, hml, hown, hts⟩ (c_Model_less l dC dI H.size cA mr mg R2 fg w1.1 hfg (by rw [← eD]; exact hle)) (cwS 2 hts (gw_S k_ml_Model_94 k_st_Model_less k_ini_Model k_code_Model_less) rfl rfl rfl (by decide +kernel) ⟨Nat.le_of_ble_eq_true rfl, Nat.le_of_ble_eq_true rfl⟩) ⟨xc_W_blind, fun U hU hW => ⟨rfl, by rw [hU], by rw [hU]; exact hP.sub (ws' := [(mr, .inl (cA, 56, .inl (xn_f R2))), (mg, .inl (cA, 56, .inl (xn_f fg)))]) [3, 1] rfl, va_K.moved hW.alike (hK.sub (tys' := [(cA, .int)]) [0] rfl), (hD.sub (ws' := [(mr, .inl (cA, 56, .inl (xn_f R2))), (mg, .inl (cA, 56, .inl (xn_f fg)))]) [3, 1] (by decide) rfl).weaken (fun _ _ _ _ => trivial)⟩⟩ rfl rfl hl.1 rfl (lv_room (Nat.le_of_ble_eq_true rfl)) d_Model_divide_88 ⟨Nat.zero_le _, Nat.zero_le _⟩) hS (fun q _ h => hFc q h) hFc (fun u t_ H locs ht_ hvm_ w3 hB hz1 hk1 hS => ?_)
      obtain ⟨R3, e_R3⟩ : ∃ z, z = u := ⟨u, rfl⟩
      rw [← e_R3] at w3 hB
      rw [ht_] at hB
      obtain ⟨hP, hD⟩ := xj_2 3 1 hP hD rfl rfl hk1 hB
      have hP : va_P (dC, dI) classes ([(m0, .inr (3, [.int er, .int (nI n), .int sv, .ref ma, .ref mS, .ref mt, .ref mo, .ref mb, .ref mg, .ref mh, .ref mr])), (mg, .inl (cA, 56, .inl (xn_f fg))), (mh, .inl (cA, 56, .inl (xn_f Hh))), (mr, .inl (cA, 56, .inl (xn_f R3))), (q1, .inl (cA, 56, .inl (xn_f x)))]) H := hP
      have hD : va_D A ([(m0, .inr (3, [.int er, .int (nI n), .int sv, .ref ma, .ref mS, .ref mt, .ref mo, .ref mb, .ref mg, .ref mh, .ref mr])), (mg, .inl (cA, 56, .inl (xn_f fg))), (mh, .inl (cA, 56, .inl (xn_f Hh))), (mr, .inl (cA, 56, .inl (xn_f R3))), (q1, .inl (cA, 56, .inl (xn_f x)))]) := hD
      rw [← eD] at w3
      refine lv_aload_n hx hb d_Model_divide_91 rfl (lv_at hl 2 rfl) ?_
      refine va_get (D := (dC, dI)) (ci := 3) (v := .ref mh) (C := R_Model) (T := F_Model) (N := 11) hx hb hts i_Model hown hK hP 0 rfl rfl 9 (by decide) (hts _ k_fl_Model_30) (fun _ h9 => h9) rfl d_Model_divide_92 ?_
      refine lv_iload_n hx hb d_Model_divide_95 rfl (lv_at hl 0 rfl) ?_
      have hFc := va_free (wc := [(mh, .inl (cA, 56, .inl (xn_f Hh)))]) hD hS hA [2] rfl
      refine va_callv (va_runS (As := [.ref mh, .int (nI 1)]) (rest := []) ⟨hx, hb, hml, hown, hts⟩ (c_Model_twice l dC dI H.size cA mh Hh 1 hH (by decide) (by rw [hh]; omega)) (cwS 2 hts (gw_S k_ml_Model_97 k_st_Model_twice k_ini_Model k_code_Model_twice) rfl rfl rfl (by decide +kernel) ⟨Nat.le_of_ble_eq_true rfl, Nat.le_of_ble_eq_true rfl⟩) ⟨xc_W_blind, fun U hU hW => ⟨rfl, by rw [hU], by rw [hU]; exact hP.sub (ws' := [(mh, .inl (cA, 56, .inl (xn_f Hh)))]) [2] rfl, va_K.moved hW.alike (hK.sub (tys' := [(cA, .int)]) [0] rfl), (hD.sub (ws' := [(mh, .inl (cA, 56, .inl (xn_f Hh)))]) [2] (by decide) rfl).weaken (fun _ _ _ _ => trivial)⟩⟩ rfl rfl hl.1 rfl (lv_room (Nat.le_of_ble_eq_true rfl)) d_Model_divide_96 ⟨Nat.zero_le _, Nat.zero_le _⟩) hS (fun q _ h => hFc q h) hFc (fun u t_ H locs ht_ hvm_ w2 hB hz1 hk1 hS => ?_)
      obtain ⟨H2, e_H2⟩ : ∃ z, z = u := ⟨u, rfl⟩
      rw [← e_H2] at w2 hB
      rw [ht_] at hB
      obtain ⟨hP, hD⟩ := xj_1 2 hP hD rfl hk1 hB
      have hP : va_P (dC, dI) classes ([(m0, .inr (3, [.int er, .int (nI n), .int sv, .ref ma, .ref mS, .ref mt, .ref mo, .ref mb, .ref mg, .ref mh, .ref mr])), (mg, .inl (cA, 56, .inl (xn_f fg))), (mh, .inl (cA, 56, .inl (xn_f H2))), (mr, .inl (cA, 56, .inl (xn_f R3))), (q1, .inl (cA, 56, .inl (xn_f x)))]) H := hP
      have hD : va_D A ([(m0, .inr (3, [.int er, .int (nI n), .int sv, .ref ma, .ref mS, .ref mt, .ref mo, .ref mb, .ref mg, .ref mh, .ref mr])), (mg, .inl (cA, 56, .inl (xn_f fg))), (mh, .inl (cA, 56, .inl (xn_f H2))), (mr, .inl (cA, 56, .inl (xn_f R3))), (q1, .inl (cA, 56, .inl (xn_f x)))]) := hD
      refine lv_iinc (v := nI j - 1) (lv' := [(2, .int (nI j - 1)), (3, .int (nI 1)), (0, .ref m0), (1, .ref q1)]) hx hb d_Model_divide_99 hl (k := 1) rfl (xn_m1 _) (by decide) rfl (fun ls hl => ?_)
      refine lv_goto (tgt := 32) hx hb d_Model_divide_102 (by decide) ?_
      exact ih j H2 R3 (by omega) w2.1 w3.1 (by rw [w2.2, hh]; omega) (by rw [w3.2]; omega) (by omega) H locs hP hD hS ls (lv_sub hl [0, 2, 3] rfl)
  have loop3 : ∀ (n3 : Nat) (k : Nat) (Hh Rr : Nat → Nat), (k ≤ 56) → (∀ i, Hh i < 65536) → (∀ i, Rr i < 65536) → (∀ i, i < k → Hh i = 0) → (∀ i, i < k → Rr i = 0) → (57 ≤ k + n3) → ∀ (H : Heap) (locs : List Loc), va_P (dC, dI) classes ([(m0, .inr (3, [.int er, .int (nI n), .int sv, .ref ma, .ref mS, .ref mt, .ref mo, .ref mb, .ref mg, .ref mh, .ref mr])), (mg, .inl (cA, 56, .inl (xn_f fg))), (mh, .inl (cA, 56, .inl (xn_f Hh))), (mr, .inl (cA, 56, .inl (xn_f Rr))), (q1, .inl (cA, 56, .inl (xn_f x)))]) H → va_D A ([(m0, .inr (3, [.int er, .int (nI n), .int sv, .ref ma, .ref mS, .ref mt, .ref mo, .ref mb, .ref mg, .ref mh, .ref mr])), (mg, .inl (cA, 56, .inl (xn_f fg))), (mh, .inl (cA, 56, .inl (xn_f Hh))), (mr, .inl (cA, 56, .inl (xn_f Rr))), (q1, .inl (cA, 56, .inl (xn_f x)))]) → va_S A s.heap H locs → ∀ (ls : Array Slot), lv_has ls 4 [(2, .int (nI k)), (0, .ref m0), (1, .ref q1)] → W p l e (headSpec w_Model_divide ({ frames := 1, cells := 0, slots := 0, locals := 23 })).room s m ([.ref m0, .ref q1] : List Value).toArray below meth c H locs 0 0 (MQ below (va_Qv (S := (Nat → Nat) × (Nat → Nat) × (Nat → Nat)) (fun u => (∀ i, u.1 i < 65536) ∧ (∀ i, u.2.1 i < 65536) ∧ (∀ i, u.2.2 i < 65536) ∧ dg_v u.1 56 = dg_v x 56 / dg_v fg 56) (fun u t => va_P (dC, dI) classes ((fun u => [(m0, .inr (3, [.int er, .int (nI n), .int sv, .ref ma, .ref mS, .ref mt, .ref mo, .ref mb, .ref mg, .ref mh, .ref mr])), (mg, .inl (cA, 56, .inl (xn_f fg))), (mh, .inl (cA, 56, .inl (xn_f u.2.1))), (mr, .inl (cA, 56, .inl (xn_f u.2.2))), (q1, .inl (cA, 56, .inl (xn_f u.1)))]) u) t.heap) A) ([.ref m0, .ref q1] : List Value).toArray s 0 0 A) (F0 m 2 ls []) := by
    intro n3
    induction n3 with
    | zero => intro k Hh Rr hk hH hR hz1 hz2 hn_; exact absurd hn_ (by omega)
    | succ n3 ih3 =>
      intro k Hh Rr hk hH hR hz1 hz2 hn_ H locs hP hD hS ls hl
      refine lv_iload_n hx hb d_Model_divide_2 rfl (lv_at hl 0 rfl) ?_
      refine lv_bipush (v := nI 56) hx hb d_Model_divide_3 rfl ?_
      refine xn_icmp_ge (tgt := 28) hx hb (by omega) (by omega) d_Model_divide_5 (by decide) (fun hge => ?_) (fun hge => ?_)
      · refine lv_sipush (v := nI 895) hx hb d_Model_divide_28 rfl ?_
        rw [show nI 895 = nI 896 - 1 from rfl]
        refine lv_istore_n (lv' := [(2, .int (nI 896 - 1)), (0, .ref m0), (1, .ref q1)]) hx hb d_Model_divide_31 rfl hl (by decide) rfl (fun ls hl => ?_)
        have hX0 : X / 2 ^ 896 = 0 := Nat.div_eq_of_lt (by rw [← dg_56]; exact hXp)
        exact loop 897 896 Hh Rr (Nat.le_refl _) hH hR (by rw [hX0, Nat.zero_div]; exact (dg_eq0 56).mpr (fun i hi => hz1 i (by omega))) (by rw [hX0, Nat.zero_mod]; exact (dg_eq0 56).mpr (fun i hi => hz2 i (by omega))) (Nat.le_refl _) H locs hP hD hS ls (lv_sub hl [0, 1, 2] rfl)
      refine lv_aload_n hx hb d_Model_divide_8 rfl (lv_at hl 1 rfl) ?_
      refine va_get (D := (dC, dI)) (ci := 3) (v := .ref mr) (C := R_Model) (T := F_Model) (N := 11) hx hb hts i_Model hown hK hP 0 rfl rfl 10 (by decide) (hts _ k_fl_Model_33) (fun _ h9 => h9) rfl d_Model_divide_9 ?_
      refine lv_iload_n hx hb d_Model_divide_12 rfl (lv_at hl 0 rfl) ?_
      refine lv_iconst (v := nI 0) hx hb d_Model_divide_13 rfl ?_
      refine xn_iast hx hb hK hP hD hS 3 0 rfl rfl (i := k) (x := 0) (by omega) (by omega) d_Model_divide_14 (fun H locs hP hD hS => ?_)
      have hP : va_P (dC, dI) classes ([(m0, .inr (3, [.int er, .int (nI n), .int sv, .ref ma, .ref mS, .ref mt, .ref mo, .ref mb, .ref mg, .ref mh, .ref mr])), (mg, .inl (cA, 56, .inl (xn_f fg))), (mh, .inl (cA, 56, .inl (xn_f Hh))), (mr, .inl (cA, 56, .inl (xn_f (va_up Rr k 0)))), (q1, .inl (cA, 56, .inl (xn_f x)))]) H := hP
      have hD : va_D A ([(m0, .inr (3, [.int er, .int (nI n), .int sv, .ref ma, .ref mS, .ref mt, .ref mo, .ref mb, .ref mg, .ref mh, .ref mr])), (mg, .inl (cA, 56, .inl (xn_f fg))), (mh, .inl (cA, 56, .inl (xn_f Hh))), (mr, .inl (cA, 56, .inl (xn_f (va_up Rr k 0)))), (q1, .inl (cA, 56, .inl (xn_f x)))]) := hD
      refine lv_aload_n hx hb d_Model_divide_15 rfl (lv_at hl 1 rfl) ?_
      refine va_get (D := (dC, dI)) (ci := 3) (v := .ref mh) (C := R_Model) (T := F_Model) (N := 11) hx hb hts i_Model hown hK hP 0 rfl rfl 9 (by decide) (hts _ k_fl_Model_30) (fun _ h9 => h9) rfl d_Model_divide_16 ?_
      refine lv_iload_n hx hb d_Model_divide_19 rfl (lv_at hl 0 rfl) ?_
      refine lv_iconst (v := nI 0) hx hb d_Model_divide_20 rfl ?_
      refine xn_iast hx hb hK hP hD hS 2 0 rfl rfl (i := k) (x := 0) (by omega) (by omega) d_Model_divide_21 (fun H locs hP hD hS => ?_)
      have hP : va_P (dC, dI) classes ([(m0, .inr (3, [.int er, .int (nI n), .int sv, .ref ma, .ref mS, .ref mt, .ref mo, .ref mb, .ref mg, .ref mh, .ref mr])), (mg, .inl (cA, 56, .inl (xn_f fg))), (mh, .inl (cA, 56, .inl (xn_f (va_up Hh k 0)))), (mr, .inl (cA, 56, .inl (xn_f (va_up Rr k 0)))), (q1, .inl (cA, 56, .inl (xn_f x)))]) H := hP
      have hD : va_D A ([(m0, .inr (3, [.int er, .int (nI n), .int sv, .ref ma, .ref mS, .ref mt, .ref mo, .ref mb, .ref mg, .ref mh, .ref mr])), (mg, .inl (cA, 56, .inl (xn_f fg))), (mh, .inl (cA, 56, .inl (xn_f (va_up Hh k 0)))), (mr, .inl (cA, 56, .inl (xn_f (va_up Rr k 0)))), (q1, .inl (cA, 56, .inl (xn_f x)))]) := hD
      refine lv_iinc (v := nI (k + 1)) (lv' := [(2, .int (nI (k + 1))), (0, .ref m0), (1, .ref q1)]) hx hb d_Model_divide_22 hl (k := 0) rfl (nI_1 _) (by decide) rfl (fun ls hl => ?_)
      refine lv_goto (tgt := 2) hx hb d_Model_divide_25 (by decide) ?_
      exact ih3 (k + 1) (va_up Hh k 0) (va_up Rr k 0) (by omega) (va_up_lt hH (by decide)) (va_up_lt hR (by decide)) (fun i hi => by
                by_cases q : i = k
                · rw [q, va_up_self]
                · rw [va_up_ne _ _ q]; exact hz1 i (by omega)) (fun i hi => by
                by_cases q : i = k
                · rw [q, va_up_self]
                · rw [va_up_ne _ _ q]; exact hz2 i (by omega)) (by omega) H locs hP hD hS ls (lv_sub hl [0, 1, 2] rfl)
  refine lv_iconst (v := nI 0) hx hb d_Model_divide_0 rfl ?_
  refine lv_istore_n (lv' := [(2, .int (nI 0)), (0, .ref m0), (1, .ref q1)]) hx hb d_Model_divide_1 rfl hl (by decide) rfl (fun ls hl => ?_)
  exact loop3 57 0 fh fr (Nat.zero_le _) hfh hfr (fun i hi => absurd hi (Nat.not_lt_zero _)) (fun i hi => absurd hi (Nat.not_lt_zero _)) (by omega) s.heap [] hP hD hS ls (lv_sub hl [0, 1, 2] rfl)
