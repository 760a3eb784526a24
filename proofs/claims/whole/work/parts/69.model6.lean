set_option maxHeartbeats 8000000 in
set_option maxRecDepth 100000 in
/-- solve of the reference -/
theorem c_Model_solve (l : Launch) (dC : Nat → ClassId) (dI : Nat → Nat → Nat) (sz : Nat) (m0 ma mS mt mo mb mg mh mr : Nat) (cA cJ : ClassId) (M : mT) (hG : mG M) : Met l y_Model_solve w_Model_solve ({ frames := 2, cells := 0, slots := 0, locals := 57 }) (xc_W [.ref m0] dC dI (mw m0 ma mS mt mo mb mg mh mr cA cJ M.er M.n M.sv M.a M.S M.ft M.fo M.fb M.fg M.fh M.fr) [(cA, .int), (cJ, .long)] sz) (va_Qi (S := mT) (fun r u => mG u ∧ r = u.sv ∧ u.er = 0 ∧ u.n = M.n ∧ u.a = M.a ∧ (u.sv = 1 ↔ dt_d (dA M.a) M.n ≠ 0) ∧ u.fo = M.fo ∧ u.fb = M.fb) (fun u t => va_P (dC, dI) classes (mw m0 ma mS mt mo mb mg mh mr cA cJ u.er u.n u.sv u.a u.S u.ft u.fo u.fb u.fg u.fh u.fr) t.heap ∧ va_D (va_A (mw m0 ma mS mt mo mb mg mh mr cA cJ M.er M.n M.sv M.a M.S M.ft M.fo M.fb M.fg M.fh M.fr) sz) (mw m0 ma mS mt mo mb mg mh mr cA cJ u.er u.n u.sv u.a u.S u.ft u.fo u.fb u.fg u.fh u.fr)) (va_A (mw m0 ma mS mt mo mb mg mh mr cA cJ M.er M.n M.sv M.a M.S M.ft M.fo M.fb M.fg M.fh M.fr) sz)) 0 0 (va_A (mw m0 ma mS mt mo mb mg mh mr cA cJ M.er M.n M.sv M.a M.S M.ft M.fo M.fb M.fg M.fh M.fr) sz) := by
  refine Met.ofW (cc := b_Model_solve) (maxL := 7) (ret := (some .boolean)) (by decide) rfl ?_
  intro p e s m args below meth c s₁ B hml hv
  obtain ⟨rfl, hsz, hP, hK, hD0⟩ := hv
  have hx := B.exec
  have hb := B.bytes
  have hr := B.returns
  have hts : ∀ w ∈ gw_tbl, w.before ([.ref m0] : List Value).toArray s = true := fun w h => atoms_spec (ws := w_Model_solve) B.pre w (List.mem_cons_of_mem _ h)
  have hown : s.vm.findClass R_Model = some m.cls := findClass_of_methodNamed B.named
  have hlocks := B.notSynchronized
  subst hsz
  have hD := hD0.self (sz := s.heap.size)
  generalize hAe : va_A (mw m0 ma mS mt mo mb mg mh mr cA cJ M.er M.n M.sv M.a M.S M.ft M.fo M.fb M.fg M.fh M.fr) s.heap.size = A at hD ⊢
  have hA : ∀ q : Nat, s.heap.size ≤ q → A q := fun q h => by rw [← hAe]; exact Or.inr h
  have hS : va_S A s.heap s.heap [] := va_S.rf
  have hl := lv_entry ([.ref m0]) (n := 7) (Nat.le_of_ble_eq_true rfl)
  rw [lg_entry_eq]
  generalize (lg_sl ([.ref m0]) ++ List.replicate (7 - (lg_sl ([.ref m0])).length) Slot.unset).toArray = ls at hl ⊢
  have hl : lv_has ls 7 [(0, .ref m0)] := hl
  obtain ⟨g1, g2, g3, g4, g5, g6, g7, g8, g9, g10⟩ := hG
  obtain ⟨A0, eA⟩ : ∃ A0, A0 = dA M.a := ⟨_, rfl⟩
  have hA0 : ∀ i j, (A0 i j).natAbs ≤ 2 ^ 63 := fun i j => by rw [eA]; exact dA_bd M.a i j
  have hall : 2 ^ (M.n + 1) ≤ 8192 := Nat.pow_le_pow_right (n := 2) (j := 13) (by decide) (by omega)
  have hn2 : 2 ^ (M.n + 1) = 2 ^ M.n * 2 := Nat.pow_succ ..
  have hnp := Nat.two_pow_pos M.n
  refine lv_aload_n hx hb d_Model_solve_0 rfl (lv_at hl 0 rfl) ?_
  refine lv_iconst (v := nI 0) hx hb d_Model_solve_1 rfl ?_
  refine va_put (D := (dC, dI)) (ci := 3) (v := .int (nI 0)) (ty := .int) (C := R_Model) (T := F_Model) (N := 11) hx hb hts i_Model t_Model t_Model_ok n_Model hown hK hP hD hS 0 rfl rfl 0 (by decide) (hts _ k_fl_Model_36) (fun _ h9 => h9) rfl (by decide +kernel) rfl rfl (Nat.le_of_ble_eq_true rfl) d_Model_solve_2 (fun H locs hP hD hS => ?_)
  have hP : va_P (dC, dI) classes (mw m0 ma mS mt mo mb mg mh mr cA cJ (nI 0) M.n M.sv M.a M.S M.ft M.fo M.fb M.fg M.fh M.fr) H := hP
  have hD : va_D A (mw m0 ma mS mt mo mb mg mh mr cA cJ (nI 0) M.n M.sv M.a M.S M.ft M.fo M.fb M.fg M.fh M.fr) := hD
  refine lv_aload_n hx hb d_Model_solve_5 rfl (lv_at hl 0 rfl) ?_
  refine lv_iconst (v := nI 0) hx hb d_Model_solve_6 rfl ?_
  refine va_put (D := (dC, dI)) (ci := 3) (v := .int (nI 0)) (ty := .boolean) (C := R_Model) (T := F_Model) (N := 11) hx hb hts i_Model t_Model t_Model_ok n_Model hown hK hP hD hS 0 rfl rfl 2 (by decide) (hts _ k_fl_Model_47) (fun _ h9 => h9) rfl (by decide +kernel) rfl rfl (Nat.le_of_ble_eq_true rfl) d_Model_solve_7 (fun H locs hP hD hS => ?_)
  have hP : va_P (dC, dI) classes (mw m0 ma mS mt mo mb mg mh mr cA cJ (nI 0) M.n (nI 0) M.a M.S M.ft M.fo M.fb M.fg M.fh M.fr) H := hP
  have hD : va_D A (mw m0 ma mS mt mo mb mg mh mr cA cJ (nI 0) M.n (nI 0) M.a M.S M.ft M.fo M.fb M.fg M.fh M.fr) := hD
  refine lv_iconst (v := nI 1) hx hb d_Model_solve_10 rfl ?_
  refine lv_aload_n hx hb d_Model_solve_11 rfl (lv_at hl 0 rfl) ?_
  refine va_get (D := (dC, dI)) (ci := 3) (v := .int (nI M.n)) (C := R_Model) (T := F_Model) (N := 11) hx hb hts i_Model hown hK hP 0 rfl rfl 1 (by decide) (hts _ k_fl_Model_44) (fun _ h9 => h9) rfl d_Model_solve_12 ?_
  refine lv_iconst (v := nI 1) hx hb d_Model_solve_15 rfl ?_
  refine xn_iadd hx hb d_Model_solve_16 ?_
  refine xe_ishl (v := nI (1 * 2 ^ (M.n + 1))) hx hb d_Model_solve_17 (sh_shl 1 (M.n + 1) (by omega)) ?_
  refine lv_istore_n (lv' := [(1, .int (nI (1 * 2 ^ (M.n + 1)))), (0, .ref m0)]) hx hb d_Model_solve_18 rfl hl (by decide) rfl (fun ls hl => ?_)
  refine lv_iconst (v := nI 0) hx hb d_Model_solve_19 rfl ?_
  refine lv_istore_n (lv' := [(2, .int (nI 0)), (1, .int (nI (1 * 2 ^ (M.n + 1)))), (0, .ref m0)]) hx hb d_Model_solve_20 rfl hl (by decide) rfl (fun ls hl => ?_)
  have loop : ∀ (n0 : Nat) (w : Nat) (F T : Nat → Nat), (w ≤ 2 ^ (M.n + 1)) → (∀ i, F i < 65536) → (∀ i, T i < 65536) → (∀ v, v < w → (db v 13).length ≤ M.n → dg_v (fun j => F (56 * v + j)) 56 = tc (dE_ A0 v)) → (2 ^ (M.n + 1) + 1 ≤ w + n0) → ∀ (H : Heap) (locs : List Loc), va_P (dC, dI) classes (mw m0 ma mS mt mo mb mg mh mr cA cJ (nI 0) M.n (nI 0) M.a F T M.fo M.fb M.fg M.fh M.fr) H → va_D A (mw m0 ma mS mt mo mb mg mh mr cA cJ (nI 0) M.n (nI 0) M.a F T M.fo M.fb M.fg M.fh M.fr) → va_S A s.heap H locs → ∀ (ls : Array Slot), lv_has ls 7 [(2, .int (nI w)), (1, .int (nI (1 * 2 ^ (M.n + 1)))), (0, .ref m0)] → W p l e (headSpec w_Model_solve ({ frames := 2, cells := 0, slots := 0, locals := 57 })).room s m ([.ref m0] : List Value).toArray below meth c H locs 0 0 (MQ below (va_Qi (S := mT) (fun r u => mG u ∧ r = u.sv ∧ u.er = 0 ∧ u.n = M.n ∧ u.a = M.a ∧ (u.sv = 1 ↔ dt_d (dA M.a) M.n ≠ 0) ∧ u.fo = M.fo ∧ u.fb = M.fb) (fun u t => va_P (dC, dI) classes (mw m0 ma mS mt mo mb mg mh mr cA cJ u.er u.n u.sv u.a u.S u.ft u.fo u.fb u.fg u.fh u.fr) t.heap ∧ va_D A (mw m0 ma mS mt mo mb mg mh mr cA cJ u.er u.n u.sv u.a u.S u.ft u.fo u.fb u.fg u.fh u.fr)) A) ([.ref m0] : List Value).toArray s 0 0 A) (F0 m 21 ls []) := by
    intro n0
    induction n0 with
    | zero => intro w F T hw hF hT hset hn_; exact absurd hn_ (by omega)
    | succ n0 ih =>
      intro w F T hw hF hT hset hn_ H locs hP hD hS ls hl
      refine lv_iload_n hx hb d_Model_solve_21 rfl (lv_at hl 0 rfl) ?_
      refine lv_iload_n hx hb d_Model_solve_22 rfl (lv_at hl 1 rfl) ?_
      refine xn_icmp_ge (tgt := 177) hx hb (by omega) (by omega) d_Model_solve_23 (by decide) (fun hge => ?_) (fun hge => ?_)
      · have hwe : w = 2 ^ (M.n + 1) := by omega
        subst hwe
        obtain ⟨f1, f2⟩ := dE_full A0 g1
        have hX := hset (2 ^ M.n - 1) (by omega) (by omega)
        rw [f1] at hX
        have hbd : (dt_d A0 M.n).natAbs < 2 ^ 785 := by rw [← f1]; exact bt_bd hA0 (by omega)
        refine lv_aload_n hx hb d_Model_solve_177 rfl (lv_at hl 2 rfl) ?_
        refine lv_aload_n hx hb d_Model_solve_178 rfl (lv_at hl 2 rfl) ?_
        refine lv_aload_n hx hb d_Model_solve_179 rfl (lv_at hl 2 rfl) ?_
        refine lv_iconst (v := -1) hx hb d_Model_solve_180 (by decide) ?_
        refine vp_callSi (W.runV (As := [.int ((-1))]) (rest := [.ref m0, .ref m0]) ⟨hx, hb, hml, hown, hts⟩ (c_Model_place l dC dI m0 ma mS mt mo mb mg mh mr (nI 0) M.n (nI 0) (-1) g1 (Or.inl rfl)) (cwV 1 hts (gw_V k_ml_Model_72 k_im_Model_place k_sel_Model_place k_ini_Model k_code_Model_place) rfl rfl rfl (by decide +kernel) ⟨Nat.le_of_ble_eq_true rfl, Nat.le_of_ble_eq_true rfl⟩) ⟨xc_R_blind, va_recv hK hP (ci := 3) (q0 := 0) rfl rfl, fun U hU hW => ⟨rfl, by rw [hU]; exact hP.sub (ws' := [(m0, .inr (3, [.int (nI 0), .int (nI M.n), .int (nI 0), .ref ma, .ref mS, .ref mt, .ref mo, .ref mb, .ref mg, .ref mh, .ref mr]))]) [0] rfl, va_K.moved hW.alike (hK.sub (tys' := []) [] rfl)⟩⟩ rfl rfl hl.1 rfl (lv_room (Nat.le_of_ble_eq_true rfl)) d_Model_solve_181 ⟨Nat.zero_le _, Nat.zero_le _⟩) (fun rp e_p => ?_)
        have e_p := e_p.1 rfl
        subst e_p
        refine vp_callSi (W.runV (As := [.int (nI (56 * (2 ^ M.n - 1)))]) (rest := [.ref m0]) ⟨hx, hb, hml, hown, hts⟩ (c_Model_signAt l dC dI cA m0 ma mS mt mo mb mg mh mr (nI 0) M.n (nI 0) F (56 * (2 ^ M.n - 1)) hF (by omega)) (cwV 1 hts (gw_V k_ml_Model_75 k_im_Model_signAt k_sel_Model_signAt k_ini_Model k_code_Model_signAt) rfl rfl rfl (by decide +kernel) ⟨Nat.le_of_ble_eq_true rfl, Nat.le_of_ble_eq_true rfl⟩) ⟨xc_R_blind, va_recv hK hP (ci := 3) (q0 := 0) rfl rfl, fun U hU hW => ⟨rfl, by rw [hU]; exact hP.sub (ws' := [(m0, .inr (3, [.int (nI 0), .int (nI M.n), .int (nI 0), .ref ma, .ref mS, .ref mt, .ref mo, .ref mb, .ref mg, .ref mh, .ref mr])), (mS, .inl (cA, 458752, .inl (xn_f F)))]) [0, 2] rfl, va_K.moved hW.alike (hK.sub (tys' := [(cA, .int)]) [0] rfl)⟩⟩ rfl rfl hl.1 rfl (lv_room (Nat.le_of_ble_eq_true rfl)) d_Model_solve_184 ⟨Nat.zero_le _, Nat.zero_le _⟩) (fun rs e_s => ?_)
        rw [hX, sg_tc hbd] at e_s
        refine lv_if_eq (tgt := 194) hx hb d_Model_solve_187 (by decide) (fun hsz => ?_) (fun hsz => ?_)
        · rw [e_s, sgI_0] at hsz
          refine lv_iconst (v := nI 0) hx hb d_Model_solve_194 rfl ?_
          refine va_put (D := (dC, dI)) (ci := 3) (v := .int (nI 0)) (ty := .boolean) (C := R_Model) (T := F_Model) (N := 11) hx hb hts i_Model t_Model t_Model_ok n_Model hown hK hP hD hS 0 rfl rfl 2 (by decide) (hts _ k_fl_Model_47) (fun _ h9 => h9) rfl (by decide +kernel) rfl rfl (Nat.le_of_ble_eq_true rfl) d_Model_solve_195 (fun H locs hP hD hS => ?_)
          have hP : va_P (dC, dI) classes (mw m0 ma mS mt mo mb mg mh mr cA cJ (nI 0) M.n (nI 0) M.a F T M.fo M.fb M.fg M.fh M.fr) H := hP
          have hD : va_D A (mw m0 ma mS mt mo mb mg mh mr cA cJ (nI 0) M.n (nI 0) M.a F T M.fo M.fb M.fg M.fh M.fr) := hD
          refine lv_aload_n hx hb d_Model_solve_198 rfl (lv_at hl 2 rfl) ?_
          refine va_get (D := (dC, dI)) (ci := 3) (v := .int (nI 0)) (C := R_Model) (T := F_Model) (N := 11) hx hb hts i_Model hown hK hP 0 rfl rfl 2 (by decide) (hts _ k_fl_Model_47) (fun _ h9 => h9) rfl d_Model_solve_199 ?_
          have hpost : mG (⟨nI 0, M.n, nI 0, M.a, F, T, M.fo, M.fb, M.fg, M.fh, M.fr⟩ : mT) ∧ (nI 0 : Int32) = nI 0 ∧ (nI 0 : Int32) = 0 ∧ M.n = M.n ∧ M.a = M.a ∧ ((nI 0 : Int32) = 1 ↔ dt_d (dA M.a) M.n ≠ 0) ∧ M.fo = M.fo ∧ M.fb = M.fb := ⟨⟨g1, Or.inl rfl, hF, hT, g5, g6, g7, g8, g9, fun zz => absurd (show (nI 0 : Int32) = 1 from zz) (by decide)⟩, rfl, rfl, rfl, rfl, ⟨fun zz => absurd zz (by decide), fun zz => absurd (by rw [← eA]; exact hsz) zz⟩, rfl, rfl⟩
          exact W.zret (v := nI 0) hx hb hr (by rfl) (fun T_ ht_ hW_ => ⟨⟨_, (⟨nI 0, M.n, nI 0, M.a, F, T, M.fo, M.fb, M.fg, M.fh, M.fr⟩ : mT), rfl, hpost, by show va_P (dC, dI) classes _ T_.heap; rw [ht_]; exact hP, hD⟩, hS.F ht_⟩) hS.2.2 d_Model_solve_202
        have hne : dt_d A0 M.n ≠ 0 := fun zz => hsz (by rw [e_s, sgI_0]; exact zz)
        refine lv_iconst (v := nI 1) hx hb d_Model_solve_190 rfl ?_
        refine lv_goto (tgt := 195) hx hb d_Model_solve_191 (by decide) ?_
        refine va_put (D := (dC, dI)) (ci := 3) (v := .int (nI 1)) (ty := .boolean) (C := R_Model) (T := F_Model) (N := 11) hx hb hts i_Model t_Model t_Model_ok n_Model hown hK hP hD hS 0 rfl rfl 2 (by decide) (hts _ k_fl_Model_47) (fun _ h9 => h9) rfl (by decide +kernel) rfl rfl (Nat.le_of_ble_eq_true rfl) d_Model_solve_195 (fun H locs hP hD hS => ?_)
        have hP : va_P (dC, dI) classes (mw m0 ma mS mt mo mb mg mh mr cA cJ (nI 0) M.n (nI 1) M.a F T M.fo M.fb M.fg M.fh M.fr) H := hP
        have hD : va_D A (mw m0 ma mS mt mo mb mg mh mr cA cJ (nI 0) M.n (nI 1) M.a F T M.fo M.fb M.fg M.fh M.fr) := hD
        refine lv_aload_n hx hb d_Model_solve_198 rfl (lv_at hl 2 rfl) ?_
        refine va_get (D := (dC, dI)) (ci := 3) (v := .int (nI 1)) (C := R_Model) (T := F_Model) (N := 11) hx hb hts i_Model hown hK hP 0 rfl rfl 2 (by decide) (hts _ k_fl_Model_47) (fun _ h9 => h9) rfl d_Model_solve_199 ?_
        have hpost : mG (⟨nI 0, M.n, nI 1, M.a, F, T, M.fo, M.fb, M.fg, M.fh, M.fr⟩ : mT) ∧ (nI 1 : Int32) = nI 1 ∧ (nI 0 : Int32) = 0 ∧ M.n = M.n ∧ M.a = M.a ∧ ((nI 1 : Int32) = 1 ↔ dt_d (dA M.a) M.n ≠ 0) ∧ M.fo = M.fo ∧ M.fb = M.fb := ⟨⟨g1, Or.inr rfl, hF, hT, g5, g6, g7, g8, g9, fun zz => ⟨by rw [← eA]; exact hne, fun v h1 h2 => by rw [← eA]; exact hset v (by omega) h2⟩⟩, rfl, rfl, rfl, rfl, ⟨fun _ => by rw [← eA]; exact hne, fun _ => rfl⟩, rfl, rfl⟩
        exact W.zret (v := nI 1) hx hb hr (by rfl) (fun T_ ht_ hW_ => ⟨⟨_, (⟨nI 0, M.n, nI 1, M.a, F, T, M.fo, M.fb, M.fg, M.fh, M.fr⟩ : mT), rfl, hpost, by show va_P (dC, dI) classes _ T_.heap; rw [ht_]; exact hP, hD⟩, hS.F ht_⟩) hS.2.2 d_Model_solve_202
      have hwl : w < 2 ^ (M.n + 1) := by omega
      have nxt : ∀ (F2 T2 : Nat → Nat), (∀ i, F2 i < 65536) → (∀ i, T2 i < 65536) → (∀ v, v < w + 1 → (db v 13).length ≤ M.n → dg_v (fun j => F2 (56 * v + j)) 56 = tc (dE_ A0 v)) → ∀ (H : Heap) (locs : List Loc), va_P (dC, dI) classes (mw m0 ma mS mt mo mb mg mh mr cA cJ (nI 0) M.n (nI 0) M.a F2 T2 M.fo M.fb M.fg M.fh M.fr) H → va_D A (mw m0 ma mS mt mo mb mg mh mr cA cJ (nI 0) M.n (nI 0) M.a F2 T2 M.fo M.fb M.fg M.fh M.fr) → va_S A s.heap H locs → ∀ (ls : Array Slot), lv_has ls 7 [(2, .int (nI w)), (1, .int (nI (1 * 2 ^ (M.n + 1)))), (0, .ref m0)] → W p l e (headSpec w_Model_solve ({ frames := 2, cells := 0, slots := 0, locals := 57 })).room s m ([.ref m0] : List Value).toArray below meth c H locs 0 0 (MQ below (va_Qi (S := mT) (fun r u => mG u ∧ r = u.sv ∧ u.er = 0 ∧ u.n = M.n ∧ u.a = M.a ∧ (u.sv = 1 ↔ dt_d (dA M.a) M.n ≠ 0) ∧ u.fo = M.fo ∧ u.fb = M.fb) (fun u t => va_P (dC, dI) classes (mw m0 ma mS mt mo mb mg mh mr cA cJ u.er u.n u.sv u.a u.S u.ft u.fo u.fb u.fg u.fh u.fr) t.heap ∧ va_D A (mw m0 ma mS mt mo mb mg mh mr cA cJ u.er u.n u.sv u.a u.S u.ft u.fo u.fb u.fg u.fh u.fr)) A) ([.ref m0] : List Value).toArray s 0 0 A) (F0 m 171 ls []) := by
        intro F2 T2 hF2 hT2 hset2 H locs hP hD hS ls hl
        refine lv_iinc (v := nI (w + 1)) (lv' := [(2, .int (nI (w + 1))), (1, .int (nI (1 * 2 ^ (M.n + 1)))), (0, .ref m0)]) hx hb d_Model_solve_171 hl (k := 0) rfl (nI_1 _) (by decide) rfl (fun ls hl => ?_)
        refine lv_goto (tgt := 21) hx hb d_Model_solve_174 (by decide) ?_
        exact ih (w + 1) F2 T2 (by omega) hF2 hT2 hset2 (by omega) H locs hP hD hS ls (lv_sub hl [0, 1, 2] rfl)
      refine lv_iload_n hx hb d_Model_solve_26 rfl (lv_at hl 0 rfl) ?_
      refine vp_callSi (W.runS (As := [.int (nI w)]) (rest := []) ⟨hx, hb, hml, hown, hts⟩ (c_Int_bitCount l dC dI w (by omega)) ⟨callB_of 1 hts (gw_I k_code_Int_bitCount) rfl rfl rfl (hts _ k_ini_Int) (hts _ k_ml_Model_58) (by decide +kernel) ⟨Nat.le_of_ble_eq_true rfl, Nat.le_of_ble_eq_true rfl⟩, hts _ k_st_Int_bitCount⟩ ⟨xc_R_blind, fun U hU hW => ⟨rfl, by rw [hU]; exact hP.sub (ws' := []) [] rfl, va_K.moved hW.alike (hK.sub (tys' := []) [] rfl)⟩⟩ rfl rfl hl.1 rfl (lv_room (Nat.le_of_ble_eq_true rfl)) d_Model_solve_27 ⟨Nat.zero_le _, Nat.zero_le _⟩) (fun r_ e_r => ?_)
      obtain ⟨mm, emm⟩ : ∃ mm, mm = (db w 13).length := ⟨_, rfl⟩
      rw [← emm] at e_r
      subst e_r
      have hmm : mm ≤ 13 := by rw [emm, db_top g1 hwl]; exact Nat.le_trans (db_le w (M.n + 1)) (by omega)
      refine lv_istore_n (lv' := [(3, .int (nI mm)), (2, .int (nI w)), (1, .int (nI (1 * 2 ^ (M.n + 1)))), (0, .ref m0)]) hx hb d_Model_solve_30 rfl hl (by decide) rfl (fun ls hl => ?_)
      refine lv_bipush (v := nI 56) hx hb d_Model_solve_31 rfl ?_
      refine lv_iload_n hx hb d_Model_solve_33 rfl (lv_at hl 1 rfl) ?_
      refine xn_imul hx hb d_Model_solve_34 ?_
      refine lv_istore (lv' := [(4, .int (nI (56 * w))), (3, .int (nI mm)), (2, .int (nI w)), (1, .int (nI (1 * 2 ^ (M.n + 1)))), (0, .ref m0)]) hx hb d_Model_solve_35 hl (by decide) rfl (fun ls hl => ?_)
      refine lv_iload_n hx hb d_Model_solve_37 rfl (lv_at hl 1 rfl) ?_
      refine lv_aload_n hx hb d_Model_solve_38 rfl (lv_at hl 4 rfl) ?_
      refine va_get (D := (dC, dI)) (ci := 3) (v := .int (nI M.n)) (C := R_Model) (T := F_Model) (N := 11) hx hb hts i_Model hown hK hP 0 rfl rfl 1 (by decide) (hts _ k_fl_Model_44) (fun _ h9 => h9) rfl d_Model_solve_39 ?_
      refine xn_icmp_le (tgt := 48) hx hb (by omega) (by omega) d_Model_solve_42 (by decide) (fun hmn => ?_) (fun hmn => ?_)
      rotate_left
      · refine lv_goto (tgt := 171) hx hb d_Model_solve_45 (by decide) ?_
        exact nxt F T hF hT (fun v h1 h2 => by
                    by_cases q : v = w
                    · subst q; omega
                    · exact hset v (by omega) h2) H locs hP hD hS ls (lv_sub hl [2, 3, 4] rfl)
      refine lv_iconst (v := nI 0) hx hb d_Model_solve_48 rfl ?_
      refine lv_istore (lv' := [(5, .int (nI 0)), (4, .int (nI (56 * w))), (3, .int (nI mm)), (2, .int (nI w)), (1, .int (nI (1 * 2 ^ (M.n + 1)))), (0, .ref m0)]) hx hb d_Model_solve_49 hl (by decide) rfl (fun ls hl => ?_)
      have loop3 : ∀ (n3 : Nat) (k : Nat) (F1 : Nat → Nat), (k ≤ 56) → (∀ i, F1 i < 65536) → (∀ i, i < 56 * w ∨ 56 * w + 56 ≤ i → F1 i = F i) → (∀ i, i < k → F1 (56 * w + i) = 0) → (57 ≤ k + n3) → ∀ (H : Heap) (locs : List Loc), va_P (dC, dI) classes (mw m0 ma mS mt mo mb mg mh mr cA cJ (nI 0) M.n (nI 0) M.a F1 T M.fo M.fb M.fg M.fh M.fr) H → va_D A (mw m0 ma mS mt mo mb mg mh mr cA cJ (nI 0) M.n (nI 0) M.a F1 T M.fo M.fb M.fg M.fh M.fr) → va_S A s.heap H locs → ∀ (ls : Array Slot), lv_has ls 7 [(5, .int (nI k)), (4, .int (nI (56 * w))), (3, .int (nI mm)), (2, .int (nI w)), (1, .int (nI (1 * 2 ^ (M.n + 1)))), (0, .ref m0)] → W p l e (headSpec w_Model_solve ({ frames := 2, cells := 0, slots := 0, locals := 57 })).room s m ([.ref m0] : List Value).toArray below meth c H locs 0 0 (MQ below (va_Qi (S := mT) (fun r u => mG u ∧ r = u.sv ∧ u.er = 0 ∧ u.n = M.n ∧ u.a = M.a ∧ (u.sv = 1 ↔ dt_d (dA M.a) M.n ≠ 0) ∧ u.fo = M.fo ∧ u.fb = M.fb) (fun u t => va_P (dC, dI) classes (mw m0 ma mS mt mo mb mg mh mr cA cJ u.er u.n u.sv u.a u.S u.ft u.fo u.fb u.fg u.fh u.fr) t.heap ∧ va_D A (mw m0 ma mS mt mo mb mg mh mr cA cJ u.er u.n u.sv u.a u.S u.ft u.fo u.fb u.fg u.fh u.fr)) A) ([.ref m0] : List Value).toArray s 0 0 A) (F0 m 51 ls []) := by
        intro n3
        induction n3 with
        | zero => intro k F1 hk hF1 hFx hz1 hn_; exact absurd hn_ (by omega)
        | succ n3 ih3 =>
          intro k F1 hk hF1 hFx hz1 hn_ H locs hP hD hS ls hl
          refine lv_iload hx hb d_Model_solve_51 (lv_at hl 0 rfl) ?_
          refine lv_bipush (v := nI 56) hx hb d_Model_solve_53 rfl ?_
          refine xn_icmp_ge (tgt := 75) hx hb (by omega) (by omega) d_Model_solve_55 (by decide) (fun hgk => ?_) (fun hgk => ?_)
          · refine lv_iload_n hx hb d_Model_solve_75 rfl (lv_at hl 2 rfl) ?_
            refine xn_if_ne (tgt := 90) hx hb (by omega) d_Model_solve_76 (by decide) (fun hm0 => ?_) (fun hm0 => ?_)
            rotate_left
            · refine lv_aload_n hx hb d_Model_solve_79 rfl (lv_at hl 5 rfl) ?_
              refine va_get (D := (dC, dI)) (ci := 3) (v := .ref mS) (C := R_Model) (T := F_Model) (N := 11) hx hb hts i_Model hown hK hP 0 rfl rfl 4 (by decide) (hts _ k_fl_Model_14) (fun _ h9 => h9) rfl d_Model_solve_80 ?_
              refine lv_iload hx hb d_Model_solve_83 (lv_at hl 1 rfl) ?_
              refine lv_iconst (v := nI 1) hx hb d_Model_solve_85 rfl ?_
              refine xn_iast hx hb hK hP hD hS 2 0 rfl rfl (i := 56 * w) (x := 1) (by omega) (by omega) d_Model_solve_86 (fun H locs hP hD hS => ?_)
              have hP : va_P (dC, dI) classes (mw m0 ma mS mt mo mb mg mh mr cA cJ (nI 0) M.n (nI 0) M.a (va_up F1 (56 * w) 1) T M.fo M.fb M.fg M.fh M.fr) H := hP
              have hD : va_D A (mw m0 ma mS mt mo mb mg mh mr cA cJ (nI 0) M.n (nI 0) M.a (va_up F1 (56 * w) 1) T M.fo M.fb M.fg M.fh M.fr) := hD
              refine lv_goto (tgt := 171) hx hb d_Model_solve_87 (by decide) ?_
              have hd0 : db w 13 = [] := List.length_eq_zero_iff.mp (by omega)
              exact nxt (va_up F1 (56 * w) 1) T (va_up_lt hF1 (by decide)) hT (fun v h1 h2 => by
                                by_cases q : v = w
                                · subst q
                                  have e1 : dE_ A0 v = 1 := by unfold dE_; rw [hd0]; rfl
                                  rw [e1, tc_1]
                                  exact dg_one (by rw [Nat.add_zero, va_up_self]) (fun i hi1 hi2 => by rw [va_up_ne _ _ (by omega)]; exact hz1 i (by omega))
                                · rw [dg_congr 56 (fun i hi => (va_up_ne (k := 56 * w) (j := 56 * v + i) F1 1 (by omega)).trans (hFx (56 * v + i) (by omega)))]
                                  exact hset v (by omega) h2) H locs hP hD hS ls (lv_sub hl [3, 4, 5] rfl)
            obtain ⟨kk, ekk⟩ : ∃ kk, mm = kk + 1 := ⟨mm - 1, by omega⟩
            obtain ⟨s1, s2⟩ := ds_start (A := A0) (k := kk) g1 hwl (by omega)
            refine lv_iconst (v := nI 0) hx hb d_Model_solve_90 rfl ?_
            refine lv_istore (lv' := [(5, .int (nI 0)), (4, .int (nI (56 * w))), (3, .int (nI mm)), (2, .int (nI w)), (1, .int (nI (1 * 2 ^ (M.n + 1)))), (0, .ref m0)]) hx hb d_Model_solve_91 hl (by decide) rfl (fun ls hl => ?_)
            refine lv_aload_n hx hb d_Model_solve_93 rfl (lv_at hl 5 rfl) ?_
            refine va_get (D := (dC, dI)) (ci := 3) (v := .int (nI M.n)) (C := R_Model) (T := F_Model) (N := 11) hx hb hts i_Model hown hK hP 0 rfl rfl 1 (by decide) (hts _ k_fl_Model_44) (fun _ h9 => h9) rfl d_Model_solve_94 ?_
            refine lv_topi (fun nn enn => ?_)
            have enn : nn = nI (M.n + 1) - 1 := by rw [enn, xn_pre (Nat.succ_pos _)]; rfl
            subst enn
            refine lv_istore (lv' := [(6, .int (nI (M.n + 1) - 1)), (5, .int (nI 0)), (4, .int (nI (56 * w))), (3, .int (nI mm)), (2, .int (nI w)), (1, .int (nI (1 * 2 ^ (M.n + 1)))), (0, .ref m0)]) hx hb d_Model_solve_97 hl (by decide) rfl (fun ls hl => ?_)
            have loop4 : ∀ (n4 : Nat) (mq lp : Nat) (z : Int) (F2 T2 : Nat → Nat), (mq ≤ M.n + 1) → (lp = (dh w mq (13 - mq)).length % 2) → (∀ i, F2 i < 65536) → (∀ i, T2 i < 65536) → (∀ i, i < 56 * w ∨ 56 * w + 56 ≤ i → F2 i = F i) → (dg_v (fun i => F2 (56 * w + i)) 56 = tc z) → (ds_P A0 kk w mq z) → (mq + 1 ≤ n4) → ∀ (H : Heap) (locs : List Loc), va_P (dC, dI) classes (mw m0 ma mS mt mo mb mg mh mr cA cJ (nI 0) M.n (nI 0) M.a F2 T2 M.fo M.fb M.fg M.fh M.fr) H → va_D A (mw m0 ma mS mt mo mb mg mh mr cA cJ (nI 0) M.n (nI 0) M.a F2 T2 M.fo M.fb M.fg M.fh M.fr) → va_S A s.heap H locs → ∀ (ls : Array Slot), lv_has ls 7 [(6, .int (nI mq - 1)), (5, .int (nI lp)), (4, .int (nI (56 * w))), (3, .int (nI mm)), (2, .int (nI w)), (1, .int (nI (1 * 2 ^ (M.n + 1)))), (0, .ref m0)] → W p l e (headSpec w_Model_solve ({ frames := 2, cells := 0, slots := 0, locals := 57 })).room s m ([.ref m0] : List Value).toArray below meth c H locs 0 0 (MQ below (va_Qi (S := mT) (fun r u => mG u ∧ r = u.sv ∧ u.er = 0 ∧ u.n = M.n ∧ u.a = M.a ∧ (u.sv = 1 ↔ dt_d (dA M.a) M.n ≠ 0) ∧ u.fo = M.fo ∧ u.fb = M.fb) (fun u t => va_P (dC, dI) classes (mw m0 ma mS mt mo mb mg mh mr cA cJ u.er u.n u.sv u.a u.S u.ft u.fo u.fb u.fg u.fh u.fr) t.heap ∧ va_D A (mw m0 ma mS mt mo mb mg mh mr cA cJ u.er u.n u.sv u.a u.S u.ft u.fo u.fb u.fg u.fh u.fr)) A) ([.ref m0] : List Value).toArray s 0 0 A) (F0 m 99 ls []) := by
              intro n4
              induction n4 with
              | zero => intro mq lp z F2 T2 hm hlp hF2 hT2 hFx2 hz2 hacc hn_; exact absurd hn_ (by omega)
              | succ n4 ih4 =>
                intro mq lp z F2 T2 hm hlp hF2 hT2 hFx2 hz2 hacc hn_ H locs hP hD hS ls hl
                refine lv_iload hx hb d_Model_solve_99 (lv_at hl 0 rfl) ?_
                refine lv_if_lt (tgt := 171) hx hb d_Model_solve_101 (by decide) (fun hneg => ?_) (fun hneg => ?_)
                · have hk0 : mq = 0 := by
                    rcases Nat.eq_zero_or_pos mq with q | q
                    · exact q
                    · rw [xn_pre q] at hneg; exact absurd hneg (nI_pos (by omega))
                  subst hk0
                  have hzE := ds_end hacc
                  subst hzE
                  exact nxt F2 T2 hF2 hT2 (fun v h1 h2 => by
                                        by_cases q : v = w
                                        · rw [q]; exact hz2
                                        · rw [dg_congr 56 (fun i hi => hFx2 (56 * v + i) (by omega))]; exact hset v (by omega) h2) H locs hP hD hS ls (lv_sub hl [4, 5, 6] rfl)
                obtain ⟨j, ej⟩ : ∃ j, mq = j + 1 := by
                  rcases Nat.eq_zero_or_pos mq with q | q
                  · subst q; exact absurd (by decide) hneg
                  · exact ⟨mq - 1, by omega⟩
                subst ej
                rw [xn_pre (Nat.succ_pos _)] at hl
                have hl : lv_has ls 7 [(6, .int (nI j)), (5, .int (nI lp)), (4, .int (nI (56 * w))), (3, .int (nI mm)), (2, .int (nI w)), (1, .int (nI (1 * 2 ^ (M.n + 1)))), (0, .ref m0)] := hl
                refine lv_iload_n hx hb d_Model_solve_104 rfl (lv_at hl 4 rfl) ?_
                refine lv_iload hx hb d_Model_solve_105 (lv_at hl 0 rfl) ?_
                refine xe_ishr (v := nI (w / 2 ^ j)) hx hb d_Model_solve_107 (nI_shr (by omega) (by omega)) ?_
                have hwj : w / 2 ^ j ≤ w := Nat.div_le_self _ _
                refine lv_iconst (v := nI 1) hx hb d_Model_solve_108 rfl ?_
                refine xe_iand (v := nI (w / 2 ^ j % 2)) hx hb d_Model_solve_109 (nI_bit (by omega)) ?_
                refine xn_if_ne (tgt := 116) hx hb (by omega) d_Model_solve_110 (by decide) (fun hbit => ?_) (fun hbit => ?_)
                rotate_left
                · refine lv_goto (tgt := 165) hx hb d_Model_solve_113 (by decide) ?_
                  refine lv_iinc (v := nI j - 1) (lv' := [(6, .int (nI j - 1)), (5, .int (nI lp)), (4, .int (nI (56 * w))), (3, .int (nI mm)), (2, .int (nI w)), (1, .int (nI (1 * 2 ^ (M.n + 1)))), (0, .ref m0)]) hx hb d_Model_solve_165 hl (k := 0) rfl (xn_m1 _) (by decide) rfl (fun ls hl => ?_)
                  refine lv_goto (tgt := 99) hx hb d_Model_solve_168 (by decide) ?_
                  obtain ⟨k1, k2⟩ := ds_skip (by omega) (by omega) hacc
                  exact ih4 j lp z F2 T2 (by omega) (by rw [k2]; exact hlp) hF2 hT2 hFx2 hz2 k1 (by omega) H locs hP hD hS ls (lv_sub hl [0, 1, 2, 3, 4, 5, 6] rfl)
                have hb1 : w / 2 ^ j % 2 = 1 := by omega
                have hbl := bt_le hb1
                have hj12 : j ≤ 12 := by omega
                have hpj := Nat.two_pow_pos j
                obtain ⟨k1, k2, k3⟩ := ds_set (A := A0) (k := kk) (lp := lp) (by omega) hb1 (by omega) hlp hacc
                refine lv_aload_n hx hb d_Model_solve_116 rfl (lv_at hl 6 rfl) ?_
                refine lv_bipush (v := nI 56) hx hb d_Model_solve_117 rfl ?_
                refine lv_iload_n hx hb d_Model_solve_119 rfl (lv_at hl 4 rfl) ?_
                refine lv_iconst (v := nI 1) hx hb d_Model_solve_120 rfl ?_
                refine lv_iload hx hb d_Model_solve_121 (lv_at hl 0 rfl) ?_
                refine xe_ishl (v := nI (1 * 2 ^ j)) hx hb d_Model_solve_123 (sh_shl 1 j (by omega)) ?_
                refine lv_iconst (v := -1) hx hb d_Model_solve_124 (by decide) ?_
                refine xe_ixor (v := nI (2 ^ j) ^^^ (-1)) hx hb d_Model_solve_125 (by rw [Nat.one_mul]) ?_
                refine xe_iand (v := nI (w - 2 ^ j)) hx hb d_Model_solve_126 (mk_clr (by omega) hb1) ?_
                refine xn_imul hx hb d_Model_solve_127 ?_
                refine lv_aload_n hx hb d_Model_solve_128 rfl (lv_at hl 6 rfl) ?_
                refine va_get (D := (dC, dI)) (ci := 3) (v := .ref ma) (C := R_Model) (T := F_Model) (N := 11) hx hb hts i_Model hown hK hP 0 rfl rfl 3 (by decide) (hts _ k_fl_Model_9) (fun _ h9 => h9) rfl d_Model_solve_129 ?_
                refine lv_iload_n hx hb d_Model_solve_132 rfl (lv_at hl 3 rfl) ?_
                refine lv_iconst (v := nI 1) hx hb d_Model_solve_133 rfl ?_
                refine xn_isub hx hb (by omega) d_Model_solve_134 ?_
                refine lv_bipush (v := nI 13) hx hb d_Model_solve_135 rfl ?_
                refine xn_imul hx hb d_Model_solve_137 ?_
                refine lv_iload hx hb d_Model_solve_138 (lv_at hl 0 rfl) ?_
                refine xn_iadd hx hb d_Model_solve_140 ?_
                have hix : (mm - 1) * 13 + j < 156 := by omega
                refine xn_lald hx hb hK hP 1 1 rfl rfl (i := ((mm - 1) * 13) + j) (by omega) (by omega) d_Model_solve_141 ?_
                have hXs : dg_v (fun i => F2 (56 * (w - 2 ^ j) + i)) 56 = tc (dE_ A0 (w - 2 ^ j)) := by
                  rw [dg_congr 56 (fun i hi => hFx2 (56 * (w - 2 ^ j) + i) (by omega))]
                  exact hset _ (by omega) (by omega)
                have hPc := hP
                have hDc := hD.weaken (B := fun _ => True) (fun _ _ _ _ => trivial)
                have hFc := xp_all hD hS hA
                refine va_callv (va_runV (As := [.int (nI (56 * (w - 2 ^ j))), .long (M.a (((mm - 1) * 13) + j))]) (rest := []) ⟨hx, hb, hml, hown, hts⟩ (c_Model_times l dC dI H.size m0 ma mS mt mo mb mg mh mr cA cJ (nI 0) M.n (nI 0) M.a F2 T2 M.fo M.fb M.fg M.fh M.fr (56 * (w - 2 ^ j)) (M.a ((mm - 1) * 13 + j)) (dE_ A0 (w - 2 ^ j)) hF2 hT2 (by omega) hXs) (cwV 2 hts (gw_V k_ml_Model_64 k_im_Model_times k_sel_Model_times k_ini_Model k_code_Model_times) rfl rfl rfl (by decide +kernel) ⟨Nat.le_of_ble_eq_true rfl, Nat.le_of_ble_eq_true rfl⟩) ⟨xc_W_blind, va_recv hK hP (ci := 3) (q0 := 0) rfl rfl, fun U hU hW => ⟨rfl, by rw [hU], by rw [hU]; exact hPc, va_K.moved hW.alike (hK.sub (tys' := [(cA, .int), (cJ, .long)]) [0, 1] rfl), hDc⟩⟩ rfl rfl hl.1 rfl (lv_room (Nat.le_of_ble_eq_true rfl)) d_Model_solve_142 ⟨Nat.zero_le _, Nat.zero_le _⟩) hS (fun q _ h => hFc q h) hFc (fun u t_ H locs ht_ hvm_ w1 hB hz1 hk1 hS => ?_)
                obtain ⟨T3, e_T3⟩ : ∃ z, z = u := ⟨u, rfl⟩
                rw [← e_T3] at w1 hB
                obtain ⟨hP, hD1⟩ := hB
                rw [ht_] at hP
                have hP : va_P (dC, dI) classes (mw m0 ma mS mt mo mb mg mh mr cA cJ (nI 0) M.n (nI 0) M.a F2 T3 M.fo M.fb M.fg M.fh M.fr) H := hP
                have hD : va_D A (mw m0 ma mS mt mo mb mg mh mr cA cJ (nI 0) M.n (nI 0) M.a F2 T3 M.fo M.fb M.fg M.fh M.fr) := hD1.weaken (fun k q _ h => hFc q.1 h)
                have hav : (M.a ((mm - 1) * 13 + j)).toInt = A0 kk j := by rw [eA, show mm - 1 = kk by omega]; rfl
                rw [hav] at w1
                refine lv_aload_n hx hb d_Model_solve_145 rfl (lv_at hl 6 rfl) ?_
                refine lv_iload hx hb d_Model_solve_146 (lv_at hl 2 rfl) ?_
                refine lv_iload hx hb d_Model_solve_148 (lv_at hl 1 rfl) ?_
                have hPc := hP
                have hDc := hD.weaken (B := fun _ => True) (fun _ _ _ _ => trivial)
                have hFc := xp_all hD hS hA
                refine va_callv (va_runV (As := [.int (nI (56 * w)), .int (nI lp)]) (rest := []) ⟨hx, hb, hml, hown, hts⟩ (c_Model_add l dC dI H.size m0 ma mS mt mo mb mg mh mr cA cJ (nI 0) M.n (nI 0) M.a F2 T3 M.fo M.fb M.fg M.fh M.fr (56 * w) (nI lp) z (dE_ A0 (w - 2 ^ j) * A0 kk j) hF2 w1.1 (by omega) hz2 w1.2) (cwV 2 hts (gw_V k_ml_Model_68 k_im_Model_add k_sel_Model_add k_ini_Model k_code_Model_add) rfl rfl rfl (by decide +kernel) ⟨Nat.le_of_ble_eq_true rfl, Nat.le_of_ble_eq_true rfl⟩) ⟨xc_W_blind, va_recv hK hP (ci := 3) (q0 := 0) rfl rfl, fun U hU hW => ⟨rfl, by rw [hU], by rw [hU]; exact hPc, va_K.moved hW.alike (hK.sub (tys' := [(cA, .int), (cJ, .long)]) [0, 1] rfl), hDc⟩⟩ rfl rfl hl.1 rfl (lv_room (Nat.le_of_ble_eq_true rfl)) d_Model_solve_150 ⟨Nat.zero_le _, Nat.zero_le _⟩) hS (fun q _ h => hFc q h) hFc (fun u t_ H locs ht_ hvm_ w2 hB hz1 hk1 hS => ?_)
                obtain ⟨F3, T4⟩ := u
                try dsimp only at w2
                obtain ⟨hP, hD1⟩ := hB
                rw [ht_] at hP
                have hP : va_P (dC, dI) classes (mw m0 ma mS mt mo mb mg mh mr cA cJ (nI 0) M.n (nI 0) M.a F3 T4 M.fo M.fb M.fg M.fh M.fr) H := hP
                have hD : va_D A (mw m0 ma mS mt mo mb mg mh mr cA cJ (nI 0) M.n (nI 0) M.a F3 T4 M.fo M.fb M.fg M.fh M.fr) := hD1.weaken (fun k q _ h => hFc q.1 h)
                obtain ⟨y1, y2, y3, y4⟩ := w2
                refine lv_iload hx hb d_Model_solve_153 (lv_at hl 1 rfl) ?_
                refine xn_if_ne (tgt := 162) hx hb (by omega) d_Model_solve_155 (by decide) (fun hl0 => ?_) (fun hl0 => ?_)
                · refine lv_iconst (v := nI 0) hx hb d_Model_solve_162 rfl ?_
                  refine lv_istore (lv' := [(5, .int (nI 0)), (6, .int (nI j)), (4, .int (nI (56 * w))), (3, .int (nI mm)), (2, .int (nI w)), (1, .int (nI (1 * 2 ^ (M.n + 1)))), (0, .ref m0)]) hx hb d_Model_solve_163 hl (by decide) rfl (fun ls hl => ?_)
                  refine lv_iinc (v := nI j - 1) (lv' := [(6, .int (nI j - 1)), (5, .int (nI 0)), (4, .int (nI (56 * w))), (3, .int (nI mm)), (2, .int (nI w)), (1, .int (nI (1 * 2 ^ (M.n + 1)))), (0, .ref m0)]) hx hb d_Model_solve_165 hl (k := 1) rfl (xn_m1 _) (by decide) rfl (fun ls hl => ?_)
                  refine lv_goto (tgt := 99) hx hb d_Model_solve_168 (by decide) ?_
                  exact ih4 j 0 _ F3 T4 (by omega) (by omega) y1 y2 (fun i hi => (y4 i (by omega)).trans (hFx2 i hi)) y3 k1 (by omega) H locs hP hD hS ls (lv_sub hl [0, 1, 2, 3, 4, 5, 6] rfl)
                refine lv_iconst (v := nI 1) hx hb d_Model_solve_158 rfl ?_
                refine lv_goto (tgt := 163) hx hb d_Model_solve_159 (by decide) ?_
                refine lv_istore (lv' := [(5, .int (nI 1)), (6, .int (nI j)), (4, .int (nI (56 * w))), (3, .int (nI mm)), (2, .int (nI w)), (1, .int (nI (1 * 2 ^ (M.n + 1)))), (0, .ref m0)]) hx hb d_Model_solve_163 hl (by decide) rfl (fun ls hl => ?_)
                refine lv_iinc (v := nI j - 1) (lv' := [(6, .int (nI j - 1)), (5, .int (nI 1)), (4, .int (nI (56 * w))), (3, .int (nI mm)), (2, .int (nI w)), (1, .int (nI (1 * 2 ^ (M.n + 1)))), (0, .ref m0)]) hx hb d_Model_solve_165 hl (k := 1) rfl (xn_m1 _) (by decide) rfl (fun ls hl => ?_)
                refine lv_goto (tgt := 99) hx hb d_Model_solve_168 (by decide) ?_
                exact ih4 j 1 _ F3 T4 (by omega) (by omega) y1 y2 (fun i hi => (y4 i (by omega)).trans (hFx2 i hi)) y3 k1 (by omega) H locs hP hD hS ls (lv_sub hl [0, 1, 2, 3, 4, 5, 6] rfl)
            exact loop4 (M.n + 2) (M.n + 1) 0 0 F1 T (Nat.le_refl _) (by rw [s2]; rfl) hF1 hT (fun i hi => hFx i (by omega)) (by rw [tc_0]; exact (dg_eq0 56).mpr (fun i hi => hz1 i (by omega))) s1 (Nat.le_refl _) H locs hP hD hS ls (lv_sub hl [0, 1, 2, 3, 4, 5, 6] rfl)
          refine lv_aload_n hx hb d_Model_solve_58 rfl (lv_at hl 5 rfl) ?_
          refine va_get (D := (dC, dI)) (ci := 3) (v := .ref mS) (C := R_Model) (T := F_Model) (N := 11) hx hb hts i_Model hown hK hP 0 rfl rfl 4 (by decide) (hts _ k_fl_Model_14) (fun _ h9 => h9) rfl d_Model_solve_59 ?_
          refine lv_iload hx hb d_Model_solve_62 (lv_at hl 1 rfl) ?_
          refine lv_iload hx hb d_Model_solve_64 (lv_at hl 0 rfl) ?_
          refine xn_iadd hx hb d_Model_solve_66 ?_
          refine lv_iconst (v := nI 0) hx hb d_Model_solve_67 rfl ?_
          refine xn_iast hx hb hK hP hD hS 2 0 rfl rfl (i := (56 * w) + k) (x := 0) (by omega) (by omega) d_Model_solve_68 (fun H locs hP hD hS => ?_)
          have hP : va_P (dC, dI) classes (mw m0 ma mS mt mo mb mg mh mr cA cJ (nI 0) M.n (nI 0) M.a (va_up F1 ((56 * w) + k) 0) T M.fo M.fb M.fg M.fh M.fr) H := hP
          have hD : va_D A (mw m0 ma mS mt mo mb mg mh mr cA cJ (nI 0) M.n (nI 0) M.a (va_up F1 ((56 * w) + k) 0) T M.fo M.fb M.fg M.fh M.fr) := hD
          refine lv_iinc (v := nI (k + 1)) (lv' := [(5, .int (nI (k + 1))), (4, .int (nI (56 * w))), (3, .int (nI mm)), (2, .int (nI w)), (1, .int (nI (1 * 2 ^ (M.n + 1)))), (0, .ref m0)]) hx hb d_Model_solve_69 hl (k := 0) rfl (nI_1 _) (by decide) rfl (fun ls hl => ?_)
          refine lv_goto (tgt := 51) hx hb d_Model_solve_72 (by decide) ?_
          exact ih3 (k + 1) (va_up F1 (56 * w + k) 0) (by omega) (va_up_lt hF1 (by decide)) (fun i hi => by rw [va_up_ne _ _ (by omega)]; exact hFx i hi) (fun i hi => by
                        by_cases q : i = k
                        · rw [q, va_up_self]
                        · rw [va_up_ne _ _ (by omega)]; exact hz1 i (by omega)) (by omega) H locs hP hD hS ls (lv_sub hl [0, 1, 2, 3, 4, 5] rfl)
      exact loop3 57 0 F (Nat.zero_le _) hF (fun _ _ => rfl) (fun i hi => absurd hi (Nat.not_lt_zero _)) (by omega) H locs hP hD hS ls (lv_sub hl [0, 1, 2, 3, 4, 5] rfl)
  exact loop (2 ^ (M.n + 1) + 1) 0 M.S M.ft (Nat.zero_le _) g3 g4 (fun v h1 _ => absurd h1 (Nat.not_lt_zero _)) (by omega) H locs hP hD hS ls (lv_sub hl [0, 1, 2] rfl)
