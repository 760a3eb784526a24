set_option maxHeartbeats 8000000 in
set_option maxRecDepth 100000 in
/-- part of the reference -/
theorem c_Model_part (l : Launch) (dC : Nat → ClassId) (dI : Nat → Nat → Nat) (sz : Nat) (m0 ma mS mt mo mb mg mh mr : Nat) (cA cJ : ClassId) (M : mT) (b k : Int32) (hG : mG M) : Met l y_Model_part w_Model_part ({ frames := 1, cells := 0, slots := 0, locals := 22 }) (xc_W [.ref m0, .int b, .int k] dC dI (mw m0 ma mS mt mo mb mg mh mr cA cJ M.er M.n M.sv M.a M.S M.ft M.fo M.fb M.fg M.fh M.fr) [(cA, .int), (cJ, .long)] sz) (va_Qi (S := mT) (fun r u => mG u ∧ ((k < 0 ∧ u.er = 1) ∨ (∃ k2 : Nat, k = nI k2 ∧ k2 < 2 ^ 31 ∧ u.er = 0 ∧ r = nI ((if b = 0 then dg_v M.fo 56 else dg_v M.fb 56) / 2 ^ (31 * k2) % 2147483648))) ∧ u.n = M.n ∧ u.sv = M.sv ∧ u.a = M.a ∧ u.fo = M.fo ∧ u.fb = M.fb) (fun u t => va_P (dC, dI) classes (mw m0 ma mS mt mo mb mg mh mr cA cJ u.er u.n u.sv u.a u.S u.ft u.fo u.fb u.fg u.fh u.fr) t.heap ∧ va_D (va_A (mw m0 ma mS mt mo mb mg mh mr cA cJ M.er M.n M.sv M.a M.S M.ft M.fo M.fb M.fg M.fh M.fr) sz) (mw m0 ma mS mt mo mb mg mh mr cA cJ u.er u.n u.sv u.a u.S u.ft u.fo u.fb u.fg u.fh u.fr)) (va_A (mw m0 ma mS mt mo mb mg mh mr cA cJ M.er M.n M.sv M.a M.S M.ft M.fo M.fb M.fg M.fh M.fr) sz)) 0 0 (va_A (mw m0 ma mS mt mo mb mg mh mr cA cJ M.er M.n M.sv M.a M.S M.ft M.fo M.fb M.fg M.fh M.fr) sz) := by
  refine Met.ofW (cc := b_Model_part) (maxL := 8) (ret := (some .int)) (by decide) rfl ?_
  intro p e s m args below meth c s₁ B hml hv
  obtain ⟨rfl, hsz, hP, hK, hD0⟩ := hv
  have hx := B.exec
  have hb := B.bytes
  have hr := B.returns
  have hts : ∀ w ∈ gw_tbl, w.before ([.ref m0, .int b, .int k] : List Value).toArray s = true := fun w h => atoms_spec (ws := w_Model_part) B.pre w (List.mem_cons_of_mem _ h)
  have hown : s.vm.findClass R_Model = some m.cls := findClass_of_methodNamed B.named
  have hlocks := B.notSynchronized
  subst hsz
  have hD := hD0.self (sz := s.heap.size)
  generalize hAe : va_A (mw m0 ma mS mt mo mb mg mh mr cA cJ M.er M.n M.sv M.a M.S M.ft M.fo M.fb M.fg M.fh M.fr) s.heap.size = A at hD ⊢
  have hA : ∀ q : Nat, s.heap.size ≤ q → A q := fun q h => by rw [← hAe]; exact Or.inr h
  have hS : va_S A s.heap s.heap [] := va_S.rf
  have hl := lv_entry ([.ref m0, .int b, .int k]) (n := 8) (Nat.le_of_ble_eq_true rfl)
  rw [lg_entry_eq]
  generalize (lg_sl ([.ref m0, .int b, .int k]) ++ List.replicate (8 - (lg_sl ([.ref m0, .int b, .int k])).length) Slot.unset).toArray = ls at hl ⊢
  have hl : lv_has ls 8 [(0, .ref m0), (1, .int b), (2, .int k)] := hl
  have hG0 := hG
  obtain ⟨g1, g2, g3, g4, g5, g6, g7, g8, g9, g10⟩ := hG
  refine lv_aload_n hx hb d_Model_part_0 rfl (lv_at hl 0 rfl) ?_
  refine lv_iconst (v := nI 0) hx hb d_Model_part_1 rfl ?_
  refine va_put (D := (dC, dI)) (ci := 3) (v := .int (nI 0)) (ty := .int) (C := R_Model) (T := F_Model) (N := 11) hx hb hts i_Model t_Model t_Model_ok n_Model hown hK hP hD hS 0 rfl rfl 0 (by decide) (hts _ k_fl_Model_36) (fun _ h9 => h9) rfl (by decide +kernel) rfl rfl (Nat.le_of_ble_eq_true rfl) d_Model_part_2 (fun H locs hP hD hS => ?_)
  have hP : va_P (dC, dI) classes (mw m0 ma mS mt mo mb mg mh mr cA cJ (nI 0) M.n M.sv M.a M.S M.ft M.fo M.fb M.fg M.fh M.fr) H := hP
  have hD : va_D A (mw m0 ma mS mt mo mb mg mh mr cA cJ (nI 0) M.n M.sv M.a M.S M.ft M.fo M.fb M.fg M.fh M.fr) := hD
  refine lv_aload_n hx hb d_Model_part_5 rfl (lv_at hl 0 rfl) ?_
  refine lv_iload_n hx hb d_Model_part_6 rfl (lv_at hl 2 rfl) ?_
  refine lv_if_ge (tgt := 14) hx hb d_Model_part_7 (by decide) (fun hk => ?_) (fun hk => ?_)
  rotate_left
  · refine lv_iconst (v := nI 1) hx hb d_Model_part_10 rfl ?_
    refine lv_goto (tgt := 15) hx hb d_Model_part_11 (by decide) ?_
    refine lv_iconst (v := nI 1) hx hb d_Model_part_15 rfl ?_
    have hFc := va_free (wc := [(m0, .inr (3, [.int (nI 0), .int (nI M.n), .int M.sv, .ref ma, .ref mS, .ref mt, .ref mo, .ref mb, .ref mg, .ref mh, .ref mr]))]) hD hS hA [0] rfl
    refine va_calli (va_runV (As := [.int (nI 1), .int (nI 1)]) (rest := []) ⟨hx, hb, hml, hown, hts⟩ (c_Model_fails l dC dI H.size m0 ma mS mt mo mb mg mh mr (nI 0) M.n M.sv (nI 1) (nI 1)) (cwV 2 hts (gw_V k_ml_Model_40 k_im_Model_fails k_sel_Model_fails k_ini_Model k_code_Model_fails) rfl rfl rfl (by decide +kernel) ⟨Nat.le_of_ble_eq_true rfl, Nat.le_of_ble_eq_true rfl⟩) ⟨xc_W_blind, va_recv hK hP (ci := 3) (q0 := 0) rfl rfl, fun U hU hW => ⟨rfl, by rw [hU], by rw [hU]; exact hP.sub (ws' := [(m0, .inr (3, [.int (nI 0), .int (nI M.n), .int M.sv, .ref ma, .ref mS, .ref mt, .ref mo, .ref mb, .ref mg, .ref mh, .ref mr]))]) [0] rfl, va_K.moved hW.alike (hK.sub (tys' := []) [] rfl), (hD.sub (ws' := [(m0, .inr (3, [.int (nI 0), .int (nI M.n), .int M.sv, .ref ma, .ref mS, .ref mt, .ref mo, .ref mb, .ref mg, .ref mh, .ref mr]))]) [0] (by decide) rfl).weaken (fun _ _ _ _ => trivial)⟩⟩ rfl rfl hl.1 rfl (lv_room (Nat.le_of_ble_eq_true rfl)) d_Model_part_16 ⟨Nat.zero_le _, Nat.zero_le _⟩) hS (fun q _ h => hFc q h) hFc (fun rf u t_ H locs ht_ hvm_ wf hB hz1 hk1 hS => ?_)
    obtain ⟨e1_, e_e1_⟩ : ∃ z, z = u := ⟨u, rfl⟩
    rw [← e_e1_] at wf hB
    rw [ht_] at hB
    obtain ⟨hP, hD⟩ := xj_1 0 hP hD rfl hk1 hB
    have hP : va_P (dC, dI) classes (mw m0 ma mS mt mo mb mg mh mr cA cJ e1_ M.n M.sv M.a M.S M.ft M.fo M.fb M.fg M.fh M.fr) H := hP
    have hD : va_D A (mw m0 ma mS mt mo mb mg mh mr cA cJ e1_ M.n M.sv M.a M.S M.ft M.fo M.fb M.fg M.fh M.fr) := hD
    rw [if_neg (show ¬ (nI 1 : Int32) = 0 by decide), if_pos (show (nI 0 : Int32) = 0 by decide)] at wf
    obtain ⟨wf1, wf2⟩ := wf
    subst wf1
    rw [if_neg (show ¬ (nI 1 : Int32) = 0 by decide)] at wf2
    subst wf2
    have hP : va_P (dC, dI) classes (mw m0 ma mS mt mo mb mg mh mr cA cJ (nI 1) M.n M.sv M.a M.S M.ft M.fo M.fb M.fg M.fh M.fr) H := hP
    have hD : va_D A (mw m0 ma mS mt mo mb mg mh mr cA cJ (nI 1) M.n M.sv M.a M.S M.ft M.fo M.fb M.fg M.fh M.fr) := hD
    refine lv_if_eq (tgt := 24) hx hb d_Model_part_19 (by decide) (fun h9_ => absurd h9_ (by decide)) (fun _ => ?_)
    refine lv_iconst (v := nI 0) hx hb d_Model_part_22 rfl ?_
    have hpost : mG (⟨nI 1, M.n, M.sv, M.a, M.S, M.ft, M.fo, M.fb, M.fg, M.fh, M.fr⟩ : mT) ∧ ((k < 0 ∧ (nI 1 : Int32) = 1) ∨ (∃ k2 : Nat, k = nI k2 ∧ k2 < 2 ^ 31 ∧ (nI 1 : Int32) = 0 ∧ (nI 0 : Int32) = nI ((if b = 0 then dg_v M.fo 56 else dg_v M.fb 56) / 2 ^ (31 * k2) % 2147483648))) ∧ M.n = M.n ∧ M.sv = M.sv ∧ M.a = M.a ∧ M.fo = M.fo ∧ M.fb = M.fb := ⟨⟨g1, g2, g3, g4, g5, g6, g7, g8, g9, g10⟩, Or.inl ⟨Int32.not_le.mp hk, rfl⟩, rfl, rfl, rfl, rfl, rfl⟩
    exact W.iret (v := nI 0) hx hb hr (fun T_ ht_ hW_ => ⟨⟨_, (⟨nI 1, M.n, M.sv, M.a, M.S, M.ft, M.fo, M.fb, M.fg, M.fh, M.fr⟩ : mT), rfl, hpost, by show va_P (dC, dI) classes _ T_.heap; rw [ht_]; exact hP, hD⟩, hS.F ht_⟩) hS.2.2 d_Model_part_23
  refine lv_iconst (v := nI 0) hx hb d_Model_part_14 rfl ?_
  refine lv_iconst (v := nI 1) hx hb d_Model_part_15 rfl ?_
  have hFc := va_free (wc := [(m0, .inr (3, [.int (nI 0), .int (nI M.n), .int M.sv, .ref ma, .ref mS, .ref mt, .ref mo, .ref mb, .ref mg, .ref mh, .ref mr]))]) hD hS hA [0] rfl
  refine va_calli (va_runV (As := [.int (nI 0), .int (nI 1)]) (rest := []) ⟨hx, hb, hml, hown, hts⟩ (c_Model_fails l dC dI H.size m0 ma mS mt mo mb mg mh mr (nI 0) M.n M.sv (nI 0) (nI 1)) (cwV 2 hts (gw_V k_ml_Model_40 k_im_Model_fails k_sel_Model_fails k_ini_Model k_code_Model_fails) rfl rfl rfl (by decide +kernel) ⟨Nat.le_of_ble_eq_true rfl, Nat.le_of_ble_eq_true rfl⟩) ⟨xc_W_blind, va_recv hK hP (ci := 3) (q0 := 0) rfl rfl, fun U hU hW => ⟨rfl, by rw [hU], by rw [hU]; exact hP.sub (ws' := [(m0, .inr (3, [.int (nI 0), .int (nI M.n), .int M.sv, .ref ma, .ref mS, .ref mt, .ref mo, .ref mb, .ref mg, .ref mh, .ref mr]))]) [0] rfl, va_K.moved hW.alike (hK.sub (tys' := []) [] rfl), (hD.sub (ws' := [(m0, .inr (3, [.int (nI 0), .int (nI M.n), .int M.sv, .ref ma, .ref mS, .ref mt, .ref mo, .ref mb, .ref mg, .ref mh, .ref mr]))]) [0] (by decide) rfl).weaken (fun _ _ _ _ => trivial)⟩⟩ rfl rfl hl.1 rfl (lv_room (Nat.le_of_ble_eq_true rfl)) d_Model_part_16 ⟨Nat.zero_le _, Nat.zero_le _⟩) hS (fun q _ h => hFc q h) hFc (fun rf u t_ H locs ht_ hvm_ wf hB hz1 hk1 hS => ?_)
  obtain ⟨e1_, e_e1_⟩ : ∃ z, z = u := ⟨u, rfl⟩
  rw [← e_e1_] at wf hB
  rw [ht_] at hB
  obtain ⟨hP, hD⟩ := xj_1 0 hP hD rfl hk1 hB
  have hP : va_P (dC, dI) classes (mw m0 ma mS mt mo mb mg mh mr cA cJ e1_ M.n M.sv M.a M.S M.ft M.fo M.fb M.fg M.fh M.fr) H := hP
  have hD : va_D A (mw m0 ma mS mt mo mb mg mh mr cA cJ e1_ M.n M.sv M.a M.S M.ft M.fo M.fb M.fg M.fh M.fr) := hD
  rw [if_pos (show (nI 0 : Int32) = 0 by decide)] at wf
  obtain ⟨wf1, wf2⟩ := wf
  subst wf1
  rw [if_pos (show (nI 0 : Int32) = 0 by decide)] at wf2
  subst wf2
  have hP : va_P (dC, dI) classes (mw m0 ma mS mt mo mb mg mh mr cA cJ (nI 0) M.n M.sv M.a M.S M.ft M.fo M.fb M.fg M.fh M.fr) H := hP
  have hD : va_D A (mw m0 ma mS mt mo mb mg mh mr cA cJ (nI 0) M.n M.sv M.a M.S M.ft M.fo M.fb M.fg M.fh M.fr) := hD
  refine lv_if_eq (tgt := 24) hx hb d_Model_part_19 (by decide) (fun _ => ?_) (fun h9_ => absurd h9_ (by decide))
  obtain ⟨kn, hkn, ek⟩ := nI_of (x := k) (Int32.not_lt.mpr hk)
  subst ek
  obtain ⟨X, eX⟩ : ∃ X, X = (if b = 0 then dg_v M.fo 56 else dg_v M.fb 56) := ⟨_, rfl⟩
  have hXl : X < 2 ^ 896 := by
    rw [eX, ← dg_56]
    split
    · exact dg_lt 56 (fun i _ => g5 i)
    · exact dg_lt 56 (fun i _ => g6 i)
  refine lv_iconst (v := nI 0) hx hb d_Model_part_24 rfl ?_
  refine lv_istore_n (lv' := [(3, .int (nI 0)), (0, .ref m0), (1, .int b), (2, .int (nI kn))]) hx hb d_Model_part_25 rfl hl (by decide) rfl (fun ls hl => ?_)
  refine lv_bipush (v := nI 30) hx hb d_Model_part_26 rfl ?_
  rw [show nI 30 = nI 31 - 1 from rfl]
  refine lv_istore (lv' := [(4, .int (nI 31 - 1)), (3, .int (nI 0)), (0, .ref m0), (1, .int b), (2, .int (nI kn))]) hx hb d_Model_part_28 hl (by decide) rfl (fun ls hl => ?_)
  have loop : ∀ (n0 : Nat) (mq vv : Nat), (mq ≤ 31) → (vv = X / 2 ^ (31 * kn + mq) % 2 ^ (31 - mq)) → (mq + 1 ≤ n0) → ∀ (H : Heap) (locs : List Loc), va_P (dC, dI) classes (mw m0 ma mS mt mo mb mg mh mr cA cJ (nI 0) M.n M.sv M.a M.S M.ft M.fo M.fb M.fg M.fh M.fr) H → va_D A (mw m0 ma mS mt mo mb mg mh mr cA cJ (nI 0) M.n M.sv M.a M.S M.ft M.fo M.fb M.fg M.fh M.fr) → va_S A s.heap H locs → ∀ (ls : Array Slot), lv_has ls 8 [(4, .int (nI mq - 1)), (3, .int (nI vv)), (0, .ref m0), (1, .int b), (2, .int (nI kn))] → W p l e (headSpec w_Model_part ({ frames := 1, cells := 0, slots := 0, locals := 22 })).room s m ([.ref m0, .int b, .int (nI kn)] : List Value).toArray below meth c H locs 0 0 (MQ below (va_Qi (S := mT) (fun r u => mG u ∧ (((nI kn) < 0 ∧ u.er = 1) ∨ (∃ k2 : Nat, (nI kn) = nI k2 ∧ k2 < 2 ^ 31 ∧ u.er = 0 ∧ r = nI ((if b = 0 then dg_v M.fo 56 else dg_v M.fb 56) / 2 ^ (31 * k2) % 2147483648))) ∧ u.n = M.n ∧ u.sv = M.sv ∧ u.a = M.a ∧ u.fo = M.fo ∧ u.fb = M.fb) (fun u t => va_P (dC, dI) classes (mw m0 ma mS mt mo mb mg mh mr cA cJ u.er u.n u.sv u.a u.S u.ft u.fo u.fb u.fg u.fh u.fr) t.heap ∧ va_D A (mw m0 ma mS mt mo mb mg mh mr cA cJ u.er u.n u.sv u.a u.S u.ft u.fo u.fb u.fg u.fh u.fr)) A) ([.ref m0, .int b, .int (nI kn)] : List Value).toArray s 0 0 A) (F0 m 30 ls []) := by
    intro n0
    induction n0 with
    | zero => intro mq vv hm hv hn_; exact absurd hn_ (by omega)
    | succ n0 ih =>
      intro mq vv hm hv hn_ H locs hP hD hS ls hl
      refine lv_iload hx hb d_Model_part_30 (lv_at hl 0 rfl) ?_
      refine lv_if_lt (tgt := 106) hx hb d_Model_part_32 (by decide) (fun hneg => ?_) (fun hneg => ?_)
      · have hk0 : mq = 0 := by
          rcases Nat.eq_zero_or_pos mq with q | q
          · exact q
          · rw [xn_pre q] at hneg; exact absurd hneg (nI_pos (by omega))
        subst hk0
        refine lv_iload_n hx hb d_Model_part_106 rfl (lv_at hl 1 rfl) ?_
        have hpost : mG (⟨nI 0, M.n, M.sv, M.a, M.S, M.ft, M.fo, M.fb, M.fg, M.fh, M.fr⟩ : mT) ∧ (((nI kn) < 0 ∧ (nI 0 : Int32) = 1) ∨ (∃ k2 : Nat, (nI kn) = nI k2 ∧ k2 < 2 ^ 31 ∧ (nI 0 : Int32) = 0 ∧ nI vv = nI ((if b = 0 then dg_v M.fo 56 else dg_v M.fb 56) / 2 ^ (31 * k2) % 2147483648))) ∧ M.n = M.n ∧ M.sv = M.sv ∧ M.a = M.a ∧ M.fo = M.fo ∧ M.fb = M.fb := ⟨⟨g1, g2, g3, g4, g5, g6, g7, g8, g9, g10⟩, Or.inr ⟨kn, rfl, hkn, rfl, by rw [hv, eX]; rfl⟩, rfl, rfl, rfl, rfl, rfl⟩
        exact W.iret (v := nI vv) hx hb hr (fun T_ ht_ hW_ => ⟨⟨_, (⟨nI 0, M.n, M.sv, M.a, M.S, M.ft, M.fo, M.fb, M.fg, M.fh, M.fr⟩ : mT), rfl, hpost, by show va_P (dC, dI) classes _ T_.heap; rw [ht_]; exact hP, hD⟩, hS.F ht_⟩) hS.2.2 d_Model_part_107
      obtain ⟨j, ej⟩ : ∃ j, mq = j + 1 := by
        rcases Nat.eq_zero_or_pos mq with q | q
        · subst q; exact absurd (by decide) hneg
        · exact ⟨mq - 1, by omega⟩
      subst ej
      rw [xn_pre (Nat.succ_pos _)] at hl
      have hl : lv_has ls 8 [(4, .int (nI j)), (3, .int (nI vv)), (0, .ref m0), (1, .int b), (2, .int (nI kn))] := hl
      have hvl : vv < 2 ^ (31 - (j + 1)) := by rw [hv]; exact Nat.mod_lt _ (Nat.two_pow_pos _)
      have hvl2 : 2 ^ (31 - (j + 1)) ≤ 2 ^ 30 := Nat.pow_le_pow_right (by decide) (by omega)
      refine lv_ldc2 (v := lN 31) hx hb hown (hts _ k_ldc_Model_118) d_Model_part_35 ?_
      refine lv_iload_n hx hb d_Model_part_38 rfl (lv_at hl 4 rfl) ?_
      refine xn_i2l hx hb (by omega) d_Model_part_39 ?_
      refine xn_lmul hx hb d_Model_part_40 ?_
      refine lv_iload hx hb d_Model_part_41 (lv_at hl 0 rfl) ?_
      refine xn_i2l hx hb (by omega) d_Model_part_43 ?_
      refine xn_ladd hx hb d_Model_part_44 ?_
      refine lv_lstore (lv' := [(5, .long (lN ((31 * kn) + j))), (4, .int (nI j)), (3, .int (nI vv)), (0, .ref m0), (1, .int b), (2, .int (nI kn))]) hx hb d_Model_part_45 hl (by decide) rfl (fun ls hl => ?_)
      refine lv_lload hx hb d_Model_part_47 (lv_at hl 0 rfl) ?_
      refine lv_ldc2 (v := lN 896) hx hb hown (hts _ k_ldc_Model_120) d_Model_part_49 ?_
      refine W.lcmp hx hb d_Model_part_52 ?_
      refine lv_if_lt (tgt := 60) hx hb d_Model_part_53 (by decide) (fun hlt => ?_) (fun hlt => ?_)
      · have hat : 31 * kn + j < 896 := (lg_lt (by omega) (by decide)).mp hlt
        refine lv_iload_n hx hb d_Model_part_60 rfl (lv_at hl 4 rfl) ?_
        refine lv_if_eq (tgt := 71) hx hb d_Model_part_61 (by decide) (fun hb0 => ?_) (fun hb0 => ?_)
        · have b0 := g5 ((31 * kn + j) / 16)
          have hsm : M.fo ((31 * kn + j) / 16) / 2 ^ ((31 * kn + j) % 16) ≤ M.fo ((31 * kn + j) / 16) := Nat.div_le_self _ _
          have hbit := dg_bit (x := M.fo) (n := 56) (i := 31 * kn + j) (by omega) g5
          have eX2 : X = dg_v M.fo 56 := by rw [eX, if_pos hb0]
          refine lv_aload_n hx hb d_Model_part_71 rfl (lv_at hl 3 rfl) ?_
          refine va_get (D := (dC, dI)) (ci := 3) (v := .ref mo) (C := R_Model) (T := F_Model) (N := 11) hx hb hts i_Model hown hK hP 0 rfl rfl 6 (by decide) (hts _ k_fl_Model_21) (fun _ h9 => h9) rfl d_Model_part_72 ?_
          refine lv_lload hx hb d_Model_part_75 (lv_at hl 0 rfl) ?_
          refine lv_iconst (v := nI 4) hx hb d_Model_part_77 rfl ?_
          refine lv_lshr (v := lN ((31 * kn + j) / 16)) hx hb d_Model_part_78 (by rw [lZ_N, lZ_N]; exact (lZ_shr4 (by omega) (by omega)).trans (by congr 1)) ?_
          refine xn_l2i hx hb d_Model_part_79 ?_
          refine xn_iald hx hb hK hP 4 0 rfl rfl (i := (31 * kn + j) / 16) (by omega) (by omega) d_Model_part_80 ?_
          refine lv_lload hx hb d_Model_part_81 (lv_at hl 0 rfl) ?_
          refine lv_ldc2 (v := lN 15) hx hb hown (hts _ k_ldc_Model_122) d_Model_part_83 ?_
          refine xe_land (v := lN ((31 * kn + j) % 16)) hx hb d_Model_part_86 (wb_mask (k := 4) (by omega) (by decide)) ?_
          refine xn_l2i hx hb d_Model_part_87 ?_
          refine xe_ishr (v := nI (M.fo ((31 * kn + j) / 16) / 2 ^ ((31 * kn + j) % 16))) hx hb d_Model_part_88 (nI_shr (by omega) (by omega)) ?_
          refine lv_iconst (v := nI 1) hx hb d_Model_part_89 rfl ?_
          obtain ⟨bb, ebb⟩ : ∃ bb, bb = X / 2 ^ (31 * kn + j) % 2 := ⟨_, rfl⟩
          refine xe_iand (v := nI bb) hx hb d_Model_part_90 (by rw [ebb, eX2, hbit]; exact nI_bit (by omega)) ?_
          have hbb : bb < 2 := by rw [ebb]; exact Nat.mod_lt _ (by decide)
          refine lv_istore (lv' := [(7, .int (nI bb)), (5, .long (lN ((31 * kn) + j))), (4, .int (nI j)), (3, .int (nI vv)), (0, .ref m0), (1, .int b), (2, .int (nI kn))]) hx hb d_Model_part_91 hl (by decide) rfl (fun ls hl => ?_)
          refine lv_iload_n hx hb d_Model_part_93 rfl (lv_at hl 3 rfl) ?_
          refine lv_iconst (v := nI 1) hx hb d_Model_part_94 rfl ?_
          refine xe_ishl (v := nI (vv * 2 ^ 1)) hx hb d_Model_part_95 (sh_shl _ 1 (by decide)) ?_
          refine lv_iload hx hb d_Model_part_96 (lv_at hl 0 rfl) ?_
          refine xe_ior (v := nI (bb + vv * 2 ^ 1)) hx hb d_Model_part_98 (nI_orr (by omega)) ?_
          refine lv_istore_n (lv' := [(3, .int (nI (bb + vv * 2 ^ 1))), (7, .int (nI bb)), (5, .long (lN ((31 * kn) + j))), (4, .int (nI j)), (0, .ref m0), (1, .int b), (2, .int (nI kn))]) hx hb d_Model_part_99 rfl hl (by decide) rfl (fun ls hl => ?_)
          refine lv_iinc (v := nI j - 1) (lv' := [(4, .int (nI j - 1)), (3, .int (nI (bb + vv * 2 ^ 1))), (7, .int (nI bb)), (5, .long (lN ((31 * kn) + j))), (0, .ref m0), (1, .int b), (2, .int (nI kn))]) hx hb d_Model_part_100 hl (k := 3) rfl (xn_m1 _) (by decide) rfl (fun ls hl => ?_)
          refine lv_goto (tgt := 30) hx hb d_Model_part_103 (by decide) ?_
          exact ih j (bb + vv * 2 ^ 1) (by omega) (by rw [show 31 - j = 31 - (j + 1) + 1 by omega]; exact pt_step hv ebb) (by omega) H locs hP hD hS ls (lv_sub hl [0, 1, 4, 5, 6] rfl)
        have b0 := g6 ((31 * kn + j) / 16)
        have hsm : M.fb ((31 * kn + j) / 16) / 2 ^ ((31 * kn + j) % 16) ≤ M.fb ((31 * kn + j) / 16) := Nat.div_le_self _ _
        have hbit := dg_bit (x := M.fb) (n := 56) (i := 31 * kn + j) (by omega) g6
        have eX2 : X = dg_v M.fb 56 := by rw [eX, if_neg hb0]
        refine lv_aload_n hx hb d_Model_part_64 rfl (lv_at hl 3 rfl) ?_
        refine va_get (D := (dC, dI)) (ci := 3) (v := .ref mb) (C := R_Model) (T := F_Model) (N := 11) hx hb hts i_Model hown hK hP 0 rfl rfl 7 (by decide) (hts _ k_fl_Model_24) (fun _ h9 => h9) rfl d_Model_part_65 ?_
        refine lv_goto (tgt := 75) hx hb d_Model_part_68 (by decide) ?_
        refine lv_lload hx hb d_Model_part_75 (lv_at hl 0 rfl) ?_
        refine lv_iconst (v := nI 4) hx hb d_Model_part_77 rfl ?_
        refine lv_lshr (v := lN ((31 * kn + j) / 16)) hx hb d_Model_part_78 (by rw [lZ_N, lZ_N]; exact (lZ_shr4 (by omega) (by omega)).trans (by congr 1)) ?_
        refine xn_l2i hx hb d_Model_part_79 ?_
        refine xn_iald hx hb hK hP 5 0 rfl rfl (i := (31 * kn + j) / 16) (by omega) (by omega) d_Model_part_80 ?_
        refine lv_lload hx hb d_Model_part_81 (lv_at hl 0 rfl) ?_
        refine lv_ldc2 (v := lN 15) hx hb hown (hts _ k_ldc_Model_122) d_Model_part_83 ?_
        refine xe_land (v := lN ((31 * kn + j) % 16)) hx hb d_Model_part_86 (wb_mask (k := 4) (by omega) (by decide)) ?_
        refine xn_l2i hx hb d_Model_part_87 ?_
        refine xe_ishr (v := nI (M.fb ((31 * kn + j) / 16) / 2 ^ ((31 * kn + j) % 16))) hx hb d_Model_part_88 (nI_shr (by omega) (by omega)) ?_
        refine lv_iconst (v := nI 1) hx hb d_Model_part_89 rfl ?_
        obtain ⟨bb, ebb⟩ : ∃ bb, bb = X / 2 ^ (31 * kn + j) % 2 := ⟨_, rfl⟩
        refine xe_iand (v := nI bb) hx hb d_Model_part_90 (by rw [ebb, eX2, hbit]; exact nI_bit (by omega)) ?_
        have hbb : bb < 2 := by rw [ebb]; exact Nat.mod_lt _ (by decide)
        refine lv_istore (lv' := [(7, .int (nI bb)), (5, .long (lN ((31 * kn) + j))), (4, .int (nI j)), (3, .int (nI vv)), (0, .ref m0), (1, .int b), (2, .int (nI kn))]) hx hb d_Model_part_91 hl (by decide) rfl (fun ls hl => ?_)
        refine lv_iload_n hx hb d_Model_part_93 rfl (lv_at hl 3 rfl) ?_
        refine lv_iconst (v := nI 1) hx hb d_Model_part_94 rfl ?_
        refine xe_ishl (v := nI (vv * 2 ^ 1)) hx hb d_Model_part_95 (sh_shl _ 1 (by decide)) ?_
        refine lv_iload hx hb d_Model_part_96 (lv_at hl 0 rfl) ?_
        refine xe_ior (v := nI (bb + vv * 2 ^ 1)) hx hb d_Model_part_98 (nI_orr (by omega)) ?_
        refine lv_istore_n (lv' := [(3, .int (nI (bb + vv * 2 ^ 1))), (7, .int (nI bb)), (5, .long (lN ((31 * kn) + j))), (4, .int (nI j)), (0, .ref m0), (1, .int b), (2, .int (nI kn))]) hx hb d_Model_part_99 rfl hl (by decide) rfl (fun ls hl => ?_)
        refine lv_iinc (v := nI j - 1) (lv' := [(4, .int (nI j - 1)), (3, .int (nI (bb + vv * 2 ^ 1))), (7, .int (nI bb)), (5, .long (lN ((31 * kn) + j))), (0, .ref m0), (1, .int b), (2, .int (nI kn))]) hx hb d_Model_part_100 hl (k := 3) rfl (xn_m1 _) (by decide) rfl (fun ls hl => ?_)
        refine lv_goto (tgt := 30) hx hb d_Model_part_103 (by decide) ?_
        exact ih j (bb + vv * 2 ^ 1) (by omega) (by rw [show 31 - j = 31 - (j + 1) + 1 by omega]; exact pt_step hv ebb) (by omega) H locs hP hD hS ls (lv_sub hl [0, 1, 4, 5, 6] rfl)
      have hat : 896 ≤ 31 * kn + j := by
        rcases Nat.lt_or_ge (31 * kn + j) 896 with q | q
        · exact absurd ((lg_lt (by omega) (by decide)).mpr q) hlt
        · exact q
      have hz : X / 2 ^ (31 * kn + j) = 0 := Nat.div_eq_of_lt (Nat.lt_of_lt_of_le hXl (Nat.pow_le_pow_right (by decide) hat))
      refine lv_iconst (v := nI 0) hx hb d_Model_part_56 rfl ?_
      refine lv_goto (tgt := 91) hx hb d_Model_part_57 (by decide) ?_
      refine lv_istore (lv' := [(7, .int (nI 0)), (5, .long (lN ((31 * kn) + j))), (4, .int (nI j)), (3, .int (nI vv)), (0, .ref m0), (1, .int b), (2, .int (nI kn))]) hx hb d_Model_part_91 hl (by decide) rfl (fun ls hl => ?_)
      refine lv_iload_n hx hb d_Model_part_93 rfl (lv_at hl 3 rfl) ?_
      refine lv_iconst (v := nI 1) hx hb d_Model_part_94 rfl ?_
      refine xe_ishl (v := nI (vv * 2 ^ 1)) hx hb d_Model_part_95 (sh_shl _ 1 (by decide)) ?_
      refine lv_iload hx hb d_Model_part_96 (lv_at hl 0 rfl) ?_
      refine xe_ior (v := nI (0 + vv * 2 ^ 1)) hx hb d_Model_part_98 (nI_orr (by omega)) ?_
      refine lv_istore_n (lv' := [(3, .int (nI (0 + vv * 2 ^ 1))), (7, .int (nI 0)), (5, .long (lN ((31 * kn) + j))), (4, .int (nI j)), (0, .ref m0), (1, .int b), (2, .int (nI kn))]) hx hb d_Model_part_99 rfl hl (by decide) rfl (fun ls hl => ?_)
      refine lv_iinc (v := nI j - 1) (lv' := [(4, .int (nI j - 1)), (3, .int (nI (0 + vv * 2 ^ 1))), (7, .int (nI 0)), (5, .long (lN ((31 * kn) + j))), (0, .ref m0), (1, .int b), (2, .int (nI kn))]) hx hb d_Model_part_100 hl (k := 3) rfl (xn_m1 _) (by decide) rfl (fun ls hl => ?_)
      refine lv_goto (tgt := 30) hx hb d_Model_part_103 (by decide) ?_
      exact ih j (0 + vv * 2 ^ 1) (by omega) (by rw [show 31 - j = 31 - (j + 1) + 1 by omega]; exact pt_step hv (by rw [hz])) (by omega) H locs hP hD hS ls (lv_sub hl [0, 1, 4, 5, 6] rfl)
  exact loop 32 31 0 (Nat.le_refl _) (by rw [Nat.sub_self, Nat.pow_zero, Nat.mod_one]) (Nat.le_refl _) H locs hP hD hS ls (lv_sub hl [0, 1, 2, 3, 4] rfl)
set_option maxHeartbeats 8000000 in
set_option maxRecDepth 100000 in
/-- new EquationDeskModel() -/
theorem c_Model_init (l : Launch) (dC : Nat → ClassId) (dI : Nat → Nat → Nat) (sz : Nat) (cA cJ : ClassId) (m0 : Nat)  : Met l y_Model_init w_Model_init ({ frames := 1, cells := 8, slots := 459244, locals := 12 }) (xc_W [.ref m0] dC dI ([(m0, .inr (3, [.int 0, .int 0, .int 0, .null, .null, .null, .null, .null, .null, .null, .null]))]) [(cA, .int), (cJ, .long)] sz) (va_Qv (S := mT) (fun u => mG u ∧ u.n = 0 ∧ u.sv = 0 ∧ u.a = (fun _ => 0) ∧ dg_v u.fo 56 = 0 ∧ dg_v u.fb 56 = 1) (fun u t => ∃ (ma mS mt mo mb mg mh mr : Nat), va_P (dC, dI) classes (mw m0 ma mS mt mo mb mg mh mr cA cJ u.er u.n u.sv u.a u.S u.ft u.fo u.fb u.fg u.fh u.fr) t.heap ∧ va_D (va_A ([(m0, .inr (3, [.int 0, .int 0, .int 0, .null, .null, .null, .null, .null, .null, .null, .null]))]) sz) (mw m0 ma mS mt mo mb mg mh mr cA cJ u.er u.n u.sv u.a u.S u.ft u.fo u.fb u.fg u.fh u.fr)) (va_A ([(m0, .inr (3, [.int 0, .int 0, .int 0, .null, .null, .null, .null, .null, .null, .null, .null]))]) sz)) 8 459244 (va_A ([(m0, .inr (3, [.int 0, .int 0, .int 0, .null, .null, .null, .null, .null, .null, .null, .null]))]) sz) := by
  refine Met.ofW (cc := b_Model_init) (maxL := 1) (ret := none) (by decide) rfl ?_
  intro p e s m args below meth c s₁ B hml hv
  obtain ⟨rfl, hsz, hP, hK, hD0⟩ := hv
  have hx := B.exec
  have hb := B.bytes
  have hr := B.returns
  have hts : ∀ w ∈ gw_tbl, w.before ([.ref m0] : List Value).toArray s = true := fun w h => atoms_spec (ws := w_Model_init) B.pre w (List.mem_cons_of_mem _ h)
  have hown : s.vm.findClass R_Model = some m.cls := findClass_of_methodNamed B.named
  have hlocks := B.notSynchronized
  have hin : meth.name = "<init>" := (name_of_methodNamed B.named B.method).1
  subst hsz
  have hD := hD0.self (sz := s.heap.size)
  generalize hAe : va_A ([(m0, .inr (3, [.int 0, .int 0, .int 0, .null, .null, .null, .null, .null, .null, .null, .null]))]) s.heap.size = A at hD ⊢
  have hA : ∀ q : Nat, s.heap.size ≤ q → A q := fun q h => by rw [← hAe]; exact Or.inr h
  have hS : va_S A s.heap s.heap [] := va_S.rf
  have hl := lv_entry ([.ref m0]) (n := 1) (Nat.le_of_ble_eq_true rfl)
  rw [lg_entry_eq]
  generalize (lg_sl ([.ref m0]) ++ List.replicate (1 - (lg_sl ([.ref m0])).length) Slot.unset).toArray = ls at hl ⊢
  have hl : lv_has ls 1 [(0, .ref m0)] := hl
  refine lv_aload_n hx hb d_Model_init_0 rfl (lv_at hl 0 rfl) ?_
  refine W.objInit hx hb hown (hts _ k_ml_Model_1) (hts _ k_im_objectInit) (hts _ k_code_oi) rfl (by rw [hml]; exact hl.1) rfl d_Model_init_1 (Nat.le_of_ble_eq_true rfl) (Nat.le_of_ble_eq_true rfl) ?_
  refine W.eq (g2 := F0 m 4 ls []) rfl ?_
  refine lv_aload_n hx hb d_Model_init_4 rfl (lv_at hl 0 rfl) ?_
  refine lv_sipush (v := nI 156) hx hb d_Model_init_5 rfl ?_
  refine xn_newJ hx hb (hts _ k_arr_long) hK hP hD hS hA 1 rfl (N := 156) (by omega) (Nat.le_of_ble_eq_true rfl) (Nat.le_of_ble_eq_true rfl) d_Model_init_8 (fun ma H hP hD hS => ?_)
  have hP : va_P (dC, dI) classes ([(m0, .inr (3, [.int 0, .int 0, .int 0, .null, .null, .null, .null, .null, .null, .null, .null])), (ma, .inl (cJ, 156, .inr (.inl (fun _ => 0))))]) H := hP
  have hD : va_D A ([(m0, .inr (3, [.int 0, .int 0, .int 0, .null, .null, .null, .null, .null, .null, .null, .null])), (ma, .inl (cJ, 156, .inr (.inl (fun _ => 0))))]) := hD
  refine va_putF (D := (dC, dI)) (ci := 3) (v := .ref ma) (ty := .array .long) (C := R_Model) (T := F_Model) (N := 11) hx hb hts i_Model t_Model t_Model_ok n_Model hown hK hP hD hS 0 rfl rfl 3 (by decide) (hts _ k_fl_Model_9) (fun _ h9 => h9) rfl hin rfl (by decide +kernel) rfl rfl (Nat.le_of_ble_eq_true rfl) d_Model_init_10 (fun H locs hP hD hS => ?_)
  have hP : va_P (dC, dI) classes ([(m0, .inr (3, [.int 0, .int 0, .int 0, .ref ma, .null, .null, .null, .null, .null, .null, .null])), (ma, .inl (cJ, 156, .inr (.inl (fun _ => 0))))]) H := hP
  have hD : va_D A ([(m0, .inr (3, [.int 0, .int 0, .int 0, .ref ma, .null, .null, .null, .null, .null, .null, .null])), (ma, .inl (cJ, 156, .inr (.inl (fun _ => 0))))]) := hD
  refine lv_aload_n hx hb d_Model_init_13 rfl (lv_at hl 0 rfl) ?_
  refine lv_ldc (v := nI 458752) hx hb hown (hts _ k_ldc_Model_13) d_Model_init_14 ?_
  refine xn_newI hx hb (hts _ k_arr_int) hK hP hD hS hA 0 rfl (N := 458752) (by omega) (Nat.le_of_ble_eq_true rfl) (Nat.le_of_ble_eq_true rfl) d_Model_init_16 (fun mS H hP hD hS => ?_)
  have hP : va_P (dC, dI) classes ([(m0, .inr (3, [.int 0, .int 0, .int 0, .ref ma, .null, .null, .null, .null, .null, .null, .null])), (ma, .inl (cJ, 156, .inr (.inl (fun _ => 0)))), (mS, .inl (cA, 458752, .inl (xn_f (fun _ => 0))))]) H := hP
  have hD : va_D A ([(m0, .inr (3, [.int 0, .int 0, .int 0, .ref ma, .null, .null, .null, .null, .null, .null, .null])), (ma, .inl (cJ, 156, .inr (.inl (fun _ => 0)))), (mS, .inl (cA, 458752, .inl (xn_f (fun _ => 0))))]) := hD
  refine va_putF (D := (dC, dI)) (ci := 3) (v := .ref mS) (ty := .array .int) (C := R_Model) (T := F_Model) (N := 11) hx hb hts i_Model t_Model t_Model_ok n_Model hown hK hP hD hS 0 rfl rfl 4 (by decide) (hts _ k_fl_Model_14) (fun _ h9 => h9) rfl hin rfl (by decide +kernel) rfl rfl (Nat.le_of_ble_eq_true rfl) d_Model_init_18 (fun H locs hP hD hS => ?_)
  have hP : va_P (dC, dI) classes ([(m0, .inr (3, [.int 0, .int 0, .int 0, .ref ma, .ref mS, .null, .null, .null, .null, .null, .null])), (ma, .inl (cJ, 156, .inr (.inl (fun _ => 0)))), (mS, .inl (cA, 458752, .inl (xn_f (fun _ => 0))))]) H := hP
  have hD : va_D A ([(m0, .inr (3, [.int 0, .int 0, .int 0, .ref ma, .ref mS, .null, .null, .null, .null, .null, .null])), (ma, .inl (cJ, 156, .inr (.inl (fun _ => 0)))), (mS, .inl (cA, 458752, .inl (xn_f (fun _ => 0))))]) := hD
  refine lv_aload_n hx hb d_Model_init_21 rfl (lv_at hl 0 rfl) ?_
  refine lv_bipush (v := nI 56) hx hb d_Model_init_22 rfl ?_
  refine xn_newI hx hb (hts _ k_arr_int) hK hP hD hS hA 0 rfl (N := 56) (by omega) (Nat.le_of_ble_eq_true rfl) (Nat.le_of_ble_eq_true rfl) d_Model_init_24 (fun mt H hP hD hS => ?_)
  have hP : va_P (dC, dI) classes ([(m0, .inr (3, [.int 0, .int 0, .int 0, .ref ma, .ref mS, .null, .null, .null, .null, .null, .null])), (ma, .inl (cJ, 156, .inr (.inl (fun _ => 0)))), (mS, .inl (cA, 458752, .inl (xn_f (fun _ => 0)))), (mt, .inl (cA, 56, .inl (xn_f (fun _ => 0))))]) H := hP
  have hD : va_D A ([(m0, .inr (3, [.int 0, .int 0, .int 0, .ref ma, .ref mS, .null, .null, .null, .null, .null, .null])), (ma, .inl (cJ, 156, .inr (.inl (fun _ => 0)))), (mS, .inl (cA, 458752, .inl (xn_f (fun _ => 0)))), (mt, .inl (cA, 56, .inl (xn_f (fun _ => 0))))]) := hD
  refine va_putF (D := (dC, dI)) (ci := 3) (v := .ref mt) (ty := .array .int) (C := R_Model) (T := F_Model) (N := 11) hx hb hts i_Model t_Model t_Model_ok n_Model hown hK hP hD hS 0 rfl rfl 5 (by decide) (hts _ k_fl_Model_18) (fun _ h9 => h9) rfl hin rfl (by decide +kernel) rfl rfl (Nat.le_of_ble_eq_true rfl) d_Model_init_26 (fun H locs hP hD hS => ?_)
  have hP : va_P (dC, dI) classes ([(m0, .inr (3, [.int 0, .int 0, .int 0, .ref ma, .ref mS, .ref mt, .null, .null, .null, .null, .null])), (ma, .inl (cJ, 156, .inr (.inl (fun _ => 0)))), (mS, .inl (cA, 458752, .inl (xn_f (fun _ => 0)))), (mt, .inl (cA, 56, .inl (xn_f (fun _ => 0))))]) H := hP
  have hD : va_D A ([(m0, .inr (3, [.int 0, .int 0, .int 0, .ref ma, .ref mS, .ref mt, .null, .null, .null, .null, .null])), (ma, .inl (cJ, 156, .inr (.inl (fun _ => 0)))), (mS, .inl (cA, 458752, .inl (xn_f (fun _ => 0)))), (mt, .inl (cA, 56, .inl (xn_f (fun _ => 0))))]) := hD
  refine lv_aload_n hx hb d_Model_init_29 rfl (lv_at hl 0 rfl) ?_
  refine lv_bipush (v := nI 56) hx hb d_Model_init_30 rfl ?_
  refine xn_newI hx hb (hts _ k_arr_int) hK hP hD hS hA 0 rfl (N := 56) (by omega) (Nat.le_of_ble_eq_true rfl) (Nat.le_of_ble_eq_true rfl) d_Model_init_32 (fun mo H hP hD hS => ?_)
  have hP : va_P (dC, dI) classes ([(m0, .inr (3, [.int 0, .int 0, .int 0, .ref ma, .ref mS, .ref mt, .null, .null, .null, .null, .null])), (ma, .inl (cJ, 156, .inr (.inl (fun _ => 0)))), (mS, .inl (cA, 458752, .inl (xn_f (fun _ => 0)))), (mt, .inl (cA, 56, .inl (xn_f (fun _ => 0)))), (mo, .inl (cA, 56, .inl (xn_f (fun _ => 0))))]) H := hP
  have hD : va_D A ([(m0, .inr (3, [.int 0, .int 0, .int 0, .ref ma, .ref mS, .ref mt, .null, .null, .null, .null, .null])), (ma, .inl (cJ, 156, .inr (.inl (fun _ => 0)))), (mS, .inl (cA, 458752, .inl (xn_f (fun _ => 0)))), (mt, .inl (cA, 56, .inl (xn_f (fun _ => 0)))), (mo, .inl (cA, 56, .inl (xn_f (fun _ => 0))))]) := hD
  refine va_putF (D := (dC, dI)) (ci := 3) (v := .ref mo) (ty := .array .int) (C := R_Model) (T := F_Model) (N := 11) hx hb hts i_Model t_Model t_Model_ok n_Model hown hK hP hD hS 0 rfl rfl 6 (by decide) (hts _ k_fl_Model_21) (fun _ h9 => h9) rfl hin rfl (by decide +kernel) rfl rfl (Nat.le_of_ble_eq_true rfl) d_Model_init_34 (fun H locs hP hD hS => ?_)
  have hP : va_P (dC, dI) classes ([(m0, .inr (3, [.int 0, .int 0, .int 0, .ref ma, .ref mS, .ref mt, .ref mo, .null, .null, .null, .null])), (ma, .inl (cJ, 156, .inr (.inl (fun _ => 0)))), (mS, .inl (cA, 458752, .inl (xn_f (fun _ => 0)))), (mt, .inl (cA, 56, .inl (xn_f (fun _ => 0)))), (mo, .inl (cA, 56, .inl (xn_f (fun _ => 0))))]) H := hP
  have hD : va_D A ([(m0, .inr (3, [.int 0, .int 0, .int 0, .ref ma, .ref mS, .ref mt, .ref mo, .null, .null, .null, .null])), (ma, .inl (cJ, 156, .inr (.inl (fun _ => 0)))), (mS, .inl (cA, 458752, .inl (xn_f (fun _ => 0)))), (mt, .inl (cA, 56, .inl (xn_f (fun _ => 0)))), (mo, .inl (cA, 56, .inl (xn_f (fun _ => 0))))]) := hD
  refine lv_aload_n hx hb d_Model_init_37 rfl (lv_at hl 0 rfl) ?_
  refine lv_bipush (v := nI 56) hx hb d_Model_init_38 rfl ?_
  refine xn_newI hx hb (hts _ k_arr_int) hK hP hD hS hA 0 rfl (N := 56) (by omega) (Nat.le_of_ble_eq_true rfl) (Nat.le_of_ble_eq_true rfl) d_Model_init_40 (fun mb H hP hD hS => ?_)
  have hP : va_P (dC, dI) classes ([(m0, .inr (3, [.int 0, .int 0, .int 0, .ref ma, .ref mS, .ref mt, .ref mo, .null, .null, .null, .null])), (ma, .inl (cJ, 156, .inr (.inl (fun _ => 0)))), (mS, .inl (cA, 458752, .inl (xn_f (fun _ => 0)))), (mt, .inl (cA, 56, .inl (xn_f (fun _ => 0)))), (mo, .inl (cA, 56, .inl (xn_f (fun _ => 0)))), (mb, .inl (cA, 56, .inl (xn_f (fun _ => 0))))]) H := hP
  have hD : va_D A ([(m0, .inr (3, [.int 0, .int 0, .int 0, .ref ma, .ref mS, .ref mt, .ref mo, .null, .null, .null, .null])), (ma, .inl (cJ, 156, .inr (.inl (fun _ => 0)))), (mS, .inl (cA, 458752, .inl (xn_f (fun _ => 0)))), (mt, .inl (cA, 56, .inl (xn_f (fun _ => 0)))), (mo, .inl (cA, 56, .inl (xn_f (fun _ => 0)))), (mb, .inl (cA, 56, .inl (xn_f (fun _ => 0))))]) := hD
  refine va_putF (D := (dC, dI)) (ci := 3) (v := .ref mb) (ty := .array .int) (C := R_Model) (T := F_Model) (N := 11) hx hb hts i_Model t_Model t_Model_ok n_Model hown hK hP hD hS 0 rfl rfl 7 (by decide) (hts _ k_fl_Model_24) (fun _ h9 => h9) rfl hin rfl (by decide +kernel) rfl rfl (Nat.le_of_ble_eq_true rfl) d_Model_init_42 (fun H locs hP hD hS => ?_)
  have hP : va_P (dC, dI) classes ([(m0, .inr (3, [.int 0, .int 0, .int 0, .ref ma, .ref mS, .ref mt, .ref mo, .ref mb, .null, .null, .null])), (ma, .inl (cJ, 156, .inr (.inl (fun _ => 0)))), (mS, .inl (cA, 458752, .inl (xn_f (fun _ => 0)))), (mt, .inl (cA, 56, .inl (xn_f (fun _ => 0)))), (mo, .inl (cA, 56, .inl (xn_f (fun _ => 0)))), (mb, .inl (cA, 56, .inl (xn_f (fun _ => 0))))]) H := hP
  have hD : va_D A ([(m0, .inr (3, [.int 0, .int 0, .int 0, .ref ma, .ref mS, .ref mt, .ref mo, .ref mb, .null, .null, .null])), (ma, .inl (cJ, 156, .inr (.inl (fun _ => 0)))), (mS, .inl (cA, 458752, .inl (xn_f (fun _ => 0)))), (mt, .inl (cA, 56, .inl (xn_f (fun _ => 0)))), (mo, .inl (cA, 56, .inl (xn_f (fun _ => 0)))), (mb, .inl (cA, 56, .inl (xn_f (fun _ => 0))))]) := hD
  refine lv_aload_n hx hb d_Model_init_45 rfl (lv_at hl 0 rfl) ?_
  refine lv_bipush (v := nI 56) hx hb d_Model_init_46 rfl ?_
  refine xn_newI hx hb (hts _ k_arr_int) hK hP hD hS hA 0 rfl (N := 56) (by omega) (Nat.le_of_ble_eq_true rfl) (Nat.le_of_ble_eq_true rfl) d_Model_init_48 (fun mg H hP hD hS => ?_)
  have hP : va_P (dC, dI) classes ([(m0, .inr (3, [.int 0, .int 0, .int 0, .ref ma, .ref mS, .ref mt, .ref mo, .ref mb, .null, .null, .null])), (ma, .inl (cJ, 156, .inr (.inl (fun _ => 0)))), (mS, .inl (cA, 458752, .inl (xn_f (fun _ => 0)))), (mt, .inl (cA, 56, .inl (xn_f (fun _ => 0)))), (mo, .inl (cA, 56, .inl (xn_f (fun _ => 0)))), (mb, .inl (cA, 56, .inl (xn_f (fun _ => 0)))), (mg, .inl (cA, 56, .inl (xn_f (fun _ => 0))))]) H := hP
  have hD : va_D A ([(m0, .inr (3, [.int 0, .int 0, .int 0, .ref ma, .ref mS, .ref mt, .ref mo, .ref mb, .null, .null, .null])), (ma, .inl (cJ, 156, .inr (.inl (fun _ => 0)))), (mS, .inl (cA, 458752, .inl (xn_f (fun _ => 0)))), (mt, .inl (cA, 56, .inl (xn_f (fun _ => 0)))), (mo, .inl (cA, 56, .inl (xn_f (fun _ => 0)))), (mb, .inl (cA, 56, .inl (xn_f (fun _ => 0)))), (mg, .inl (cA, 56, .inl (xn_f (fun _ => 0))))]) := hD
  refine va_putF (D := (dC, dI)) (ci := 3) (v := .ref mg) (ty := .array .int) (C := R_Model) (T := F_Model) (N := 11) hx hb hts i_Model t_Model t_Model_ok n_Model hown hK hP hD hS 0 rfl rfl 8 (by decide) (hts _ k_fl_Model_27) (fun _ h9 => h9) rfl hin rfl (by decide +kernel) rfl rfl (Nat.le_of_ble_eq_true rfl) d_Model_init_50 (fun H locs hP hD hS => ?_)
  have hP : va_P (dC, dI) classes ([(m0, .inr (3, [.int 0, .int 0, .int 0, .ref ma, .ref mS, .ref mt, .ref mo, .ref mb, .ref mg, .null, .null])), (ma, .inl (cJ, 156, .inr (.inl (fun _ => 0)))), (mS, .inl (cA, 458752, .inl (xn_f (fun _ => 0)))), (mt, .inl (cA, 56, .inl (xn_f (fun _ => 0)))), (mo, .inl (cA, 56, .inl (xn_f (fun _ => 0)))), (mb, .inl (cA, 56, .inl (xn_f (fun _ => 0)))), (mg, .inl (cA, 56, .inl (xn_f (fun _ => 0))))]) H := hP
  have hD : va_D A ([(m0, .inr (3, [.int 0, .int 0, .int 0, .ref ma, .ref mS, .ref mt, .ref mo, .ref mb, .ref mg, .null, .null])), (ma, .inl (cJ, 156, .inr (.inl (fun _ => 0)))), (mS, .inl (cA, 458752, .inl (xn_f (fun _ => 0)))), (mt, .inl (cA, 56, .inl (xn_f (fun _ => 0)))), (mo, .inl (cA, 56, .inl (xn_f (fun _ => 0)))), (mb, .inl (cA, 56, .inl (xn_f (fun _ => 0)))), (mg, .inl (cA, 56, .inl (xn_f (fun _ => 0))))]) := hD
  refine lv_aload_n hx hb d_Model_init_53 rfl (lv_at hl 0 rfl) ?_
  refine lv_bipush (v := nI 56) hx hb d_Model_init_54 rfl ?_
  refine xn_newI hx hb (hts _ k_arr_int) hK hP hD hS hA 0 rfl (N := 56) (by omega) (Nat.le_of_ble_eq_true rfl) (Nat.le_of_ble_eq_true rfl) d_Model_init_56 (fun mh H hP hD hS => ?_)
  have hP : va_P (dC, dI) classes ([(m0, .inr (3, [.int 0, .int 0, .int 0, .ref ma, .ref mS, .ref mt, .ref mo, .ref mb, .ref mg, .null, .null])), (ma, .inl (cJ, 156, .inr (.inl (fun _ => 0)))), (mS, .inl (cA, 458752, .inl (xn_f (fun _ => 0)))), (mt, .inl (cA, 56, .inl (xn_f (fun _ => 0)))), (mo, .inl (cA, 56, .inl (xn_f (fun _ => 0)))), (mb, .inl (cA, 56, .inl (xn_f (fun _ => 0)))), (mg, .inl (cA, 56, .inl (xn_f (fun _ => 0)))), (mh, .inl (cA, 56, .inl (xn_f (fun _ => 0))))]) H := hP
  have hD : va_D A ([(m0, .inr (3, [.int 0, .int 0, .int 0, .ref ma, .ref mS, .ref mt, .ref mo, .ref mb, .ref mg, .null, .null])), (ma, .inl (cJ, 156, .inr (.inl (fun _ => 0)))), (mS, .inl (cA, 458752, .inl (xn_f (fun _ => 0)))), (mt, .inl (cA, 56, .inl (xn_f (fun _ => 0)))), (mo, .inl (cA, 56, .inl (xn_f (fun _ => 0)))), (mb, .inl (cA, 56, .inl (xn_f (fun _ => 0)))), (mg, .inl (cA, 56, .inl (xn_f (fun _ => 0)))), (mh, .inl (cA, 56, .inl (xn_f (fun _ => 0))))]) := hD
  refine va_putF (D := (dC, dI)) (ci := 3) (v := .ref mh) (ty := .array .int) (C := R_Model) (T := F_Model) (N := 11) hx hb hts i_Model t_Model t_Model_ok n_Model hown hK hP hD hS 0 rfl rfl 9 (by decide) (hts _ k_fl_Model_30) (fun _ h9 => h9) rfl hin rfl (by decide +kernel) rfl rfl (Nat.le_of_ble_eq_true rfl) d_Model_init_58 (fun H locs hP hD hS => ?_)
  have hP : va_P (dC, dI) classes ([(m0, .inr (3, [.int 0, .int 0, .int 0, .ref ma, .ref mS, .ref mt, .ref mo, .ref mb, .ref mg, .ref mh, .null])), (ma, .inl (cJ, 156, .inr (.inl (fun _ => 0)))), (mS, .inl (cA, 458752, .inl (xn_f (fun _ => 0)))), (mt, .inl (cA, 56, .inl (xn_f (fun _ => 0)))), (mo, .inl (cA, 56, .inl (xn_f (fun _ => 0)))), (mb, .inl (cA, 56, .inl (xn_f (fun _ => 0)))), (mg, .inl (cA, 56, .inl (xn_f (fun _ => 0)))), (mh, .inl (cA, 56, .inl (xn_f (fun _ => 0))))]) H := hP
  have hD : va_D A ([(m0, .inr (3, [.int 0, .int 0, .int 0, .ref ma, .ref mS, .ref mt, .ref mo, .ref mb, .ref mg, .ref mh, .null])), (ma, .inl (cJ, 156, .inr (.inl (fun _ => 0)))), (mS, .inl (cA, 458752, .inl (xn_f (fun _ => 0)))), (mt, .inl (cA, 56, .inl (xn_f (fun _ => 0)))), (mo, .inl (cA, 56, .inl (xn_f (fun _ => 0)))), (mb, .inl (cA, 56, .inl (xn_f (fun _ => 0)))), (mg, .inl (cA, 56, .inl (xn_f (fun _ => 0)))), (mh, .inl (cA, 56, .inl (xn_f (fun _ => 0))))]) := hD
  refine lv_aload_n hx hb d_Model_init_61 rfl (lv_at hl 0 rfl) ?_
  refine lv_bipush (v := nI 56) hx hb d_Model_init_62 rfl ?_
  refine xn_newI hx hb (hts _ k_arr_int) hK hP hD hS hA 0 rfl (N := 56) (by omega) (Nat.le_of_ble_eq_true rfl) (Nat.le_of_ble_eq_true rfl) d_Model_init_64 (fun mr H hP hD hS => ?_)
  have hP : va_P (dC, dI) classes ([(m0, .inr (3, [.int 0, .int 0, .int 0, .ref ma, .ref mS, .ref mt, .ref mo, .ref mb, .ref mg, .ref mh, .null])), (ma, .inl (cJ, 156, .inr (.inl (fun _ => 0)))), (mS, .inl (cA, 458752, .inl (xn_f (fun _ => 0)))), (mt, .inl (cA, 56, .inl (xn_f (fun _ => 0)))), (mo, .inl (cA, 56, .inl (xn_f (fun _ => 0)))), (mb, .inl (cA, 56, .inl (xn_f (fun _ => 0)))), (mg, .inl (cA, 56, .inl (xn_f (fun _ => 0)))), (mh, .inl (cA, 56, .inl (xn_f (fun _ => 0)))), (mr, .inl (cA, 56, .inl (xn_f (fun _ => 0))))]) H := hP
  have hD : va_D A ([(m0, .inr (3, [.int 0, .int 0, .int 0, .ref ma, .ref mS, .ref mt, .ref mo, .ref mb, .ref mg, .ref mh, .null])), (ma, .inl (cJ, 156, .inr (.inl (fun _ => 0)))), (mS, .inl (cA, 458752, .inl (xn_f (fun _ => 0)))), (mt, .inl (cA, 56, .inl (xn_f (fun _ => 0)))), (mo, .inl (cA, 56, .inl (xn_f (fun _ => 0)))), (mb, .inl (cA, 56, .inl (xn_f (fun _ => 0)))), (mg, .inl (cA, 56, .inl (xn_f (fun _ => 0)))), (mh, .inl (cA, 56, .inl (xn_f (fun _ => 0)))), (mr, .inl (cA, 56, .inl (xn_f (fun _ => 0))))]) := hD
  refine va_putF (D := (dC, dI)) (ci := 3) (v := .ref mr) (ty := .array .int) (C := R_Model) (T := F_Model) (N := 11) hx hb hts i_Model t_Model t_Model_ok n_Model hown hK hP hD hS 0 rfl rfl 10 (by decide) (hts _ k_fl_Model_33) (fun _ h9 => h9) rfl hin rfl (by decide +kernel) rfl rfl (Nat.le_of_ble_eq_true rfl) d_Model_init_66 (fun H locs hP hD hS => ?_)
  have hP : va_P (dC, dI) classes ([(m0, .inr (3, [.int 0, .int 0, .int 0, .ref ma, .ref mS, .ref mt, .ref mo, .ref mb, .ref mg, .ref mh, .ref mr])), (ma, .inl (cJ, 156, .inr (.inl (fun _ => 0)))), (mS, .inl (cA, 458752, .inl (xn_f (fun _ => 0)))), (mt, .inl (cA, 56, .inl (xn_f (fun _ => 0)))), (mo, .inl (cA, 56, .inl (xn_f (fun _ => 0)))), (mb, .inl (cA, 56, .inl (xn_f (fun _ => 0)))), (mg, .inl (cA, 56, .inl (xn_f (fun _ => 0)))), (mh, .inl (cA, 56, .inl (xn_f (fun _ => 0)))), (mr, .inl (cA, 56, .inl (xn_f (fun _ => 0))))]) H := hP
  have hD : va_D A ([(m0, .inr (3, [.int 0, .int 0, .int 0, .ref ma, .ref mS, .ref mt, .ref mo, .ref mb, .ref mg, .ref mh, .ref mr])), (ma, .inl (cJ, 156, .inr (.inl (fun _ => 0)))), (mS, .inl (cA, 458752, .inl (xn_f (fun _ => 0)))), (mt, .inl (cA, 56, .inl (xn_f (fun _ => 0)))), (mo, .inl (cA, 56, .inl (xn_f (fun _ => 0)))), (mb, .inl (cA, 56, .inl (xn_f (fun _ => 0)))), (mg, .inl (cA, 56, .inl (xn_f (fun _ => 0)))), (mh, .inl (cA, 56, .inl (xn_f (fun _ => 0)))), (mr, .inl (cA, 56, .inl (xn_f (fun _ => 0))))]) := hD
  refine lv_aload_n hx hb d_Model_init_69 rfl (lv_at hl 0 rfl) ?_
  refine va_get (D := (dC, dI)) (ci := 3) (v := .ref mb) (C := R_Model) (T := F_Model) (N := 11) hx hb hts i_Model hown hK hP 0 rfl rfl 7 (by decide) (hts _ k_fl_Model_24) (fun _ h9 => h9) rfl d_Model_init_70 ?_
  refine lv_iconst (v := nI 0) hx hb d_Model_init_73 rfl ?_
  refine lv_iconst (v := nI 1) hx hb d_Model_init_74 rfl ?_
  refine xn_iast hx hb hK hP hD hS 5 0 rfl rfl (i := 0) (x := 1) (by omega) (by omega) d_Model_init_75 (fun H locs hP hD hS => ?_)
  have hP : va_P (dC, dI) classes ([(m0, .inr (3, [.int 0, .int 0, .int 0, .ref ma, .ref mS, .ref mt, .ref mo, .ref mb, .ref mg, .ref mh, .ref mr])), (ma, .inl (cJ, 156, .inr (.inl (fun _ => 0)))), (mS, .inl (cA, 458752, .inl (xn_f (fun _ => 0)))), (mt, .inl (cA, 56, .inl (xn_f (fun _ => 0)))), (mo, .inl (cA, 56, .inl (xn_f (fun _ => 0)))), (mb, .inl (cA, 56, .inl (xn_f (va_up (fun _ => 0) 0 1)))), (mg, .inl (cA, 56, .inl (xn_f (fun _ => 0)))), (mh, .inl (cA, 56, .inl (xn_f (fun _ => 0)))), (mr, .inl (cA, 56, .inl (xn_f (fun _ => 0))))]) H := hP
  have hD : va_D A ([(m0, .inr (3, [.int 0, .int 0, .int 0, .ref ma, .ref mS, .ref mt, .ref mo, .ref mb, .ref mg, .ref mh, .ref mr])), (ma, .inl (cJ, 156, .inr (.inl (fun _ => 0)))), (mS, .inl (cA, 458752, .inl (xn_f (fun _ => 0)))), (mt, .inl (cA, 56, .inl (xn_f (fun _ => 0)))), (mo, .inl (cA, 56, .inl (xn_f (fun _ => 0)))), (mb, .inl (cA, 56, .inl (xn_f (va_up (fun _ => 0) 0 1)))), (mg, .inl (cA, 56, .inl (xn_f (fun _ => 0)))), (mh, .inl (cA, 56, .inl (xn_f (fun _ => 0)))), (mr, .inl (cA, 56, .inl (xn_f (fun _ => 0))))]) := hD
  have hP : va_P (dC, dI) classes (mw m0 ma mS mt mo mb mg mh mr cA cJ (nI 0) 0 (nI 0) (fun _ => 0) (fun _ => 0) (fun _ => 0) (fun _ => 0) (va_up (fun _ => 0) 0 1) (fun _ => 0) (fun _ => 0) (fun _ => 0)) H := hP
  have hD : va_D A (mw m0 ma mS mt mo mb mg mh mr cA cJ (nI 0) 0 (nI 0) (fun _ => 0) (fun _ => 0) (fun _ => 0) (fun _ => 0) (va_up (fun _ => 0) 0 1) (fun _ => 0) (fun _ => 0) (fun _ => 0)) := hD
  have hz : ∀ n, dg_v (fun _ => 0) n = 0 := fun n => (dg_eq0 n).mpr (fun _ _ => rfl)
  have hpost : mG (⟨nI 0, 0, nI 0, fun _ => 0, fun _ => 0, fun _ => 0, fun _ => 0, va_up (fun _ => 0) 0 1, fun _ => 0, fun _ => 0, fun _ => 0⟩ : mT) ∧ (0 : Nat) = 0 ∧ (nI 0 : Int32) = 0 ∧ (fun _ : Nat => (0 : Int64)) = (fun _ => 0) ∧ dg_v (fun _ => 0) 56 = 0 ∧ dg_v (va_up (fun _ => 0) 0 1) 56 = 1 := ⟨⟨Nat.zero_le _, Or.inl rfl, fun _ => by show 0 < 65536; decide, fun _ => by show 0 < 65536; decide, fun _ => by show 0 < 65536; decide, va_up_lt (fun _ => by show 0 < 65536; decide) (by decide), fun _ => by show 0 < 65536; decide, fun _ => by show 0 < 65536; decide, fun _ => by show 0 < 65536; decide, fun zz => absurd (show (nI 0 : Int32) = 1 from zz) (by decide)⟩, rfl, rfl, rfl, hz 56, dg_one (va_up_self ..) (fun i h1 h2 => va_up_ne _ _ (by omega))⟩
  refine W.widen (k := 8) (n := 459244) (by omega) (by omega) ?_
  exact W.vret hx hb hr (fun T_ ht_ hW_ => ⟨⟨(⟨nI 0, 0, nI 0, fun _ => 0, fun _ => 0, fun _ => 0, fun _ => 0, va_up (fun _ => 0) 0 1, fun _ => 0, fun _ => 0, fun _ => 0⟩ : mT), rfl, hpost, ma, mS, mt, mo, mb, mg, mh, mr, by rw [ht_]; exact hP, hD⟩, hS.F ht_⟩) hS.2.2 d_Model_init_76
