set_option maxHeartbeats 8000000 in
set_option maxRecDepth 100000 in
/-- size of the reference -/
theorem c_Model_size (l : Launch) (dC : Nat → ClassId) (dI : Nat → Nat → Nat) (sz : Nat) (m0 ma mS mt mo mb mg mh mr : Nat) (cA cJ : ClassId) (M : mT) (k : Int32) (hG : mG M) : Met l y_Model_size w_Model_size ({ frames := 1, cells := 0, slots := 0, locals := 22 }) (xc_W [.ref m0, .int k] dC dI (mw m0 ma mS mt mo mb mg mh mr cA cJ M.er M.n M.sv M.a M.S M.ft M.fo M.fb M.fg M.fh M.fr) [(cA, .int), (cJ, .long)] sz) (va_Qv (S := mT) (fun u => mG u ∧ ((0 ≤ k.toInt ∧ k.toInt ≤ 12 ∧ u.er = 0 ∧ (u.n : Int) = k.toInt ∧ u.sv = 0 ∧ u.a = fun _ => 0) ∨ (¬ (0 ≤ k.toInt ∧ k.toInt ≤ 12) ∧ u.er = 1 ∧ u.n = M.n ∧ u.sv = M.sv ∧ u.a = M.a)) ∧ u.fo = M.fo ∧ u.fb = M.fb) (fun u t => va_P (dC, dI) classes (mw m0 ma mS mt mo mb mg mh mr cA cJ u.er u.n u.sv u.a u.S u.ft u.fo u.fb u.fg u.fh u.fr) t.heap ∧ va_D (va_A (mw m0 ma mS mt mo mb mg mh mr cA cJ M.er M.n M.sv M.a M.S M.ft M.fo M.fb M.fg M.fh M.fr) sz) (mw m0 ma mS mt mo mb mg mh mr cA cJ u.er u.n u.sv u.a u.S u.ft u.fo u.fb u.fg u.fh u.fr)) (va_A (mw m0 ma mS mt mo mb mg mh mr cA cJ M.er M.n M.sv M.a M.S M.ft M.fo M.fb M.fg M.fh M.fr) sz)) 0 0 (va_A (mw m0 ma mS mt mo mb mg mh mr cA cJ M.er M.n M.sv M.a M.S M.ft M.fo M.fb M.fg M.fh M.fr) sz) := by
  refine Met.ofW (cc := b_Model_size) (maxL := 3) (ret := none) (by decide) rfl ?_
  intro p e s m args below meth c s₁ B hml hv
  obtain ⟨rfl, hsz, hP, hK, hD0⟩ := hv
  have hx := B.exec
  have hb := B.bytes
  have hr := B.returns
  have hts : ∀ w ∈ gw_tbl, w.before ([.ref m0, .int k] : List Value).toArray s = true := fun w h => atoms_spec (ws := w_Model_size) B.pre w (List.mem_cons_of_mem _ h)
  have hown : s.vm.findClass R_Model = some m.cls := findClass_of_methodNamed B.named
  have hlocks := B.notSynchronized
  subst hsz
  have hD := hD0.self (sz := s.heap.size)
  generalize hAe : va_A (mw m0 ma mS mt mo mb mg mh mr cA cJ M.er M.n M.sv M.a M.S M.ft M.fo M.fb M.fg M.fh M.fr) s.heap.size = A at hD ⊢
  have hA : ∀ q : Nat, s.heap.size ≤ q → A q := fun q h => by rw [← hAe]; exact Or.inr h
  have hS : va_S A s.heap s.heap [] := va_S.rf
  have hl := lv_entry ([.ref m0, .int k]) (n := 3) (Nat.le_of_ble_eq_true rfl)
  rw [lg_entry_eq]
  generalize (lg_sl ([.ref m0, .int k]) ++ List.replicate (3 - (lg_sl ([.ref m0, .int k])).length) Slot.unset).toArray = ls at hl ⊢
  have hl : lv_has ls 3 [(0, .ref m0), (1, .int k)] := hl
  have hG0 := hG
  obtain ⟨g1, g2, g3, g4, g5, g6, g7, g8, g9, g10⟩ := hG
  have z0 : (0 : Int32).toInt = 0 := rfl
  have z12 : (nI 12).toInt = 12 := rfl
  refine lv_aload_n hx hb d_Model_size_0 rfl (lv_at hl 0 rfl) ?_
  refine lv_iconst (v := nI 0) hx hb d_Model_size_1 rfl ?_
  refine va_put (D := (dC, dI)) (ci := 3) (v := .int (nI 0)) (ty := .int) (C := R_Model) (T := F_Model) (N := 11) hx hb hts i_Model t_Model t_Model_ok n_Model hown hK hP hD hS 0 rfl rfl 0 (by decide) (hts _ k_fl_Model_36) (fun _ h9 => h9) rfl (by decide +kernel) rfl rfl (Nat.le_of_ble_eq_true rfl) d_Model_size_2 (fun H locs hP hD hS => ?_)
  have hP : va_P (dC, dI) classes (mw m0 ma mS mt mo mb mg mh mr cA cJ (nI 0) M.n M.sv M.a M.S M.ft M.fo M.fb M.fg M.fh M.fr) H := hP
  have hD : va_D A (mw m0 ma mS mt mo mb mg mh mr cA cJ (nI 0) M.n M.sv M.a M.S M.ft M.fo M.fb M.fg M.fh M.fr) := hD
  refine lv_aload_n hx hb d_Model_size_5 rfl (lv_at hl 0 rfl) ?_
  refine lv_iload_n hx hb d_Model_size_6 rfl (lv_at hl 1 rfl) ?_
  refine lv_if_lt (tgt := 16) hx hb d_Model_size_7 (by decide) (fun hlt0 => ?_) (fun hlt0 => ?_)
  · refine lv_iconst (v := nI 1) hx hb d_Model_size_16 rfl ?_
    refine lv_goto (tgt := 21) hx hb d_Model_size_17 (by decide) ?_
    refine lv_iconst (v := nI 1) hx hb d_Model_size_21 rfl ?_
    have hFc := va_free (wc := [(m0, .inr (3, [.int (nI 0), .int (nI M.n), .int M.sv, .ref ma, .ref mS, .ref mt, .ref mo, .ref mb, .ref mg, .ref mh, .ref mr]))]) hD hS hA [0] rfl
    refine va_calli (va_runV (As := [.int (nI 1), .int (nI 1)]) (rest := []) ⟨hx, hb, hml, hown, hts⟩ (c_Model_fails l dC dI H.size m0 ma mS mt mo mb mg mh mr (nI 0) M.n M.sv (nI 1) (nI 1)) (cwV 2 hts (gw_V k_ml_Model_40 k_im_Model_fails k_sel_Model_fails k_ini_Model k_code_Model_fails) rfl rfl rfl (by decide +kernel) ⟨Nat.le_of_ble_eq_true rfl, Nat.le_of_ble_eq_true rfl⟩) ⟨xc_W_blind, va_recv hK hP (ci := 3) (q0 := 0) rfl rfl, fun U hU hW => ⟨rfl, by rw [hU], by rw [hU]; exact hP.sub (ws' := [(m0, .inr (3, [.int (nI 0), .int (nI M.n), .int M.sv, .ref ma, .ref mS, .ref mt, .ref mo, .ref mb, .ref mg, .ref mh, .ref mr]))]) [0] rfl, va_K.moved hW.alike (hK.sub (tys' := []) [] rfl), (hD.sub (ws' := [(m0, .inr (3, [.int (nI 0), .int (nI M.n), .int M.sv, .ref ma, .ref mS, .ref mt, .ref mo, .ref mb, .ref mg, .ref mh, .ref mr]))]) [0] (by decide) rfl).weaken (fun _ _ _ _ => trivial)⟩⟩ rfl rfl hl.1 rfl (lv_room (Nat.le_of_ble_eq_true rfl)) d_Model_size_22 ⟨Nat.zero_le _, Nat.zero_le _⟩) hS (fun q _ h => hFc q h) hFc (fun rf u t_ H locs ht_ hvm_ wf hB hz1 hk1 hS => ?_)
    obtain ⟨e1_, e_e1_⟩ : ∃ z, z = u := ⟨u, rfl⟩
    rw [← e_e1_] at wf hB
    rw [ht_] at hB
    obtain ⟨hP, hD⟩ := xj_1 0 hP hD rfl hk1 hB
    have hP : va_P (dC, dI) classes (mw m0 ma mS mt mo mb mg mh mr cA cJ e1_ M.n M.sv M.a M.S M.ft M.fo M.fb M.fg M.fh M.fr) H := hP
    have hD : va_D A (mw m0 ma mS mt mo mb mg mh mr cA cJ e1_ M.n M.sv M.a M.S M.ft M.fo M.fb M.fg M.fh M.fr) := hD
    rw [if_neg (show ¬ (nI 1 : Int32) = 0 by decide), if_pos (show (nI 0 : Int32) = 0 by decide)] at wf
    obtain ⟨wf1, wf2⟩ := wf
    subst wf1
    rw [if_neg (show ¬ (nI 1 : Int32) = 0 by decide)] at wf2
    subst wf2
    have hP : va_P (dC, dI) classes (mw m0 ma mS mt mo mb mg mh mr cA cJ (nI 1) M.n M.sv M.a M.S M.ft M.fo M.fb M.fg M.fh M.fr) H := hP
    have hD : va_D A (mw m0 ma mS mt mo mb mg mh mr cA cJ (nI 1) M.n M.sv M.a M.S M.ft M.fo M.fb M.fg M.fh M.fr) := hD
    refine lv_if_eq (tgt := 29) hx hb d_Model_size_25 (by decide) (fun h9_ => absurd h9_ (by decide)) (fun _ => ?_)
    have hpost : mG (⟨nI 1, M.n, M.sv, M.a, M.S, M.ft, M.fo, M.fb, M.fg, M.fh, M.fr⟩ : mT) ∧ ((0 ≤ k.toInt ∧ k.toInt ≤ 12 ∧ (nI 1 : Int32) = 0 ∧ (M.n : Int) = k.toInt ∧ M.sv = 0 ∧ M.a = fun _ => 0) ∨ (¬ (0 ≤ k.toInt ∧ k.toInt ≤ 12) ∧ (nI 1 : Int32) = 1 ∧ M.n = M.n ∧ M.sv = M.sv ∧ M.a = M.a)) ∧ M.fo = M.fo ∧ M.fb = M.fb := ⟨⟨g1, g2, g3, g4, g5, g6, g7, g8, g9, g10⟩, Or.inr ⟨fun z => by rw [Int32.lt_iff_toInt_lt] at hlt0; omega, rfl, rfl, rfl, rfl⟩, rfl, rfl⟩
    exact W.vret hx hb hr (fun T_ ht_ hW_ => ⟨⟨(⟨nI 1, M.n, M.sv, M.a, M.S, M.ft, M.fo, M.fb, M.fg, M.fh, M.fr⟩ : mT), rfl, hpost, by show va_P (dC, dI) classes _ T_.heap; rw [ht_]; exact hP, hD⟩, hS.F ht_⟩) hS.2.2 d_Model_size_28
  refine lv_iload_n hx hb d_Model_size_10 rfl (lv_at hl 1 rfl) ?_
  refine lv_bipush (v := nI 12) hx hb d_Model_size_11 rfl ?_
  refine lv_icmp_le (tgt := 20) hx hb d_Model_size_13 (by decide) (fun hle0 => ?_) (fun hle0 => ?_)
  rotate_left
  · refine lv_iconst (v := nI 1) hx hb d_Model_size_16 rfl ?_
    refine lv_goto (tgt := 21) hx hb d_Model_size_17 (by decide) ?_
    refine lv_iconst (v := nI 1) hx hb d_Model_size_21 rfl ?_
    have hFc := va_free (wc := [(m0, .inr (3, [.int (nI 0), .int (nI M.n), .int M.sv, .ref ma, .ref mS, .ref mt, .ref mo, .ref mb, .ref mg, .ref mh, .ref mr]))]) hD hS hA [0] rfl
    refine va_calli (va_runV (As := [.int (nI 1), .int (nI 1)]) (rest := []) ⟨hx, hb, hml, hown, hts⟩ (c_Model_fails l dC dI H.size m0 ma mS mt mo mb mg mh mr (nI 0) M.n M.sv (nI 1) (nI 1)) (cwV 2 hts (gw_V k_ml_Model_40 k_im_Model_fails k_sel_Model_fails k_ini_Model k_code_Model_fails) rfl rfl rfl (by decide +kernel) ⟨Nat.le_of_ble_eq_true rfl, Nat.le_of_ble_eq_true rfl⟩) ⟨xc_W_blind, va_recv hK hP (ci := 3) (q0 := 0) rfl rfl, fun U hU hW => ⟨rfl, by rw [hU], by rw [hU]; exact hP.sub (ws' := [(m0, .inr (3, [.int (nI 0), .int (nI M.n), .int M.sv, .ref ma, .ref mS, .ref mt, .ref mo, .ref mb, .ref mg, .ref mh, .ref mr]))]) [0] rfl, va_K.moved hW.alike (hK.sub (tys' := []) [] rfl), (hD.sub (ws' := [(m0, .inr (3, [.int (nI 0), .int (nI M.n), .int M.sv, .ref ma, .ref mS, .ref mt, .ref mo, .ref mb, .ref mg, .ref mh, .ref mr]))]) [0] (by decide) rfl).weaken (fun _ _ _ _ => trivial)⟩⟩ rfl rfl hl.1 rfl (lv_room (Nat.le_of_ble_eq_true rfl)) d_Model_size_22 ⟨Nat.zero_le _, Nat.zero_le _⟩) hS (fun q _ h => hFc q h) hFc (fun rf u t_ H locs ht_ hvm_ wf hB hz1 hk1 hS => ?_)
    obtain ⟨e1_, e_e1_⟩ : ∃ z, z = u := ⟨u, rfl⟩
    rw [← e_e1_] at wf hB
    rw [ht_] at hB
    obtain ⟨hP, hD⟩ := xj_1 0 hP hD rfl hk1 hB
    have hP : va_P (dC, dI) classes (mw m0 ma mS mt mo mb mg mh mr cA cJ e1_ M.n M.sv M.a M.S M.ft M.fo M.fb M.fg M.fh M.fr) H := hP
    have hD : va_D A (mw m0 ma mS mt mo mb mg mh mr cA cJ e1_ M.n M.sv M.a M.S M.ft M.fo M.fb M.fg M.fh M.fr) := hD
    rw [if_neg (show ¬ (nI 1 : Int32) = 0 by decide), if_pos (show (nI 0 : Int32) = 0 by decide)] at wf
    obtain ⟨wf1, wf2⟩ := wf
    subst wf1
    rw [if_neg (show ¬ (nI 1 : Int32) = 0 by decide)] at wf2
    subst wf2
    have hP : va_P (dC, dI) classes (mw m0 ma mS mt mo mb mg mh mr cA cJ (nI 1) M.n M.sv M.a M.S M.ft M.fo M.fb M.fg M.fh M.fr) H := hP
    have hD : va_D A (mw m0 ma mS mt mo mb mg mh mr cA cJ (nI 1) M.n M.sv M.a M.S M.ft M.fo M.fb M.fg M.fh M.fr) := hD
    refine lv_if_eq (tgt := 29) hx hb d_Model_size_25 (by decide) (fun h9_ => absurd h9_ (by decide)) (fun _ => ?_)
    have hpost : mG (⟨nI 1, M.n, M.sv, M.a, M.S, M.ft, M.fo, M.fb, M.fg, M.fh, M.fr⟩ : mT) ∧ ((0 ≤ k.toInt ∧ k.toInt ≤ 12 ∧ (nI 1 : Int32) = 0 ∧ (M.n : Int) = k.toInt ∧ M.sv = 0 ∧ M.a = fun _ => 0) ∨ (¬ (0 ≤ k.toInt ∧ k.toInt ≤ 12) ∧ (nI 1 : Int32) = 1 ∧ M.n = M.n ∧ M.sv = M.sv ∧ M.a = M.a)) ∧ M.fo = M.fo ∧ M.fb = M.fb := ⟨⟨g1, g2, g3, g4, g5, g6, g7, g8, g9, g10⟩, Or.inr ⟨fun z => by rw [Int32.le_iff_toInt_le] at hle0; omega, rfl, rfl, rfl, rfl⟩, rfl, rfl⟩
    exact W.vret hx hb hr (fun T_ ht_ hW_ => ⟨⟨(⟨nI 1, M.n, M.sv, M.a, M.S, M.ft, M.fo, M.fb, M.fg, M.fh, M.fr⟩ : mT), rfl, hpost, by show va_P (dC, dI) classes _ T_.heap; rw [ht_]; exact hP, hD⟩, hS.F ht_⟩) hS.2.2 d_Model_size_28
  refine lv_iconst (v := nI 0) hx hb d_Model_size_20 rfl ?_
  refine lv_iconst (v := nI 1) hx hb d_Model_size_21 rfl ?_
  have hFc := va_free (wc := [(m0, .inr (3, [.int (nI 0), .int (nI M.n), .int M.sv, .ref ma, .ref mS, .ref mt, .ref mo, .ref mb, .ref mg, .ref mh, .ref mr]))]) hD hS hA [0] rfl
  refine va_calli (va_runV (As := [.int (nI 0), .int (nI 1)]) (rest := []) ⟨hx, hb, hml, hown, hts⟩ (c_Model_fails l dC dI H.size m0 ma mS mt mo mb mg mh mr (nI 0) M.n M.sv (nI 0) (nI 1)) (cwV 2 hts (gw_V k_ml_Model_40 k_im_Model_fails k_sel_Model_fails k_ini_Model k_code_Model_fails) rfl rfl rfl (by decide +kernel) ⟨Nat.le_of_ble_eq_true rfl, Nat.le_of_ble_eq_true rfl⟩) ⟨xc_W_blind, va_recv hK hP (ci := 3) (q0 := 0) rfl rfl, fun U hU hW => ⟨rfl, by rw [hU], by rw [hU]; exact hP.sub (ws' := [(m0, .inr (3, [.int (nI 0), .int (nI M.n), .int M.sv, .ref ma, .ref mS, .ref mt, .ref mo, .ref mb, .ref mg, .ref mh, .ref mr]))]) [0] rfl, va_K.moved hW.alike (hK.sub (tys' := []) [] rfl), (hD.sub (ws' := [(m0, .inr (3, [.int (nI 0), .int (nI M.n), .int M.sv, .ref ma, .ref mS, .ref mt, .ref mo, .ref mb, .ref mg, .ref mh, .ref mr]))]) [0] (by decide) rfl).weaken (fun _ _ _ _ => trivial)⟩⟩ rfl rfl hl.1 rfl (lv_room (Nat.le_of_ble_eq_true rfl)) d_Model_size_22 ⟨Nat.zero_le _, Nat.zero_le _⟩) hS (fun q _ h => hFc q h) hFc (fun rf u t_ H locs ht_ hvm_ wf hB hz1 hk1 hS => ?_)
  obtain ⟨e1_, e_e1_⟩ : ∃ z, z = u := ⟨u, rfl⟩
  rw [← e_e1_] at wf hB
  rw [ht_] at hB
  obtain ⟨hP, hD⟩ := xj_1 0 hP hD rfl hk1 hB
  have hP : va_P (dC, dI) classes (mw m0 ma mS mt mo mb mg mh mr cA cJ e1_ M.n M.sv M.a M.S M.ft M.fo M.fb M.fg M.fh M.fr) H := hP
  have hD : va_D A (mw m0 ma mS mt mo mb mg mh mr cA cJ e1_ M.n M.sv M.a M.S M.ft M.fo M.fb M.fg M.fh M.fr) := hD
  rw [if_pos (show (nI 0 : Int32) = 0 by decide)] at wf
  obtain ⟨wf1, wf2⟩ := wf
  subst wf1
  rw [if_pos (show (nI 0 : Int32) = 0 by decide)] at wf2
  subst wf2
  have hP : va_P (dC, dI) classes (mw m0 ma mS mt mo mb mg mh mr cA cJ (nI 0) M.n M.sv M.a M.S M.ft M.fo M.fb M.fg M.fh M.fr) H := hP
  have hD : va_D A (mw m0 ma mS mt mo mb mg mh mr cA cJ (nI 0) M.n M.sv M.a M.S M.ft M.fo M.fb M.fg M.fh M.fr) := hD
  refine lv_if_eq (tgt := 29) hx hb d_Model_size_25 (by decide) (fun _ => ?_) (fun h9_ => absurd h9_ (by decide))
  obtain ⟨kn, hkn, ek⟩ := nI_of hlt0
  have hkt : k.toInt = (kn : Int) := by rw [ek, nI_toInt hkn]
  have hk12 : kn ≤ 12 := by rw [Int32.le_iff_toInt_le] at hle0; omega
  have loop : ∀ (n0 : Nat) (j : Nat) (a1 : Nat → Int64), (j ≤ 156) → (∀ j2, j2 < j → a1 j2 = 0) → (157 ≤ j + n0) → ∀ (H : Heap) (locs : List Loc), va_P (dC, dI) classes (mw m0 ma mS mt mo mb mg mh mr cA cJ (nI 0) kn (nI 0) a1 M.S M.ft M.fo M.fb M.fg M.fh M.fr) H → va_D A (mw m0 ma mS mt mo mb mg mh mr cA cJ (nI 0) kn (nI 0) a1 M.S M.ft M.fo M.fb M.fg M.fh M.fr) → va_S A s.heap H locs → ∀ (ls : Array Slot), lv_has ls 3 [(2, .int (nI j)), (0, .ref m0), (1, .int k)] → W p l e (headSpec w_Model_size ({ frames := 1, cells := 0, slots := 0, locals := 22 })).room s m ([.ref m0, .int k] : List Value).toArray below meth c H locs 0 0 (MQ below (va_Qv (S := mT) (fun u => mG u ∧ ((0 ≤ k.toInt ∧ k.toInt ≤ 12 ∧ u.er = 0 ∧ (u.n : Int) = k.toInt ∧ u.sv = 0 ∧ u.a = fun _ => 0) ∨ (¬ (0 ≤ k.toInt ∧ k.toInt ≤ 12) ∧ u.er = 1 ∧ u.n = M.n ∧ u.sv = M.sv ∧ u.a = M.a)) ∧ u.fo = M.fo ∧ u.fb = M.fb) (fun u t => va_P (dC, dI) classes (mw m0 ma mS mt mo mb mg mh mr cA cJ u.er u.n u.sv u.a u.S u.ft u.fo u.fb u.fg u.fh u.fr) t.heap ∧ va_D A (mw m0 ma mS mt mo mb mg mh mr cA cJ u.er u.n u.sv u.a u.S u.ft u.fo u.fb u.fg u.fh u.fr)) A) ([.ref m0, .int k] : List Value).toArray s 0 0 A) (F0 m 41 ls []) := by
    intro n0
    induction n0 with
    | zero => intro j a1 hj hz hn_; exact absurd hn_ (by omega)
    | succ n0 ih =>
      intro j a1 hj hz hn_ H locs hP hD hS ls hl
      refine lv_iload_n hx hb d_Model_size_41 rfl (lv_at hl 0 rfl) ?_
      refine lv_sipush (v := nI 156) hx hb d_Model_size_42 rfl ?_
      refine xn_icmp_ge (tgt := 61) hx hb (by omega) (by omega) d_Model_size_45 (by decide) (fun hge => ?_) (fun hge => ?_)
      · have hP := arr_PJ (k := 1) (g := fun _ => 0) hP rfl (fun i hi => hz i (by omega))
        have hD := hD.set (p := 1) (e := .inl (cJ, 156, .inr (.inl (fun _ => 0)))) rfl
        have hP : va_P (dC, dI) classes (mw m0 ma mS mt mo mb mg mh mr cA cJ (nI 0) kn (nI 0) (fun _ => 0) M.S M.ft M.fo M.fb M.fg M.fh M.fr) H := hP
        have hD : va_D A (mw m0 ma mS mt mo mb mg mh mr cA cJ (nI 0) kn (nI 0) (fun _ => 0) M.S M.ft M.fo M.fb M.fg M.fh M.fr) := hD
        have hpost : mG (⟨nI 0, kn, nI 0, fun _ => 0, M.S, M.ft, M.fo, M.fb, M.fg, M.fh, M.fr⟩ : mT) ∧ ((0 ≤ k.toInt ∧ k.toInt ≤ 12 ∧ (nI 0 : Int32) = 0 ∧ (kn : Int) = k.toInt ∧ (nI 0 : Int32) = 0 ∧ (fun _ : Nat => (0 : Int64)) = fun _ => 0) ∨ (¬ (0 ≤ k.toInt ∧ k.toInt ≤ 12) ∧ (nI 0 : Int32) = 1 ∧ kn = M.n ∧ nI 0 = M.sv ∧ (fun _ => 0) = M.a)) ∧ M.fo = M.fo ∧ M.fb = M.fb := ⟨⟨hk12, Or.inl rfl, g3, g4, g5, g6, g7, g8, g9, fun z => absurd (show (nI 0 : Int32) = 1 from z) (by decide)⟩, Or.inl ⟨by omega, by omega, rfl, hkt.symm, rfl, rfl⟩, rfl, rfl⟩
        exact W.vret hx hb hr (fun T_ ht_ hW_ => ⟨⟨(⟨nI 0, kn, nI 0, fun _ => 0, M.S, M.ft, M.fo, M.fb, M.fg, M.fh, M.fr⟩ : mT), rfl, hpost, by show va_P (dC, dI) classes _ T_.heap; rw [ht_]; exact hP, hD⟩, hS.F ht_⟩) hS.2.2 d_Model_size_61
      refine lv_aload_n hx hb d_Model_size_48 rfl (lv_at hl 1 rfl) ?_
      refine va_get (D := (dC, dI)) (ci := 3) (v := .ref ma) (C := R_Model) (T := F_Model) (N := 11) hx hb hts i_Model hown hK hP 0 rfl rfl 3 (by decide) (hts _ k_fl_Model_9) (fun _ h9 => h9) rfl d_Model_size_49 ?_
      refine lv_iload_n hx hb d_Model_size_52 rfl (lv_at hl 0 rfl) ?_
      refine lv_lconst (v := lN 0) hx hb d_Model_size_53 rfl ?_
      refine xn_last hx hb hK hP hD hS 1 1 rfl rfl (i := j) (x := lN 0) (by omega) (by omega) d_Model_size_54 (fun H locs hP hD hS => ?_)
      have hP : va_P (dC, dI) classes (mw m0 ma mS mt mo mb mg mh mr cA cJ (nI 0) kn (nI 0) (va_up a1 j (lN 0)) M.S M.ft M.fo M.fb M.fg M.fh M.fr) H := hP
      have hD : va_D A (mw m0 ma mS mt mo mb mg mh mr cA cJ (nI 0) kn (nI 0) (va_up a1 j (lN 0)) M.S M.ft M.fo M.fb M.fg M.fh M.fr) := hD
      refine lv_iinc (v := nI (j + 1)) (lv' := [(2, .int (nI (j + 1))), (0, .ref m0), (1, .int k)]) hx hb d_Model_size_55 hl (k := 0) rfl (nI_1 _) (by decide) rfl (fun ls hl => ?_)
      refine lv_goto (tgt := 41) hx hb d_Model_size_58 (by decide) ?_
      exact ih (j + 1) (va_up a1 j (lN 0)) (by omega) (fun j2 h2 => by
                by_cases q : j2 = j
                · subst q; rw [va_up_self]; rfl
                · rw [va_up_ne _ _ q]; exact hz j2 (by omega)) (by omega) H locs hP hD hS ls (lv_sub hl [0, 1, 2] rfl)
  refine lv_aload_n hx hb d_Model_size_29 rfl (lv_at hl 0 rfl) ?_
  refine lv_iload_n hx hb d_Model_size_30 rfl (lv_at hl 1 rfl) ?_
  refine lv_topi (fun kv ekv => ?_)
  rw [show kv = nI kn by rw [ekv, ek]]
  refine va_put (D := (dC, dI)) (ci := 3) (v := .int (nI kn)) (ty := .int) (C := R_Model) (T := F_Model) (N := 11) hx hb hts i_Model t_Model t_Model_ok n_Model hown hK hP hD hS 0 rfl rfl 1 (by decide) (hts _ k_fl_Model_44) (fun _ h9 => h9) rfl (by decide +kernel) rfl rfl (Nat.le_of_ble_eq_true rfl) d_Model_size_31 (fun H locs hP hD hS => ?_)
  have hP : va_P (dC, dI) classes (mw m0 ma mS mt mo mb mg mh mr cA cJ (nI 0) kn M.sv M.a M.S M.ft M.fo M.fb M.fg M.fh M.fr) H := hP
  have hD : va_D A (mw m0 ma mS mt mo mb mg mh mr cA cJ (nI 0) kn M.sv M.a M.S M.ft M.fo M.fb M.fg M.fh M.fr) := hD
  refine lv_aload_n hx hb d_Model_size_34 rfl (lv_at hl 0 rfl) ?_
  refine lv_iconst (v := nI 0) hx hb d_Model_size_35 rfl ?_
  refine va_put (D := (dC, dI)) (ci := 3) (v := .int (nI 0)) (ty := .boolean) (C := R_Model) (T := F_Model) (N := 11) hx hb hts i_Model t_Model t_Model_ok n_Model hown hK hP hD hS 0 rfl rfl 2 (by decide) (hts _ k_fl_Model_47) (fun _ h9 => h9) rfl (by decide +kernel) rfl rfl (Nat.le_of_ble_eq_true rfl) d_Model_size_36 (fun H locs hP hD hS => ?_)
  have hP : va_P (dC, dI) classes (mw m0 ma mS mt mo mb mg mh mr cA cJ (nI 0) kn (nI 0) M.a M.S M.ft M.fo M.fb M.fg M.fh M.fr) H := hP
  have hD : va_D A (mw m0 ma mS mt mo mb mg mh mr cA cJ (nI 0) kn (nI 0) M.a M.S M.ft M.fo M.fb M.fg M.fh M.fr) := hD
  refine lv_iconst (v := nI 0) hx hb d_Model_size_39 rfl ?_
  refine lv_istore_n (lv' := [(2, .int (nI 0)), (0, .ref m0), (1, .int k)]) hx hb d_Model_size_40 rfl hl (by decide) rfl (fun ls hl => ?_)
  exact loop 157 0 M.a (Nat.zero_le _) (fun j2 h2 => absurd h2 (Nat.not_lt_zero _)) (by omega) H locs hP hD hS ls (lv_sub hl [0, 1, 2] rfl)
set_option maxHeartbeats 8000000 in
set_option maxRecDepth 100000 in
/-- put of the reference -/
theorem c_Model_put (l : Launch) (dC : Nat → ClassId) (dI : Nat → Nat → Nat) (sz : Nat) (m0 ma mS mt mo mb mg mh mr : Nat) (cA cJ : ClassId) (M : mT) (i j : Int32) (v : Int64) (hG : mG M) : Met l y_Model_put w_Model_put ({ frames := 1, cells := 0, slots := 0, locals := 22 }) (xc_W [.ref m0, .int i, .int j, .long v] dC dI (mw m0 ma mS mt mo mb mg mh mr cA cJ M.er M.n M.sv M.a M.S M.ft M.fo M.fb M.fg M.fh M.fr) [(cA, .int), (cJ, .long)] sz) (va_Ql (S := mT) (fun r u => mG u ∧ ((∃ i2 j2 : Nat, i = nI i2 ∧ j = nI j2 ∧ i2 < M.n ∧ j2 ≤ M.n ∧ u.er = 0 ∧ r = M.a (i2 * 13 + j2) ∧ u.a = va_up M.a (i2 * 13 + j2) v ∧ u.sv = 0) ∨ (¬ (0 ≤ i.toInt ∧ i.toInt < M.n ∧ 0 ≤ j.toInt ∧ j.toInt ≤ M.n) ∧ u.er = 1 ∧ u.sv = M.sv ∧ u.a = M.a)) ∧ u.n = M.n ∧ u.fo = M.fo ∧ u.fb = M.fb) (fun u t => va_P (dC, dI) classes (mw m0 ma mS mt mo mb mg mh mr cA cJ u.er u.n u.sv u.a u.S u.ft u.fo u.fb u.fg u.fh u.fr) t.heap ∧ va_D (va_A (mw m0 ma mS mt mo mb mg mh mr cA cJ M.er M.n M.sv M.a M.S M.ft M.fo M.fb M.fg M.fh M.fr) sz) (mw m0 ma mS mt mo mb mg mh mr cA cJ u.er u.n u.sv u.a u.S u.ft u.fo u.fb u.fg u.fh u.fr)) (va_A (mw m0 ma mS mt mo mb mg mh mr cA cJ M.er M.n M.sv M.a M.S M.ft M.fo M.fb M.fg M.fh M.fr) sz)) 0 0 (va_A (mw m0 ma mS mt mo mb mg mh mr cA cJ M.er M.n M.sv M.a M.S M.ft M.fo M.fb M.fg M.fh M.fr) sz) := by
  refine Met.ofW (cc := b_Model_put) (maxL := 8) (ret := (some .long)) (by decide) rfl ?_
  intro p e s m args below meth c s₁ B hml hv
  obtain ⟨rfl, hsz, hP, hK, hD0⟩ := hv
  have hx := B.exec
  have hb := B.bytes
  have hr := B.returns
  have hts : ∀ w ∈ gw_tbl, w.before ([.ref m0, .int i, .int j, .long v] : List Value).toArray s = true := fun w h => atoms_spec (ws := w_Model_put) B.pre w (List.mem_cons_of_mem _ h)
  have hown : s.vm.findClass R_Model = some m.cls := findClass_of_methodNamed B.named
  have hlocks := B.notSynchronized
  subst hsz
  have hD := hD0.self (sz := s.heap.size)
  generalize hAe : va_A (mw m0 ma mS mt mo mb mg mh mr cA cJ M.er M.n M.sv M.a M.S M.ft M.fo M.fb M.fg M.fh M.fr) s.heap.size = A at hD ⊢
  have hA : ∀ q : Nat, s.heap.size ≤ q → A q := fun q h => by rw [← hAe]; exact Or.inr h
  have hS : va_S A s.heap s.heap [] := va_S.rf
  have hl := lv_entry ([.ref m0, .int i, .int j, .long v]) (n := 8) (Nat.le_of_ble_eq_true rfl)
  rw [lg_entry_eq]
  generalize (lg_sl ([.ref m0, .int i, .int j, .long v]) ++ List.replicate (8 - (lg_sl ([.ref m0, .int i, .int j, .long v])).length) Slot.unset).toArray = ls at hl ⊢
  have hl : lv_has ls 8 [(0, .ref m0), (1, .int i), (2, .int j), (3, .long v)] := hl
  have hG0 := hG
  obtain ⟨g1, g2, g3, g4, g5, g6, g7, g8, g9, g10⟩ := hG
  have z0 : (0 : Int32).toInt = 0 := rfl
  have hnt : (nI M.n).toInt = (M.n : Int) := nI_toInt (by omega)
  refine lv_aload_n hx hb d_Model_put_0 rfl (lv_at hl 0 rfl) ?_
  refine lv_iconst (v := nI 0) hx hb d_Model_put_1 rfl ?_
  refine va_put (D := (dC, dI)) (ci := 3) (v := .int (nI 0)) (ty := .int) (C := R_Model) (T := F_Model) (N := 11) hx hb hts i_Model t_Model t_Model_ok n_Model hown hK hP hD hS 0 rfl rfl 0 (by decide) (hts _ k_fl_Model_36) (fun _ h9 => h9) rfl (by decide +kernel) rfl rfl (Nat.le_of_ble_eq_true rfl) d_Model_put_2 (fun H locs hP hD hS => ?_)
  have hP : va_P (dC, dI) classes (mw m0 ma mS mt mo mb mg mh mr cA cJ (nI 0) M.n M.sv M.a M.S M.ft M.fo M.fb M.fg M.fh M.fr) H := hP
  have hD : va_D A (mw m0 ma mS mt mo mb mg mh mr cA cJ (nI 0) M.n M.sv M.a M.S M.ft M.fo M.fb M.fg M.fh M.fr) := hD
  refine lv_aload_n hx hb d_Model_put_5 rfl (lv_at hl 0 rfl) ?_
  refine lv_iload_n hx hb d_Model_put_6 rfl (lv_at hl 1 rfl) ?_
  refine lv_if_lt (tgt := 30) hx hb d_Model_put_7 (by decide) (fun h1 => ?_) (fun h1 => ?_)
  · refine lv_iconst (v := nI 1) hx hb d_Model_put_30 rfl ?_
    refine lv_goto (tgt := 35) hx hb d_Model_put_31 (by decide) ?_
    refine lv_iconst (v := nI 1) hx hb d_Model_put_35 rfl ?_
    have hFc := va_free (wc := [(m0, .inr (3, [.int (nI 0), .int (nI M.n), .int M.sv, .ref ma, .ref mS, .ref mt, .ref mo, .ref mb, .ref mg, .ref mh, .ref mr]))]) hD hS hA [0] rfl
    refine va_calli (va_runV (As := [.int (nI 1), .int (nI 1)]) (rest := []) ⟨hx, hb, hml, hown, hts⟩ (c_Model_fails l dC dI H.size m0 ma mS mt mo mb mg mh mr (nI 0) M.n M.sv (nI 1) (nI 1)) (cwV 2 hts (gw_V k_ml_Model_40 k_im_Model_fails k_sel_Model_fails k_ini_Model k_code_Model_fails) rfl rfl rfl (by decide +kernel) ⟨Nat.le_of_ble_eq_true rfl, Nat.le_of_ble_eq_true rfl⟩) ⟨xc_W_blind, va_recv hK hP (ci := 3) (q0 := 0) rfl rfl, fun U hU hW => ⟨rfl, by rw [hU], by rw [hU]; exact hP.sub (ws' := [(m0, .inr (3, [.int (nI 0), .int (nI M.n), .int M.sv, .ref ma, .ref mS, .ref mt, .ref mo, .ref mb, .ref mg, .ref mh, .ref mr]))]) [0] rfl, va_K.moved hW.alike (hK.sub (tys' := []) [] rfl), (hD.sub (ws' := [(m0, .inr (3, [.int (nI 0), .int (nI M.n), .int M.sv, .ref ma, .ref mS, .ref mt, .ref mo, .ref mb, .ref mg, .ref mh, .ref mr]))]) [0] (by decide) rfl).weaken (fun _ _ _ _ => trivial)⟩⟩ rfl rfl hl.1 rfl (lv_room (Nat.le_of_ble_eq_true rfl)) d_Model_put_36 ⟨Nat.zero_le _, Nat.zero_le _⟩) hS (fun q _ h => hFc q h) hFc (fun rf u t_ H locs ht_ hvm_ wf hB hz1 hk1 hS => ?_)
    obtain ⟨e1_, e_e1_⟩ : ∃ z, z = u := ⟨u, rfl⟩
    rw [← e_e1_] at wf hB
    rw [ht_] at hB
    obtain ⟨hP, hD⟩ := xj_1 0 hP hD rfl hk1 hB
    have hP : va_P (dC, dI) classes (mw m0 ma mS mt mo mb mg mh mr cA cJ e1_ M.n M.sv M.a M.S M.ft M.fo M.fb M.fg M.fh M.fr) H := hP
    have hD : va_D A (mw m0 ma mS mt mo mb mg mh mr cA cJ e1_ M.n M.sv M.a M.S M.ft M.fo M.fb M.fg M.fh M.fr) := hD
    rw [if_neg (show ¬ (nI 1 : Int32) = 0 by decide), if_pos (show (nI 0 : Int32) = 0 by decide)] at wf
    obtain ⟨wf1, wf2⟩ := wf
    subst wf1
    rw [if_neg (show ¬ (nI 1 : Int32) = 0 by decide)] at wf2
    subst wf2
    have hP : va_P (dC, dI) classes (mw m0 ma mS mt mo mb mg mh mr cA cJ (nI 1) M.n M.sv M.a M.S M.ft M.fo M.fb M.fg M.fh M.fr) H := hP
    have hD : va_D A (mw m0 ma mS mt mo mb mg mh mr cA cJ (nI 1) M.n M.sv M.a M.S M.ft M.fo M.fb M.fg M.fh M.fr) := hD
    refine lv_if_eq (tgt := 44) hx hb d_Model_put_39 (by decide) (fun h9_ => absurd h9_ (by decide)) (fun _ => ?_)
    refine lv_lconst (v := lN 0) hx hb d_Model_put_42 rfl ?_
    have hpost : mG (⟨nI 1, M.n, M.sv, M.a, M.S, M.ft, M.fo, M.fb, M.fg, M.fh, M.fr⟩ : mT) ∧ ((∃ i2 j2 : Nat, i = nI i2 ∧ j = nI j2 ∧ i2 < M.n ∧ j2 ≤ M.n ∧ (nI 1 : Int32) = 0 ∧ lN 0 = M.a (i2 * 13 + j2) ∧ M.a = va_up M.a (i2 * 13 + j2) v ∧ M.sv = 0) ∨ (¬ (0 ≤ i.toInt ∧ i.toInt < M.n ∧ 0 ≤ j.toInt ∧ j.toInt ≤ M.n) ∧ (nI 1 : Int32) = 1 ∧ M.sv = M.sv ∧ M.a = M.a)) ∧ M.n = M.n ∧ M.fo = M.fo ∧ M.fb = M.fb := ⟨⟨g1, g2, g3, g4, g5, g6, g7, g8, g9, g10⟩, Or.inr ⟨fun z => by rw [Int32.lt_iff_toInt_lt] at h1; omega, rfl, rfl, rfl⟩, rfl, rfl, rfl⟩
    exact W.lret (v := lN 0) hx hb hr (fun T_ ht_ hW_ => ⟨⟨_, (⟨nI 1, M.n, M.sv, M.a, M.S, M.ft, M.fo, M.fb, M.fg, M.fh, M.fr⟩ : mT), rfl, hpost, by show va_P (dC, dI) classes _ T_.heap; rw [ht_]; exact hP, hD⟩, hS.F ht_⟩) hS.2.2 d_Model_put_43
  refine lv_iload_n hx hb d_Model_put_10 rfl (lv_at hl 1 rfl) ?_
  refine lv_aload_n hx hb d_Model_put_11 rfl (lv_at hl 0 rfl) ?_
  refine va_get (D := (dC, dI)) (ci := 3) (v := .int (nI M.n)) (C := R_Model) (T := F_Model) (N := 11) hx hb hts i_Model hown hK hP 0 rfl rfl 1 (by decide) (hts _ k_fl_Model_44) (fun _ h9 => h9) rfl d_Model_put_12 ?_
  refine lv_icmp_ge (tgt := 30) hx hb d_Model_put_15 (by decide) (fun h2 => ?_) (fun h2 => ?_)
  · refine lv_iconst (v := nI 1) hx hb d_Model_put_30 rfl ?_
    refine lv_goto (tgt := 35) hx hb d_Model_put_31 (by decide) ?_
    refine lv_iconst (v := nI 1) hx hb d_Model_put_35 rfl ?_
    have hFc := va_free (wc := [(m0, .inr (3, [.int (nI 0), .int (nI M.n), .int M.sv, .ref ma, .ref mS, .ref mt, .ref mo, .ref mb, .ref mg, .ref mh, .ref mr]))]) hD hS hA [0] rfl
    refine va_calli (va_runV (As := [.int (nI 1), .int (nI 1)]) (rest := []) ⟨hx, hb, hml, hown, hts⟩ (c_Model_fails l dC dI H.size m0 ma mS mt mo mb mg mh mr (nI 0) M.n M.sv (nI 1) (nI 1)) (cwV 2 hts (gw_V k_ml_Model_40 k_im_Model_fails k_sel_Model_fails k_ini_Model k_code_Model_fails) rfl rfl rfl (by decide +kernel) ⟨Nat.le_of_ble_eq_true rfl, Nat.le_of_ble_eq_true rfl⟩) ⟨xc_W_blind, va_recv hK hP (ci := 3) (q0 := 0) rfl rfl, fun U hU hW => ⟨rfl, by rw [hU], by rw [hU]; exact hP.sub (ws' := [(m0, .inr (3, [.int (nI 0), .int (nI M.n), .int M.sv, .ref ma, .ref mS, .ref mt, .ref mo, .ref mb, .ref mg, .ref mh, .ref mr]))]) [0] rfl, va_K.moved hW.alike (hK.sub (tys' := []) [] rfl), (hD.sub (ws' := [(m0, .inr (3, [.int (nI 0), .int (nI M.n), .int M.sv, .ref ma, .ref mS, .ref mt, .ref mo, .ref mb, .ref mg, .ref mh, .ref mr]))]) [0] (by decide) rfl).weaken (fun _ _ _ _ => trivial)⟩⟩ rfl rfl hl.1 rfl (lv_room (Nat.le_of_ble_eq_true rfl)) d_Model_put_36 ⟨Nat.zero_le _, Nat.zero_le _⟩) hS (fun q _ h => hFc q h) hFc (fun rf u t_ H locs ht_ hvm_ wf hB hz1 hk1 hS => ?_)
    obtain ⟨e1_, e_e1_⟩ : ∃ z, z = u := ⟨u, rfl⟩
    rw [← e_e1_] at wf hB
    rw [ht_] at hB
    obtain ⟨hP, hD⟩ := xj_1 0 hP hD rfl hk1 hB
    have hP : va_P (dC, dI) classes (mw m0 ma mS mt mo mb mg mh mr cA cJ e1_ M.n M.sv M.a M.S M.ft M.fo M.fb M.fg M.fh M.fr) H := hP
    have hD : va_D A (mw m0 ma mS mt mo mb mg mh mr cA cJ e1_ M.n M.sv M.a M.S M.ft M.fo M.fb M.fg M.fh M.fr) := hD
    rw [if_neg (show ¬ (nI 1 : Int32) = 0 by decide), if_pos (show (nI 0 : Int32) = 0 by decide)] at wf
    obtain ⟨wf1, wf2⟩ := wf
    subst wf1
    rw [if_neg (show ¬ (nI 1 : Int32) = 0 by decide)] at wf2
    subst wf2
    have hP : va_P (dC, dI) classes (mw m0 ma mS mt mo mb mg mh mr cA cJ (nI 1) M.n M.sv M.a M.S M.ft M.fo M.fb M.fg M.fh M.fr) H := hP
    have hD : va_D A (mw m0 ma mS mt mo mb mg mh mr cA cJ (nI 1) M.n M.sv M.a M.S M.ft M.fo M.fb M.fg M.fh M.fr) := hD
    refine lv_if_eq (tgt := 44) hx hb d_Model_put_39 (by decide) (fun h9_ => absurd h9_ (by decide)) (fun _ => ?_)
    refine lv_lconst (v := lN 0) hx hb d_Model_put_42 rfl ?_
    have hpost : mG (⟨nI 1, M.n, M.sv, M.a, M.S, M.ft, M.fo, M.fb, M.fg, M.fh, M.fr⟩ : mT) ∧ ((∃ i2 j2 : Nat, i = nI i2 ∧ j = nI j2 ∧ i2 < M.n ∧ j2 ≤ M.n ∧ (nI 1 : Int32) = 0 ∧ lN 0 = M.a (i2 * 13 + j2) ∧ M.a = va_up M.a (i2 * 13 + j2) v ∧ M.sv = 0) ∨ (¬ (0 ≤ i.toInt ∧ i.toInt < M.n ∧ 0 ≤ j.toInt ∧ j.toInt ≤ M.n) ∧ (nI 1 : Int32) = 1 ∧ M.sv = M.sv ∧ M.a = M.a)) ∧ M.n = M.n ∧ M.fo = M.fo ∧ M.fb = M.fb := ⟨⟨g1, g2, g3, g4, g5, g6, g7, g8, g9, g10⟩, Or.inr ⟨fun z => by rw [Int32.le_iff_toInt_le] at h2; omega, rfl, rfl, rfl⟩, rfl, rfl, rfl⟩
    exact W.lret (v := lN 0) hx hb hr (fun T_ ht_ hW_ => ⟨⟨_, (⟨nI 1, M.n, M.sv, M.a, M.S, M.ft, M.fo, M.fb, M.fg, M.fh, M.fr⟩ : mT), rfl, hpost, by show va_P (dC, dI) classes _ T_.heap; rw [ht_]; exact hP, hD⟩, hS.F ht_⟩) hS.2.2 d_Model_put_43
  refine lv_iload_n hx hb d_Model_put_18 rfl (lv_at hl 2 rfl) ?_
  refine lv_if_lt (tgt := 30) hx hb d_Model_put_19 (by decide) (fun h3 => ?_) (fun h3 => ?_)
  · refine lv_iconst (v := nI 1) hx hb d_Model_put_30 rfl ?_
    refine lv_goto (tgt := 35) hx hb d_Model_put_31 (by decide) ?_
    refine lv_iconst (v := nI 1) hx hb d_Model_put_35 rfl ?_
    have hFc := va_free (wc := [(m0, .inr (3, [.int (nI 0), .int (nI M.n), .int M.sv, .ref ma, .ref mS, .ref mt, .ref mo, .ref mb, .ref mg, .ref mh, .ref mr]))]) hD hS hA [0] rfl
    refine va_calli (va_runV (As := [.int (nI 1), .int (nI 1)]) (rest := []) ⟨hx, hb, hml, hown, hts⟩ (c_Model_fails l dC dI H.size m0 ma mS mt mo mb mg mh mr (nI 0) M.n M.sv (nI 1) (nI 1)) (cwV 2 hts (gw_V k_ml_Model_40 k_im_Model_fails k_sel_Model_fails k_ini_Model k_code_Model_fails) rfl rfl rfl (by decide +kernel) ⟨Nat.le_of_ble_eq_true rfl, Nat.le_of_ble_eq_true rfl⟩) ⟨xc_W_blind, va_recv hK hP (ci := 3) (q0 := 0) rfl rfl, fun U hU hW => ⟨rfl, by rw [hU], by rw [hU]; exact hP.sub (ws' := [(m0, .inr (3, [.int (nI 0), .int (nI M.n), .int M.sv, .ref ma, .ref mS, .ref mt, .ref mo, .ref mb, .ref mg, .ref mh, .ref mr]))]) [0] rfl, va_K.moved hW.alike (hK.sub (tys' := []) [] rfl), (hD.sub (ws' := [(m0, .inr (3, [.int (nI 0), .int (nI M.n), .int M.sv, .ref ma, .ref mS, .ref mt, .ref mo, .ref mb, .ref mg, .ref mh, .ref mr]))]) [0] (by decide) rfl).weaken (fun _ _ _ _ => trivial)⟩⟩ rfl rfl hl.1 rfl (lv_room (Nat.le_of_ble_eq_true rfl)) d_Model_put_36 ⟨Nat.zero_le _, Nat.zero_le _⟩) hS (fun q _ h => hFc q h) hFc (fun rf u t_ H locs ht_ hvm_ wf hB hz1 hk1 hS => ?_)
    obtain ⟨e1_, e_e1_⟩ : ∃ z, z = u := ⟨u, rfl⟩
    rw [← e_e1_] at wf hB
    rw [ht_] at hB
    obtain ⟨hP, hD⟩ := xj_1 0 hP hD rfl hk1 hB
    have hP : va_P (dC, dI) classes (mw m0 ma mS mt mo mb mg mh mr cA cJ e1_ M.n M.sv M.a M.S M.ft M.fo M.fb M.fg M.fh M.fr) H := hP
    have hD : va_D A (mw m0 ma mS mt mo mb mg mh mr cA cJ e1_ M.n M.sv M.a M.S M.ft M.fo M.fb M.fg M.fh M.fr) := hD
    rw [if_neg (show ¬ (nI 1 : Int32) = 0 by decide), if_pos (show (nI 0 : Int32) = 0 by decide)] at wf
    obtain ⟨wf1, wf2⟩ := wf
    subst wf1
    rw [if_neg (show ¬ (nI 1 : Int32) = 0 by decide)] at wf2
    subst wf2
    have hP : va_P (dC, dI) classes (mw m0 ma mS mt mo mb mg mh mr cA cJ (nI 1) M.n M.sv M.a M.S M.ft M.fo M.fb M.fg M.fh M.fr) H := hP
    have hD : va_D A (mw m0 ma mS mt mo mb mg mh mr cA cJ (nI 1) M.n M.sv M.a M.S M.ft M.fo M.fb M.fg M.fh M.fr) := hD
    refine lv_if_eq (tgt := 44) hx hb d_Model_put_39 (by decide) (fun h9_ => absurd h9_ (by decide)) (fun _ => ?_)
    refine lv_lconst (v := lN 0) hx hb d_Model_put_42 rfl ?_
    have hpost : mG (⟨nI 1, M.n, M.sv, M.a, M.S, M.ft, M.fo, M.fb, M.fg, M.fh, M.fr⟩ : mT) ∧ ((∃ i2 j2 : Nat, i = nI i2 ∧ j = nI j2 ∧ i2 < M.n ∧ j2 ≤ M.n ∧ (nI 1 : Int32) = 0 ∧ lN 0 = M.a (i2 * 13 + j2) ∧ M.a = va_up M.a (i2 * 13 + j2) v ∧ M.sv = 0) ∨ (¬ (0 ≤ i.toInt ∧ i.toInt < M.n ∧ 0 ≤ j.toInt ∧ j.toInt ≤ M.n) ∧ (nI 1 : Int32) = 1 ∧ M.sv = M.sv ∧ M.a = M.a)) ∧ M.n = M.n ∧ M.fo = M.fo ∧ M.fb = M.fb := ⟨⟨g1, g2, g3, g4, g5, g6, g7, g8, g9, g10⟩, Or.inr ⟨fun z => by rw [Int32.lt_iff_toInt_lt] at h3; omega, rfl, rfl, rfl⟩, rfl, rfl, rfl⟩
    exact W.lret (v := lN 0) hx hb hr (fun T_ ht_ hW_ => ⟨⟨_, (⟨nI 1, M.n, M.sv, M.a, M.S, M.ft, M.fo, M.fb, M.fg, M.fh, M.fr⟩ : mT), rfl, hpost, by show va_P (dC, dI) classes _ T_.heap; rw [ht_]; exact hP, hD⟩, hS.F ht_⟩) hS.2.2 d_Model_put_43
  refine lv_iload_n hx hb d_Model_put_22 rfl (lv_at hl 2 rfl) ?_
  refine lv_aload_n hx hb d_Model_put_23 rfl (lv_at hl 0 rfl) ?_
  refine va_get (D := (dC, dI)) (ci := 3) (v := .int (nI M.n)) (C := R_Model) (T := F_Model) (N := 11) hx hb hts i_Model hown hK hP 0 rfl rfl 1 (by decide) (hts _ k_fl_Model_44) (fun _ h9 => h9) rfl d_Model_put_24 ?_
  refine lv_icmp_le (tgt := 34) hx hb d_Model_put_27 (by decide) (fun h4 => ?_) (fun h4 => ?_)
  rotate_left
  · refine lv_iconst (v := nI 1) hx hb d_Model_put_30 rfl ?_
    refine lv_goto (tgt := 35) hx hb d_Model_put_31 (by decide) ?_
    refine lv_iconst (v := nI 1) hx hb d_Model_put_35 rfl ?_
    have hFc := va_free (wc := [(m0, .inr (3, [.int (nI 0), .int (nI M.n), .int M.sv, .ref ma, .ref mS, .ref mt, .ref mo, .ref mb, .ref mg, .ref mh, .ref mr]))]) hD hS hA [0] rfl
    refine va_calli (va_runV (As := [.int (nI 1), .int (nI 1)]) (rest := []) ⟨hx, hb, hml, hown, hts⟩ (c_Model_fails l dC dI H.size m0 ma mS mt mo mb mg mh mr (nI 0) M.n M.sv (nI 1) (nI 1)) (cwV 2 hts (gw_V k_ml_Model_40 k_im_Model_fails k_sel_Model_fails k_ini_Model k_code_Model_fails) rfl rfl rfl (by decide +kernel) ⟨Nat.le_of_ble_eq_true rfl, Nat.le_of_ble_eq_true rfl⟩) ⟨xc_W_blind, va_recv hK hP (ci := 3) (q0 := 0) rfl rfl, fun U hU hW => ⟨rfl, by rw [hU], by rw [hU]; exact hP.sub (ws' := [(m0, .inr (3, [.int (nI 0), .int (nI M.n), .int M.sv, .ref ma, .ref mS, .ref mt, .ref mo, .ref mb, .ref mg, .ref mh, .ref mr]))]) [0] rfl, va_K.moved hW.alike (hK.sub (tys' := []) [] rfl), (hD.sub (ws' := [(m0, .inr (3, [.int (nI 0), .int (nI M.n), .int M.sv, .ref ma, .ref mS, .ref mt, .ref mo, .ref mb, .ref mg, .ref mh, .ref mr]))]) [0] (by decide) rfl).weaken (fun _ _ _ _ => trivial)⟩⟩ rfl rfl hl.1 rfl (lv_room (Nat.le_of_ble_eq_true rfl)) d_Model_put_36 ⟨Nat.zero_le _, Nat.zero_le _⟩) hS (fun q _ h => hFc q h) hFc (fun rf u t_ H locs ht_ hvm_ wf hB hz1 hk1 hS => ?_)
    obtain ⟨e1_, e_e1_⟩ : ∃ z, z = u := ⟨u, rfl⟩
    rw [← e_e1_] at wf hB
    rw [ht_] at hB
    obtain ⟨hP, hD⟩ := xj_1 0 hP hD rfl hk1 hB
    have hP : va_P (dC, dI) classes (mw m0 ma mS mt mo mb mg mh mr cA cJ e1_ M.n M.sv M.a M.S M.ft M.fo M.fb M.fg M.fh M.fr) H := hP
    have hD : va_D A (mw m0 ma mS mt mo mb mg mh mr cA cJ e1_ M.n M.sv M.a M.S M.ft M.fo M.fb M.fg M.fh M.fr) := hD
    rw [if_neg (show ¬ (nI 1 : Int32) = 0 by decide), if_pos (show (nI 0 : Int32) = 0 by decide)] at wf
    obtain ⟨wf1, wf2⟩ := wf
    subst wf1
    rw [if_neg (show ¬ (nI 1 : Int32) = 0 by decide)] at wf2
    subst wf2
    have hP : va_P (dC, dI) classes (mw m0 ma mS mt mo mb mg mh mr cA cJ (nI 1) M.n M.sv M.a M.S M.ft M.fo M.fb M.fg M.fh M.fr) H := hP
    have hD : va_D A (mw m0 ma mS mt mo mb mg mh mr cA cJ (nI 1) M.n M.sv M.a M.S M.ft M.fo M.fb M.fg M.fh M.fr) := hD
    refine lv_if_eq (tgt := 44) hx hb d_Model_put_39 (by decide) (fun h9_ => absurd h9_ (by decide)) (fun _ => ?_)
    refine lv_lconst (v := lN 0) hx hb d_Model_put_42 rfl ?_
    have hpost : mG (⟨nI 1, M.n, M.sv, M.a, M.S, M.ft, M.fo, M.fb, M.fg, M.fh, M.fr⟩ : mT) ∧ ((∃ i2 j2 : Nat, i = nI i2 ∧ j = nI j2 ∧ i2 < M.n ∧ j2 ≤ M.n ∧ (nI 1 : Int32) = 0 ∧ lN 0 = M.a (i2 * 13 + j2) ∧ M.a = va_up M.a (i2 * 13 + j2) v ∧ M.sv = 0) ∨ (¬ (0 ≤ i.toInt ∧ i.toInt < M.n ∧ 0 ≤ j.toInt ∧ j.toInt ≤ M.n) ∧ (nI 1 : Int32) = 1 ∧ M.sv = M.sv ∧ M.a = M.a)) ∧ M.n = M.n ∧ M.fo = M.fo ∧ M.fb = M.fb := ⟨⟨g1, g2, g3, g4, g5, g6, g7, g8, g9, g10⟩, Or.inr ⟨fun z => by rw [Int32.le_iff_toInt_le] at h4; omega, rfl, rfl, rfl⟩, rfl, rfl, rfl⟩
    exact W.lret (v := lN 0) hx hb hr (fun T_ ht_ hW_ => ⟨⟨_, (⟨nI 1, M.n, M.sv, M.a, M.S, M.ft, M.fo, M.fb, M.fg, M.fh, M.fr⟩ : mT), rfl, hpost, by show va_P (dC, dI) classes _ T_.heap; rw [ht_]; exact hP, hD⟩, hS.F ht_⟩) hS.2.2 d_Model_put_43
  refine lv_iconst (v := nI 0) hx hb d_Model_put_34 rfl ?_
  refine lv_iconst (v := nI 1) hx hb d_Model_put_35 rfl ?_
  have hFc := va_free (wc := [(m0, .inr (3, [.int (nI 0), .int (nI M.n), .int M.sv, .ref ma, .ref mS, .ref mt, .ref mo, .ref mb, .ref mg, .ref mh, .ref mr]))]) hD hS hA [0] rfl
  refine va_calli (va_runV (As := [.int (nI 0), .int (nI 1)]) (rest := []) ⟨hx, hb, hml, hown, hts⟩ (c_Model_fails l dC dI H.size m0 ma mS mt mo mb mg mh mr (nI 0) M.n M.sv (nI 0) (nI 1)) (cwV 2 hts (gw_V k_ml_Model_40 k_im_Model_fails k_sel_Model_fails k_ini_Model k_code_Model_fails) rfl rfl rfl (by decide +kernel) ⟨Nat.le_of_ble_eq_true rfl, Nat.le_of_ble_eq_true rfl⟩) ⟨xc_W_blind, va_recv hK hP (ci := 3) (q0 := 0) rfl rfl, fun U hU hW => ⟨rfl, by rw [hU], by rw [hU]; exact hP.sub (ws' := [(m0, .inr (3, [.int (nI 0), .int (nI M.n), .int M.sv, .ref ma, .ref mS, .ref mt, .ref mo, .ref mb, .ref mg, .ref mh, .ref mr]))]) [0] rfl, va_K.moved hW.alike (hK.sub (tys' := []) [] rfl), (hD.sub (ws' := [(m0, .inr (3, [.int (nI 0), .int (nI M.n), .int M.sv, .ref ma, .ref mS, .ref mt, .ref mo, .ref mb, .ref mg, .ref mh, .ref mr]))]) [0] (by decide) rfl).weaken (fun _ _ _ _ => trivial)⟩⟩ rfl rfl hl.1 rfl (lv_room (Nat.le_of_ble_eq_true rfl)) d_Model_put_36 ⟨Nat.zero_le _, Nat.zero_le _⟩) hS (fun q _ h => hFc q h) hFc (fun rf u t_ H locs ht_ hvm_ wf hB hz1 hk1 hS => ?_)
  obtain ⟨e1_, e_e1_⟩ : ∃ z, z = u := ⟨u, rfl⟩
  rw [← e_e1_] at wf hB
  rw [ht_] at hB
  obtain ⟨hP, hD⟩ := xj_1 0 hP hD rfl hk1 hB
  have hP : va_P (dC, dI) classes (mw m0 ma mS mt mo mb mg mh mr cA cJ e1_ M.n M.sv M.a M.S M.ft M.fo M.fb M.fg M.fh M.fr) H := hP
  have hD : va_D A (mw m0 ma mS mt mo mb mg mh mr cA cJ e1_ M.n M.sv M.a M.S M.ft M.fo M.fb M.fg M.fh M.fr) := hD
  rw [if_pos (show (nI 0 : Int32) = 0 by decide)] at wf
  obtain ⟨wf1, wf2⟩ := wf
  subst wf1
  rw [if_pos (show (nI 0 : Int32) = 0 by decide)] at wf2
  subst wf2
  have hP : va_P (dC, dI) classes (mw m0 ma mS mt mo mb mg mh mr cA cJ (nI 0) M.n M.sv M.a M.S M.ft M.fo M.fb M.fg M.fh M.fr) H := hP
  have hD : va_D A (mw m0 ma mS mt mo mb mg mh mr cA cJ (nI 0) M.n M.sv M.a M.S M.ft M.fo M.fb M.fg M.fh M.fr) := hD
  refine lv_if_eq (tgt := 44) hx hb d_Model_put_39 (by decide) (fun _ => ?_) (fun h9_ => absurd h9_ (by decide))
  obtain ⟨ik, hik, ei⟩ := nI_of h1
  obtain ⟨jk, hjk, ej⟩ := nI_of h3
  subst ei
  subst ej
  have t1 := nI_toInt hik
  have t2 := nI_toInt hjk
  have hin : ik < M.n := by rw [Int32.le_iff_toInt_le] at h2; omega
  have hjn : jk ≤ M.n := by rw [Int32.le_iff_toInt_le] at h4; omega
  refine lv_iload_n hx hb d_Model_put_44 rfl (lv_at hl 1 rfl) ?_
  refine lv_bipush (v := nI 13) hx hb d_Model_put_45 rfl ?_
  refine xn_imul hx hb d_Model_put_47 ?_
  refine lv_iload_n hx hb d_Model_put_48 rfl (lv_at hl 2 rfl) ?_
  refine xn_iadd hx hb d_Model_put_49 ?_
  refine lv_istore (lv' := [(5, .int (nI ((ik * 13) + jk))), (0, .ref m0), (1, .int (nI ik)), (2, .int (nI jk)), (3, .long v)]) hx hb d_Model_put_50 hl (by decide) rfl (fun ls hl => ?_)
  refine lv_aload_n hx hb d_Model_put_52 rfl (lv_at hl 1 rfl) ?_
  refine va_get (D := (dC, dI)) (ci := 3) (v := .ref ma) (C := R_Model) (T := F_Model) (N := 11) hx hb hts i_Model hown hK hP 0 rfl rfl 3 (by decide) (hts _ k_fl_Model_9) (fun _ h9 => h9) rfl d_Model_put_53 ?_
  refine lv_iload hx hb d_Model_put_56 (lv_at hl 0 rfl) ?_
  refine xn_lald hx hb hK hP 1 1 rfl rfl (i := (ik * 13) + jk) (by omega) (by omega) d_Model_put_58 ?_
  refine lv_lstore (lv' := [(6, .long (M.a ((ik * 13) + jk))), (5, .int (nI ((ik * 13) + jk))), (0, .ref m0), (1, .int (nI ik)), (2, .int (nI jk)), (3, .long v)]) hx hb d_Model_put_59 hl (by decide) rfl (fun ls hl => ?_)
  refine lv_aload_n hx hb d_Model_put_61 rfl (lv_at hl 2 rfl) ?_
  refine va_get (D := (dC, dI)) (ci := 3) (v := .ref ma) (C := R_Model) (T := F_Model) (N := 11) hx hb hts i_Model hown hK hP 0 rfl rfl 3 (by decide) (hts _ k_fl_Model_9) (fun _ h9 => h9) rfl d_Model_put_62 ?_
  refine lv_iload hx hb d_Model_put_65 (lv_at hl 1 rfl) ?_
  refine lv_lload_n hx hb d_Model_put_67 rfl (lv_at hl 5 rfl) ?_
  refine xn_last hx hb hK hP hD hS 1 1 rfl rfl (i := (ik * 13) + jk) (x := v) (by omega) (by omega) d_Model_put_68 (fun H locs hP hD hS => ?_)
  have hP : va_P (dC, dI) classes (mw m0 ma mS mt mo mb mg mh mr cA cJ (nI 0) M.n M.sv (va_up M.a ((ik * 13) + jk) v) M.S M.ft M.fo M.fb M.fg M.fh M.fr) H := hP
  have hD : va_D A (mw m0 ma mS mt mo mb mg mh mr cA cJ (nI 0) M.n M.sv (va_up M.a ((ik * 13) + jk) v) M.S M.ft M.fo M.fb M.fg M.fh M.fr) := hD
  refine lv_aload_n hx hb d_Model_put_69 rfl (lv_at hl 2 rfl) ?_
  refine lv_iconst (v := nI 0) hx hb d_Model_put_70 rfl ?_
  refine va_put (D := (dC, dI)) (ci := 3) (v := .int (nI 0)) (ty := .boolean) (C := R_Model) (T := F_Model) (N := 11) hx hb hts i_Model t_Model t_Model_ok n_Model hown hK hP hD hS 0 rfl rfl 2 (by decide) (hts _ k_fl_Model_47) (fun _ h9 => h9) rfl (by decide +kernel) rfl rfl (Nat.le_of_ble_eq_true rfl) d_Model_put_71 (fun H locs hP hD hS => ?_)
  have hP : va_P (dC, dI) classes (mw m0 ma mS mt mo mb mg mh mr cA cJ (nI 0) M.n (nI 0) (va_up M.a ((ik * 13) + jk) v) M.S M.ft M.fo M.fb M.fg M.fh M.fr) H := hP
  have hD : va_D A (mw m0 ma mS mt mo mb mg mh mr cA cJ (nI 0) M.n (nI 0) (va_up M.a ((ik * 13) + jk) v) M.S M.ft M.fo M.fb M.fg M.fh M.fr) := hD
  refine lv_lload hx hb d_Model_put_74 (lv_at hl 0 rfl) ?_
  have hpost : mG (⟨nI 0, M.n, nI 0, va_up M.a ((ik * 13) + jk) v, M.S, M.ft, M.fo, M.fb, M.fg, M.fh, M.fr⟩ : mT) ∧ ((∃ i2 j2 : Nat, nI ik = nI i2 ∧ nI jk = nI j2 ∧ i2 < M.n ∧ j2 ≤ M.n ∧ (nI 0 : Int32) = 0 ∧ M.a (ik * 13 + jk) = M.a (i2 * 13 + j2) ∧ va_up M.a (ik * 13 + jk) v = va_up M.a (i2 * 13 + j2) v ∧ (nI 0 : Int32) = 0) ∨ (¬ (0 ≤ (nI ik).toInt ∧ (nI ik).toInt < M.n ∧ 0 ≤ (nI jk).toInt ∧ (nI jk).toInt ≤ M.n) ∧ (nI 0 : Int32) = 1 ∧ nI 0 = M.sv ∧ va_up M.a (ik * 13 + jk) v = M.a)) ∧ M.n = M.n ∧ M.fo = M.fo ∧ M.fb = M.fb := ⟨⟨g1, Or.inl rfl, g3, g4, g5, g6, g7, g8, g9, fun z => absurd (show (nI 0 : Int32) = 1 from z) (by decide)⟩, Or.inl ⟨ik, jk, rfl, rfl, hin, hjn, rfl, rfl, rfl, rfl⟩, rfl, rfl, rfl⟩
  exact W.lret (v := M.a (ik * 13 + jk)) hx hb hr (fun T_ ht_ hW_ => ⟨⟨_, (⟨nI 0, M.n, nI 0, va_up M.a ((ik * 13) + jk) v, M.S, M.ft, M.fo, M.fb, M.fg, M.fh, M.fr⟩ : mT), rfl, hpost, by show va_P (dC, dI) classes _ T_.heap; rw [ht_]; exact hP, hD⟩, hS.F ht_⟩) hS.2.2 d_Model_put_76
