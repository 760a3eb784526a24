theorem lg_ge0 (v : Int64) : 0 ≤ lg_cmp v (lN 0) ↔ 0 ≤ v.toInt := by
  have h3 : (lN 0).toInt = 0 := by decide
  rw [lg_cmp]
  split
  · rename_i h1
    rw [gt_iff_lt, Int64.lt_iff_toInt_lt, h3] at h1
    exact ⟨fun _ => by omega, fun _ => by decide⟩
  · split
    · rename_i h1
      rw [h1]
      exact ⟨fun _ => by decide, fun _ => by decide⟩
    · rename_i h1 h2
      rw [gt_iff_lt, Int64.lt_iff_toInt_lt, h3] at h1
      refine ⟨fun z => absurd z (by decide), fun z => ?_⟩
      exfalso
      apply h2
      apply Int64.toInt_inj.mp
      rw [h3]
      omega
set_option maxHeartbeats 8000000 in
set_option maxRecDepth 100000 in
/-- times -/
theorem c_Model_times (l : Launch) (dC : Nat → ClassId) (dI : Nat → Nat → Nat) (sz : Nat) (m0 ma mS mt mo mb mg mh mr : Nat) (cA cJ : ClassId) (er : Int32) (n : Nat) (sv : Int32) (a : Nat → Int64) (S ft fo fb fg fh fr : Nat → Nat) (at0 : Nat) (v : Int64) (z : Int) (hS0 : ∀ i, S i < 65536) (hft : ∀ i, ft i < 65536) (hat : at0 + 56 ≤ 458752) (hX : dg_v (fun j => S (at0 + j)) 56 = tc z) : Met l y_Model_times w_Model_times ({ frames := 1, cells := 0, slots := 0, locals := 22 }) (xc_W [.ref m0, .int (nI at0), .long v] dC dI (mw m0 ma mS mt mo mb mg mh mr cA cJ er n sv a S ft fo fb fg fh fr) [(cA, .int), (cJ, .long)] sz) (va_Qv (S := Nat → Nat) (fun u => (∀ i, u i < 65536) ∧ dg_v u 56 = tc (z * v.toInt)) (fun u t => va_P (dC, dI) classes (mw m0 ma mS mt mo mb mg mh mr cA cJ er n sv a S u fo fb fg fh fr) t.heap ∧ va_D (va_A (mw m0 ma mS mt mo mb mg mh mr cA cJ er n sv a S ft fo fb fg fh fr) sz) (mw m0 ma mS mt mo mb mg mh mr cA cJ er n sv a S u fo fb fg fh fr)) (va_A (mw m0 ma mS mt mo mb mg mh mr cA cJ er n sv a S ft fo fb fg fh fr) sz)) 0 0 (va_A (mw m0 ma mS mt mo mb mg mh mr cA cJ er n sv a S ft fo fb fg fh fr) sz) := by
  refine Met.ofW (cc := b_Model_times) (maxL := 16) (ret := none) (by decide) rfl ?_
  intro p e s m args below meth c s₁ B hml hv
  obtain ⟨rfl, hsz, hP, hK, hD0⟩ := hv
  have hx := B.exec
  have hb := B.bytes
  have hr := B.returns
  have hts : ∀ w ∈ gw_tbl, w.before ([.ref m0, .int (nI at0), .long v] : List Value).toArray s = true := fun w h => atoms_spec (ws := w_Model_times) B.pre w (List.mem_cons_of_mem _ h)
  have hown : s.vm.findClass R_Model = some m.cls := findClass_of_methodNamed B.named
  have hlocks := B.notSynchronized
  subst hsz
  have hD := hD0.self (sz := s.heap.size)
  generalize hAe : va_A (mw m0 ma mS mt mo mb mg mh mr cA cJ er n sv a S ft fo fb fg fh fr) s.heap.size = A at hD ⊢
  have hA : ∀ q : Nat, s.heap.size ≤ q → A q := fun q h => by rw [← hAe]; exact Or.inr h
  have hS : va_S A s.heap s.heap [] := va_S.rf
  have hl := lv_entry ([.ref m0, .int (nI at0), .long v]) (n := 16) (Nat.le_of_ble_eq_true rfl)
  rw [lg_entry_eq]
  generalize (lg_sl ([.ref m0, .int (nI at0), .long v]) ++ List.replicate (16 - (lg_sl ([.ref m0, .int (nI at0), .long v])).length) Slot.unset).toArray = ls at hl ⊢
  have hl : lv_has ls 16 [(0, .ref m0), (1, .int (nI at0)), (2, .long v)] := hl
  obtain ⟨y, ey⟩ : ∃ y : Int, y = v.toInt := ⟨_, rfl⟩
  have hy1 : -9223372036854775808 ≤ y := by rw [ey]; exact Int64.le_toInt v
  have hy2 : y < 9223372036854775808 := by rw [ey]; exact Int64.toInt_lt v
  have ev : v = lZ y := by
    apply Int64.toInt_inj.mp
    rw [lZ_toInt hy1 hy2, ey]
  obtain ⟨mN, emN⟩ : ∃ mN, mN = y.natAbs := ⟨_, rfl⟩
  have hmN : mN < 18446744073709551616 := by omega
  obtain ⟨fS, efS⟩ : ∃ fS : Nat → Nat, fS = fun j => S (at0 + j) := ⟨_, rfl⟩
  rw [← efS] at hX
  have tail : ∀ (F : Nat → Nat), (∀ i, F i < 65536) → (dg_v F 56 = tc (z * (mN : Int))) → ∀ (H : Heap) (locs : List Loc), va_P (dC, dI) classes (mw m0 ma mS mt mo mb mg mh mr cA cJ er n sv a S F fo fb fg fh fr) H → va_D A (mw m0 ma mS mt mo mb mg mh mr cA cJ er n sv a S F fo fb fg fh fr) → va_S A s.heap H locs → ∀ (ls : Array Slot), lv_has ls 16 [(0, .ref m0), (1, .int (nI at0)), (2, .long v)] → W p l e (headSpec w_Model_times ({ frames := 1, cells := 0, slots := 0, locals := 22 })).room s m ([.ref m0, .int (nI at0), .long v] : List Value).toArray below meth c H locs 0 0 (MQ below (va_Qv (S := Nat → Nat) (fun u => (∀ i, u i < 65536) ∧ dg_v u 56 = tc (z * v.toInt)) (fun u t => va_P (dC, dI) classes (mw m0 ma mS mt mo mb mg mh mr cA cJ er n sv a S u fo fb fg fh fr) t.heap ∧ va_D A (mw m0 ma mS mt mo mb mg mh mr cA cJ er n sv a S u fo fb fg fh fr)) A) ([.ref m0, .int (nI at0), .long v] : List Value).toArray s 0 0 A) (F0 m 143 ls []) := by
    intro F hF hv H locs hP hD hS ls hl
    refine lv_lload_n hx hb d_Model_times_143 rfl (lv_at hl 2 rfl) ?_
    refine lv_lconst (v := lN 0) hx hb d_Model_times_144 rfl ?_
    refine W.lcmp hx hb d_Model_times_145 ?_
    refine lv_if_ge (tgt := 156) hx hb d_Model_times_146 (by decide) (fun hge => ?_) (fun hge => ?_)
    · have hy0 := (lg_ge0 v).mp hge
      have hm : (mN : Int) = v.toInt := by omega
      exact W.vret hx hb hr (fun T_ ht_ hW_ => ⟨⟨F, rfl, ⟨hF, by rw [hv, hm]⟩, by show va_P (dC, dI) classes _ T_.heap; rw [ht_]; exact hP, hD⟩, hS.F ht_⟩) hS.2.2 d_Model_times_156
    have hy0 : v.toInt < 0 := by
      rcases Int.lt_or_le v.toInt 0 with q | q
      · exact q
      · exact absurd ((lg_ge0 v).mpr q) hge
    refine lv_aload_n hx hb d_Model_times_149 rfl (lv_at hl 0 rfl) ?_
    refine va_get (D := (dC, dI)) (ci := 3) (v := .ref mt) (C := R_Model) (T := F_Model) (N := 11) hx hb hts i_Model hown hK hP 0 rfl rfl 5 (by decide) (hts _ k_fl_Model_18) (fun _ h9 => h9) rfl d_Model_times_150 ?_
    have hFc := va_free (wc := [(mt, .inl (cA, 56, .inl (xn_f F)))]) hD hS hA [3] rfl
    refine va_callv (va_runS (As := [.ref mt]) (rest := []) ⟨hx, hb, hml, hown, hts⟩ (c_Model_turn l dC dI H.size cA mt F hF) (cwS 1 hts (gw_S k_ml_Model_53 k_st_Model_turn k_ini_Model k_code_Model_turn) rfl rfl rfl (by decide +kernel) ⟨Nat.le_of_ble_eq_true rfl, Nat.le_of_ble_eq_true rfl⟩) ⟨xc_W_blind, fun U hU hW => ⟨rfl, by rw [hU], by rw [hU]; exact hP.sub (ws' := [(mt, .inl (cA, 56, .inl (xn_f F)))]) [3] rfl, va_K.moved hW.alike (hK.sub (tys' := [(cA, .int)]) [0] rfl), (hD.sub (ws' := [(mt, .inl (cA, 56, .inl (xn_f F)))]) [3] (by decide) rfl).weaken (fun _ _ _ _ => trivial)⟩⟩ rfl rfl hl.1 rfl (lv_room (Nat.le_of_ble_eq_true rfl)) d_Model_times_153 ⟨Nat.zero_le _, Nat.zero_le _⟩) hS (fun q _ h => hFc q h) hFc (fun u t_ H locs ht_ hvm_ w1 hB hz1 hk1 hS => ?_)
    obtain ⟨F2, e_F2⟩ : ∃ z, z = u := ⟨u, rfl⟩
    rw [← e_F2] at w1 hB
    rw [ht_] at hB
    obtain ⟨hP, hD⟩ := xj_1 3 hP hD rfl hk1 hB
    have hP : va_P (dC, dI) classes (mw m0 ma mS mt mo mb mg mh mr cA cJ er n sv a S F2 fo fb fg fh fr) H := hP
    have hD : va_D A (mw m0 ma mS mt mo mb mg mh mr cA cJ er n sv a S F2 fo fb fg fh fr) := hD
    have hm : v.toInt = - (mN : Int) := by omega
    exact W.vret hx hb hr (fun T_ ht_ hW_ => ⟨⟨F2, rfl, ⟨w1.1, by rw [w1.2, hv, tc_neg, hm, Int.mul_neg]⟩, by show va_P (dC, dI) classes _ T_.heap; rw [ht_]; exact hP, hD⟩, hS.F ht_⟩) hS.2.2 d_Model_times_156
  have loop : ∀ (n0 : Nat) (k cc : Nat) (F : Nat → Nat), (k ≤ 56) → (∀ i, F i < 65536) → (cc ≤ 1048576) → (dg_v F k + cc * dg_p k = ts fS mN k 4) → (57 ≤ k + n0) → ∀ (H : Heap) (locs : List Loc), va_P (dC, dI) classes (mw m0 ma mS mt mo mb mg mh mr cA cJ er n sv a S F fo fb fg fh fr) H → va_D A (mw m0 ma mS mt mo mb mg mh mr cA cJ er n sv a S F fo fb fg fh fr) → va_S A s.heap H locs → ∀ (ls : Array Slot), lv_has ls 16 [(8, .int (nI k)), (6, .long (lN cc)), (4, .long (lN mN)), (0, .ref m0), (1, .int (nI at0)), (2, .long v)] → W p l e (headSpec w_Model_times ({ frames := 1, cells := 0, slots := 0, locals := 22 })).room s m ([.ref m0, .int (nI at0), .long v] : List Value).toArray below meth c H locs 0 0 (MQ below (va_Qv (S := Nat → Nat) (fun u => (∀ i, u i < 65536) ∧ dg_v u 56 = tc (z * v.toInt)) (fun u t => va_P (dC, dI) classes (mw m0 ma mS mt mo mb mg mh mr cA cJ er n sv a S u fo fb fg fh fr) t.heap ∧ va_D A (mw m0 ma mS mt mo mb mg mh mr cA cJ er n sv a S u fo fb fg fh fr)) A) ([.ref m0, .int (nI at0), .long v] : List Value).toArray s 0 0 A) (F0 m 20 ls []) := by
    intro n0
    induction n0 with
    | zero => intro k cc F hk hF hcc hinv hn_; exact absurd hn_ (by omega)
    | succ n0 ih =>
      intro k cc F hk hF hcc hinv hn_ H locs hP hD hS ls hl
      refine lv_iload hx hb d_Model_times_20 (lv_at hl 0 rfl) ?_
      refine lv_bipush (v := nI 56) hx hb d_Model_times_22 rfl ?_
      refine xn_icmp_ge (tgt := 143) hx hb (by omega) (by omega) d_Model_times_24 (by decide) (fun hge => ?_) (fun hge => ?_)
      · have hk9 : k = 56 := by omega
        subst hk9
        exact tail F hF (by rw [tm_fin hinv (dg_lt 56 (fun i _ => hF i)), tm_end fS hmN, hX, tc_mul]) H locs hP hD hS ls (lv_sub hl [3, 4, 5] rfl)
      have fin : ∀ (s1 mo1 : Nat), (s1 + 65536 * mo1 = cc + tp fS mN k (min 4 (k + 1))) → (s1 ≤ 327675) → (mo1 ≤ 262156) → ∀ (H : Heap) (locs : List Loc), va_P (dC, dI) classes (mw m0 ma mS mt mo mb mg mh mr cA cJ er n sv a S F fo fb fg fh fr) H → va_D A (mw m0 ma mS mt mo mb mg mh mr cA cJ er n sv a S F fo fb fg fh fr) → va_S A s.heap H locs → ∀ (ls : Array Slot), lv_has ls 16 [(11, .long (lN mo1)), (9, .long (lN s1)), (8, .int (nI k)), (6, .long (lN cc)), (4, .long (lN mN)), (0, .ref m0), (1, .int (nI at0)), (2, .long v)] → W p l e (headSpec w_Model_times ({ frames := 1, cells := 0, slots := 0, locals := 22 })).room s m ([.ref m0, .int (nI at0), .long v] : List Value).toArray below meth c H locs 0 0 (MQ below (va_Qv (S := Nat → Nat) (fun u => (∀ i, u i < 65536) ∧ dg_v u 56 = tc (z * v.toInt)) (fun u t => va_P (dC, dI) classes (mw m0 ma mS mt mo mb mg mh mr cA cJ er n sv a S u fo fb fg fh fr) t.heap ∧ va_D A (mw m0 ma mS mt mo mb mg mh mr cA cJ er n sv a S u fo fb fg fh fr)) A) ([.ref m0, .int (nI at0), .long v] : List Value).toArray s 0 0 A) (F0 m 113 ls []) := by
        intro s1 mo1 hsm hs1 hmo H locs hP hD hS ls hl
        refine lv_aload_n hx hb d_Model_times_113 rfl (lv_at hl 5 rfl) ?_
        refine va_get (D := (dC, dI)) (ci := 3) (v := .ref mt) (C := R_Model) (T := F_Model) (N := 11) hx hb hts i_Model hown hK hP 0 rfl rfl 5 (by decide) (hts _ k_fl_Model_18) (fun _ h9 => h9) rfl d_Model_times_114 ?_
        refine lv_iload hx hb d_Model_times_117 (lv_at hl 2 rfl) ?_
        refine lv_lload hx hb d_Model_times_119 (lv_at hl 1 rfl) ?_
        refine lv_ldc2 (v := lN 65535) hx hb hown (hts _ k_ldc_Model_51) d_Model_times_121 ?_
        refine xe_land (v := lN (s1 % 65536)) hx hb d_Model_times_124 (wb_mask (k := 16) (by omega) (by decide)) ?_
        refine xn_l2i hx hb d_Model_times_125 ?_
        refine xn_iast hx hb hK hP hD hS 3 0 rfl rfl (i := k) (x := s1 % 65536) (by omega) (by omega) d_Model_times_126 (fun H locs hP hD hS => ?_)
        have hP : va_P (dC, dI) classes (mw m0 ma mS mt mo mb mg mh mr cA cJ er n sv a S (va_up F k (s1 % 65536)) fo fb fg fh fr) H := hP
        have hD : va_D A (mw m0 ma mS mt mo mb mg mh mr cA cJ er n sv a S (va_up F k (s1 % 65536)) fo fb fg fh fr) := hD
        refine lv_lload hx hb d_Model_times_127 (lv_at hl 0 rfl) ?_
        refine lv_lload hx hb d_Model_times_129 (lv_at hl 1 rfl) ?_
        refine lv_bipush (v := nI 16) hx hb d_Model_times_131 rfl ?_
        refine lv_lushr (v := lN (s1 / 65536)) hx hb d_Model_times_133 (wb_shr (k := 16) (by omega) (by decide)) ?_
        refine xn_ladd hx hb d_Model_times_134 ?_
        refine lv_lstore (lv' := [(6, .long (lN (mo1 + (s1 / 65536)))), (11, .long (lN mo1)), (9, .long (lN s1)), (8, .int (nI k)), (4, .long (lN mN)), (0, .ref m0), (1, .int (nI at0)), (2, .long v)]) hx hb d_Model_times_135 hl (by decide) rfl (fun ls hl => ?_)
        refine lv_iinc (v := nI (k + 1)) (lv' := [(8, .int (nI (k + 1))), (6, .long (lN (mo1 + (s1 / 65536)))), (11, .long (lN mo1)), (9, .long (lN s1)), (4, .long (lN mN)), (0, .ref m0), (1, .int (nI at0)), (2, .long v)]) hx hb d_Model_times_137 hl (k := 3) rfl (nI_1 _) (by decide) rfl (fun ls hl => ?_)
        refine lv_goto (tgt := 20) hx hb d_Model_times_140 (by decide) ?_
        exact ih (k + 1) (mo1 + s1 / 65536) (va_up F k (s1 % 65536)) (by omega) (va_up_lt hF (by omega)) (by omega) (by rw [dg_set, dg_p1, ts_step]; exact tm_inv hinv (by omega)) (by omega) H locs hP hD hS ls (lv_sub hl [0, 1, 4, 5, 6, 7] rfl)
      refine lv_lload hx hb d_Model_times_27 (lv_at hl 1 rfl) ?_
      refine lv_ldc2 (v := lN 65535) hx hb hown (hts _ k_ldc_Model_51) d_Model_times_29 ?_
      refine xe_land (v := lN (cc % 65536)) hx hb d_Model_times_32 (wb_mask (k := 16) (by omega) (by decide)) ?_
      refine lv_lstore (lv' := [(9, .long (lN (cc % 65536))), (8, .int (nI k)), (6, .long (lN cc)), (4, .long (lN mN)), (0, .ref m0), (1, .int (nI at0)), (2, .long v)]) hx hb d_Model_times_33 hl (by decide) rfl (fun ls hl => ?_)
      refine lv_lload hx hb d_Model_times_35 (lv_at hl 2 rfl) ?_
      refine lv_bipush (v := nI 16) hx hb d_Model_times_37 rfl ?_
      refine lv_lushr (v := lN (cc / 65536)) hx hb d_Model_times_39 (wb_shr (k := 16) (by omega) (by decide)) ?_
      refine lv_lstore (lv' := [(11, .long (lN (cc / 65536))), (9, .long (lN (cc % 65536))), (8, .int (nI k)), (6, .long (lN cc)), (4, .long (lN mN)), (0, .ref m0), (1, .int (nI at0)), (2, .long v)]) hx hb d_Model_times_40 hl (by decide) rfl (fun ls hl => ?_)
      refine lv_iconst (v := nI 0) hx hb d_Model_times_42 rfl ?_
      refine lv_istore (lv' := [(13, .int (nI 0)), (11, .long (lN (cc / 65536))), (9, .long (lN (cc % 65536))), (8, .int (nI k)), (6, .long (lN cc)), (4, .long (lN mN)), (0, .ref m0), (1, .int (nI at0)), (2, .long v)]) hx hb d_Model_times_43 hl (by decide) rfl (fun ls hl => ?_)
      have loop2 : ∀ (n2 : Nat) (j s1 mo1 : Nat), (j ≤ 4) → (j ≤ k + 1) → (s1 + 65536 * mo1 = cc + tp fS mN k j) → (s1 ≤ 65535 * (j + 1)) → (mo1 ≤ 16 + 65535 * j) → (5 ≤ j + n2) → ∀ (H : Heap) (locs : List Loc), va_P (dC, dI) classes (mw m0 ma mS mt mo mb mg mh mr cA cJ er n sv a S F fo fb fg fh fr) H → va_D A (mw m0 ma mS mt mo mb mg mh mr cA cJ er n sv a S F fo fb fg fh fr) → va_S A s.heap H locs → ∀ (ls : Array Slot), lv_has ls 16 [(13, .int (nI j)), (11, .long (lN mo1)), (9, .long (lN s1)), (8, .int (nI k)), (6, .long (lN cc)), (4, .long (lN mN)), (0, .ref m0), (1, .int (nI at0)), (2, .long v)] → W p l e (headSpec w_Model_times ({ frames := 1, cells := 0, slots := 0, locals := 22 })).room s m ([.ref m0, .int (nI at0), .long v] : List Value).toArray below meth c H locs 0 0 (MQ below (va_Qv (S := Nat → Nat) (fun u => (∀ i, u i < 65536) ∧ dg_v u 56 = tc (z * v.toInt)) (fun u t => va_P (dC, dI) classes (mw m0 ma mS mt mo mb mg mh mr cA cJ er n sv a S u fo fb fg fh fr) t.heap ∧ va_D A (mw m0 ma mS mt mo mb mg mh mr cA cJ er n sv a S u fo fb fg fh fr)) A) ([.ref m0, .int (nI at0), .long v] : List Value).toArray s 0 0 A) (F0 m 45 ls []) := by
        intro n2
        induction n2 with
        | zero => intro j s1 mo1 hj4 hjk hsm hs1 hmo hn_; exact absurd hn_ (by omega)
        | succ n2 ih2 =>
          intro j s1 mo1 hj4 hjk hsm hs1 hmo hn_ H locs hP hD hS ls hl
          refine lv_iload hx hb d_Model_times_45 (lv_at hl 0 rfl) ?_
          refine lv_iconst (v := nI 4) hx hb d_Model_times_47 rfl ?_
          refine xn_icmp_ge (tgt := 113) hx hb (by omega) (by omega) d_Model_times_48 (by decide) (fun hg4 => ?_) (fun hg4 => ?_)
          · exact fin s1 mo1 (by rw [hsm, tp_min (Or.inl (by omega)) hj4 hjk]) (by omega) (by omega) H locs hP hD hS ls (lv_sub hl [1, 2, 3, 4, 5, 6, 7, 8] rfl)
          refine lv_iload hx hb d_Model_times_51 (lv_at hl 0 rfl) ?_
          refine lv_iload hx hb d_Model_times_53 (lv_at hl 3 rfl) ?_
          refine xn_icmp_gt (tgt := 113) hx hb (by omega) (by omega) d_Model_times_55 (by decide) (fun hgk => ?_) (fun hgk => ?_)
          · exact fin s1 mo1 (by rw [hsm, tp_min (Or.inr (by omega)) hj4 hjk]) (by omega) (by omega) H locs hP hD hS ls (lv_sub hl [1, 2, 3, 4, 5, 6, 7, 8] rfl)
          have b0 := hS0 (at0 + k - j)
          have b1 := md_lt mN j
          refine lv_aload_n hx hb d_Model_times_58 rfl (lv_at hl 6 rfl) ?_
          refine va_get (D := (dC, dI)) (ci := 3) (v := .ref mS) (C := R_Model) (T := F_Model) (N := 11) hx hb hts i_Model hown hK hP 0 rfl rfl 4 (by decide) (hts _ k_fl_Model_14) (fun _ h9 => h9) rfl d_Model_times_59 ?_
          refine lv_iload_n hx hb d_Model_times_62 rfl (lv_at hl 7 rfl) ?_
          refine lv_iload hx hb d_Model_times_63 (lv_at hl 3 rfl) ?_
          refine xn_iadd hx hb d_Model_times_65 ?_
          refine lv_iload hx hb d_Model_times_66 (lv_at hl 0 rfl) ?_
          refine xn_isub hx hb (by omega) d_Model_times_68 ?_
          refine xn_iald hx hb hK hP 2 0 rfl rfl (i := (at0 + k) - j) (by omega) (by omega) d_Model_times_69 ?_
          refine xn_i2l hx hb (by omega) d_Model_times_70 ?_
          refine lv_lload hx hb d_Model_times_71 (lv_at hl 5 rfl) ?_
          refine lv_bipush (v := nI 16) hx hb d_Model_times_73 rfl ?_
          refine lv_iload hx hb d_Model_times_75 (lv_at hl 0 rfl) ?_
          refine xn_imul hx hb d_Model_times_77 ?_
          refine lv_lushr (v := lN (mN / 2 ^ (16 * j))) hx hb d_Model_times_78 (wb_shr (by omega) (by omega)) ?_
          refine lv_ldc2 (v := lN 65535) hx hb hown (hts _ k_ldc_Model_51) d_Model_times_79 ?_
          refine xe_land (v := lN (md mN j)) hx hb d_Model_times_82 (wb_mask (k := 16) (Nat.lt_of_le_of_lt (Nat.div_le_self _ _) hmN) (by decide)) ?_
          refine xn_lmul hx hb d_Model_times_83 ?_
          have hpl : S (at0 + k - j) * md mN j ≤ 65535 * 65535 := Nat.mul_le_mul (by omega) (by omega)
          have htp : tp fS mN k (j + 1) = tp fS mN k j + S (at0 + k - j) * md mN j := by
            show tp fS mN k j + fS (k - j) * md mN j = _
            rw [efS, show at0 + k - j = at0 + (k - j) by omega]
          obtain ⟨pp, epp⟩ : ∃ pp, pp = S (at0 + k - j) * md mN j := ⟨_, rfl⟩
          rw [← epp] at hpl htp ⊢
          refine lv_lstore (lv' := [(14, .long (lN pp)), (13, .int (nI j)), (11, .long (lN mo1)), (9, .long (lN s1)), (8, .int (nI k)), (6, .long (lN cc)), (4, .long (lN mN)), (0, .ref m0), (1, .int (nI at0)), (2, .long v)]) hx hb d_Model_times_84 hl (by decide) rfl (fun ls hl => ?_)
          refine lv_lload hx hb d_Model_times_86 (lv_at hl 3 rfl) ?_
          refine lv_lload hx hb d_Model_times_88 (lv_at hl 0 rfl) ?_
          refine lv_ldc2 (v := lN 65535) hx hb hown (hts _ k_ldc_Model_51) d_Model_times_90 ?_
          refine xe_land (v := lN (pp % 65536)) hx hb d_Model_times_93 (wb_mask (k := 16) (by omega) (by decide)) ?_
          refine xn_ladd hx hb d_Model_times_94 ?_
          refine lv_lstore (lv' := [(9, .long (lN (s1 + (pp % 65536)))), (14, .long (lN pp)), (13, .int (nI j)), (11, .long (lN mo1)), (8, .int (nI k)), (6, .long (lN cc)), (4, .long (lN mN)), (0, .ref m0), (1, .int (nI at0)), (2, .long v)]) hx hb d_Model_times_95 hl (by decide) rfl (fun ls hl => ?_)
          refine lv_lload hx hb d_Model_times_97 (lv_at hl 3 rfl) ?_
          refine lv_lload hx hb d_Model_times_99 (lv_at hl 1 rfl) ?_
          refine lv_bipush (v := nI 16) hx hb d_Model_times_101 rfl ?_
          refine lv_lushr (v := lN (pp / 65536)) hx hb d_Model_times_103 (wb_shr (k := 16) (by omega) (by decide)) ?_
          refine xn_ladd hx hb d_Model_times_104 ?_
          refine lv_lstore (lv' := [(11, .long (lN (mo1 + (pp / 65536)))), (9, .long (lN (s1 + (pp % 65536)))), (14, .long (lN pp)), (13, .int (nI j)), (8, .int (nI k)), (6, .long (lN cc)), (4, .long (lN mN)), (0, .ref m0), (1, .int (nI at0)), (2, .long v)]) hx hb d_Model_times_105 hl (by decide) rfl (fun ls hl => ?_)
          refine lv_iinc (v := nI (j + 1)) (lv' := [(13, .int (nI (j + 1))), (11, .long (lN (mo1 + (pp / 65536)))), (9, .long (lN (s1 + (pp % 65536)))), (14, .long (lN pp)), (8, .int (nI k)), (6, .long (lN cc)), (4, .long (lN mN)), (0, .ref m0), (1, .int (nI at0)), (2, .long v)]) hx hb d_Model_times_107 hl (k := 3) rfl (nI_1 _) (by decide) rfl (fun ls hl => ?_)
          refine lv_goto (tgt := 45) hx hb d_Model_times_110 (by decide) ?_
          exact ih2 (j + 1) (s1 + pp % 65536) (mo1 + pp / 65536) (by omega) (by omega) (by rw [htp]; omega) (by omega) (by omega) (by omega) H locs hP hD hS ls (lv_sub hl [0, 1, 2, 4, 5, 6, 7, 8, 9] rfl)
      exact loop2 5 0 (cc % 65536) (cc / 65536) (Nat.zero_le _) (Nat.zero_le _) (by show _ = cc + 0; omega) (by omega) (by omega) (by omega) H locs hP hD hS ls (lv_sub hl [0, 1, 2, 3, 4, 5, 6, 7, 8] rfl)
  have mid : (True) → ∀ (H : Heap) (locs : List Loc), va_P (dC, dI) classes (mw m0 ma mS mt mo mb mg mh mr cA cJ er n sv a S ft fo fb fg fh fr) H → va_D A (mw m0 ma mS mt mo mb mg mh mr cA cJ er n sv a S ft fo fb fg fh fr) → va_S A s.heap H locs → ∀ (ls : Array Slot), lv_has ls 16 [(4, .long (lN mN)), (0, .ref m0), (1, .int (nI at0)), (2, .long v)] → W p l e (headSpec w_Model_times ({ frames := 1, cells := 0, slots := 0, locals := 22 })).room s m ([.ref m0, .int (nI at0), .long v] : List Value).toArray below meth c H locs 0 0 (MQ below (va_Qv (S := Nat → Nat) (fun u => (∀ i, u i < 65536) ∧ dg_v u 56 = tc (z * v.toInt)) (fun u t => va_P (dC, dI) classes (mw m0 ma mS mt mo mb mg mh mr cA cJ er n sv a S u fo fb fg fh fr) t.heap ∧ va_D A (mw m0 ma mS mt mo mb mg mh mr cA cJ er n sv a S u fo fb fg fh fr)) A) ([.ref m0, .int (nI at0), .long v] : List Value).toArray s 0 0 A) (F0 m 14 ls []) := by
    intro  _hh H locs hP hD hS ls hl
    refine lv_lconst (v := lN 0) hx hb d_Model_times_14 rfl ?_
    refine lv_lstore (lv' := [(6, .long (lN 0)), (4, .long (lN mN)), (0, .ref m0), (1, .int (nI at0)), (2, .long v)]) hx hb d_Model_times_15 hl (by decide) rfl (fun ls hl => ?_)
    refine lv_iconst (v := nI 0) hx hb d_Model_times_17 rfl ?_
    refine lv_istore (lv' := [(8, .int (nI 0)), (6, .long (lN 0)), (4, .long (lN mN)), (0, .ref m0), (1, .int (nI at0)), (2, .long v)]) hx hb d_Model_times_18 hl (by decide) rfl (fun ls hl => ?_)
    exact loop 57 0 0 ft (Nat.zero_le _) hft (Nat.zero_le _) (by show 0 + 0 * dg_p 0 = 0 + md mN 0 * (dg_p 0 * 0) + md mN 1 * (dg_p 1 * 0) + md mN 2 * (dg_p 2 * 0) + md mN 3 * (dg_p 3 * 0); simp) (by omega) H locs hP hD hS ls (lv_sub hl [0, 1, 2, 3, 4, 5] rfl)
  refine lv_lload_n hx hb d_Model_times_0 rfl (lv_at hl 2 rfl) ?_
  refine lv_lconst (v := lN 0) hx hb d_Model_times_1 rfl ?_
  refine W.lcmp hx hb d_Model_times_2 ?_
  refine lv_if_ge (tgt := 11) hx hb d_Model_times_3 (by decide) (fun hge => ?_) (fun hge => ?_)
  · have hy0 := (lg_ge0 v).mp hge
    refine lv_lload_n hx hb d_Model_times_11 rfl (lv_at hl 2 rfl) ?_
    refine lv_topl (fun v2 ev2 => ?_)
    rw [show v2 = lN mN by rw [ev2, ev, lZ_N]; congr 1; omega]
    refine lv_lstore (lv' := [(4, .long (lN mN)), (0, .ref m0), (1, .int (nI at0)), (2, .long v)]) hx hb d_Model_times_12 hl (by decide) rfl (fun ls hl => ?_)
    exact mid trivial s.heap [] hP hD hS ls (lv_sub hl [0, 1, 2, 3] rfl)
  have hy0 : y < 0 := by
    rcases Int.lt_or_le y 0 with q | q
    · exact q
    · exact absurd ((lg_ge0 v).mpr (by omega)) hge
  refine lv_lload_n hx hb d_Model_times_6 rfl (lv_at hl 2 rfl) ?_
  refine lv_lneg hx hb d_Model_times_7 ?_
  refine lv_topl (fun v2 ev2 => ?_)
  rw [show v2 = lN mN by rw [ev2, ev, lZ_neg, lZ_N]; congr 1; omega]
  refine lv_goto (tgt := 12) hx hb d_Model_times_8 (by decide) ?_
  refine lv_lstore (lv' := [(4, .long (lN mN)), (0, .ref m0), (1, .int (nI at0)), (2, .long v)]) hx hb d_Model_times_12 hl (by decide) rfl (fun ls hl => ?_)
  exact mid trivial s.heap [] hP hD hS ls (lv_sub hl [0, 1, 2, 3] rfl)
set_option maxHeartbeats 8000000 in
set_option maxRecDepth 100000 in
/-- add -/
theorem c_Model_add (l : Launch) (dC : Nat → ClassId) (dI : Nat → Nat → Nat) (sz : Nat) (m0 ma mS mt mo mb mg mh mr : Nat) (cA cJ : ClassId) (er : Int32) (n : Nat) (sv : Int32) (a : Nat → Int64) (S ft fo fb fg fh fr : Nat → Nat) (at0 : Nat) (b : Int32) (z y : Int) (hS0 : ∀ i, S i < 65536) (hft : ∀ i, ft i < 65536) (hat : at0 + 56 ≤ 458752) (hX : dg_v (fun j => S (at0 + j)) 56 = tc z) (hY : dg_v ft 56 = tc y) : Met l y_Model_add w_Model_add ({ frames := 1, cells := 0, slots := 0, locals := 22 }) (xc_W [.ref m0, .int (nI at0), .int b] dC dI (mw m0 ma mS mt mo mb mg mh mr cA cJ er n sv a S ft fo fb fg fh fr) [(cA, .int), (cJ, .long)] sz) (va_Qv (S := (Nat → Nat) × (Nat → Nat)) (fun u => (∀ i, u.1 i < 65536) ∧ (∀ i, u.2 i < 65536) ∧ dg_v (fun j => u.1 (at0 + j)) 56 = tc (if b = 0 then z + y else z - y) ∧ ∀ i, i < at0 ∨ at0 + 56 ≤ i → u.1 i = S i) (fun u t => va_P (dC, dI) classes (mw m0 ma mS mt mo mb mg mh mr cA cJ er n sv a u.1 u.2 fo fb fg fh fr) t.heap ∧ va_D (va_A (mw m0 ma mS mt mo mb mg mh mr cA cJ er n sv a S ft fo fb fg fh fr) sz) (mw m0 ma mS mt mo mb mg mh mr cA cJ er n sv a u.1 u.2 fo fb fg fh fr)) (va_A (mw m0 ma mS mt mo mb mg mh mr cA cJ er n sv a S ft fo fb fg fh fr) sz)) 0 0 (va_A (mw m0 ma mS mt mo mb mg mh mr cA cJ er n sv a S ft fo fb fg fh fr) sz) := by
  refine Met.ofW (cc := b_Model_add) (maxL := 5) (ret := none) (by decide) rfl ?_
  intro p e s m args below meth c s₁ B hml hv
  obtain ⟨rfl, hsz, hP, hK, hD0⟩ := hv
  have hx := B.exec
  have hb := B.bytes
  have hr := B.returns
  have hts : ∀ w ∈ gw_tbl, w.before ([.ref m0, .int (nI at0), .int b] : List Value).toArray s = true := fun w h => atoms_spec (ws := w_Model_add) B.pre w (List.mem_cons_of_mem _ h)
  have hown : s.vm.findClass R_Model = some m.cls := findClass_of_methodNamed B.named
  have hlocks := B.notSynchronized
  subst hsz
  have hD := hD0.self (sz := s.heap.size)
  generalize hAe : va_A (mw m0 ma mS mt mo mb mg mh mr cA cJ er n sv a S ft fo fb fg fh fr) s.heap.size = A at hD ⊢
  have hA : ∀ q : Nat, s.heap.size ≤ q → A q := fun q h => by rw [← hAe]; exact Or.inr h
  have hS : va_S A s.heap s.heap [] := va_S.rf
  have hl := lv_entry ([.ref m0, .int (nI at0), .int b]) (n := 5) (Nat.le_of_ble_eq_true rfl)
  rw [lg_entry_eq]
  generalize (lg_sl ([.ref m0, .int (nI at0), .int b]) ++ List.replicate (5 - (lg_sl ([.ref m0, .int (nI at0), .int b])).length) Slot.unset).toArray = ls at hl ⊢
  have hl : lv_has ls 5 [(0, .ref m0), (1, .int (nI at0)), (2, .int b)] := hl
  have loop : ∀ (n0 : Nat) (k cr : Nat) (F ft1 : Nat → Nat), (k ≤ 56) → (∀ i, F i < 65536) → (∀ i, ft1 i < 65536) → ((tc z + dg_v ft1 56) % dg_p 56 = tc (if b = 0 then z + y else z - y)) → (∀ i, i < at0 ∨ at0 + k ≤ i → F i = S i) → (cr ≤ 1) → (dg_v (fun j => F (at0 + j)) k + cr * dg_p k = dg_v (fun j => S (at0 + j)) k + dg_v ft1 k) → (57 ≤ k + n0) → ∀ (H : Heap) (locs : List Loc), va_P (dC, dI) classes (mw m0 ma mS mt mo mb mg mh mr cA cJ er n sv a F ft1 fo fb fg fh fr) H → va_D A (mw m0 ma mS mt mo mb mg mh mr cA cJ er n sv a F ft1 fo fb fg fh fr) → va_S A s.heap H locs → ∀ (ls : Array Slot), lv_has ls 5 [(4, .int (nI k)), (3, .int (nI cr)), (0, .ref m0), (1, .int (nI at0))] → W p l e (headSpec w_Model_add ({ frames := 1, cells := 0, slots := 0, locals := 22 })).room s m ([.ref m0, .int (nI at0), .int b] : List Value).toArray below meth c H locs 0 0 (MQ below (va_Qv (S := (Nat → Nat) × (Nat → Nat)) (fun u => (∀ i, u.1 i < 65536) ∧ (∀ i, u.2 i < 65536) ∧ dg_v (fun j => u.1 (at0 + j)) 56 = tc (if b = 0 then z + y else z - y) ∧ ∀ i, i < at0 ∨ at0 + 56 ≤ i → u.1 i = S i) (fun u t => va_P (dC, dI) classes (mw m0 ma mS mt mo mb mg mh mr cA cJ er n sv a u.1 u.2 fo fb fg fh fr) t.heap ∧ va_D A (mw m0 ma mS mt mo mb mg mh mr cA cJ er n sv a u.1 u.2 fo fb fg fh fr)) A) ([.ref m0, .int (nI at0), .int b] : List Value).toArray s 0 0 A) (F0 m 16 ls []) := by
    intro n0
    induction n0 with
    | zero => intro k cr F ft1 hk hF hf1 hfin hFx hcr hinv hn_; exact absurd hn_ (by omega)
    | succ n0 ih =>
      intro k cr F ft1 hk hF hf1 hfin hFx hcr hinv hn_ H locs hP hD hS ls hl
      refine lv_iload hx hb d_Model_add_16 (lv_at hl 0 rfl) ?_
      refine lv_bipush (v := nI 56) hx hb d_Model_add_18 rfl ?_
      refine xn_icmp_ge (tgt := 67) hx hb (by omega) (by omega) d_Model_add_20 (by decide) (fun hge => ?_) (fun hge => ?_)
      · have hk9 : k = 56 := by omega
        subst hk9
        have hpost : (∀ i, F i < 65536) ∧ (∀ i, ft1 i < 65536) ∧ dg_v (fun j => F (at0 + j)) 56 = tc (if b = 0 then z + y else z - y) ∧ ∀ i, i < at0 ∨ at0 + 56 ≤ i → F i = S i := ⟨hF, hf1, by rw [tm_fin hinv (dg_lt 56 (fun i _ => hF _)), hX]; exact hfin, fun i hi => hFx i (by omega)⟩
        exact W.vret hx hb hr (fun T_ ht_ hW_ => ⟨⟨(F, ft1), rfl, hpost, by show va_P (dC, dI) classes _ T_.heap; rw [ht_]; exact hP, hD⟩, hS.F ht_⟩) hS.2.2 d_Model_add_67
      have e0 : F (at0 + k) = S (at0 + k) := hFx _ (by omega)
      have b0 := hF (at0 + k)
      have b1 := hf1 k
      refine lv_iload_n hx hb d_Model_add_23 rfl (lv_at hl 1 rfl) ?_
      refine lv_aload_n hx hb d_Model_add_24 rfl (lv_at hl 2 rfl) ?_
      refine va_get (D := (dC, dI)) (ci := 3) (v := .ref mS) (C := R_Model) (T := F_Model) (N := 11) hx hb hts i_Model hown hK hP 0 rfl rfl 4 (by decide) (hts _ k_fl_Model_14) (fun _ h9 => h9) rfl d_Model_add_25 ?_
      refine lv_iload_n hx hb d_Model_add_28 rfl (lv_at hl 3 rfl) ?_
      refine lv_iload hx hb d_Model_add_29 (lv_at hl 0 rfl) ?_
      refine xn_iadd hx hb d_Model_add_31 ?_
      refine xn_iald hx hb hK hP 2 0 rfl rfl (i := at0 + k) (by omega) (by omega) d_Model_add_32 ?_
      refine lv_aload_n hx hb d_Model_add_33 rfl (lv_at hl 2 rfl) ?_
      refine va_get (D := (dC, dI)) (ci := 3) (v := .ref mt) (C := R_Model) (T := F_Model) (N := 11) hx hb hts i_Model hown hK hP 0 rfl rfl 5 (by decide) (hts _ k_fl_Model_18) (fun _ h9 => h9) rfl d_Model_add_34 ?_
      refine lv_iload hx hb d_Model_add_37 (lv_at hl 0 rfl) ?_
      refine xn_iald hx hb hK hP 3 0 rfl rfl (i := k) (by omega) (by omega) d_Model_add_39 ?_
      refine xn_iadd hx hb d_Model_add_40 ?_
      obtain ⟨w, ew⟩ : ∃ w, w = cr + (F (at0 + k) + ft1 k) := ⟨_, rfl⟩
      refine xe_iadd (v := nI w) hx hb d_Model_add_41 (by rw [ew]; exact nI_add _ _) ?_
      refine lv_istore_n (lv' := [(3, .int (nI w)), (4, .int (nI k)), (0, .ref m0), (1, .int (nI at0))]) hx hb d_Model_add_42 rfl hl (by decide) rfl (fun ls hl => ?_)
      refine lv_aload_n hx hb d_Model_add_43 rfl (lv_at hl 2 rfl) ?_
      refine va_get (D := (dC, dI)) (ci := 3) (v := .ref mS) (C := R_Model) (T := F_Model) (N := 11) hx hb hts i_Model hown hK hP 0 rfl rfl 4 (by decide) (hts _ k_fl_Model_14) (fun _ h9 => h9) rfl d_Model_add_44 ?_
      refine lv_iload_n hx hb d_Model_add_47 rfl (lv_at hl 3 rfl) ?_
      refine lv_iload hx hb d_Model_add_48 (lv_at hl 1 rfl) ?_
      refine xn_iadd hx hb d_Model_add_50 ?_
      refine lv_iload_n hx hb d_Model_add_51 rfl (lv_at hl 0 rfl) ?_
      refine lv_ldc (v := nI 65535) hx hb hown (hts _ k_ldc_Model_57) d_Model_add_52 ?_
      refine xe_iand (v := nI (w % 65536)) hx hb d_Model_add_54 (nI_16 (by omega)) ?_
      refine xn_iast hx hb hK hP hD hS 2 0 rfl rfl (i := at0 + k) (x := w % 65536) (by omega) (by omega) d_Model_add_55 (fun H locs hP hD hS => ?_)
      have hP : va_P (dC, dI) classes (mw m0 ma mS mt mo mb mg mh mr cA cJ er n sv a (va_up F (at0 + k) (w % 65536)) ft1 fo fb fg fh fr) H := hP
      have hD : va_D A (mw m0 ma mS mt mo mb mg mh mr cA cJ er n sv a (va_up F (at0 + k) (w % 65536)) ft1 fo fb fg fh fr) := hD
      refine lv_iload_n hx hb d_Model_add_56 rfl (lv_at hl 0 rfl) ?_
      refine lv_bipush (v := nI 16) hx hb d_Model_add_57 rfl ?_
      refine xe_ishr (v := nI (w / 65536)) hx hb d_Model_add_59 (nI_shr (k := 16) (by omega) (by decide)) ?_
      refine lv_istore_n (lv' := [(3, .int (nI (w / 65536))), (4, .int (nI k)), (0, .ref m0), (1, .int (nI at0))]) hx hb d_Model_add_60 rfl hl (by decide) rfl (fun ls hl => ?_)
      refine lv_iinc (v := nI (k + 1)) (lv' := [(4, .int (nI (k + 1))), (3, .int (nI (w / 65536))), (0, .ref m0), (1, .int (nI at0))]) hx hb d_Model_add_61 hl (k := 1) rfl (nI_1 _) (by decide) rfl (fun ls hl => ?_)
      refine lv_goto (tgt := 16) hx hb d_Model_add_64 (by decide) ?_
      exact ih (k + 1) (w / 65536) (va_up F (at0 + k) (w % 65536)) ft1 (by omega) (va_up_lt hF (by omega)) hf1 hfin (fun i hi => by rw [va_up_ne _ _ (by omega)]; exact hFx i (by omega)) (by omega) (by
                have e9 : dg_v (fun j => va_up F (at0 + k) (w % 65536) (at0 + j)) (k + 1) = dg_v (fun j => F (at0 + j)) k + w % 65536 * dg_p k := by
                  rw [dg_v1, dg_congr k (fun i hi => va_up_ne (j := at0 + i) (k := at0 + k) F (w % 65536) (by omega)), va_up_self]
                rw [e9, dg_v1, dg_v1, dg_p1, ← e0]
                have h9 := tm_inv (t := w % 65536) (c' := w / 65536) (pp := F (at0 + k) + ft1 k) hinv (by omega)
                rw [h9, Nat.add_mul]
                omega) (by omega) H locs hP hD hS ls (lv_sub hl [0, 1, 2, 3] rfl)
  refine lv_iload_n hx hb d_Model_add_0 rfl (lv_at hl 2 rfl) ?_
  refine lv_if_eq (tgt := 11) hx hb d_Model_add_1 (by decide) (fun hb0 => ?_) (fun hb0 => ?_)
  · refine lv_iconst (v := nI 0) hx hb d_Model_add_11 rfl ?_
    refine lv_istore_n (lv' := [(3, .int (nI 0)), (0, .ref m0), (1, .int (nI at0)), (2, .int b)]) hx hb d_Model_add_12 rfl hl (by decide) rfl (fun ls hl => ?_)
    refine lv_iconst (v := nI 0) hx hb d_Model_add_13 rfl ?_
    refine lv_istore (lv' := [(4, .int (nI 0)), (3, .int (nI 0)), (0, .ref m0), (1, .int (nI at0)), (2, .int b)]) hx hb d_Model_add_14 hl (by decide) rfl (fun ls hl => ?_)
    exact loop 57 0 0 S ft (Nat.zero_le _) hS0 hft (by rw [if_pos hb0, hY, tc_add]) (fun _ _ => rfl) (Nat.zero_le _) rfl (by omega) s.heap [] hP hD hS ls (lv_sub hl [0, 1, 2, 3] rfl)
  refine lv_aload_n hx hb d_Model_add_4 rfl (lv_at hl 0 rfl) ?_
  refine va_get (D := (dC, dI)) (ci := 3) (v := .ref mt) (C := R_Model) (T := F_Model) (N := 11) hx hb hts i_Model hown hK hP 0 rfl rfl 5 (by decide) (hts _ k_fl_Model_18) (fun _ h9 => h9) rfl d_Model_add_5 ?_
  have hFc := va_free (wc := [(mt, .inl (cA, 56, .inl (xn_f ft)))]) hD hS hA [3] rfl
  refine va_callv (va_runS (As := [.ref mt]) (rest := []) ⟨hx, hb, hml, hown, hts⟩ (c_Model_turn l dC dI s.heap.size cA mt ft hft) (cwS 1 hts (gw_S k_ml_Model_53 k_st_Model_turn k_ini_Model k_code_Model_turn) rfl rfl rfl (by decide +kernel) ⟨Nat.le_of_ble_eq_true rfl, Nat.le_of_ble_eq_true rfl⟩) ⟨xc_W_blind, fun U hU hW => ⟨rfl, by rw [hU], by rw [hU]; exact hP.sub (ws' := [(mt, .inl (cA, 56, .inl (xn_f ft)))]) [3] rfl, va_K.moved hW.alike (hK.sub (tys' := [(cA, .int)]) [0] rfl), (hD.sub (ws' := [(mt, .inl (cA, 56, .inl (xn_f ft)))]) [3] (by decide) rfl).weaken (fun _ _ _ _ => trivial)⟩⟩ rfl rfl hl.1 rfl (lv_room (Nat.le_of_ble_eq_true rfl)) d_Model_add_8 ⟨Nat.zero_le _, Nat.zero_le _⟩) hS (fun q _ h => hFc q h) hFc (fun u t_ H locs ht_ hvm_ w1 hB hz1 hk1 hS => ?_)
  obtain ⟨F2, e_F2⟩ : ∃ z, z = u := ⟨u, rfl⟩
  rw [← e_F2] at w1 hB
  rw [ht_] at hB
  obtain ⟨hP, hD⟩ := xj_1 3 hP hD rfl hk1 hB
  have hP : va_P (dC, dI) classes (mw m0 ma mS mt mo mb mg mh mr cA cJ er n sv a S F2 fo fb fg fh fr) H := hP
  have hD : va_D A (mw m0 ma mS mt mo mb mg mh mr cA cJ er n sv a S F2 fo fb fg fh fr) := hD
  refine lv_iconst (v := nI 0) hx hb d_Model_add_11 rfl ?_
  refine lv_istore_n (lv' := [(3, .int (nI 0)), (0, .ref m0), (1, .int (nI at0)), (2, .int b)]) hx hb d_Model_add_12 rfl hl (by decide) rfl (fun ls hl => ?_)
  refine lv_iconst (v := nI 0) hx hb d_Model_add_13 rfl ?_
  refine lv_istore (lv' := [(4, .int (nI 0)), (3, .int (nI 0)), (0, .ref m0), (1, .int (nI at0)), (2, .int b)]) hx hb d_Model_add_14 hl (by decide) rfl (fun ls hl => ?_)
  exact loop 57 0 0 S F2 (Nat.zero_le _) hS0 w1.1 (by rw [if_neg hb0, w1.2, hY, tc_sub]) (fun _ _ => rfl) (Nat.zero_le _) rfl (by omega) H locs hP hD hS ls (lv_sub hl [0, 1, 2, 3] rfl)
