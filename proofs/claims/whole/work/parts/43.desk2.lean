set_option maxHeartbeats 8000000 in
set_option maxRecDepth 100000 in
/-- swapRows -/
theorem c_Desk_swapRows (l : Launch) (dC : Nat → ClassId) (dI : Nat → Nat → Nat) (sz : Nat) (x0 gv cl d0 h0d q0d h0u q0u h0e q0e h0p q0p h0q q0q h0o q0o h0r q0r : Nat) (cA cJ cW : ClassId) (n : Nat) (sv : Int32) (a : Nat → Int64) (lend : Nat) (fd : Nat → Nat) (sgd : Int32) (lenu : Nat) (fu : Nat → Nat) (sgu : Int32) (lene : Nat) (fe : Nat → Nat) (sge : Int32) (lenp : Nat) (fp : Nat → Nat) (sgp : Int32) (lenq : Nat) (fq : Nat → Nat) (sgq : Int32) (leno : Nat) (fo : Nat → Nat) (sgo : Int32) (lenr : Nat) (fr : Nat → Nat) (sgr : Int32) (tw iv : Nat) (hw qw : Nat → Nat) (gg : Nat → Nat → Nat) (ln : Nat → Nat) (sn : Nat → Int32) (rw k : Nat) (hn : n ≤ 12) (hk : k < n) (hr0 : rw < n) (hne : k < rw) (hok : wk gg ln sn) : Met l y_Desk_swapRows w_Desk_swapRows ({ frames := 1, cells := 0, slots := 0, locals := 21 }) (xc_W [.ref x0, .int (nI rw), .int (nI k)] dC dI (dw x0 gv cl d0 h0d q0d h0u q0u h0e q0e h0p q0p h0q q0q h0o q0o h0r q0r cA cJ cW n sv a lend fd sgd lenu fu sgu lene fe sge lenp fp sgp lenq fq sgq leno fo sgo lenr fr sgr tw iv hw qw gg ln sn) [(cA, .int), (cJ, .long), (cW, .object "EquationDesk$Whole")] sz) (va_Qv (S := (Nat → Nat) × (Nat → Nat) × (Nat → Nat → Nat) × (Nat → Nat) × (Nat → Int32)) (fun u => wk u.2.2.1 u.2.2.2.1 u.2.2.2.2 ∧ (∀ j, k ≤ j → j ≤ n → wz u.2.2.1 u.2.2.2.1 u.2.2.2.2 (k * 13 + j) = wz gg ln sn (rw * 13 + j) ∧ wz u.2.2.1 u.2.2.2.1 u.2.2.2.2 (rw * 13 + j) = - wz gg ln sn (k * 13 + j)) ∧ (∀ i j, i ≠ k → i ≠ rw → j ≤ n → wz u.2.2.1 u.2.2.2.1 u.2.2.2.2 (i * 13 + j) = wz gg ln sn (i * 13 + j))) (fun u t => va_P (dC, dI) classes (dw x0 gv cl d0 h0d q0d h0u q0u h0e q0e h0p q0p h0q q0q h0o q0o h0r q0r cA cJ cW n sv a lend fd sgd lenu fu sgu lene fe sge lenp fp sgp lenq fq sgq leno fo sgo lenr fr sgr tw iv u.1 u.2.1 u.2.2.1 u.2.2.2.1 u.2.2.2.2) t.heap ∧ va_D (va_A (dw x0 gv cl d0 h0d q0d h0u q0u h0e q0e h0p q0p h0q q0q h0o q0o h0r q0r cA cJ cW n sv a lend fd sgd lenu fu sgu lene fe sge lenp fp sgp lenq fq sgq leno fo sgo lenr fr sgr tw iv hw qw gg ln sn) sz) (dw x0 gv cl d0 h0d q0d h0u q0u h0e q0e h0p q0p h0q q0q h0o q0o h0r q0r cA cJ cW n sv a lend fd sgd lenu fu sgu lene fe sge lenp fp sgp lenq fq sgq leno fo sgo lenr fr sgr tw iv u.1 u.2.1 u.2.2.1 u.2.2.2.1 u.2.2.2.2)) (va_A (dw x0 gv cl d0 h0d q0d h0u q0u h0e q0e h0p q0p h0q q0q h0o q0o h0r q0r cA cJ cW n sv a lend fd sgd lenu fu sgu lene fe sge lenp fp sgp lenq fq sgq leno fo sgo lenr fr sgr tw iv hw qw gg ln sn) sz)) 0 0 (va_A (dw x0 gv cl d0 h0d q0d h0u q0u h0e q0e h0p q0p h0q q0q h0o q0o h0r q0r cA cJ cW n sv a lend fd sgd lenu fu sgu lene fe sge lenp fp sgp lenq fq sgq leno fo sgo lenr fr sgr tw iv hw qw gg ln sn) sz) := by
  refine Met.ofW (cc := b_Desk_swapRows) (maxL := 5) (ret := none) (by decide) rfl ?_
  intro p e s m args below meth c s₁ B hml hv
  obtain ⟨rfl, hsz, hP, hK, hD0⟩ := hv
  have hx := B.exec
  have hb := B.bytes
  have hr := B.returns
  have hts : ∀ w ∈ gw_tbl, w.before ([.ref x0, .int (nI rw), .int (nI k)] : List Value).toArray s = true := fun w h => atoms_spec (ws := w_Desk_swapRows) B.pre w (List.mem_cons_of_mem _ h)
  have hown : s.vm.findClass R_Desk = some m.cls := findClass_of_methodNamed B.named
  have hlocks := B.notSynchronized
  subst hsz
  have hD := hD0.self (sz := s.heap.size)
  generalize hAe : va_A (dw x0 gv cl d0 h0d q0d h0u q0u h0e q0e h0p q0p h0q q0q h0o q0o h0r q0r cA cJ cW n sv a lend fd sgd lenu fu sgu lene fe sge lenp fp sgp lenq fq sgq leno fo sgo lenr fr sgr tw iv hw qw gg ln sn) s.heap.size = A at hD ⊢
  have hA : ∀ q : Nat, s.heap.size ≤ q → A q := fun q h => by rw [← hAe]; exact Or.inr h
  have hS : va_S A s.heap s.heap [] := va_S.rf
  have hl := lv_entry ([.ref x0, .int (nI rw), .int (nI k)]) (n := 5) (Nat.le_of_ble_eq_true rfl)
  rw [lg_entry_eq]
  generalize (lg_sl ([.ref x0, .int (nI rw), .int (nI k)]) ++ List.replicate (5 - (lg_sl ([.ref x0, .int (nI rw), .int (nI k)])).length) Slot.unset).toArray = ls at hl ⊢
  have hl : lv_has ls 5 [(0, .ref x0), (1, .int (nI rw)), (2, .int (nI k))] := hl
  refine lv_iload_n hx hb d_Desk_swapRows_0 rfl (lv_at hl 2 rfl) ?_
  refine lv_istore_n (lv' := [(3, .int (nI k)), (0, .ref x0), (1, .int (nI rw)), (2, .int (nI k))]) hx hb d_Desk_swapRows_1 rfl hl (by decide) rfl (fun ls hl => ?_)
  have loop : ∀ (n0 : Nat) (j : Nat) (hw1 qw1 : Nat → Nat) (g1 : Nat → Nat → Nat) (l1 : Nat → Nat) (s1 : Nat → Int32), (k ≤ j) → (j ≤ n + 1) → (wk g1 l1 s1) → (∀ j2, k ≤ j2 → j2 < j → wz g1 l1 s1 (k * 13 + j2) = wz gg ln sn (rw * 13 + j2) ∧ wz g1 l1 s1 (rw * 13 + j2) = - wz gg ln sn (k * 13 + j2)) → (∀ i2 j2, i2 ≠ k → i2 ≠ rw → j2 ≤ n → wz g1 l1 s1 (i2 * 13 + j2) = wz gg ln sn (i2 * 13 + j2)) → (∀ p, (∀ j2, k ≤ j2 → j2 < j → p ≠ k * 13 + j2 ∧ p ≠ rw * 13 + j2) → wz g1 l1 s1 p = wz gg ln sn p) → (n + 2 ≤ j + n0) → ∀ (H : Heap) (locs : List Loc), va_P (dC, dI) classes (dw x0 gv cl d0 h0d q0d h0u q0u h0e q0e h0p q0p h0q q0q h0o q0o h0r q0r cA cJ cW n sv a lend fd sgd lenu fu sgu lene fe sge lenp fp sgp lenq fq sgq leno fo sgo lenr fr sgr tw iv hw1 qw1 g1 l1 s1) H → va_D A (dw x0 gv cl d0 h0d q0d h0u q0u h0e q0e h0p q0p h0q q0q h0o q0o h0r q0r cA cJ cW n sv a lend fd sgd lenu fu sgu lene fe sge lenp fp sgp lenq fq sgq leno fo sgo lenr fr sgr tw iv hw1 qw1 g1 l1 s1) → va_S A s.heap H locs → ∀ (ls : Array Slot), lv_has ls 5 [(3, .int (nI j)), (0, .ref x0), (1, .int (nI rw)), (2, .int (nI k))] → W p l e (headSpec w_Desk_swapRows ({ frames := 1, cells := 0, slots := 0, locals := 21 })).room s m ([.ref x0, .int (nI rw), .int (nI k)] : List Value).toArray below meth c H locs 0 0 (MQ below (va_Qv (S := (Nat → Nat) × (Nat → Nat) × (Nat → Nat → Nat) × (Nat → Nat) × (Nat → Int32)) (fun u => wk u.2.2.1 u.2.2.2.1 u.2.2.2.2 ∧ (∀ j, k ≤ j → j ≤ n → wz u.2.2.1 u.2.2.2.1 u.2.2.2.2 (k * 13 + j) = wz gg ln sn (rw * 13 + j) ∧ wz u.2.2.1 u.2.2.2.1 u.2.2.2.2 (rw * 13 + j) = - wz gg ln sn (k * 13 + j)) ∧ (∀ i j, i ≠ k → i ≠ rw → j ≤ n → wz u.2.2.1 u.2.2.2.1 u.2.2.2.2 (i * 13 + j) = wz gg ln sn (i * 13 + j))) (fun u t => va_P (dC, dI) classes (dw x0 gv cl d0 h0d q0d h0u q0u h0e q0e h0p q0p h0q q0q h0o q0o h0r q0r cA cJ cW n sv a lend fd sgd lenu fu sgu lene fe sge lenp fp sgp lenq fq sgq leno fo sgo lenr fr sgr tw iv u.1 u.2.1 u.2.2.1 u.2.2.2.1 u.2.2.2.2) t.heap ∧ va_D A (dw x0 gv cl d0 h0d q0d h0u q0u h0e q0e h0p q0p h0q q0q h0o q0o h0r q0r cA cJ cW n sv a lend fd sgd lenu fu sgu lene fe sge lenp fp sgp lenq fq sgq leno fo sgo lenr fr sgr tw iv u.1 u.2.1 u.2.2.1 u.2.2.2.1 u.2.2.2.2)) A) ([.ref x0, .int (nI rw), .int (nI k)] : List Value).toArray s 0 0 A) (F0 m 2 ls []) := by
    intro n0
    induction n0 with
    | zero => intro j hw1 qw1 g1 l1 s1 hj hj2 ho1 hsw hun hfr hn_; exact absurd hn_ (by omega)
    | succ n0 ih =>
      intro j hw1 qw1 g1 l1 s1 hj hj2 ho1 hsw hun hfr hn_ H locs hP hD hS ls hl
      refine lv_iload_n hx hb d_Desk_swapRows_2 rfl (lv_at hl 0 rfl) ?_
      refine lv_aload_n hx hb d_Desk_swapRows_3 rfl (lv_at hl 1 rfl) ?_
      refine va_get (D := (dC, dI)) (ci := 0) (v := .int (nI n)) (C := R_Desk) (T := F_Desk) (N := 10) hx hb hts i_Desk hown hK hP 0 rfl rfl 1 (by decide) (hts _ k_fl_Desk_13) (fun _ h9 => h9) rfl d_Desk_swapRows_4 ?_
      refine xn_icmp_gt (tgt := 71) hx hb (by omega) (by omega) d_Desk_swapRows_7 (by decide) (fun hgt => ?_) (fun hgt => ?_)
      · exact W.vret hx hb hr (fun T_ ht_ hW_ => ⟨⟨(hw1, qw1, g1, l1, s1), rfl, ⟨ho1, fun j2 h1 h2 => hsw j2 h1 (by omega), fun i2 j2 h1 h2 h3 => hun i2 j2 h1 h2 h3⟩, by show va_P (dC, dI) classes _ T_.heap; rw [ht_]; exact hP, hD⟩, hS.F ht_⟩) hS.2.2 d_Desk_swapRows_71
      obtain ⟨ca, eca⟩ : ∃ ca, ca = k * 13 + j := ⟨_, rfl⟩
      obtain ⟨cb, ecb⟩ : ∃ cb, cb = rw * 13 + j := ⟨_, rfl⟩
      have hca : ca < 156 := by omega
      have hcb : cb < 156 := by omega
      have hab : ca ≠ cb := by omega
      refine lv_aload_n hx hb d_Desk_swapRows_10 rfl (lv_at hl 1 rfl) ?_
      refine va_get (D := (dC, dI)) (ci := 0) (v := .ref cl) (C := R_Desk) (T := F_Desk) (N := 10) hx hb hts i_Desk hown hK hP 0 rfl rfl 3 (by decide) (hts _ k_fl_Desk_23) (fun _ h9 => h9) rfl d_Desk_swapRows_11 ?_
      refine lv_iload_n hx hb d_Desk_swapRows_14 rfl (lv_at hl 3 rfl) ?_
      refine lv_iload_n hx hb d_Desk_swapRows_15 rfl (lv_at hl 0 rfl) ?_
      refine vp_callSi (W.runS (As := [.int (nI k), .int (nI j)]) (rest := [.ref cl]) ⟨hx, hb, hml, hown, hts⟩ (c_Desk_cellIndex l dC dI k j) (cwS 2 hts (gw_S k_ml_Desk_63 k_st_Desk_cellIndex k_ini_Desk k_code_Desk_cellIndex) rfl rfl rfl (by decide +kernel) ⟨Nat.le_of_ble_eq_true rfl, Nat.le_of_ble_eq_true rfl⟩) ⟨xc_R_blind, fun U hU hW => ⟨rfl, by rw [hU]; exact hP.sub (ws' := []) [] rfl, va_K.moved hW.alike (hK.sub (tys' := []) [] rfl)⟩⟩ rfl rfl hl.1 rfl (lv_room (Nat.le_of_ble_eq_true rfl)) d_Desk_swapRows_16 ⟨Nat.zero_le _, Nat.zero_le _⟩) (fun r_ e_r => ?_)
      subst e_r
      rw [← eca]
      refine xn_aald hx hb hK hP 2 2 rfl rfl (i := ca) (b := hw1 ca) rfl hca (by decide) d_Desk_swapRows_19 ?_
      refine lv_astore (lv' := [(4, .ref (hw1 ca)), (3, .int (nI j)), (0, .ref x0), (1, .int (nI rw)), (2, .int (nI k))]) hx hb d_Desk_swapRows_20 hl (by decide) rfl (fun ls hl => ?_)
      refine lv_aload_n hx hb d_Desk_swapRows_22 rfl (lv_at hl 2 rfl) ?_
      refine va_get (D := (dC, dI)) (ci := 0) (v := .ref cl) (C := R_Desk) (T := F_Desk) (N := 10) hx hb hts i_Desk hown hK hP 0 rfl rfl 3 (by decide) (hts _ k_fl_Desk_23) (fun _ h9 => h9) rfl d_Desk_swapRows_23 ?_
      refine lv_iload_n hx hb d_Desk_swapRows_26 rfl (lv_at hl 4 rfl) ?_
      refine lv_iload_n hx hb d_Desk_swapRows_27 rfl (lv_at hl 1 rfl) ?_
      refine vp_callSi (W.runS (As := [.int (nI k), .int (nI j)]) (rest := [.ref cl]) ⟨hx, hb, hml, hown, hts⟩ (c_Desk_cellIndex l dC dI k j) (cwS 2 hts (gw_S k_ml_Desk_63 k_st_Desk_cellIndex k_ini_Desk k_code_Desk_cellIndex) rfl rfl rfl (by decide +kernel) ⟨Nat.le_of_ble_eq_true rfl, Nat.le_of_ble_eq_true rfl⟩) ⟨xc_R_blind, fun U hU hW => ⟨rfl, by rw [hU]; exact hP.sub (ws' := []) [] rfl, va_K.moved hW.alike (hK.sub (tys' := []) [] rfl)⟩⟩ rfl rfl hl.1 rfl (lv_room (Nat.le_of_ble_eq_true rfl)) d_Desk_swapRows_28 ⟨Nat.zero_le _, Nat.zero_le _⟩) (fun r_ e_r => ?_)
      subst e_r
      rw [← eca]
      refine lv_aload_n hx hb d_Desk_swapRows_31 rfl (lv_at hl 2 rfl) ?_
      refine va_get (D := (dC, dI)) (ci := 0) (v := .ref cl) (C := R_Desk) (T := F_Desk) (N := 10) hx hb hts i_Desk hown hK hP 0 rfl rfl 3 (by decide) (hts _ k_fl_Desk_23) (fun _ h9 => h9) rfl d_Desk_swapRows_32 ?_
      refine lv_iload_n hx hb d_Desk_swapRows_35 rfl (lv_at hl 3 rfl) ?_
      refine lv_iload_n hx hb d_Desk_swapRows_36 rfl (lv_at hl 1 rfl) ?_
      refine vp_callSi (W.runS (As := [.int (nI rw), .int (nI j)]) (rest := [.ref cl, .int (nI ca), .ref cl]) ⟨hx, hb, hml, hown, hts⟩ (c_Desk_cellIndex l dC dI rw j) (cwS 2 hts (gw_S k_ml_Desk_63 k_st_Desk_cellIndex k_ini_Desk k_code_Desk_cellIndex) rfl rfl rfl (by decide +kernel) ⟨Nat.le_of_ble_eq_true rfl, Nat.le_of_ble_eq_true rfl⟩) ⟨xc_R_blind, fun U hU hW => ⟨rfl, by rw [hU]; exact hP.sub (ws' := []) [] rfl, va_K.moved hW.alike (hK.sub (tys' := []) [] rfl)⟩⟩ rfl rfl hl.1 rfl (lv_room (Nat.le_of_ble_eq_true rfl)) d_Desk_swapRows_37 ⟨Nat.zero_le _, Nat.zero_le _⟩) (fun r_ e_r => ?_)
      subst e_r
      rw [← ecb]
      refine xn_aald hx hb hK hP 2 2 rfl rfl (i := cb) (b := hw1 cb) rfl hcb (by decide) d_Desk_swapRows_40 ?_
      refine xn_aast hx hb hK hP hD hS 2 2 (18 + 2 * cb) 1 (r := (R_Whole, F_Whole, 3)) rfl rfl (cw_w rfl hcb) rfl (i := ca) (by omega) (by decide) d_Desk_swapRows_41 (fun H locs hP hD hS => ?_)
      have hP : va_P (dC, dI) classes (dx x0 gv cl d0 h0d q0d h0u q0u h0e q0e h0p q0p h0q q0q h0o q0o h0r q0r cA cJ cW n sv a lend fd sgd lenu fu sgu lene fe sge lenp fp sgp lenq fq sgq leno fo sgo lenr fr sgr tw iv (va_up (fun j => some (hw1 j)) ca (some (hw1 cb))) ++ cw (cf cA hw1 qw1 g1 l1 s1)) H := hP
      have hD : va_D A (dx x0 gv cl d0 h0d q0d h0u q0u h0e q0e h0p q0p h0q q0q h0o q0o h0r q0r cA cJ cW n sv a lend fd sgd lenu fu sgu lene fe sge lenp fp sgp lenq fq sgq leno fo sgo lenr fr sgr tw iv (va_up (fun j => some (hw1 j)) ca (some (hw1 cb))) ++ cw (cf cA hw1 qw1 g1 l1 s1)) := hD
      refine lv_aload_n hx hb d_Desk_swapRows_42 rfl (lv_at hl 2 rfl) ?_
      refine va_get (D := (dC, dI)) (ci := 0) (v := .ref cl) (C := R_Desk) (T := F_Desk) (N := 10) hx hb hts i_Desk hown hK hP 0 rfl rfl 3 (by decide) (hts _ k_fl_Desk_23) (fun _ h9 => h9) rfl d_Desk_swapRows_43 ?_
      refine lv_iload_n hx hb d_Desk_swapRows_46 rfl (lv_at hl 3 rfl) ?_
      refine lv_iload_n hx hb d_Desk_swapRows_47 rfl (lv_at hl 1 rfl) ?_
      refine vp_callSi (W.runS (As := [.int (nI rw), .int (nI j)]) (rest := [.ref cl]) ⟨hx, hb, hml, hown, hts⟩ (c_Desk_cellIndex l dC dI rw j) (cwS 2 hts (gw_S k_ml_Desk_63 k_st_Desk_cellIndex k_ini_Desk k_code_Desk_cellIndex) rfl rfl rfl (by decide +kernel) ⟨Nat.le_of_ble_eq_true rfl, Nat.le_of_ble_eq_true rfl⟩) ⟨xc_R_blind, fun U hU hW => ⟨rfl, by rw [hU]; exact hP.sub (ws' := []) [] rfl, va_K.moved hW.alike (hK.sub (tys' := []) [] rfl)⟩⟩ rfl rfl hl.1 rfl (lv_room (Nat.le_of_ble_eq_true rfl)) d_Desk_swapRows_48 ⟨Nat.zero_le _, Nat.zero_le _⟩) (fun r_ e_r => ?_)
      subst e_r
      rw [← ecb]
      refine lv_aload hx hb d_Desk_swapRows_51 (lv_at hl 0 rfl) ?_
      refine xn_aast hx hb hK hP hD hS 2 2 (18 + 2 * ca) 1 (r := (R_Whole, F_Whole, 3)) rfl rfl (cw_w rfl hca) rfl (i := cb) (by omega) (by decide) d_Desk_swapRows_53 (fun H locs hP hD hS => ?_)
      have hP : va_P (dC, dI) classes (dx x0 gv cl d0 h0d q0d h0u q0u h0e q0e h0p q0p h0q q0q h0o q0o h0r q0r cA cJ cW n sv a lend fd sgd lenu fu sgu lene fe sge lenp fp sgp lenq fq sgq leno fo sgo lenr fr sgr tw iv (va_up (va_up (fun j => some (hw1 j)) ca (some (hw1 cb))) cb (some (hw1 ca))) ++ cw (cf cA hw1 qw1 g1 l1 s1)) H := hP
      have hD : va_D A (dx x0 gv cl d0 h0d q0d h0u q0u h0e q0e h0p q0p h0q q0q h0o q0o h0r q0r cA cJ cW n sv a lend fd sgd lenu fu sgu lene fe sge lenp fp sgp lenq fq sgq leno fo sgo lenr fr sgr tw iv (va_up (va_up (fun j => some (hw1 j)) ca (some (hw1 cb))) cb (some (hw1 ca))) ++ cw (cf cA hw1 qw1 g1 l1 s1)) := hD
      refine lv_aload hx hb d_Desk_swapRows_54 (lv_at hl 0 rfl) ?_
      refine lv_aload hx hb d_Desk_swapRows_56 (lv_at hl 0 rfl) ?_
      refine va_get (D := (dC, dI)) (ci := 1) (v := .int (s1 ca)) (C := R_Whole) (T := F_Whole) (N := 3) hx hb hts i_Whole hown hK hP (18 + 2 * ca) (cw_w rfl hca) rfl 2 (by decide) (hts _ k_fl_Desk_85) (fun _ h9 => h9) rfl d_Desk_swapRows_58 ?_
      refine xn_ineg (v := -(s1 ca)) hx hb d_Desk_swapRows_61 rfl ?_
      refine va_put (D := (dC, dI)) (ci := 1) (v := .int (-(s1 ca))) (ty := .int) (C := R_Whole) (T := F_Whole) (N := 3) hx hb hts i_Whole t_Whole t_Whole_ok n_Whole hown hK hP hD hS (18 + 2 * ca) (cw_w rfl hca) rfl 2 (by decide) (hts _ k_fl_Desk_85) (fun _ h9 => h9) rfl (by decide +kernel) rfl rfl (Nat.le_of_ble_eq_true rfl) d_Desk_swapRows_62 (fun H locs hP hD hS => ?_)
      have h8 : va_P (dC, dI) classes ((dx x0 gv cl d0 h0d q0d h0u q0u h0e q0e h0p q0p h0q q0q h0o q0o h0r q0r cA cJ cW n sv a lend fd sgd lenu fu sgu lene fe sge lenp fp sgp lenq fq sgq leno fo sgo lenr fr sgr tw iv (va_up (va_up (fun j => some (hw1 j)) ca (some (hw1 cb))) cb (some (hw1 ca))) ++ cw (cf cA hw1 qw1 g1 l1 s1)).set (18 + 2 * ca) (hw1 ca, .inr (1, [.ref (qw1 ca), .int (nI (l1 ca)), .int (-(s1 ca))]))) H := hP
      have h9 : va_D A ((dx x0 gv cl d0 h0d q0d h0u q0u h0e q0e h0p q0p h0q q0q h0o q0o h0r q0r cA cJ cW n sv a lend fd sgd lenu fu sgu lene fe sge lenp fp sgp lenq fq sgq leno fo sgo lenr fr sgr tw iv (va_up (va_up (fun j => some (hw1 j)) ca (some (hw1 cb))) cb (some (hw1 ca))) ++ cw (cf cA hw1 qw1 g1 l1 s1)).set (18 + 2 * ca) (hw1 ca, .inr (1, [.ref (qw1 ca), .int (nI (l1 ca)), .int (-(s1 ca))]))) := hD
      have e9 := cw_sgn (X := dx x0 gv cl d0 h0d q0d h0u q0u h0e q0e h0p q0p h0q q0q h0o q0o h0r q0r cA cJ cW n sv a lend fd sgd lenu fu sgu lene fe sge lenp fp sgp lenq fq sgq leno fo sgo lenr fr sgr tw iv (va_up (va_up (fun j => some (hw1 j)) ca (some (hw1 cb))) cb (some (hw1 ca)))) (cA := cA) (hw := hw1) (qw := qw1) (gg := g1) (ln := l1) (sn := s1) (n := 18) (j := ca) (S := -(s1 ca)) rfl
      rw [e9] at h8 h9
      have h8 := cx_P hca hcb h8
      have h9 := cx_D hca hcb h9
      rw [cx_f hab] at h8 h9
      have hP : va_P (dC, dI) classes (dw x0 gv cl d0 h0d q0d h0u q0u h0e q0e h0p q0p h0q q0q h0o q0o h0r q0r cA cJ cW n sv a lend fd sgd lenu fu sgu lene fe sge lenp fp sgp lenq fq sgq leno fo sgo lenr fr sgr tw iv (fun j => hw1 (cx_s ca cb j)) (fun j => qw1 (cx_s ca cb j)) (fun j => g1 (cx_s ca cb j)) (fun j => l1 (cx_s ca cb j)) (fun j => va_up s1 ca (-(s1 ca)) (cx_s ca cb j))) H := h8
      have hD : va_D A (dw x0 gv cl d0 h0d q0d h0u q0u h0e q0e h0p q0p h0q q0q h0o q0o h0r q0r cA cJ cW n sv a lend fd sgd lenu fu sgu lene fe sge lenp fp sgp lenq fq sgq leno fo sgo lenr fr sgr tw iv (fun j => hw1 (cx_s ca cb j)) (fun j => qw1 (cx_s ca cb j)) (fun j => g1 (cx_s ca cb j)) (fun j => l1 (cx_s ca cb j)) (fun j => va_up s1 ca (-(s1 ca)) (cx_s ca cb j))) := h9
      obtain ⟨hok2, hz2⟩ := sw_ok hca hcb hab ho1
      refine lv_iinc (v := nI (j + 1)) (lv' := [(3, .int (nI (j + 1))), (4, .ref (hw1 ca)), (0, .ref x0), (1, .int (nI rw)), (2, .int (nI k))]) hx hb d_Desk_swapRows_65 hl (k := 1) rfl (nI_1 _) (by decide) rfl (fun ls hl => ?_)
      refine lv_goto (tgt := 2) hx hb d_Desk_swapRows_68 (by decide) ?_
      exact ih (j + 1) (fun j => hw1 (cx_s ca cb j)) (fun j => qw1 (cx_s ca cb j)) (fun j => g1 (cx_s ca cb j)) (fun j => l1 (cx_s ca cb j)) (fun j => va_up s1 ca (-(s1 ca)) (cx_s ca cb j)) (by omega) (by omega) hok2 (fun j2 h1 h2 => by
                rw [hz2, hz2]
                by_cases q : j2 = j
                · subst q
                  rw [if_pos eca.symm, if_neg (by omega), if_pos ecb.symm, eca, ecb, hfr (rw * 13 + j2) (fun z h1 h2 => by omega), hfr (k * 13 + j2) (fun z h1 h2 => by omega)]
                  exact ⟨rfl, rfl⟩
                · rw [if_neg (by omega), if_neg (by omega), if_neg (by omega), if_neg (by omega)]
                  exact hsw j2 h1 (by omega)) (fun i2 j2 h1 h2 h3 => by
                rw [hz2, if_neg (by omega), if_neg (by omega)]
                exact hun i2 j2 h1 h2 h3) (fun p hp => by
                rw [hz2, if_neg (by have := hp j (by omega) (by omega); omega), if_neg (by have := hp j (by omega) (by omega); omega)]
                exact hfr p (fun z h1 h2 => hp z h1 (by omega))) (by omega) H locs hP hD hS ls (lv_sub hl [0, 2, 3, 4] rfl)
  exact loop (n + 2) k hw qw gg ln sn (Nat.le_refl _) (by omega) hok (fun j2 h1 h2 => by omega) (fun _ _ _ _ _ => rfl) (fun _ _ => rfl) (by omega) s.heap [] hP hD hS ls (lv_sub hl [0, 1, 2, 3] rfl)
set_option maxHeartbeats 8000000 in
set_option maxRecDepth 100000 in
/-- eliminateRow -/
theorem c_Desk_eliminateRow (l : Launch) (dC : Nat → ClassId) (dI : Nat → Nat → Nat) (sz : Nat) (x0 gv cl d0 h0d q0d h0u q0u h0e q0e h0p q0p h0q q0q h0o q0o h0r q0r : Nat) (cA cJ cW : ClassId) (n : Nat) (sv : Int32) (a : Nat → Int64) (lend : Nat) (fd : Nat → Nat) (sgd : Int32) (lenu : Nat) (fu : Nat → Nat) (sgu : Int32) (lene : Nat) (fe : Nat → Nat) (sge : Int32) (lenp : Nat) (fp : Nat → Nat) (sgp : Int32) (lenq : Nat) (fq : Nat → Nat) (sgq : Int32) (leno : Nat) (fo : Nat → Nat) (sgo : Int32) (lenr : Nat) (fr : Nat → Nat) (sgr : Int32) (tw iv : Nat) (hw qw : Nat → Nat) (gg : Nat → Nat → Nat) (ln : Nat → Nat) (sn : Nat → Int32) (i k : Nat) (T : Nat → Int) (hn : n ≤ 12) (hi : i < n) (hk : k < n) (hik : i ≠ k) (hok : wk gg ln sn) (hfp : ∀ x, fp x < 2147483648) (hfq : ∀ x, fq x < 2147483648) (ho : lb_n 26 fo leno) (hpos : 0 < leno) (hodd : fo 0 % 2 = 1) (hiv : fo 0 * iv % 2147483648 = 1) (hsgo : sgo = 1 ∨ sgo = -1) (htw : tw < 2 ^ 30) (hT : ∀ j, k < j → j ≤ n → wz gg ln sn (k * 13 + k) * wz gg ln sn (i * 13 + j) - wz gg ln sn (i * 13 + k) * wz gg ln sn (k * 13 + j) = T j * (sgo.toInt * ((lb_v fo leno * 2 ^ tw : Nat) : Int))) (hB : ∀ j, k ≤ j → j ≤ n → (wz gg ln sn (i * 13 + j)).natAbs < 2 ^ 785 ∧ (wz gg ln sn (k * 13 + j)).natAbs < 2 ^ 785) (hTB : ∀ j, k < j → j ≤ n → (T j).natAbs < 2 ^ 785) : Met l y_Desk_eliminateRow w_Desk_eliminateRow ({ frames := 3, cells := 0, slots := 0, locals := 83 }) (xc_W [.ref x0, .int (nI i), .int (nI k)] dC dI (dw x0 gv cl d0 h0d q0d h0u q0u h0e q0e h0p q0p h0q q0q h0o q0o h0r q0r cA cJ cW n sv a lend fd sgd lenu fu sgu lene fe sge lenp fp sgp lenq fq sgq leno fo sgo lenr fr sgr tw iv hw qw gg ln sn) [(cA, .int), (cJ, .long), (cW, .object "EquationDesk$Whole")] sz) (va_Qv (S := (Nat → Nat) × Nat × Int32 × (Nat → Nat) × Nat × Int32 × (Nat → Nat → Nat) × (Nat → Nat) × (Nat → Int32)) (fun u => (∀ x, u.1 x < 2147483648) ∧ (∀ x, u.2.2.2.1 x < 2147483648) ∧ wk u.2.2.2.2.2.2.1 u.2.2.2.2.2.2.2.1 u.2.2.2.2.2.2.2.2 ∧ (∀ j, k < j → j ≤ n → wz u.2.2.2.2.2.2.1 u.2.2.2.2.2.2.2.1 u.2.2.2.2.2.2.2.2 (i * 13 + j) = T j) ∧ (∀ p, (∀ j, k < j → j ≤ n → p ≠ i * 13 + j) → wz u.2.2.2.2.2.2.1 u.2.2.2.2.2.2.2.1 u.2.2.2.2.2.2.2.2 p = wz gg ln sn p)) (fun u t => va_P (dC, dI) classes (dw x0 gv cl d0 h0d q0d h0u q0u h0e q0e h0p q0p h0q q0q h0o q0o h0r q0r cA cJ cW n sv a lend fd sgd lenu fu sgu lene fe sge u.2.1 u.1 u.2.2.1 u.2.2.2.2.1 u.2.2.2.1 u.2.2.2.2.2.1 leno fo sgo lenr fr sgr tw iv hw qw u.2.2.2.2.2.2.1 u.2.2.2.2.2.2.2.1 u.2.2.2.2.2.2.2.2) t.heap ∧ va_D (va_A (dw x0 gv cl d0 h0d q0d h0u q0u h0e q0e h0p q0p h0q q0q h0o q0o h0r q0r cA cJ cW n sv a lend fd sgd lenu fu sgu lene fe sge lenp fp sgp lenq fq sgq leno fo sgo lenr fr sgr tw iv hw qw gg ln sn) sz) (dw x0 gv cl d0 h0d q0d h0u q0u h0e q0e h0p q0p h0q q0q h0o q0o h0r q0r cA cJ cW n sv a lend fd sgd lenu fu sgu lene fe sge u.2.1 u.1 u.2.2.1 u.2.2.2.2.1 u.2.2.2.1 u.2.2.2.2.2.1 leno fo sgo lenr fr sgr tw iv hw qw u.2.2.2.2.2.2.1 u.2.2.2.2.2.2.2.1 u.2.2.2.2.2.2.2.2)) (va_A (dw x0 gv cl d0 h0d q0d h0u q0u h0e q0e h0p q0p h0q q0q h0o q0o h0r q0r cA cJ cW n sv a lend fd sgd lenu fu sgu lene fe sge lenp fp sgp lenq fq sgq leno fo sgo lenr fr sgr tw iv hw qw gg ln sn) sz)) 0 0 (va_A (dw x0 gv cl d0 h0d q0d h0u q0u h0e q0e h0p q0p h0q q0q h0o q0o h0r q0r cA cJ cW n sv a lend fd sgd lenu fu sgu lene fe sge lenp fp sgp lenq fq sgq leno fo sgo lenr fr sgr tw iv hw qw gg ln sn) sz) := by
  refine Met.ofW (cc := b_Desk_eliminateRow) (maxL := 7) (ret := none) (by decide) rfl ?_
  intro p e s m args below meth c s₁ B hml hv
  obtain ⟨rfl, hsz, hP, hK, hD0⟩ := hv
  have hx := B.exec
  have hb := B.bytes
  have hr := B.returns
  have hts : ∀ w ∈ gw_tbl, w.before ([.ref x0, .int (nI i), .int (nI k)] : List Value).toArray s = true := fun w h => atoms_spec (ws := w_Desk_eliminateRow) B.pre w (List.mem_cons_of_mem _ h)
  have hown : s.vm.findClass R_Desk = some m.cls := findClass_of_methodNamed B.named
  have hlocks := B.notSynchronized
  subst hsz
  have hD := hD0.self (sz := s.heap.size)
  generalize hAe : va_A (dw x0 gv cl d0 h0d q0d h0u q0u h0e q0e h0p q0p h0q q0q h0o q0o h0r q0r cA cJ cW n sv a lend fd sgd lenu fu sgu lene fe sge lenp fp sgp lenq fq sgq leno fo sgo lenr fr sgr tw iv hw qw gg ln sn) s.heap.size = A at hD ⊢
  have hA : ∀ q : Nat, s.heap.size ≤ q → A q := fun q h => by rw [← hAe]; exact Or.inr h
  have hS : va_S A s.heap s.heap [] := va_S.rf
  have hl := lv_entry ([.ref x0, .int (nI i), .int (nI k)]) (n := 7) (Nat.le_of_ble_eq_true rfl)
  rw [lg_entry_eq]
  generalize (lg_sl ([.ref x0, .int (nI i), .int (nI k)]) ++ List.replicate (7 - (lg_sl ([.ref x0, .int (nI i), .int (nI k)])).length) Slot.unset).toArray = ls at hl ⊢
  have hl : lv_has ls 7 [(0, .ref x0), (1, .int (nI i)), (2, .int (nI k))] := hl
  have hkk : k * 13 + k < 156 := by omega
  have hkf : i * 13 + k < 156 := by omega
  refine lv_aload_n hx hb d_Desk_eliminateRow_0 rfl (lv_at hl 0 rfl) ?_
  refine va_get (D := (dC, dI)) (ci := 0) (v := .ref cl) (C := R_Desk) (T := F_Desk) (N := 10) hx hb hts i_Desk hown hK hP 0 rfl rfl 3 (by decide) (hts _ k_fl_Desk_23) (fun _ h9 => h9) rfl d_Desk_eliminateRow_1 ?_
  refine lv_iload_n hx hb d_Desk_eliminateRow_4 rfl (lv_at hl 2 rfl) ?_
  refine lv_iload_n hx hb d_Desk_eliminateRow_5 rfl (lv_at hl 2 rfl) ?_
  refine vp_callSi (W.runS (As := [.int (nI k), .int (nI k)]) (rest := [.ref cl]) ⟨hx, hb, hml, hown, hts⟩ (c_Desk_cellIndex l dC dI k k) (cwS 2 hts (gw_S k_ml_Desk_63 k_st_Desk_cellIndex k_ini_Desk k_code_Desk_cellIndex) rfl rfl rfl (by decide +kernel) ⟨Nat.le_of_ble_eq_true rfl, Nat.le_of_ble_eq_true rfl⟩) ⟨xc_R_blind, fun U hU hW => ⟨rfl, by rw [hU]; exact hP.sub (ws' := []) [] rfl, va_K.moved hW.alike (hK.sub (tys' := []) [] rfl)⟩⟩ rfl rfl hl.1 rfl (lv_room (Nat.le_of_ble_eq_true rfl)) d_Desk_eliminateRow_6 ⟨Nat.zero_le _, Nat.zero_le _⟩) (fun r_ e_r => ?_)
  subst e_r
  refine xn_aald hx hb hK hP 2 2 rfl rfl (i := k * 13 + k) (b := hw (k * 13 + k)) rfl hkk (by decide) d_Desk_eliminateRow_9 ?_
  refine lv_astore_n (lv' := [(3, .ref (hw (k * 13 + k))), (0, .ref x0), (1, .int (nI i)), (2, .int (nI k))]) hx hb d_Desk_eliminateRow_10 rfl hl (by decide) rfl (fun ls hl => ?_)
  refine lv_aload_n hx hb d_Desk_eliminateRow_11 rfl (lv_at hl 1 rfl) ?_
  refine va_get (D := (dC, dI)) (ci := 0) (v := .ref cl) (C := R_Desk) (T := F_Desk) (N := 10) hx hb hts i_Desk hown hK hP 0 rfl rfl 3 (by decide) (hts _ k_fl_Desk_23) (fun _ h9 => h9) rfl d_Desk_eliminateRow_12 ?_
  refine lv_iload_n hx hb d_Desk_eliminateRow_15 rfl (lv_at hl 2 rfl) ?_
  refine lv_iload_n hx hb d_Desk_eliminateRow_16 rfl (lv_at hl 3 rfl) ?_
  refine vp_callSi (W.runS (As := [.int (nI i), .int (nI k)]) (rest := [.ref cl]) ⟨hx, hb, hml, hown, hts⟩ (c_Desk_cellIndex l dC dI i k) (cwS 2 hts (gw_S k_ml_Desk_63 k_st_Desk_cellIndex k_ini_Desk k_code_Desk_cellIndex) rfl rfl rfl (by decide +kernel) ⟨Nat.le_of_ble_eq_true rfl, Nat.le_of_ble_eq_true rfl⟩) ⟨xc_R_blind, fun U hU hW => ⟨rfl, by rw [hU]; exact hP.sub (ws' := []) [] rfl, va_K.moved hW.alike (hK.sub (tys' := []) [] rfl)⟩⟩ rfl rfl hl.1 rfl (lv_room (Nat.le_of_ble_eq_true rfl)) d_Desk_eliminateRow_17 ⟨Nat.zero_le _, Nat.zero_le _⟩) (fun r_ e_r => ?_)
  subst e_r
  refine xn_aald hx hb hK hP 2 2 rfl rfl (i := i * 13 + k) (b := hw (i * 13 + k)) rfl hkf (by decide) d_Desk_eliminateRow_20 ?_
  refine lv_astore (lv' := [(4, .ref (hw (i * 13 + k))), (3, .ref (hw (k * 13 + k))), (0, .ref x0), (1, .int (nI i)), (2, .int (nI k))]) hx hb d_Desk_eliminateRow_21 hl (by decide) rfl (fun ls hl => ?_)
  refine lv_iload_n hx hb d_Desk_eliminateRow_23 rfl (lv_at hl 4 rfl) ?_
  refine lv_iconst (v := nI 1) hx hb d_Desk_eliminateRow_24 rfl ?_
  refine xn_iadd hx hb d_Desk_eliminateRow_25 ?_
  refine lv_istore (lv' := [(5, .int (nI (k + 1))), (4, .ref (hw (i * 13 + k))), (3, .ref (hw (k * 13 + k))), (0, .ref x0), (1, .int (nI i)), (2, .int (nI k))]) hx hb d_Desk_eliminateRow_26 hl (by decide) rfl (fun ls hl => ?_)
  have loop : ∀ (n0 : Nat) (j : Nat) (P0 : Nat → Nat) (lp0 : Nat) (sp0 : Int32) (Q0 : Nat → Nat) (lq0 : Nat) (sq0 : Int32) (g1 : Nat → Nat → Nat) (l1 : Nat → Nat) (s1 : Nat → Int32), (k + 1 ≤ j) → (j ≤ n + 1) → (∀ x, P0 x < 2147483648) → (∀ x, Q0 x < 2147483648) → (wk g1 l1 s1) → (∀ j2, k < j2 → j2 < j → wz g1 l1 s1 (i * 13 + j2) = T j2) → (∀ p, (∀ j2, k < j2 → j2 < j → p ≠ i * 13 + j2) → wz g1 l1 s1 p = wz gg ln sn p) → (n + 2 ≤ j + n0) → ∀ (H : Heap) (locs : List Loc), va_P (dC, dI) classes (dw x0 gv cl d0 h0d q0d h0u q0u h0e q0e h0p q0p h0q q0q h0o q0o h0r q0r cA cJ cW n sv a lend fd sgd lenu fu sgu lene fe sge lp0 P0 sp0 lq0 Q0 sq0 leno fo sgo lenr fr sgr tw iv hw qw g1 l1 s1) H → va_D A (dw x0 gv cl d0 h0d q0d h0u q0u h0e q0e h0p q0p h0q q0q h0o q0o h0r q0r cA cJ cW n sv a lend fd sgd lenu fu sgu lene fe sge lp0 P0 sp0 lq0 Q0 sq0 leno fo sgo lenr fr sgr tw iv hw qw g1 l1 s1) → va_S A s.heap H locs → ∀ (ls : Array Slot), lv_has ls 7 [(5, .int (nI j)), (4, .ref (hw (i * 13 + k))), (3, .ref (hw (k * 13 + k))), (0, .ref x0), (1, .int (nI i)), (2, .int (nI k))] → W p l e (headSpec w_Desk_eliminateRow ({ frames := 3, cells := 0, slots := 0, locals := 83 })).room s m ([.ref x0, .int (nI i), .int (nI k)] : List Value).toArray below meth c H locs 0 0 (MQ below (va_Qv (S := (Nat → Nat) × Nat × Int32 × (Nat → Nat) × Nat × Int32 × (Nat → Nat → Nat) × (Nat → Nat) × (Nat → Int32)) (fun u => (∀ x, u.1 x < 2147483648) ∧ (∀ x, u.2.2.2.1 x < 2147483648) ∧ wk u.2.2.2.2.2.2.1 u.2.2.2.2.2.2.2.1 u.2.2.2.2.2.2.2.2 ∧ (∀ j, k < j → j ≤ n → wz u.2.2.2.2.2.2.1 u.2.2.2.2.2.2.2.1 u.2.2.2.2.2.2.2.2 (i * 13 + j) = T j) ∧ (∀ p, (∀ j, k < j → j ≤ n → p ≠ i * 13 + j) → wz u.2.2.2.2.2.2.1 u.2.2.2.2.2.2.2.1 u.2.2.2.2.2.2.2.2 p = wz gg ln sn p)) (fun u t => va_P (dC, dI) classes (dw x0 gv cl d0 h0d q0d h0u q0u h0e q0e h0p q0p h0q q0q h0o q0o h0r q0r cA cJ cW n sv a lend fd sgd lenu fu sgu lene fe sge u.2.1 u.1 u.2.2.1 u.2.2.2.2.1 u.2.2.2.1 u.2.2.2.2.2.1 leno fo sgo lenr fr sgr tw iv hw qw u.2.2.2.2.2.2.1 u.2.2.2.2.2.2.2.1 u.2.2.2.2.2.2.2.2) t.heap ∧ va_D A (dw x0 gv cl d0 h0d q0d h0u q0u h0e q0e h0p q0p h0q q0q h0o q0o h0r q0r cA cJ cW n sv a lend fd sgd lenu fu sgu lene fe sge u.2.1 u.1 u.2.2.1 u.2.2.2.2.1 u.2.2.2.1 u.2.2.2.2.2.1 leno fo sgo lenr fr sgr tw iv hw qw u.2.2.2.2.2.2.1 u.2.2.2.2.2.2.2.1 u.2.2.2.2.2.2.2.2)) A) ([.ref x0, .int (nI i), .int (nI k)] : List Value).toArray s 0 0 A) (F0 m 28 ls []) := by
    intro n0
    induction n0 with
    | zero => intro j P0 lp0 sp0 Q0 lq0 sq0 g1 l1 s1 hj hj2 hP0 hQ0 ho1 hch hun hn_; exact absurd hn_ (by omega)
    | succ n0 ih =>
      intro j P0 lp0 sp0 Q0 lq0 sq0 g1 l1 s1 hj hj2 hP0 hQ0 ho1 hch hun hn_ H locs hP hD hS ls hl
      refine lv_iload hx hb d_Desk_eliminateRow_28 (lv_at hl 0 rfl) ?_
      refine lv_aload_n hx hb d_Desk_eliminateRow_30 rfl (lv_at hl 3 rfl) ?_
      refine va_get (D := (dC, dI)) (ci := 0) (v := .int (nI n)) (C := R_Desk) (T := F_Desk) (N := 10) hx hb hts i_Desk hown hK hP 0 rfl rfl 1 (by decide) (hts _ k_fl_Desk_13) (fun _ h9 => h9) rfl d_Desk_eliminateRow_31 ?_
      refine xn_icmp_gt (tgt := 117) hx hb (by omega) (by omega) d_Desk_eliminateRow_34 (by decide) (fun hgt => ?_) (fun hgt => ?_)
      · exact W.vret hx hb hr (fun T_ ht_ hW_ => ⟨⟨(P0, lp0, sp0, Q0, lq0, sq0, g1, l1, s1), rfl, ⟨hP0, hQ0, ho1, fun j2 h1 h2 => hch j2 h1 (by omega), fun p hp => hun p (fun j2 h1 h2 => hp j2 h1 (by omega))⟩, by show va_P (dC, dI) classes _ T_.heap; rw [ht_]; exact hP, hD⟩, hS.F ht_⟩) hS.2.2 d_Desk_eliminateRow_117
      have hc : i * 13 + j < 156 := by omega
      have hkj : k * 13 + j < 156 := by omega
      have z1 : wz g1 l1 s1 (k * 13 + k) = wz gg ln sn (k * 13 + k) := hun _ (fun j2 h1 h2 => by omega)
      have z2 : wz g1 l1 s1 (i * 13 + j) = wz gg ln sn (i * 13 + j) := hun _ (fun j2 h1 h2 => by omega)
      have z3 : wz g1 l1 s1 (i * 13 + k) = wz gg ln sn (i * 13 + k) := hun _ (fun j2 h1 h2 => by omega)
      have z4 : wz g1 l1 s1 (k * 13 + j) = wz gg ln sn (k * 13 + j) := hun _ (fun j2 h1 h2 => by omega)
      have b1 := (hB k (Nat.le_refl _) (by omega)).2
      have b2 := (hB j (by omega) (by omega)).1
      have b3 := (hB k (Nat.le_refl _) (by omega)).1
      have b4 := (hB j (by omega) (by omega)).2
      have o1 := ho1 _ hkk
      have o2 := ho1 _ hc
      have o3 := ho1 _ hkf
      have o4 := ho1 _ hkj
      refine lv_aload_n hx hb d_Desk_eliminateRow_37 rfl (lv_at hl 3 rfl) ?_
      refine va_get (D := (dC, dI)) (ci := 0) (v := .ref cl) (C := R_Desk) (T := F_Desk) (N := 10) hx hb hts i_Desk hown hK hP 0 rfl rfl 3 (by decide) (hts _ k_fl_Desk_23) (fun _ h9 => h9) rfl d_Desk_eliminateRow_38 ?_
      refine lv_iload_n hx hb d_Desk_eliminateRow_41 rfl (lv_at hl 4 rfl) ?_
      refine lv_iload hx hb d_Desk_eliminateRow_42 (lv_at hl 0 rfl) ?_
      refine vp_callSi (W.runS (As := [.int (nI i), .int (nI j)]) (rest := [.ref cl]) ⟨hx, hb, hml, hown, hts⟩ (c_Desk_cellIndex l dC dI i j) (cwS 2 hts (gw_S k_ml_Desk_63 k_st_Desk_cellIndex k_ini_Desk k_code_Desk_cellIndex) rfl rfl rfl (by decide +kernel) ⟨Nat.le_of_ble_eq_true rfl, Nat.le_of_ble_eq_true rfl⟩) ⟨xc_R_blind, fun U hU hW => ⟨rfl, by rw [hU]; exact hP.sub (ws' := []) [] rfl, va_K.moved hW.alike (hK.sub (tys' := []) [] rfl)⟩⟩ rfl rfl hl.1 rfl (lv_room (Nat.le_of_ble_eq_true rfl)) d_Desk_eliminateRow_44 ⟨Nat.zero_le _, Nat.zero_le _⟩) (fun r_ e_r => ?_)
      subst e_r
      refine xn_aald hx hb hK hP 2 2 rfl rfl (i := i * 13 + j) (b := hw (i * 13 + j)) rfl hc (by decide) d_Desk_eliminateRow_47 ?_
      refine lv_astore (lv' := [(6, .ref (hw (i * 13 + j))), (5, .int (nI j)), (4, .ref (hw (i * 13 + k))), (3, .ref (hw (k * 13 + k))), (0, .ref x0), (1, .int (nI i)), (2, .int (nI k))]) hx hb d_Desk_eliminateRow_48 hl (by decide) rfl (fun ls hl => ?_)
      refine lv_aload_n hx hb d_Desk_eliminateRow_50 rfl (lv_at hl 4 rfl) ?_
      refine va_get (D := (dC, dI)) (ci := 0) (v := .ref h0p) (C := R_Desk) (T := F_Desk) (N := 10) hx hb hts i_Desk hown hK hP 0 rfl rfl 7 (by decide) (hts _ k_fl_Desk_40) (fun _ h9 => h9) rfl d_Desk_eliminateRow_51 ?_
      refine lv_aload_n hx hb d_Desk_eliminateRow_54 rfl (lv_at hl 3 rfl) ?_
      refine lv_aload hx hb d_Desk_eliminateRow_55 (lv_at hl 0 rfl) ?_
      have hq_2 : (dw x0 gv cl d0 h0d q0d h0u q0u h0e q0e h0p q0p h0q q0q h0o q0o h0r q0r cA cJ cW n sv a lend fd sgd lenu fu sgu lene fe sge lp0 P0 sp0 lq0 Q0 sq0 leno fo sgo lenr fr sgr tw iv hw qw g1 l1 s1)[18 + 2 * (k * 13 + k)]? = some (hw (k * 13 + k), .inr (1, [.ref (qw (k * 13 + k)), .int (nI (l1 (k * 13 + k))), .int (s1 (k * 13 + k))])) := (cw_w rfl hkk)
      have hq_3 : (dw x0 gv cl d0 h0d q0d h0u q0u h0e q0e h0p q0p h0q q0q h0o q0o h0r q0r cA cJ cW n sv a lend fd sgd lenu fu sgu lene fe sge lp0 P0 sp0 lq0 Q0 sq0 leno fo sgo lenr fr sgr tw iv hw qw g1 l1 s1)[18 + 2 * (k * 13 + k) + 1]? = some (qw (k * 13 + k), .inl (cA, 26, .inl (xn_f (g1 (k * 13 + k))))) := (cw_q rfl hkk)
      have hq_4 : (dw x0 gv cl d0 h0d q0d h0u q0u h0e q0e h0p q0p h0q q0q h0o q0o h0r q0r cA cJ cW n sv a lend fd sgd lenu fu sgu lene fe sge lp0 P0 sp0 lq0 Q0 sq0 leno fo sgo lenr fr sgr tw iv hw qw g1 l1 s1)[18 + 2 * (i * 13 + j)]? = some (hw (i * 13 + j), .inr (1, [.ref (qw (i * 13 + j)), .int (nI (l1 (i * 13 + j))), .int (s1 (i * 13 + j))])) := (cw_w rfl hc)
      have hq_5 : (dw x0 gv cl d0 h0d q0d h0u q0u h0e q0e h0p q0p h0q q0q h0o q0o h0r q0r cA cJ cW n sv a lend fd sgd lenu fu sgu lene fe sge lp0 P0 sp0 lq0 Q0 sq0 leno fo sgo lenr fr sgr tw iv hw qw g1 l1 s1)[18 + 2 * (i * 13 + j) + 1]? = some (qw (i * 13 + j), .inl (cA, 26, .inl (xn_f (g1 (i * 13 + j))))) := (cw_q rfl hc)
      have hs_ : ([9, 10, 18 + 2 * (k * 13 + k), 18 + 2 * (k * 13 + k) + 1, 18 + 2 * (i * 13 + j), 18 + 2 * (i * 13 + j) + 1] : List Nat).map (fun i => (dw x0 gv cl d0 h0d q0d h0u q0u h0e q0e h0p q0p h0q q0q h0o q0o h0r q0r cA cJ cW n sv a lend fd sgd lenu fu sgu lene fe sge lp0 P0 sp0 lq0 Q0 sq0 leno fo sgo lenr fr sgr tw iv hw qw g1 l1 s1)[i]?) = ([(h0p, .inr (1, [.ref q0p, .int (nI lp0), .int sp0])), (q0p, .inl (cA, 52, .inl (xn_f P0))), (hw (k * 13 + k), .inr (1, [.ref (qw (k * 13 + k)), .int (nI (l1 (k * 13 + k))), .int (s1 (k * 13 + k))])), (qw (k * 13 + k), .inl (cA, 26, .inl (xn_f (g1 (k * 13 + k))))), (hw (i * 13 + j), .inr (1, [.ref (qw (i * 13 + j)), .int (nI (l1 (i * 13 + j))), .int (s1 (i * 13 + j))])), (qw (i * 13 + j), .inl (cA, 26, .inl (xn_f (g1 (i * 13 + j)))))]).map some := by
        simp only [List.map_cons, List.map_nil]
        rw [hq_2, hq_3, hq_4, hq_5]
        rfl
      have hPc := xp_P hP [9, 10, 18 + 2 * (k * 13 + k), 18 + 2 * (k * 13 + k) + 1, 18 + 2 * (i * 13 + j), 18 + 2 * (i * 13 + j) + 1] hs_
      have hDc := (hD.sub [9, 10, 18 + 2 * (k * 13 + k), 18 + 2 * (k * 13 + k) + 1, 18 + 2 * (i * 13 + j), 18 + 2 * (i * 13 + j) + 1] (by simp only [va_nd, List.mem_cons, List.not_mem_nil, or_false, not_false_eq_true, decide_true, Bool.and_true, Bool.and_eq_true, decide_eq_true_eq, not_or]; omega) hs_).weaken (B := fun _ => True) (fun _ _ _ _ => trivial)
      have hFc := va_free hD hS hA [9, 10, 18 + 2 * (k * 13 + k), 18 + 2 * (k * 13 + k) + 1, 18 + 2 * (i * 13 + j), 18 + 2 * (i * 13 + j) + 1] hs_
      refine va_callv (va_runV (As := [.ref (hw (k * 13 + k)), .ref (hw (i * 13 + j))]) (rest := []) ⟨hx, hb, hml, hown, hts⟩ (c_Whole_setProduct l dC dI H.size cA h0p q0p 52 lp0 P0 sp0 (hw (k * 13 + k)) (qw (k * 13 + k)) 26 (l1 (k * 13 + k)) (g1 (k * 13 + k)) (s1 (k * 13 + k)) (hw (i * 13 + j)) (qw (i * 13 + j)) 26 (l1 (i * 13 + j)) (g1 (i * 13 + j)) (s1 (i * 13 + j)) (by decide) (by decide) (by decide) hP0 o1 o2 (by have := o1.1; have := o2.1; omega)) (cwV 2 hts (gw_V k_ml_Desk_119 k_im_Whole_setProduct k_sel_Whole_setProduct k_ini_Whole k_code_Whole_setProduct) rfl rfl rfl (by decide +kernel) ⟨Nat.le_of_ble_eq_true rfl, Nat.le_of_ble_eq_true rfl⟩) ⟨xc_W_blind, va_recv hK hP (ci := 1) (q0 := 9) rfl rfl, fun U hU hW => ⟨rfl, by rw [hU], by rw [hU]; exact hPc, va_K.moved hW.alike (hK.sub (tys' := [(cA, .int)]) [0] rfl), hDc⟩⟩ rfl rfl hl.1 rfl (lv_room (Nat.le_of_ble_eq_true rfl)) d_Desk_eliminateRow_57 ⟨Nat.zero_le _, Nat.zero_le _⟩) hS (fun q _ h => hFc q h) hFc (fun u t_ H locs ht_ hvm_ w1 hB hz1 hk1 hS => ?_)
      obtain ⟨P1, lp1, sp1⟩ := u
      try dsimp only at w1
      rw [ht_] at hB
      obtain ⟨hP, hD⟩ := xj_6 9 10 (18 + 2 * (k * 13 + k)) (18 + 2 * (k * 13 + k) + 1) (18 + 2 * (i * 13 + j)) (18 + 2 * (i * 13 + j) + 1) hP hD rfl rfl (cw_w rfl hkk) (cw_q rfl hkk) (cw_w rfl hc) (cw_q rfl hc) hk1 hB
      have h8 : va_P (dC, dI) classes (((((dx x0 gv cl d0 h0d q0d h0u q0u h0e q0e h0p q0p h0q q0q h0o q0o h0r q0r cA cJ cW n sv a lend fd sgd lenu fu sgu lene fe sge lp1 P1 sp1 lq0 Q0 sq0 leno fo sgo lenr fr sgr tw iv (fun j => some (hw j)) ++ cw (cf cA hw qw g1 l1 s1)).set (18 + 2 * (k * 13 + k)) (hw (k * 13 + k), .inr (1, [.ref (qw (k * 13 + k)), .int (nI (l1 (k * 13 + k))), .int (s1 (k * 13 + k))]))).set (18 + 2 * (k * 13 + k) + 1) (qw (k * 13 + k), .inl (cA, 26, .inl (xn_f (g1 (k * 13 + k)))))).set (18 + 2 * (i * 13 + j)) (hw (i * 13 + j), .inr (1, [.ref (qw (i * 13 + j)), .int (nI (l1 (i * 13 + j))), .int (s1 (i * 13 + j))]))).set (18 + 2 * (i * 13 + j) + 1) (qw (i * 13 + j), .inl (cA, 26, .inl (xn_f (g1 (i * 13 + j)))))) H := hP
      have h9 : va_D A (((((dx x0 gv cl d0 h0d q0d h0u q0u h0e q0e h0p q0p h0q q0q h0o q0o h0r q0r cA cJ cW n sv a lend fd sgd lenu fu sgu lene fe sge lp1 P1 sp1 lq0 Q0 sq0 leno fo sgo lenr fr sgr tw iv (fun j => some (hw j)) ++ cw (cf cA hw qw g1 l1 s1)).set (18 + 2 * (k * 13 + k)) (hw (k * 13 + k), .inr (1, [.ref (qw (k * 13 + k)), .int (nI (l1 (k * 13 + k))), .int (s1 (k * 13 + k))]))).set (18 + 2 * (k * 13 + k) + 1) (qw (k * 13 + k), .inl (cA, 26, .inl (xn_f (g1 (k * 13 + k)))))).set (18 + 2 * (i * 13 + j)) (hw (i * 13 + j), .inr (1, [.ref (qw (i * 13 + j)), .int (nI (l1 (i * 13 + j))), .int (s1 (i * 13 + j))]))).set (18 + 2 * (i * 13 + j) + 1) (qw (i * 13 + j), .inl (cA, 26, .inl (xn_f (g1 (i * 13 + j)))))) := hD
      have e9 := cw_keep (X := dx x0 gv cl d0 h0d q0d h0u q0u h0e q0e h0p q0p h0q q0q h0o q0o h0r q0r cA cJ cW n sv a lend fd sgd lenu fu sgu lene fe sge lp1 P1 sp1 lq0 Q0 sq0 leno fo sgo lenr fr sgr tw iv (fun j => some (hw j))) (cA := cA) (hw := hw) (qw := qw) (gg := g1) (ln := l1) (sn := s1) (n := 18) (j := (k * 13 + k)) rfl
      rw [e9] at h8 h9
      have e9 := cw_keep (X := dx x0 gv cl d0 h0d q0d h0u q0u h0e q0e h0p q0p h0q q0q h0o q0o h0r q0r cA cJ cW n sv a lend fd sgd lenu fu sgu lene fe sge lp1 P1 sp1 lq0 Q0 sq0 leno fo sgo lenr fr sgr tw iv (fun j => some (hw j))) (cA := cA) (hw := hw) (qw := qw) (gg := g1) (ln := l1) (sn := s1) (n := 18) (j := (i * 13 + j)) rfl
      rw [e9] at h8 h9
      have hP : va_P (dC, dI) classes (dw x0 gv cl d0 h0d q0d h0u q0u h0e q0e h0p q0p h0q q0q h0o q0o h0r q0r cA cJ cW n sv a lend fd sgd lenu fu sgu lene fe sge lp1 P1 sp1 lq0 Q0 sq0 leno fo sgo lenr fr sgr tw iv hw qw g1 l1 s1) H := h8
      have hD : va_D A (dw x0 gv cl d0 h0d q0d h0u q0u h0e q0e h0p q0p h0q q0q h0o q0o h0r q0r cA cJ cW n sv a lend fd sgd lenu fu sgu lene fe sge lp1 P1 sp1 lq0 Q0 sq0 leno fo sgo lenr fr sgr tw iv hw qw g1 l1 s1) := h9
      refine lv_aload_n hx hb d_Desk_eliminateRow_60 rfl (lv_at hl 4 rfl) ?_
      refine va_get (D := (dC, dI)) (ci := 0) (v := .ref h0q) (C := R_Desk) (T := F_Desk) (N := 10) hx hb hts i_Desk hown hK hP 0 rfl rfl 8 (by decide) (hts _ k_fl_Desk_43) (fun _ h9 => h9) rfl d_Desk_eliminateRow_61 ?_
      refine lv_aload hx hb d_Desk_eliminateRow_64 (lv_at hl 2 rfl) ?_
      refine lv_aload_n hx hb d_Desk_eliminateRow_66 rfl (lv_at hl 4 rfl) ?_
      refine va_get (D := (dC, dI)) (ci := 0) (v := .ref cl) (C := R_Desk) (T := F_Desk) (N := 10) hx hb hts i_Desk hown hK hP 0 rfl rfl 3 (by decide) (hts _ k_fl_Desk_23) (fun _ h9 => h9) rfl d_Desk_eliminateRow_67 ?_
      refine lv_iload_n hx hb d_Desk_eliminateRow_70 rfl (lv_at hl 6 rfl) ?_
      refine lv_iload hx hb d_Desk_eliminateRow_71 (lv_at hl 1 rfl) ?_
      refine vp_callSi (W.runS (As := [.int (nI k), .int (nI j)]) (rest := [.ref cl, .ref (hw (i * 13 + k)), .ref h0q]) ⟨hx, hb, hml, hown, hts⟩ (c_Desk_cellIndex l dC dI k j) (cwS 2 hts (gw_S k_ml_Desk_63 k_st_Desk_cellIndex k_ini_Desk k_code_Desk_cellIndex) rfl rfl rfl (by decide +kernel) ⟨Nat.le_of_ble_eq_true rfl, Nat.le_of_ble_eq_true rfl⟩) ⟨xc_R_blind, fun U hU hW => ⟨rfl, by rw [hU]; exact hP.sub (ws' := []) [] rfl, va_K.moved hW.alike (hK.sub (tys' := []) [] rfl)⟩⟩ rfl rfl hl.1 rfl (lv_room (Nat.le_of_ble_eq_true rfl)) d_Desk_eliminateRow_73 ⟨Nat.zero_le _, Nat.zero_le _⟩) (fun r_ e_r => ?_)
      subst e_r
      refine xn_aald hx hb hK hP 2 2 rfl rfl (i := k * 13 + j) (b := hw (k * 13 + j)) rfl hkj (by decide) d_Desk_eliminateRow_76 ?_
      have hq_2 : (dw x0 gv cl d0 h0d q0d h0u q0u h0e q0e h0p q0p h0q q0q h0o q0o h0r q0r cA cJ cW n sv a lend fd sgd lenu fu sgu lene fe sge lp1 P1 sp1 lq0 Q0 sq0 leno fo sgo lenr fr sgr tw iv hw qw g1 l1 s1)[18 + 2 * (i * 13 + k)]? = some (hw (i * 13 + k), .inr (1, [.ref (qw (i * 13 + k)), .int (nI (l1 (i * 13 + k))), .int (s1 (i * 13 + k))])) := (cw_w rfl hkf)
      have hq_3 : (dw x0 gv cl d0 h0d q0d h0u q0u h0e q0e h0p q0p h0q q0q h0o q0o h0r q0r cA cJ cW n sv a lend fd sgd lenu fu sgu lene fe sge lp1 P1 sp1 lq0 Q0 sq0 leno fo sgo lenr fr sgr tw iv hw qw g1 l1 s1)[18 + 2 * (i * 13 + k) + 1]? = some (qw (i * 13 + k), .inl (cA, 26, .inl (xn_f (g1 (i * 13 + k))))) := (cw_q rfl hkf)
      have hq_4 : (dw x0 gv cl d0 h0d q0d h0u q0u h0e q0e h0p q0p h0q q0q h0o q0o h0r q0r cA cJ cW n sv a lend fd sgd lenu fu sgu lene fe sge lp1 P1 sp1 lq0 Q0 sq0 leno fo sgo lenr fr sgr tw iv hw qw g1 l1 s1)[18 + 2 * (k * 13 + j)]? = some (hw (k * 13 + j), .inr (1, [.ref (qw (k * 13 + j)), .int (nI (l1 (k * 13 + j))), .int (s1 (k * 13 + j))])) := (cw_w rfl hkj)
      have hq_5 : (dw x0 gv cl d0 h0d q0d h0u q0u h0e q0e h0p q0p h0q q0q h0o q0o h0r q0r cA cJ cW n sv a lend fd sgd lenu fu sgu lene fe sge lp1 P1 sp1 lq0 Q0 sq0 leno fo sgo lenr fr sgr tw iv hw qw g1 l1 s1)[18 + 2 * (k * 13 + j) + 1]? = some (qw (k * 13 + j), .inl (cA, 26, .inl (xn_f (g1 (k * 13 + j))))) := (cw_q rfl hkj)
      have hs_ : ([11, 12, 18 + 2 * (i * 13 + k), 18 + 2 * (i * 13 + k) + 1, 18 + 2 * (k * 13 + j), 18 + 2 * (k * 13 + j) + 1] : List Nat).map (fun i => (dw x0 gv cl d0 h0d q0d h0u q0u h0e q0e h0p q0p h0q q0q h0o q0o h0r q0r cA cJ cW n sv a lend fd sgd lenu fu sgu lene fe sge lp1 P1 sp1 lq0 Q0 sq0 leno fo sgo lenr fr sgr tw iv hw qw g1 l1 s1)[i]?) = ([(h0q, .inr (1, [.ref q0q, .int (nI lq0), .int sq0])), (q0q, .inl (cA, 52, .inl (xn_f Q0))), (hw (i * 13 + k), .inr (1, [.ref (qw (i * 13 + k)), .int (nI (l1 (i * 13 + k))), .int (s1 (i * 13 + k))])), (qw (i * 13 + k), .inl (cA, 26, .inl (xn_f (g1 (i * 13 + k))))), (hw (k * 13 + j), .inr (1, [.ref (qw (k * 13 + j)), .int (nI (l1 (k * 13 + j))), .int (s1 (k * 13 + j))])), (qw (k * 13 + j), .inl (cA, 26, .inl (xn_f (g1 (k * 13 + j)))))]).map some := by
        simp only [List.map_cons, List.map_nil]
        rw [hq_2, hq_3, hq_4, hq_5]
        rfl
      have hPc := xp_P hP [11, 12, 18 + 2 * (i * 13 + k), 18 + 2 * (i * 13 + k) + 1, 18 + 2 * (k * 13 + j), 18 + 2 * (k * 13 + j) + 1] hs_
      have hDc := (hD.sub [11, 12, 18 + 2 * (i * 13 + k), 18 + 2 * (i * 13 + k) + 1, 18 + 2 * (k * 13 + j), 18 + 2 * (k * 13 + j) + 1] (by simp only [va_nd, List.mem_cons, List.not_mem_nil, or_false, not_false_eq_true, decide_true, Bool.and_true, Bool.and_eq_true, decide_eq_true_eq, not_or]; omega) hs_).weaken (B := fun _ => True) (fun _ _ _ _ => trivial)
      have hFc := va_free hD hS hA [11, 12, 18 + 2 * (i * 13 + k), 18 + 2 * (i * 13 + k) + 1, 18 + 2 * (k * 13 + j), 18 + 2 * (k * 13 + j) + 1] hs_
      refine va_callv (va_runV (As := [.ref (hw (i * 13 + k)), .ref (hw (k * 13 + j))]) (rest := []) ⟨hx, hb, hml, hown, hts⟩ (c_Whole_setProduct l dC dI H.size cA h0q q0q 52 lq0 Q0 sq0 (hw (i * 13 + k)) (qw (i * 13 + k)) 26 (l1 (i * 13 + k)) (g1 (i * 13 + k)) (s1 (i * 13 + k)) (hw (k * 13 + j)) (qw (k * 13 + j)) 26 (l1 (k * 13 + j)) (g1 (k * 13 + j)) (s1 (k * 13 + j)) (by decide) (by decide) (by decide) hQ0 o3 o4 (by have := o3.1; have := o4.1; omega)) (cwV 2 hts (gw_V k_ml_Desk_119 k_im_Whole_setProduct k_sel_Whole_setProduct k_ini_Whole k_code_Whole_setProduct) rfl rfl rfl (by decide +kernel) ⟨Nat.le_of_ble_eq_true rfl, Nat.le_of_ble_eq_true rfl⟩) ⟨xc_W_blind, va_recv hK hP (ci := 1) (q0 := 11) rfl rfl, fun U hU hW => ⟨rfl, by rw [hU], by rw [hU]; exact hPc, va_K.moved hW.alike (hK.sub (tys' := [(cA, .int)]) [0] rfl), hDc⟩⟩ rfl rfl hl.1 rfl (lv_room (Nat.le_of_ble_eq_true rfl)) d_Desk_eliminateRow_77 ⟨Nat.zero_le _, Nat.zero_le _⟩) hS (fun q _ h => hFc q h) hFc (fun u t_ H locs ht_ hvm_ w2 hB hz1 hk1 hS => ?_)
      obtain ⟨Q1, lq1, sq1⟩ := u
      try dsimp only at w2
      rw [ht_] at hB
      obtain ⟨hP, hD⟩ := xj_6 11 12 (18 + 2 * (i * 13 + k)) (18 + 2 * (i * 13 + k) + 1) (18 + 2 * (k * 13 + j)) (18 + 2 * (k * 13 + j) + 1) hP hD rfl rfl (cw_w rfl hkf) (cw_q rfl hkf) (cw_w rfl hkj) (cw_q rfl hkj) hk1 hB
      have h8 : va_P (dC, dI) classes (((((dx x0 gv cl d0 h0d q0d h0u q0u h0e q0e h0p q0p h0q q0q h0o q0o h0r q0r cA cJ cW n sv a lend fd sgd lenu fu sgu lene fe sge lp1 P1 sp1 lq1 Q1 sq1 leno fo sgo lenr fr sgr tw iv (fun j => some (hw j)) ++ cw (cf cA hw qw g1 l1 s1)).set (18 + 2 * (i * 13 + k)) (hw (i * 13 + k), .inr (1, [.ref (qw (i * 13 + k)), .int (nI (l1 (i * 13 + k))), .int (s1 (i * 13 + k))]))).set (18 + 2 * (i * 13 + k) + 1) (qw (i * 13 + k), .inl (cA, 26, .inl (xn_f (g1 (i * 13 + k)))))).set (18 + 2 * (k * 13 + j)) (hw (k * 13 + j), .inr (1, [.ref (qw (k * 13 + j)), .int (nI (l1 (k * 13 + j))), .int (s1 (k * 13 + j))]))).set (18 + 2 * (k * 13 + j) + 1) (qw (k * 13 + j), .inl (cA, 26, .inl (xn_f (g1 (k * 13 + j)))))) H := hP
      have h9 : va_D A (((((dx x0 gv cl d0 h0d q0d h0u q0u h0e q0e h0p q0p h0q q0q h0o q0o h0r q0r cA cJ cW n sv a lend fd sgd lenu fu sgu lene fe sge lp1 P1 sp1 lq1 Q1 sq1 leno fo sgo lenr fr sgr tw iv (fun j => some (hw j)) ++ cw (cf cA hw qw g1 l1 s1)).set (18 + 2 * (i * 13 + k)) (hw (i * 13 + k), .inr (1, [.ref (qw (i * 13 + k)), .int (nI (l1 (i * 13 + k))), .int (s1 (i * 13 + k))]))).set (18 + 2 * (i * 13 + k) + 1) (qw (i * 13 + k), .inl (cA, 26, .inl (xn_f (g1 (i * 13 + k)))))).set (18 + 2 * (k * 13 + j)) (hw (k * 13 + j), .inr (1, [.ref (qw (k * 13 + j)), .int (nI (l1 (k * 13 + j))), .int (s1 (k * 13 + j))]))).set (18 + 2 * (k * 13 + j) + 1) (qw (k * 13 + j), .inl (cA, 26, .inl (xn_f (g1 (k * 13 + j)))))) := hD
      have e9 := cw_keep (X := dx x0 gv cl d0 h0d q0d h0u q0u h0e q0e h0p q0p h0q q0q h0o q0o h0r q0r cA cJ cW n sv a lend fd sgd lenu fu sgu lene fe sge lp1 P1 sp1 lq1 Q1 sq1 leno fo sgo lenr fr sgr tw iv (fun j => some (hw j))) (cA := cA) (hw := hw) (qw := qw) (gg := g1) (ln := l1) (sn := s1) (n := 18) (j := (i * 13 + k)) rfl
      rw [e9] at h8 h9
      have e9 := cw_keep (X := dx x0 gv cl d0 h0d q0d h0u q0u h0e q0e h0p q0p h0q q0q h0o q0o h0r q0r cA cJ cW n sv a lend fd sgd lenu fu sgu lene fe sge lp1 P1 sp1 lq1 Q1 sq1 leno fo sgo lenr fr sgr tw iv (fun j => some (hw j))) (cA := cA) (hw := hw) (qw := qw) (gg := g1) (ln := l1) (sn := s1) (n := 18) (j := (k * 13 + j)) rfl
      rw [e9] at h8 h9
      have hP : va_P (dC, dI) classes (dw x0 gv cl d0 h0d q0d h0u q0u h0e q0e h0p q0p h0q q0q h0o q0o h0r q0r cA cJ cW n sv a lend fd sgd lenu fu sgu lene fe sge lp1 P1 sp1 lq1 Q1 sq1 leno fo sgo lenr fr sgr tw iv hw qw g1 l1 s1) H := h8
      have hD : va_D A (dw x0 gv cl d0 h0d q0d h0u q0u h0e q0e h0p q0p h0q q0q h0o q0o h0r q0r cA cJ cW n sv a lend fd sgd lenu fu sgu lene fe sge lp1 P1 sp1 lq1 Q1 sq1 leno fo sgo lenr fr sgr tw iv hw qw g1 l1 s1) := h9
      have v1 : wh_z P1 lp1 sp1 = wz gg ln sn (k * 13 + k) * wz gg ln sn (i * 13 + j) := by rw [← z1, ← z2]; exact w1.2
      have v2 : wh_z Q1 lq1 sq1 = wz gg ln sn (i * 13 + k) * wz gg ln sn (k * 13 + j) := by rw [← z3, ← z4]; exact w2.2
      have n1 := bn_len w1.1 v1 (by rw [Int.natAbs_mul]; exact bn_51 b1 b2)
      have n2 := bn_len w2.1 v2 (by rw [Int.natAbs_mul]; exact bn_51 b3 b4)
      refine lv_aload_n hx hb d_Desk_eliminateRow_80 rfl (lv_at hl 4 rfl) ?_
      refine va_get (D := (dC, dI)) (ci := 0) (v := .ref h0p) (C := R_Desk) (T := F_Desk) (N := 10) hx hb hts i_Desk hown hK hP 0 rfl rfl 7 (by decide) (hts _ k_fl_Desk_40) (fun _ h9 => h9) rfl d_Desk_eliminateRow_81 ?_
      refine lv_aload_n hx hb d_Desk_eliminateRow_84 rfl (lv_at hl 4 rfl) ?_
      refine va_get (D := (dC, dI)) (ci := 0) (v := .ref h0q) (C := R_Desk) (T := F_Desk) (N := 10) hx hb hts i_Desk hown hK hP 0 rfl rfl 8 (by decide) (hts _ k_fl_Desk_43) (fun _ h9 => h9) rfl d_Desk_eliminateRow_85 ?_
      have hs_ : ([9, 10, 11, 12] : List Nat).map (fun i => (dw x0 gv cl d0 h0d q0d h0u q0u h0e q0e h0p q0p h0q q0q h0o q0o h0r q0r cA cJ cW n sv a lend fd sgd lenu fu sgu lene fe sge lp1 P1 sp1 lq1 Q1 sq1 leno fo sgo lenr fr sgr tw iv hw qw g1 l1 s1)[i]?) = ([(h0p, .inr (1, [.ref q0p, .int (nI lp1), .int sp1])), (q0p, .inl (cA, 52, .inl (xn_f P1))), (h0q, .inr (1, [.ref q0q, .int (nI lq1), .int sq1])), (q0q, .inl (cA, 52, .inl (xn_f Q1)))]).map some := rfl
      have hPc := xp_P hP [9, 10, 11, 12] hs_
      have hDc := (hD.sub [9, 10, 11, 12] (by decide) hs_).weaken (B := fun _ => True) (fun _ _ _ _ => trivial)
      have hFc := va_free hD hS hA [9, 10, 11, 12] hs_
      refine va_callv (va_runV (As := [.ref h0q]) (rest := []) ⟨hx, hb, hml, hown, hts⟩ (c_Whole_subtract l dC dI H.size cA h0p q0p 52 lp1 P1 sp1 h0q q0q 52 lq1 Q1 sq1 (by decide) (by decide) w1.1 w2.1 ⟨n1, n2⟩) (cwV 1 hts (gw_V k_ml_Desk_122 k_im_Whole_subtract k_sel_Whole_subtract k_ini_Whole k_code_Whole_subtract) rfl rfl rfl (by decide +kernel) ⟨Nat.le_of_ble_eq_true rfl, Nat.le_of_ble_eq_true rfl⟩) ⟨xc_W_blind, va_recv hK hP (ci := 1) (q0 := 9) rfl rfl, fun U hU hW => ⟨rfl, by rw [hU], by rw [hU]; exact hPc, va_K.moved hW.alike (hK.sub (tys' := [(cA, .int)]) [0] rfl), hDc⟩⟩ rfl rfl hl.1 rfl (lv_room (Nat.le_of_ble_eq_true rfl)) d_Desk_eliminateRow_88 ⟨Nat.zero_le _, Nat.zero_le _⟩) hS (fun q _ h => hFc q h) hFc (fun u t_ H locs ht_ hvm_ w3 hB hz1 hk1 hS => ?_)
      obtain ⟨P2, lp2, sp2⟩ := u
      try dsimp only at w3
      rw [ht_] at hB
      obtain ⟨hP, hD⟩ := xj_4 9 10 11 12 hP hD rfl rfl rfl rfl hk1 hB
      have h8 : va_P (dC, dI) classes (dx x0 gv cl d0 h0d q0d h0u q0u h0e q0e h0p q0p h0q q0q h0o q0o h0r q0r cA cJ cW n sv a lend fd sgd lenu fu sgu lene fe sge lp2 P2 sp2 lq1 Q1 sq1 leno fo sgo lenr fr sgr tw iv (fun j => some (hw j)) ++ cw (cf cA hw qw g1 l1 s1)) H := hP
      have h9 : va_D A (dx x0 gv cl d0 h0d q0d h0u q0u h0e q0e h0p q0p h0q q0q h0o q0o h0r q0r cA cJ cW n sv a lend fd sgd lenu fu sgu lene fe sge lp2 P2 sp2 lq1 Q1 sq1 leno fo sgo lenr fr sgr tw iv (fun j => some (hw j)) ++ cw (cf cA hw qw g1 l1 s1)) := hD
      have hP : va_P (dC, dI) classes (dw x0 gv cl d0 h0d q0d h0u q0u h0e q0e h0p q0p h0q q0q h0o q0o h0r q0r cA cJ cW n sv a lend fd sgd lenu fu sgu lene fe sge lp2 P2 sp2 lq1 Q1 sq1 leno fo sgo lenr fr sgr tw iv hw qw g1 l1 s1) H := h8
      have hD : va_D A (dw x0 gv cl d0 h0d q0d h0u q0u h0e q0e h0p q0p h0q q0q h0o q0o h0r q0r cA cJ cW n sv a lend fd sgd lenu fu sgu lene fe sge lp2 P2 sp2 lq1 Q1 sq1 leno fo sgo lenr fr sgr tw iv hw qw g1 l1 s1) := h9
      refine lv_aload_n hx hb d_Desk_eliminateRow_91 rfl (lv_at hl 4 rfl) ?_
      refine va_get (D := (dC, dI)) (ci := 0) (v := .ref d0) (C := R_Desk) (T := F_Desk) (N := 10) hx hb hts i_Desk hown hK hP 0 rfl rfl 9 (by decide) (hts _ k_fl_Desk_49) (fun _ h9 => h9) rfl d_Desk_eliminateRow_92 ?_
      refine lv_aload_n hx hb d_Desk_eliminateRow_95 rfl (lv_at hl 4 rfl) ?_
      refine va_get (D := (dC, dI)) (ci := 0) (v := .ref h0p) (C := R_Desk) (T := F_Desk) (N := 10) hx hb hts i_Desk hown hK hP 0 rfl rfl 7 (by decide) (hts _ k_fl_Desk_40) (fun _ h9 => h9) rfl d_Desk_eliminateRow_96 ?_
      have hs_ : ([13, 14, 15, 9, 10] : List Nat).map (fun i => (dw x0 gv cl d0 h0d q0d h0u q0u h0e q0e h0p q0p h0q q0q h0o q0o h0r q0r cA cJ cW n sv a lend fd sgd lenu fu sgu lene fe sge lp2 P2 sp2 lq1 Q1 sq1 leno fo sgo lenr fr sgr tw iv hw qw g1 l1 s1)[i]?) = ([(d0, .inr (2, [.ref h0o, .ref h0r, .int (nI tw), .int (nI iv)])), (h0o, .inr (1, [.ref q0o, .int (nI leno), .int sgo])), (q0o, .inl (cA, 26, .inl (xn_f fo))), (h0p, .inr (1, [.ref q0p, .int (nI lp2), .int sp2])), (q0p, .inl (cA, 52, .inl (xn_f P2)))]).map some := rfl
      have hPc := xp_P hP [13, 14, 15, 9, 10] hs_
      have hDc := (hD.sub [13, 14, 15, 9, 10] (by decide) hs_).weaken (B := fun _ => True) (fun _ _ _ _ => trivial)
      have hFc := va_free hD hS hA [13, 14, 15, 9, 10] hs_
      refine va_callv (va_runV (As := [.ref h0p]) (rest := []) ⟨hx, hb, hml, hown, hts⟩ (c_Divisor_divide l dC dI H.size cA d0 h0r tw iv h0o q0o 26 leno fo sgo h0p q0p 52 lp2 P2 sp2 (T j) (by decide) (by decide) ho hpos hodd hiv hsgo w3.1 htw (by rw [w3.2, v1, v2]; exact hT j (by omega) (by omega))) (cwV 1 hts (gw_V k_ml_Desk_125 k_im_Divisor_divide k_sel_Divisor_divide k_ini_Divisor k_code_Divisor_divide) rfl rfl rfl (by decide +kernel) ⟨Nat.le_of_ble_eq_true rfl, Nat.le_of_ble_eq_true rfl⟩) ⟨xc_W_blind, va_recv hK hP (ci := 2) (q0 := 13) rfl rfl, fun U hU hW => ⟨rfl, by rw [hU], by rw [hU]; exact hPc, va_K.moved hW.alike (hK.sub (tys' := [(cA, .int)]) [0] rfl), hDc⟩⟩ rfl rfl hl.1 rfl (lv_room (Nat.le_of_ble_eq_true rfl)) d_Desk_eliminateRow_99 ⟨Nat.zero_le _, Nat.zero_le _⟩) hS (fun q _ h => hFc q h) hFc (fun u t_ H locs ht_ hvm_ w4 hB hz1 hk1 hS => ?_)
      obtain ⟨P3, lp3, sp3⟩ := u
      try dsimp only at w4
      rw [ht_] at hB
      obtain ⟨hP, hD⟩ := xj_5 13 14 15 9 10 hP hD rfl rfl rfl rfl rfl hk1 hB
      have h8 : va_P (dC, dI) classes (dx x0 gv cl d0 h0d q0d h0u q0u h0e q0e h0p q0p h0q q0q h0o q0o h0r q0r cA cJ cW n sv a lend fd sgd lenu fu sgu lene fe sge lp3 P3 sp3 lq1 Q1 sq1 leno fo sgo lenr fr sgr tw iv (fun j => some (hw j)) ++ cw (cf cA hw qw g1 l1 s1)) H := hP
      have h9 : va_D A (dx x0 gv cl d0 h0d q0d h0u q0u h0e q0e h0p q0p h0q q0q h0o q0o h0r q0r cA cJ cW n sv a lend fd sgd lenu fu sgu lene fe sge lp3 P3 sp3 lq1 Q1 sq1 leno fo sgo lenr fr sgr tw iv (fun j => some (hw j)) ++ cw (cf cA hw qw g1 l1 s1)) := hD
      have hP : va_P (dC, dI) classes (dw x0 gv cl d0 h0d q0d h0u q0u h0e q0e h0p q0p h0q q0q h0o q0o h0r q0r cA cJ cW n sv a lend fd sgd lenu fu sgu lene fe sge lp3 P3 sp3 lq1 Q1 sq1 leno fo sgo lenr fr sgr tw iv hw qw g1 l1 s1) H := h8
      have hD : va_D A (dw x0 gv cl d0 h0d q0d h0u q0u h0e q0e h0p q0p h0q q0q h0o q0o h0r q0r cA cJ cW n sv a lend fd sgd lenu fu sgu lene fe sge lp3 P3 sp3 lq1 Q1 sq1 leno fo sgo lenr fr sgr tw iv hw qw g1 l1 s1) := h9
      have n3 := bn_len26 w4.1 w4.2 (hTB j (by omega) (by omega))
      refine lv_aload hx hb d_Desk_eliminateRow_102 (lv_at hl 0 rfl) ?_
      refine lv_aload_n hx hb d_Desk_eliminateRow_104 rfl (lv_at hl 4 rfl) ?_
      refine va_get (D := (dC, dI)) (ci := 0) (v := .ref h0p) (C := R_Desk) (T := F_Desk) (N := 10) hx hb hts i_Desk hown hK hP 0 rfl rfl 7 (by decide) (hts _ k_fl_Desk_40) (fun _ h9 => h9) rfl d_Desk_eliminateRow_105 ?_
      have hq_0 : (dw x0 gv cl d0 h0d q0d h0u q0u h0e q0e h0p q0p h0q q0q h0o q0o h0r q0r cA cJ cW n sv a lend fd sgd lenu fu sgu lene fe sge lp3 P3 sp3 lq1 Q1 sq1 leno fo sgo lenr fr sgr tw iv hw qw g1 l1 s1)[18 + 2 * (i * 13 + j)]? = some (hw (i * 13 + j), .inr (1, [.ref (qw (i * 13 + j)), .int (nI (l1 (i * 13 + j))), .int (s1 (i * 13 + j))])) := (cw_w rfl hc)
      have hq_1 : (dw x0 gv cl d0 h0d q0d h0u q0u h0e q0e h0p q0p h0q q0q h0o q0o h0r q0r cA cJ cW n sv a lend fd sgd lenu fu sgu lene fe sge lp3 P3 sp3 lq1 Q1 sq1 leno fo sgo lenr fr sgr tw iv hw qw g1 l1 s1)[18 + 2 * (i * 13 + j) + 1]? = some (qw (i * 13 + j), .inl (cA, 26, .inl (xn_f (g1 (i * 13 + j))))) := (cw_q rfl hc)
      have hs_ : ([18 + 2 * (i * 13 + j), 18 + 2 * (i * 13 + j) + 1, 9, 10] : List Nat).map (fun i => (dw x0 gv cl d0 h0d q0d h0u q0u h0e q0e h0p q0p h0q q0q h0o q0o h0r q0r cA cJ cW n sv a lend fd sgd lenu fu sgu lene fe sge lp3 P3 sp3 lq1 Q1 sq1 leno fo sgo lenr fr sgr tw iv hw qw g1 l1 s1)[i]?) = ([(hw (i * 13 + j), .inr (1, [.ref (qw (i * 13 + j)), .int (nI (l1 (i * 13 + j))), .int (s1 (i * 13 + j))])), (qw (i * 13 + j), .inl (cA, 26, .inl (xn_f (g1 (i * 13 + j))))), (h0p, .inr (1, [.ref q0p, .int (nI lp3), .int sp3])), (q0p, .inl (cA, 52, .inl (xn_f P3)))]).map some := by
        simp only [List.map_cons, List.map_nil]
        rw [hq_0, hq_1]
        rfl
      have hPc := xp_P hP [18 + 2 * (i * 13 + j), 18 + 2 * (i * 13 + j) + 1, 9, 10] hs_
      have hDc := (hD.sub [18 + 2 * (i * 13 + j), 18 + 2 * (i * 13 + j) + 1, 9, 10] (by simp only [va_nd, List.mem_cons, List.not_mem_nil, or_false, not_false_eq_true, decide_true, Bool.and_true, Bool.and_eq_true, decide_eq_true_eq, not_or]; omega) hs_).weaken (B := fun _ => True) (fun _ _ _ _ => trivial)
      have hFc := va_free hD hS hA [18 + 2 * (i * 13 + j), 18 + 2 * (i * 13 + j) + 1, 9, 10] hs_
      refine va_callv (va_runV (As := [.ref h0p]) (rest := []) ⟨hx, hb, hml, hown, hts⟩ (c_Whole_setWhole l dC dI H.size cA (hw (i * 13 + j)) (qw (i * 13 + j)) 26 (l1 (i * 13 + j)) (g1 (i * 13 + j)) (s1 (i * 13 + j)) h0p q0p 52 lp3 P3 sp3 (by decide) (by decide) w4.1.1 n3) (cwV 1 hts (gw_V k_ml_Desk_88 k_im_Whole_setWhole k_sel_Whole_setWhole k_ini_Whole k_code_Whole_setWhole) rfl rfl rfl (by decide +kernel) ⟨Nat.le_of_ble_eq_true rfl, Nat.le_of_ble_eq_true rfl⟩) ⟨xc_W_blind, va_recv hK hP (ci := 1) (q0 := 18 + 2 * (i * 13 + j)) rfl (cw_w rfl hc), fun U hU hW => ⟨rfl, by rw [hU], by rw [hU]; exact hPc, va_K.moved hW.alike (hK.sub (tys' := [(cA, .int)]) [0] rfl), hDc⟩⟩ rfl rfl hl.1 rfl (lv_room (Nat.le_of_ble_eq_true rfl)) d_Desk_eliminateRow_108 ⟨Nat.zero_le _, Nat.zero_le _⟩) hS (fun q _ h => hFc q h) hFc (fun u t_ H locs ht_ hvm_ w5 hB hz1 hk1 hS => ?_)
      obtain ⟨G, L, S⟩ := u
      try dsimp only at w5
      rw [ht_] at hB
      obtain ⟨hP, hD⟩ := xj_4 (18 + 2 * (i * 13 + j)) (18 + 2 * (i * 13 + j) + 1) 9 10 hP hD (cw_w rfl hc) (cw_q rfl hc) rfl rfl hk1 hB
      have h8 : va_P (dC, dI) classes (((((dx x0 gv cl d0 h0d q0d h0u q0u h0e q0e h0p q0p h0q q0q h0o q0o h0r q0r cA cJ cW n sv a lend fd sgd lenu fu sgu lene fe sge lp3 P3 sp3 lq1 Q1 sq1 leno fo sgo lenr fr sgr tw iv (fun j => some (hw j)) ++ cw (cf cA hw qw g1 l1 s1)).set (18 + 2 * (i * 13 + j)) (hw (i * 13 + j), .inr (1, [.ref (qw (i * 13 + j)), .int (nI L), .int S]))).set (18 + 2 * (i * 13 + j) + 1) (qw (i * 13 + j), .inl (cA, 26, .inl (xn_f G)))).set (9) (h0p, .inr (1, [.ref q0p, .int (nI lp3), .int sp3]))).set (10) (q0p, .inl (cA, 52, .inl (xn_f P3)))) H := hP
      have h9 : va_D A (((((dx x0 gv cl d0 h0d q0d h0u q0u h0e q0e h0p q0p h0q q0q h0o q0o h0r q0r cA cJ cW n sv a lend fd sgd lenu fu sgu lene fe sge lp3 P3 sp3 lq1 Q1 sq1 leno fo sgo lenr fr sgr tw iv (fun j => some (hw j)) ++ cw (cf cA hw qw g1 l1 s1)).set (18 + 2 * (i * 13 + j)) (hw (i * 13 + j), .inr (1, [.ref (qw (i * 13 + j)), .int (nI L), .int S]))).set (18 + 2 * (i * 13 + j) + 1) (qw (i * 13 + j), .inl (cA, 26, .inl (xn_f G)))).set (9) (h0p, .inr (1, [.ref q0p, .int (nI lp3), .int sp3]))).set (10) (q0p, .inl (cA, 52, .inl (xn_f P3)))) := hD
      have e9 := cw_pair (X := dx x0 gv cl d0 h0d q0d h0u q0u h0e q0e h0p q0p h0q q0q h0o q0o h0r q0r cA cJ cW n sv a lend fd sgd lenu fu sgu lene fe sge lp3 P3 sp3 lq1 Q1 sq1 leno fo sgo lenr fr sgr tw iv (fun j => some (hw j))) (cA := cA) (hw := hw) (qw := qw) (gg := g1) (ln := l1) (sn := s1) (n := 18) (j := (i * 13 + j)) (L := L) (S := S) (G := G) rfl
      rw [e9] at h8 h9
      have hP : va_P (dC, dI) classes (dw x0 gv cl d0 h0d q0d h0u q0u h0e q0e h0p q0p h0q q0q h0o q0o h0r q0r cA cJ cW n sv a lend fd sgd lenu fu sgu lene fe sge lp3 P3 sp3 lq1 Q1 sq1 leno fo sgo lenr fr sgr tw iv hw qw (va_up g1 (i * 13 + j) G) (va_up l1 (i * 13 + j) L) (va_up s1 (i * 13 + j) S)) H := h8
      have hD : va_D A (dw x0 gv cl d0 h0d q0d h0u q0u h0e q0e h0p q0p h0q q0q h0o q0o h0r q0r cA cJ cW n sv a lend fd sgd lenu fu sgu lene fe sge lp3 P3 sp3 lq1 Q1 sq1 leno fo sgo lenr fr sgr tw iv hw qw (va_up g1 (i * 13 + j) G) (va_up l1 (i * 13 + j) L) (va_up s1 (i * 13 + j) S)) := h9
      obtain ⟨e1, e2, e3⟩ := w5
      have e1 := e1.symm
      have e2 := e2.symm
      subst e1
      subst e2
      obtain ⟨-, c2, c3⟩ := cp_n w4.1 n3 o2.2.1 e3
      have v5 : wh_z G lp3 sp3 = T j := by rw [← w4.2]; unfold wh_z; rw [c2]
      refine lv_iinc (v := nI (j + 1)) (lv' := [(5, .int (nI (j + 1))), (6, .ref (hw (i * 13 + j))), (4, .ref (hw (i * 13 + k))), (3, .ref (hw (k * 13 + k))), (0, .ref x0), (1, .int (nI i)), (2, .int (nI k))]) hx hb d_Desk_eliminateRow_111 hl (k := 1) rfl (nI_1 _) (by decide) rfl (fun ls hl => ?_)
      refine lv_goto (tgt := 28) hx hb d_Desk_eliminateRow_114 (by decide) ?_
      exact ih (j + 1) P3 lp3 sp3 Q1 lq1 sq1 (va_up g1 (i * 13 + j) G) (va_up l1 (i * 13 + j) lp3) (va_up s1 (i * 13 + j) sp3) (by omega) (by omega) w4.1.2.1 w2.1.2.1 (wk_up ho1 c3) (fun j2 h1 h2 => by
                rw [wz_up]
                by_cases q : j2 = j
                · subst q; rw [if_pos rfl]; exact v5
                · rw [if_neg (by omega)]; exact hch j2 h1 (by omega)) (fun p hp => by
                rw [wz_up, if_neg (hp j (by omega) (by omega))]
                exact hun p (fun j2 h1 h2 => hp j2 h1 (by omega))) (by omega) H locs hP hD hS ls (lv_sub hl [0, 2, 3, 4, 5, 6] rfl)
  exact loop (n + 2) (k + 1) fp lenp sgp fq lenq sgq gg ln sn (Nat.le_refl _) (by omega) hfp hfq hok (fun j2 h1 h2 => by omega) (fun _ _ => rfl) (by omega) s.heap [] hP hD hS ls (lv_sub hl [0, 1, 2, 3, 4, 5] rfl)
