set_option maxHeartbeats 8000000 in
set_option maxRecDepth 100000 in
/-- compare -/
theorem c_Desk_compare (l : Launch) (hlt : l.stackTraces = false) (dC : Nat → ClassId) (dI : Nat → Nat → Nat) (sz : Nat) (x0 gv cl d0 h0d q0d h0u q0u h0e q0e h0p q0p h0q q0q h0o q0o h0r q0r : Nat) (cA cJ cW : ClassId) (D : dS) (j k : Int32) (hG : dG D) : vx_Met l y_Desk_compare w_Desk_compare ({ frames := 6, cells := 1, slots := 6, locals := 81 }) (xc_X [.ref x0, .int j, .int k] dC dI (dw x0 gv cl d0 h0d q0d h0u q0u h0e q0e h0p q0p h0q q0q h0o q0o h0r q0r cA cJ cW D.n D.sv D.a D.lend D.fd D.sgd D.lenu D.fu D.sgu D.lene D.fe D.sge D.lenp D.fp D.sgp D.lenq D.fq D.sgq D.leno D.fo D.sgo D.lenr D.fr D.sgr D.tw D.iv D.hw D.qw D.gg D.ln D.sn) [(cA, .int), (cJ, .long), (cW, .object "EquationDesk$Whole")] sz) (va_Qi (S := Unit) (fun r u => ∃ (j2 k2 : Nat) (sg : Int32), j = nI j2 ∧ k = nI k2 ∧ j2 < D.n ∧ k2 < D.n ∧ D.sv = 1 ∧ sg.toInt = (dt_d (dA D.a) D.n).sign ∧ r = wh_c (dt_y (dA D.a) j2 (D.n - 1 - j2) D.n) (dt_y (dA D.a) k2 (D.n - 1 - k2) D.n) * sg) (fun u t => va_P (dC, dI) classes (dw x0 gv cl d0 h0d q0d h0u q0u h0e q0e h0p q0p h0q q0q h0o q0o h0r q0r cA cJ cW D.n D.sv D.a D.lend D.fd D.sgd D.lenu D.fu D.sgu D.lene D.fe D.sge D.lenp D.fp D.sgp D.lenq D.fq D.sgq D.leno D.fo D.sgo D.lenr D.fr D.sgr D.tw D.iv D.hw D.qw D.gg D.ln D.sn) t.heap ∧ va_D (va_A (dw x0 gv cl d0 h0d q0d h0u q0u h0e q0e h0p q0p h0q q0q h0o q0o h0r q0r cA cJ cW D.n D.sv D.a D.lend D.fd D.sgd D.lenu D.fu D.sgu D.lene D.fe D.sge D.lenp D.fp D.sgp D.lenq D.fq D.sgq D.leno D.fo D.sgo D.lenr D.fr D.sgr D.tw D.iv D.hw D.qw D.gg D.ln D.sn) sz) (dw x0 gv cl d0 h0d q0d h0u q0u h0e q0e h0p q0p h0q q0q h0o q0o h0r q0r cA cJ cW D.n D.sv D.a D.lend D.fd D.sgd D.lenu D.fu D.sgu D.lene D.fe D.sge D.lenp D.fp D.sgp D.lenq D.fq D.sgq D.leno D.fo D.sgo D.lenr D.fr D.sgr D.tw D.iv D.hw D.qw D.gg D.ln D.sn)) (va_A (dw x0 gv cl d0 h0d q0d h0u q0u h0e q0e h0p q0p h0q q0q h0o q0o h0r q0r cA cJ cW D.n D.sv D.a D.lend D.fd D.sgd D.lenu D.fu D.sgu D.lene D.fe D.sge D.lenp D.fp D.sgp D.lenq D.fq D.sgq D.leno D.fo D.sgo D.lenr D.fr D.sgr D.tw D.iv D.hw D.qw D.gg D.ln D.sn) sz)) (vx_X (S := Unit) (fun _ => True) (fun E _ t => ((E = xt_s ∧ D.sv = 0) ∨ (E = xt_i ∧ D.sv = 1 ∧ ¬ (0 ≤ j.toInt ∧ j.toInt < D.n ∧ 0 ≤ k.toInt ∧ k.toInt < D.n))) ∧ va_P (dC, dI) classes (dw x0 gv cl d0 h0d q0d h0u q0u h0e q0e h0p q0p h0q q0q h0o q0o h0r q0r cA cJ cW D.n D.sv D.a D.lend D.fd D.sgd D.lenu D.fu D.sgu D.lene D.fe D.sge D.lenp D.fp D.sgp D.lenq D.fq D.sgq D.leno D.fo D.sgo D.lenr D.fr D.sgr D.tw D.iv D.hw D.qw D.gg D.ln D.sn) t.heap ∧ va_D (va_A (dw x0 gv cl d0 h0d q0d h0u q0u h0e q0e h0p q0p h0q q0q h0o q0o h0r q0r cA cJ cW D.n D.sv D.a D.lend D.fd D.sgd D.lenu D.fu D.sgu D.lene D.fe D.sge D.lenp D.fp D.sgp D.lenq D.fq D.sgq D.leno D.fo D.sgo D.lenr D.fr D.sgr D.tw D.iv D.hw D.qw D.gg D.ln D.sn) sz) (dw x0 gv cl d0 h0d q0d h0u q0u h0e q0e h0p q0p h0q q0q h0o q0o h0r q0r cA cJ cW D.n D.sv D.a D.lend D.fd D.sgd D.lenu D.fu D.sgu D.lene D.fe D.sge D.lenp D.fp D.sgp D.lenq D.fq D.sgq D.leno D.fo D.sgo D.lenr D.fr D.sgr D.tw D.iv D.hw D.qw D.gg D.ln D.sn)) (va_A (dw x0 gv cl d0 h0d q0d h0u q0u h0e q0e h0p q0p h0q q0q h0o q0o h0r q0r cA cJ cW D.n D.sv D.a D.lend D.fd D.sgd D.lenu D.fu D.sgu D.lene D.fe D.sge D.lenp D.fp D.sgp D.lenq D.fq D.sgq D.leno D.fo D.sgo D.lenr D.fr D.sgr D.tw D.iv D.hw D.qw D.gg D.ln D.sn) sz)) 1 6 (va_A (dw x0 gv cl d0 h0d q0d h0u q0u h0e q0e h0p q0p h0q q0q h0o q0o h0r q0r cA cJ cW D.n D.sv D.a D.lend D.fd D.sgd D.lenu D.fu D.sgu D.lene D.fe D.sge D.lenp D.fp D.sgp D.lenq D.fq D.sgq D.leno D.fo D.sgo D.lenr D.fr D.sgr D.tw D.iv D.hw D.qw D.gg D.ln D.sn) sz) := by
  refine vx_ofW (cc := b_Desk_compare) (maxL := 5) (ret := (some .int)) (by decide) rfl ?_
  intro p e s m args below meth c s₁ B hml hnx hv
  obtain ⟨⟨rfl, hsz, hP, hK, hD0⟩, hE⟩ := hv
  have hx := B.exec
  have hb := B.bytes
  have hr := B.returns
  have hts : ∀ w ∈ gw_tbl, w.before ([.ref x0, .int j, .int k] : List Value).toArray s = true := fun w h => atoms_spec (ws := w_Desk_compare) B.pre w (List.mem_cons_of_mem _ h)
  have hown : s.vm.findClass R_Desk = some m.cls := findClass_of_methodNamed B.named
  have hlocks := B.notSynchronized
  subst hsz
  have hD := hD0.self (sz := s.heap.size)
  generalize hAe : va_A (dw x0 gv cl d0 h0d q0d h0u q0u h0e q0e h0p q0p h0q q0q h0o q0o h0r q0r cA cJ cW D.n D.sv D.a D.lend D.fd D.sgd D.lenu D.fu D.sgu D.lene D.fe D.sge D.lenp D.fp D.sgp D.lenq D.fq D.sgq D.leno D.fo D.sgo D.lenr D.fr D.sgr D.tw D.iv D.hw D.qw D.gg D.ln D.sn) s.heap.size = A at hD hE ⊢
  have hA : ∀ q : Nat, s.heap.size ≤ q → A q := fun q h => by rw [← hAe]; exact Or.inr h
  have hS : va_S A s.heap s.heap [] := va_S.rf
  have hl := lv_entry ([.ref x0, .int j, .int k]) (n := 5) (Nat.le_of_ble_eq_true rfl)
  rw [lg_entry_eq]
  generalize (lg_sl ([.ref x0, .int j, .int k]) ++ List.replicate (5 - (lg_sl ([.ref x0, .int j, .int k])).length) Slot.unset).toArray = ls at hl ⊢
  have hl : lv_has ls 5 [(0, .ref x0), (1, .int j), (2, .int k)] := hl
  have hG0 := hG
  obtain ⟨g1, g2, g3, g4, g5, g6, g7, g8, g9, g10, g11⟩ := hG
  have z0 : (0 : Int32).toInt = 0 := rfl
  refine lv_aload_n hx hb d_Desk_compare_0 rfl (lv_at hl 0 rfl) ?_
  refine va_get (D := (dC, dI)) (ci := 0) (v := .int D.sv) (C := R_Desk) (T := F_Desk) (N := 10) hx hb hts i_Desk hown hK hP 0 rfl rfl 2 (by decide) (hts _ k_fl_Desk_17) (fun _ h9 => h9) rfl d_Desk_compare_1 ?_
  refine lv_if_ne (tgt := 15) hx hb d_Desk_compare_4 (by decide) (fun hs => ?_) (fun hs => ?_)
  rotate_left
  · exact xt_throw hx hb hlt (X := xt_s) (ik := 74) (ic := 76) (SX := Unit) hown (by decide +kernel) hts xt_s1 xt_s2 xt_s3 hE hS (hl.1.trans hml.symm) d_Desk_compare_7 d_Desk_compare_10 d_Desk_compare_11 d_Desk_compare_14 hnx (Nat.le_of_ble_eq_true rfl) (Nat.le_of_ble_eq_true rfl) (Nat.le_of_ble_eq_true rfl) (Nat.le_of_ble_eq_true rfl) hlocks () trivial (fun t_ hq_ => ⟨Or.inl ⟨rfl, hs⟩, xt_keepP hP hq_, hD⟩)
  have hs1 : D.sv = 1 := by
    rcases g2 with e | e
    · exact absurd e hs
    · exact e
  obtain ⟨d1, d2, d3⟩ := g11 hs1
  refine lv_aload_n hx hb d_Desk_compare_15 rfl (lv_at hl 0 rfl) ?_
  refine lv_iload_n hx hb d_Desk_compare_16 rfl (lv_at hl 1 rfl) ?_
  have hPc := hP
  refine vp_callSi (W.runV (As := [.int j]) (rest := []) ⟨hx, hb, hml, hown, hts⟩ (c_Desk_isUnknown l dC dI x0 gv cl d0 h0d q0d h0u q0u h0e q0e h0p q0p h0q q0q h0o q0o h0r q0r cA cJ cW D.n D.sv D.a D.lend D.fd D.sgd D.lenu D.fu D.sgu D.lene D.fe D.sge D.lenp D.fp D.sgp D.lenq D.fq D.sgq D.leno D.fo D.sgo D.lenr D.fr D.sgr D.tw D.iv D.hw D.qw D.gg D.ln D.sn j g1) (cwV 1 hts (gw_V k_ml_Desk_77 k_im_Desk_isUnknown k_sel_Desk_isUnknown k_ini_Desk k_code_Desk_isUnknown) rfl rfl rfl (by decide +kernel) ⟨Nat.le_of_ble_eq_true rfl, Nat.le_of_ble_eq_true rfl⟩) ⟨xc_R_blind, va_recv hK hP (ci := 0) (q0 := 0) rfl rfl, fun U hU hW => ⟨rfl, by rw [hU]; exact hPc, va_K.moved hW.alike (hK.sub (tys' := [(cA, .int), (cJ, .long), (cW, .object "EquationDesk$Whole")]) [0, 1, 2] rfl)⟩⟩ rfl rfl hl.1 rfl (lv_room (Nat.le_of_ble_eq_true rfl)) d_Desk_compare_17 ⟨Nat.zero_le _, Nat.zero_le _⟩) (fun ur hU => ?_)
  refine lv_if_eq (tgt := 31) hx hb d_Desk_compare_20 (by decide) (fun hz => ?_) (fun hz => ?_)
  · exact xt_throw hx hb hlt (X := xt_i) (ik := 60) (ic := 62) (SX := Unit) hown (by decide +kernel) hts xt_i1 xt_i2 xt_i3 hE hS (hl.1.trans hml.symm) d_Desk_compare_31 d_Desk_compare_34 d_Desk_compare_35 d_Desk_compare_38 hnx (Nat.le_of_ble_eq_true rfl) (Nat.le_of_ble_eq_true rfl) (Nat.le_of_ble_eq_true rfl) (Nat.le_of_ble_eq_true rfl) hlocks () trivial (fun t_ hq_ => ⟨Or.inr ⟨rfl, hs1, fun w => by
            rcases hU with z | z
            · rw [z.1] at hz; exact absurd hz (by decide)
            · exact z.2 ⟨w.1, w.2.1⟩⟩, xt_keepP hP hq_, hD⟩)
  have hj : 0 ≤ j.toInt ∧ j.toInt < D.n := by
    rcases hU with z | z
    · exact z.2
    · exact absurd z.1 hz
  refine lv_aload_n hx hb d_Desk_compare_23 rfl (lv_at hl 0 rfl) ?_
  refine lv_iload_n hx hb d_Desk_compare_24 rfl (lv_at hl 2 rfl) ?_
  have hPc := hP
  refine vp_callSi (W.runV (As := [.int k]) (rest := []) ⟨hx, hb, hml, hown, hts⟩ (c_Desk_isUnknown l dC dI x0 gv cl d0 h0d q0d h0u q0u h0e q0e h0p q0p h0q q0q h0o q0o h0r q0r cA cJ cW D.n D.sv D.a D.lend D.fd D.sgd D.lenu D.fu D.sgu D.lene D.fe D.sge D.lenp D.fp D.sgp D.lenq D.fq D.sgq D.leno D.fo D.sgo D.lenr D.fr D.sgr D.tw D.iv D.hw D.qw D.gg D.ln D.sn k g1) (cwV 1 hts (gw_V k_ml_Desk_77 k_im_Desk_isUnknown k_sel_Desk_isUnknown k_ini_Desk k_code_Desk_isUnknown) rfl rfl rfl (by decide +kernel) ⟨Nat.le_of_ble_eq_true rfl, Nat.le_of_ble_eq_true rfl⟩) ⟨xc_R_blind, va_recv hK hP (ci := 0) (q0 := 0) rfl rfl, fun U hU hW => ⟨rfl, by rw [hU]; exact hPc, va_K.moved hW.alike (hK.sub (tys' := [(cA, .int), (cJ, .long), (cW, .object "EquationDesk$Whole")]) [0, 1, 2] rfl)⟩⟩ rfl rfl hl.1 rfl (lv_room (Nat.le_of_ble_eq_true rfl)) d_Desk_compare_25 ⟨Nat.zero_le _, Nat.zero_le _⟩) (fun ur2 hU2 => ?_)
  refine lv_if_ne (tgt := 39) hx hb d_Desk_compare_28 (by decide) (fun hz2 => ?_) (fun hz2 => ?_)
  rotate_left
  · exact xt_throw hx hb hlt (X := xt_i) (ik := 60) (ic := 62) (SX := Unit) hown (by decide +kernel) hts xt_i1 xt_i2 xt_i3 hE hS (hl.1.trans hml.symm) d_Desk_compare_31 d_Desk_compare_34 d_Desk_compare_35 d_Desk_compare_38 hnx (Nat.le_of_ble_eq_true rfl) (Nat.le_of_ble_eq_true rfl) (Nat.le_of_ble_eq_true rfl) (Nat.le_of_ble_eq_true rfl) hlocks () trivial (fun t_ hq_ => ⟨Or.inr ⟨rfl, hs1, fun w => by
            rcases hU2 with z | z
            · rw [z.1] at hz2; exact absurd hz2 (by decide)
            · exact z.2 w.2.2⟩, xt_keepP hP hq_, hD⟩)
  have hk : 0 ≤ k.toInt ∧ k.toInt < D.n := by
    rcases hU2 with z | z
    · exact z.2
    · exact absurd z.1 hz2
  obtain ⟨kn, hkn, ek⟩ := nI_of (x := k) (by rw [Int32.lt_iff_toInt_lt]; omega)
  obtain ⟨jn, hjn, ej⟩ := nI_of (x := j) (by rw [Int32.lt_iff_toInt_lt]; omega)
  subst ek
  subst ej
  have t1 := nI_toInt hkn
  have t2 := nI_toInt hjn
  have hk2 : kn < D.n := by omega
  have hj2 : jn < D.n := by omega
  have hc1 : jn * 13 + D.n < 156 := by omega
  have hc2 : kn * 13 + D.n < 156 := by omega
  refine lv_aload_n hx hb d_Desk_compare_39 rfl (lv_at hl 0 rfl) ?_
  refine va_get (D := (dC, dI)) (ci := 0) (v := .ref cl) (C := R_Desk) (T := F_Desk) (N := 10) hx hb hts i_Desk hown hK hP 0 rfl rfl 3 (by decide) (hts _ k_fl_Desk_23) (fun _ h9 => h9) rfl d_Desk_compare_40 ?_
  refine lv_iload_n hx hb d_Desk_compare_43 rfl (lv_at hl 1 rfl) ?_
  refine lv_aload_n hx hb d_Desk_compare_44 rfl (lv_at hl 0 rfl) ?_
  refine va_get (D := (dC, dI)) (ci := 0) (v := .int (nI D.n)) (C := R_Desk) (T := F_Desk) (N := 10) hx hb hts i_Desk hown hK hP 0 rfl rfl 1 (by decide) (hts _ k_fl_Desk_13) (fun _ h9 => h9) rfl d_Desk_compare_45 ?_
  refine vp_callSi (W.runS (As := [.int (nI jn), .int (nI D.n)]) (rest := [.ref cl]) ⟨hx, hb, hml, hown, hts⟩ (c_Desk_cellIndex l dC dI jn D.n) (cwS 2 hts (gw_S k_ml_Desk_63 k_st_Desk_cellIndex k_ini_Desk k_code_Desk_cellIndex) rfl rfl rfl (by decide +kernel) ⟨Nat.le_of_ble_eq_true rfl, Nat.le_of_ble_eq_true rfl⟩) ⟨xc_R_blind, fun U hU hW => ⟨rfl, by rw [hU]; exact hP.sub (ws' := []) [] rfl, va_K.moved hW.alike (hK.sub (tys' := []) [] rfl)⟩⟩ rfl rfl hl.1 rfl (lv_room (Nat.le_of_ble_eq_true rfl)) d_Desk_compare_48 ⟨Nat.zero_le _, Nat.zero_le _⟩) (fun r_ e_r => ?_)
  subst e_r
  refine xn_aald hx hb hK hP 2 2 rfl rfl (i := jn * 13 + D.n) (b := D.hw (jn * 13 + D.n)) rfl hc1 (by decide) d_Desk_compare_51 ?_
  refine lv_astore_n (lv' := [(3, .ref (D.hw (jn * 13 + D.n))), (0, .ref x0), (1, .int (nI jn)), (2, .int (nI kn))]) hx hb d_Desk_compare_52 rfl hl (by decide) rfl (fun ls hl => ?_)
  refine lv_aload_n hx hb d_Desk_compare_53 rfl (lv_at hl 1 rfl) ?_
  refine va_get (D := (dC, dI)) (ci := 0) (v := .ref cl) (C := R_Desk) (T := F_Desk) (N := 10) hx hb hts i_Desk hown hK hP 0 rfl rfl 3 (by decide) (hts _ k_fl_Desk_23) (fun _ h9 => h9) rfl d_Desk_compare_54 ?_
  refine lv_iload_n hx hb d_Desk_compare_57 rfl (lv_at hl 3 rfl) ?_
  refine lv_aload_n hx hb d_Desk_compare_58 rfl (lv_at hl 1 rfl) ?_
  refine va_get (D := (dC, dI)) (ci := 0) (v := .int (nI D.n)) (C := R_Desk) (T := F_Desk) (N := 10) hx hb hts i_Desk hown hK hP 0 rfl rfl 1 (by decide) (hts _ k_fl_Desk_13) (fun _ h9 => h9) rfl d_Desk_compare_59 ?_
  refine vp_callSi (W.runS (As := [.int (nI kn), .int (nI D.n)]) (rest := [.ref cl]) ⟨hx, hb, hml, hown, hts⟩ (c_Desk_cellIndex l dC dI kn D.n) (cwS 2 hts (gw_S k_ml_Desk_63 k_st_Desk_cellIndex k_ini_Desk k_code_Desk_cellIndex) rfl rfl rfl (by decide +kernel) ⟨Nat.le_of_ble_eq_true rfl, Nat.le_of_ble_eq_true rfl⟩) ⟨xc_R_blind, fun U hU hW => ⟨rfl, by rw [hU]; exact hP.sub (ws' := []) [] rfl, va_K.moved hW.alike (hK.sub (tys' := []) [] rfl)⟩⟩ rfl rfl hl.1 rfl (lv_room (Nat.le_of_ble_eq_true rfl)) d_Desk_compare_62 ⟨Nat.zero_le _, Nat.zero_le _⟩) (fun r_ e_r => ?_)
  subst e_r
  refine xn_aald hx hb hK hP 2 2 rfl rfl (i := kn * 13 + D.n) (b := D.hw (kn * 13 + D.n)) rfl hc2 (by decide) d_Desk_compare_65 ?_
  refine lv_astore (lv' := [(4, .ref (D.hw (kn * 13 + D.n))), (3, .ref (D.hw (jn * 13 + D.n))), (0, .ref x0), (1, .int (nI jn)), (2, .int (nI kn))]) hx hb d_Desk_compare_66 hl (by decide) rfl (fun ls hl => ?_)
  refine lv_aload_n hx hb d_Desk_compare_68 rfl (lv_at hl 1 rfl) ?_
  refine lv_aload hx hb d_Desk_compare_69 (lv_at hl 0 rfl) ?_
  have hq_0 : (dw x0 gv cl d0 h0d q0d h0u q0u h0e q0e h0p q0p h0q q0q h0o q0o h0r q0r cA cJ cW D.n D.sv D.a D.lend D.fd D.sgd D.lenu D.fu D.sgu D.lene D.fe D.sge D.lenp D.fp D.sgp D.lenq D.fq D.sgq D.leno D.fo D.sgo D.lenr D.fr D.sgr D.tw D.iv D.hw D.qw D.gg D.ln D.sn)[18 + 2 * (jn * 13 + D.n)]? = some (D.hw (jn * 13 + D.n), .inr (1, [.ref (D.qw (jn * 13 + D.n)), .int (nI (D.ln (jn * 13 + D.n))), .int (D.sn (jn * 13 + D.n))])) := (cw_w rfl hc1)
  have hq_1 : (dw x0 gv cl d0 h0d q0d h0u q0u h0e q0e h0p q0p h0q q0q h0o q0o h0r q0r cA cJ cW D.n D.sv D.a D.lend D.fd D.sgd D.lenu D.fu D.sgu D.lene D.fe D.sge D.lenp D.fp D.sgp D.lenq D.fq D.sgq D.leno D.fo D.sgo D.lenr D.fr D.sgr D.tw D.iv D.hw D.qw D.gg D.ln D.sn)[18 + 2 * (jn * 13 + D.n) + 1]? = some (D.qw (jn * 13 + D.n), .inl (cA, 26, .inl (xn_f (D.gg (jn * 13 + D.n))))) := (cw_q rfl hc1)
  have hq_2 : (dw x0 gv cl d0 h0d q0d h0u q0u h0e q0e h0p q0p h0q q0q h0o q0o h0r q0r cA cJ cW D.n D.sv D.a D.lend D.fd D.sgd D.lenu D.fu D.sgu D.lene D.fe D.sge D.lenp D.fp D.sgp D.lenq D.fq D.sgq D.leno D.fo D.sgo D.lenr D.fr D.sgr D.tw D.iv D.hw D.qw D.gg D.ln D.sn)[18 + 2 * (kn * 13 + D.n)]? = some (D.hw (kn * 13 + D.n), .inr (1, [.ref (D.qw (kn * 13 + D.n)), .int (nI (D.ln (kn * 13 + D.n))), .int (D.sn (kn * 13 + D.n))])) := (cw_w rfl hc2)
  have hq_3 : (dw x0 gv cl d0 h0d q0d h0u q0u h0e q0e h0p q0p h0q q0q h0o q0o h0r q0r cA cJ cW D.n D.sv D.a D.lend D.fd D.sgd D.lenu D.fu D.sgu D.lene D.fe D.sge D.lenp D.fp D.sgp D.lenq D.fq D.sgq D.leno D.fo D.sgo D.lenr D.fr D.sgr D.tw D.iv D.hw D.qw D.gg D.ln D.sn)[18 + 2 * (kn * 13 + D.n) + 1]? = some (D.qw (kn * 13 + D.n), .inl (cA, 26, .inl (xn_f (D.gg (kn * 13 + D.n))))) := (cw_q rfl hc2)
  have hs_ : ([18 + 2 * (jn * 13 + D.n), 18 + 2 * (jn * 13 + D.n) + 1, 18 + 2 * (kn * 13 + D.n), 18 + 2 * (kn * 13 + D.n) + 1] : List Nat).map (fun i => (dw x0 gv cl d0 h0d q0d h0u q0u h0e q0e h0p q0p h0q q0q h0o q0o h0r q0r cA cJ cW D.n D.sv D.a D.lend D.fd D.sgd D.lenu D.fu D.sgu D.lene D.fe D.sge D.lenp D.fp D.sgp D.lenq D.fq D.sgq D.leno D.fo D.sgo D.lenr D.fr D.sgr D.tw D.iv D.hw D.qw D.gg D.ln D.sn)[i]?) = ([(D.hw (jn * 13 + D.n), .inr (1, [.ref (D.qw (jn * 13 + D.n)), .int (nI (D.ln (jn * 13 + D.n))), .int (D.sn (jn * 13 + D.n))])), (D.qw (jn * 13 + D.n), .inl (cA, 26, .inl (xn_f (D.gg (jn * 13 + D.n))))), (D.hw (kn * 13 + D.n), .inr (1, [.ref (D.qw (kn * 13 + D.n)), .int (nI (D.ln (kn * 13 + D.n))), .int (D.sn (kn * 13 + D.n))])), (D.qw (kn * 13 + D.n), .inl (cA, 26, .inl (xn_f (D.gg (kn * 13 + D.n)))))]).map some := by
    simp only [List.map_cons, List.map_nil]
    rw [hq_0, hq_1, hq_2, hq_3]
  have hPc := xp_P hP [18 + 2 * (jn * 13 + D.n), 18 + 2 * (jn * 13 + D.n) + 1, 18 + 2 * (kn * 13 + D.n), 18 + 2 * (kn * 13 + D.n) + 1] hs_
  refine vp_callSi (W.runV (As := [.ref (D.hw (kn * 13 + D.n))]) (rest := []) ⟨hx, hb, hml, hown, hts⟩ (c_Whole_order l dC dI cA (D.hw (jn * 13 + D.n)) (D.qw (jn * 13 + D.n)) 26 (D.ln (jn * 13 + D.n)) (D.gg (jn * 13 + D.n)) (D.sn (jn * 13 + D.n)) (D.hw (kn * 13 + D.n)) (D.qw (kn * 13 + D.n)) 26 (D.ln (kn * 13 + D.n)) (D.gg (kn * 13 + D.n)) (D.sn (kn * 13 + D.n)) (by decide) (by decide) (g3 _ hc1) (g3 _ hc2)) (cwV 1 hts (gw_V k_ml_Desk_92 k_im_Whole_order k_sel_Whole_order k_ini_Whole k_code_Whole_order) rfl rfl rfl (by decide +kernel) ⟨Nat.le_of_ble_eq_true rfl, Nat.le_of_ble_eq_true rfl⟩) ⟨xc_R_blind, va_recv hK hP (ci := 1) (q0 := 18 + 2 * (jn * 13 + D.n)) rfl (cw_w rfl hc1), fun U hU hW => ⟨rfl, by rw [hU]; exact hPc, va_K.moved hW.alike (hK.sub (tys' := [(cA, .int)]) [0] rfl)⟩⟩ rfl rfl hl.1 rfl (lv_room (Nat.le_of_ble_eq_true rfl)) d_Desk_compare_71 ⟨Nat.zero_le _, Nat.zero_le _⟩) (fun ro e_o => ?_)
  refine lv_aload_n hx hb d_Desk_compare_74 rfl (lv_at hl 2 rfl) ?_
  refine va_get (D := (dC, dI)) (ci := 0) (v := .ref h0d) (C := R_Desk) (T := F_Desk) (N := 10) hx hb hts i_Desk hown hK hP 0 rfl rfl 4 (by decide) (hts _ k_fl_Desk_30) (fun _ h9 => h9) rfl d_Desk_compare_75 ?_
  refine va_get (D := (dC, dI)) (ci := 1) (v := .int D.sgd) (C := R_Whole) (T := F_Whole) (N := 3) hx hb hts i_Whole hown hK hP 3 rfl rfl 2 (by decide) (hts _ k_fl_Desk_85) (fun _ h9 => h9) rfl d_Desk_compare_78 ?_
  refine xe_imul (v := ro * D.sgd) hx hb d_Desk_compare_81 rfl ?_
  have hpost : ∃ (j2 k2 : Nat) (sg : Int32), nI jn = nI j2 ∧ nI kn = nI k2 ∧ j2 < D.n ∧ k2 < D.n ∧ D.sv = 1 ∧ sg.toInt = (dt_d (dA D.a) D.n).sign ∧ ro * D.sgd = wh_c (dt_y (dA D.a) j2 (D.n - 1 - j2) D.n) (dt_y (dA D.a) k2 (D.n - 1 - k2) D.n) * sg := ⟨jn, kn, D.sgd, rfl, rfl, hj2, hk2, hs1, by rw [wh_sgn g4, d2], by rw [e_o, ← d3 jn hj2, ← d3 kn hk2]; rfl⟩
  refine vx_ret (W.widen (k := 1) (n := 6) (Nat.zero_le _) (Nat.zero_le _) ?_)
  exact W.iret (v := ro * D.sgd) hx hb hr (fun T_ ht_ hW_ => ⟨⟨_, (), rfl, hpost, by show va_P (dC, dI) classes _ T_.heap; rw [ht_]; exact hP, hD⟩, hS.F ht_⟩) hS.2.2 d_Desk_compare_82
set_option maxHeartbeats 8000000 in
set_option maxRecDepth 100000 in
/-- bits -/
theorem c_Desk_bits (l : Launch) (dC : Nat → ClassId) (dI : Nat → Nat → Nat) (x0 gv cl d0 h0d q0d h0u q0u h0e q0e h0p q0p h0q q0q h0o q0o h0r q0r : Nat) (cA cJ cW : ClassId) (D : dS) (b : Int32) (hG : dG D) : Met l y_Desk_bits w_Desk_bits ({ frames := 2, cells := 0, slots := 0, locals := 42 }) (xc_R [.ref x0, .int b] dC dI (dw x0 gv cl d0 h0d q0d h0u q0u h0e q0e h0p q0p h0q q0q h0o q0o h0r q0r cA cJ cW D.n D.sv D.a D.lend D.fd D.sgd D.lenu D.fu D.sgu D.lene D.fe D.sge D.lenp D.fp D.sgp D.lenq D.fq D.sgq D.leno D.fo D.sgo D.lenr D.fr D.sgr D.tw D.iv D.hw D.qw D.gg D.ln D.sn) [(cA, .int), (cJ, .long), (cW, .object "EquationDesk$Whole")]) (vp_Si (fun r => ∃ bl : Nat, r = nI bl ∧ bl ≤ 806 ∧ (if b = 0 then dN D else dE D) < 2 ^ bl ∧ ∀ q, bl = q + 1 → 2 ^ q ≤ (if b = 0 then dN D else dE D))) 0 0 (fun _ => False) := by
  refine Met.ofW (cc := b_Desk_bits) (maxL := 2) (ret := (some .int)) (by decide) rfl ?_
  intro p e s m args below meth c s₁ B hml hv
  obtain ⟨rfl, hP, hK⟩ := hv
  have hx := B.exec
  have hb := B.bytes
  have hr := B.returns
  have hts : ∀ w ∈ gw_tbl, w.before ([.ref x0, .int b] : List Value).toArray s = true := fun w h => atoms_spec (ws := w_Desk_bits) B.pre w (List.mem_cons_of_mem _ h)
  have hown : s.vm.findClass R_Desk = some m.cls := findClass_of_methodNamed B.named
  have hlocks := B.notSynchronized
  have hl := lv_entry ([.ref x0, .int b]) (n := 2) (Nat.le_of_ble_eq_true rfl)
  rw [lg_entry_eq]
  generalize (lg_sl ([.ref x0, .int b]) ++ List.replicate (2 - (lg_sl ([.ref x0, .int b])).length) Slot.unset).toArray = ls at hl ⊢
  have hl : lv_has ls 2 [(0, .ref x0), (1, .int b)] := hl
  obtain ⟨g1, g2, g3, g4, g5, g6, g7, g8, g9, g10, g11⟩ := hG
  refine lv_aload_n hx hb d_Desk_bits_0 rfl (lv_at hl 0 rfl) ?_
  refine lv_iload_n hx hb d_Desk_bits_1 rfl (lv_at hl 1 rfl) ?_
  have hPc := hP
  refine va_csr (W.runV (As := [.int b]) (rest := []) ⟨hx, hb, hml, hown, hts⟩ (c_Desk_resultPart l dC dI x0 gv cl d0 h0d q0d h0u q0u h0e q0e h0p q0p h0q q0q h0o q0o h0r q0r cA cJ cW D.n D.sv D.a D.lend D.fd D.sgd D.lenu D.fu D.sgu D.lene D.fe D.sge D.lenp D.fp D.sgp D.lenq D.fq D.sgq D.leno D.fo D.sgo D.lenr D.fr D.sgr D.tw D.iv D.hw D.qw D.gg D.ln D.sn b) (cwV 1 hts (gw_V k_ml_Desk_96 k_im_Desk_resultPart k_sel_Desk_resultPart k_ini_Desk k_code_Desk_resultPart) rfl rfl rfl (by decide +kernel) ⟨Nat.le_of_ble_eq_true rfl, Nat.le_of_ble_eq_true rfl⟩) ⟨xc_R_blind, va_recv hK hP (ci := 0) (q0 := 0) rfl rfl, fun U hU hW => ⟨rfl, by rw [hU]; exact hPc, va_K.moved hW.alike (hK.sub (tys' := [(cA, .int), (cJ, .long), (cW, .object "EquationDesk$Whole")]) [0, 1, 2] rfl)⟩⟩ rfl rfl hl.1 rfl (lv_room (Nat.le_of_ble_eq_true rfl)) d_Desk_bits_2 ⟨Nat.zero_le _, Nat.zero_le _⟩) (fun kk hkk => ?_)
  by_cases hb0 : b = 0
  · rw [if_pos hb0] at hkk
    have hkk := hkk.symm
    subst hkk
    have hs_ : ([5, 6] : List Nat).map (fun i => (dw x0 gv cl d0 h0d q0d h0u q0u h0e q0e h0p q0p h0q q0q h0o q0o h0r q0r cA cJ cW D.n D.sv D.a D.lend D.fd D.sgd D.lenu D.fu D.sgu D.lene D.fe D.sge D.lenp D.fp D.sgp D.lenq D.fq D.sgq D.leno D.fo D.sgo D.lenr D.fr D.sgr D.tw D.iv D.hw D.qw D.gg D.ln D.sn)[i]?) = ([(h0u, .inr (1, [.ref q0u, .int (nI D.lenu), .int D.sgu])), (q0u, .inl (cA, 26, .inl (xn_f D.fu)))]).map some := rfl
    have hPc := xp_P hP [5, 6] hs_
    refine vp_callSi (W.runV (As := []) (rest := []) ⟨hx, hb, hml, hown, hts⟩ (c_Whole_bitLength l dC dI cA h0u q0u 26 D.lenu D.fu D.sgu (by decide) (wh_n g5)) (cwV 0 hts (gw_V k_ml_Desk_100 k_im_Whole_bitLength k_sel_Whole_bitLength k_ini_Whole k_code_Whole_bitLength) rfl rfl rfl (by decide +kernel) ⟨Nat.le_of_ble_eq_true rfl, Nat.le_of_ble_eq_true rfl⟩) ⟨xc_R_blind, va_recv hK hP (ci := 1) (q0 := 5) rfl rfl, fun U hU hW => ⟨rfl, by rw [hU]; exact hPc, va_K.moved hW.alike (hK.sub (tys' := [(cA, .int)]) [0] rfl)⟩⟩ rfl rfl hl.1 rfl (lv_room (Nat.le_of_ble_eq_true rfl)) d_Desk_bits_5 ⟨Nat.zero_le _, Nat.zero_le _⟩) (fun r_ e_r => ?_)
    obtain ⟨bl, e1, e2, e3, e4⟩ := e_r
    have hl26 := g5.1
    have hpost : ∃ b2 : Nat, r_ = nI b2 ∧ b2 ≤ 806 ∧ (if b = 0 then dN D else dE D) < 2 ^ b2 ∧ ∀ q, b2 = q + 1 → 2 ^ q ≤ (if b = 0 then dN D else dE D) := by
      rw [if_pos hb0]
      exact ⟨bl, e1, by omega, e3, e4⟩
    exact W.iret (v := r_) hx hb hr (fun T_ ht_ hW_ => ⟨_, rfl, hpost, ht_⟩) (fun q hq => by cases hq) d_Desk_bits_8
  · rw [if_neg hb0] at hkk
    have hkk := hkk.symm
    subst hkk
    have hs_ : ([7, 8] : List Nat).map (fun i => (dw x0 gv cl d0 h0d q0d h0u q0u h0e q0e h0p q0p h0q q0q h0o q0o h0r q0r cA cJ cW D.n D.sv D.a D.lend D.fd D.sgd D.lenu D.fu D.sgu D.lene D.fe D.sge D.lenp D.fp D.sgp D.lenq D.fq D.sgq D.leno D.fo D.sgo D.lenr D.fr D.sgr D.tw D.iv D.hw D.qw D.gg D.ln D.sn)[i]?) = ([(h0e, .inr (1, [.ref q0e, .int (nI D.lene), .int D.sge])), (q0e, .inl (cA, 26, .inl (xn_f D.fe)))]).map some := rfl
    have hPc := xp_P hP [7, 8] hs_
    refine vp_callSi (W.runV (As := []) (rest := []) ⟨hx, hb, hml, hown, hts⟩ (c_Whole_bitLength l dC dI cA h0e q0e 26 D.lene D.fe D.sge (by decide) (wh_n g6)) (cwV 0 hts (gw_V k_ml_Desk_100 k_im_Whole_bitLength k_sel_Whole_bitLength k_ini_Whole k_code_Whole_bitLength) rfl rfl rfl (by decide +kernel) ⟨Nat.le_of_ble_eq_true rfl, Nat.le_of_ble_eq_true rfl⟩) ⟨xc_R_blind, va_recv hK hP (ci := 1) (q0 := 7) rfl rfl, fun U hU hW => ⟨rfl, by rw [hU]; exact hPc, va_K.moved hW.alike (hK.sub (tys' := [(cA, .int)]) [0] rfl)⟩⟩ rfl rfl hl.1 rfl (lv_room (Nat.le_of_ble_eq_true rfl)) d_Desk_bits_5 ⟨Nat.zero_le _, Nat.zero_le _⟩) (fun r_ e_r => ?_)
    obtain ⟨bl, e1, e2, e3, e4⟩ := e_r
    have hl26 := g6.1
    have hpost : ∃ b2 : Nat, r_ = nI b2 ∧ b2 ≤ 806 ∧ (if b = 0 then dN D else dE D) < 2 ^ b2 ∧ ∀ q, b2 = q + 1 → 2 ^ q ≤ (if b = 0 then dN D else dE D) := by
      rw [if_neg hb0]
      exact ⟨bl, e1, by omega, e3, e4⟩
    exact W.iret (v := r_) hx hb hr (fun T_ ht_ hW_ => ⟨_, rfl, hpost, ht_⟩) (fun q hq => by cases hq) d_Desk_bits_8
set_option maxHeartbeats 8000000 in
set_option maxRecDepth 100000 in
/-- part -/
theorem c_Desk_part (l : Launch) (hlt : l.stackTraces = false) (dC : Nat → ClassId) (dI : Nat → Nat → Nat) (sz : Nat) (x0 gv cl d0 h0d q0d h0u q0u h0e q0e h0p q0p h0q q0q h0o q0o h0r q0r : Nat) (cA cJ cW : ClassId) (D : dS) (b k : Int32) (hG : dG D) : vx_Met l y_Desk_part w_Desk_part ({ frames := 6, cells := 1, slots := 6, locals := 81 }) (xc_X [.ref x0, .int b, .int k] dC dI (dw x0 gv cl d0 h0d q0d h0u q0u h0e q0e h0p q0p h0q q0q h0o q0o h0r q0r cA cJ cW D.n D.sv D.a D.lend D.fd D.sgd D.lenu D.fu D.sgu D.lene D.fe D.sge D.lenp D.fp D.sgp D.lenq D.fq D.sgq D.leno D.fo D.sgo D.lenr D.fr D.sgr D.tw D.iv D.hw D.qw D.gg D.ln D.sn) [(cA, .int), (cJ, .long), (cW, .object "EquationDesk$Whole")] sz) (va_Qi (S := Unit) (fun r u => ∃ k2 : Nat, k = nI k2 ∧ k2 < 2 ^ 31 ∧ r = nI ((if b = 0 then dN D else dE D) / 2 ^ (31 * k2) % 2147483648)) (fun u t => va_P (dC, dI) classes (dw x0 gv cl d0 h0d q0d h0u q0u h0e q0e h0p q0p h0q q0q h0o q0o h0r q0r cA cJ cW D.n D.sv D.a D.lend D.fd D.sgd D.lenu D.fu D.sgu D.lene D.fe D.sge D.lenp D.fp D.sgp D.lenq D.fq D.sgq D.leno D.fo D.sgo D.lenr D.fr D.sgr D.tw D.iv D.hw D.qw D.gg D.ln D.sn) t.heap ∧ va_D (va_A (dw x0 gv cl d0 h0d q0d h0u q0u h0e q0e h0p q0p h0q q0q h0o q0o h0r q0r cA cJ cW D.n D.sv D.a D.lend D.fd D.sgd D.lenu D.fu D.sgu D.lene D.fe D.sge D.lenp D.fp D.sgp D.lenq D.fq D.sgq D.leno D.fo D.sgo D.lenr D.fr D.sgr D.tw D.iv D.hw D.qw D.gg D.ln D.sn) sz) (dw x0 gv cl d0 h0d q0d h0u q0u h0e q0e h0p q0p h0q q0q h0o q0o h0r q0r cA cJ cW D.n D.sv D.a D.lend D.fd D.sgd D.lenu D.fu D.sgu D.lene D.fe D.sge D.lenp D.fp D.sgp D.lenq D.fq D.sgq D.leno D.fo D.sgo D.lenr D.fr D.sgr D.tw D.iv D.hw D.qw D.gg D.ln D.sn)) (va_A (dw x0 gv cl d0 h0d q0d h0u q0u h0e q0e h0p q0p h0q q0q h0o q0o h0r q0r cA cJ cW D.n D.sv D.a D.lend D.fd D.sgd D.lenu D.fu D.sgu D.lene D.fe D.sge D.lenp D.fp D.sgp D.lenq D.fq D.sgq D.leno D.fo D.sgo D.lenr D.fr D.sgr D.tw D.iv D.hw D.qw D.gg D.ln D.sn) sz)) (vx_X (S := Unit) (fun _ => True) (fun E _ t => (E = xt_i ∧ k < 0) ∧ va_P (dC, dI) classes (dw x0 gv cl d0 h0d q0d h0u q0u h0e q0e h0p q0p h0q q0q h0o q0o h0r q0r cA cJ cW D.n D.sv D.a D.lend D.fd D.sgd D.lenu D.fu D.sgu D.lene D.fe D.sge D.lenp D.fp D.sgp D.lenq D.fq D.sgq D.leno D.fo D.sgo D.lenr D.fr D.sgr D.tw D.iv D.hw D.qw D.gg D.ln D.sn) t.heap ∧ va_D (va_A (dw x0 gv cl d0 h0d q0d h0u q0u h0e q0e h0p q0p h0q q0q h0o q0o h0r q0r cA cJ cW D.n D.sv D.a D.lend D.fd D.sgd D.lenu D.fu D.sgu D.lene D.fe D.sge D.lenp D.fp D.sgp D.lenq D.fq D.sgq D.leno D.fo D.sgo D.lenr D.fr D.sgr D.tw D.iv D.hw D.qw D.gg D.ln D.sn) sz) (dw x0 gv cl d0 h0d q0d h0u q0u h0e q0e h0p q0p h0q q0q h0o q0o h0r q0r cA cJ cW D.n D.sv D.a D.lend D.fd D.sgd D.lenu D.fu D.sgu D.lene D.fe D.sge D.lenp D.fp D.sgp D.lenq D.fq D.sgq D.leno D.fo D.sgo D.lenr D.fr D.sgr D.tw D.iv D.hw D.qw D.gg D.ln D.sn)) (va_A (dw x0 gv cl d0 h0d q0d h0u q0u h0e q0e h0p q0p h0q q0q h0o q0o h0r q0r cA cJ cW D.n D.sv D.a D.lend D.fd D.sgd D.lenu D.fu D.sgu D.lene D.fe D.sge D.lenp D.fp D.sgp D.lenq D.fq D.sgq D.leno D.fo D.sgo D.lenr D.fr D.sgr D.tw D.iv D.hw D.qw D.gg D.ln D.sn) sz)) 1 6 (va_A (dw x0 gv cl d0 h0d q0d h0u q0u h0e q0e h0p q0p h0q q0q h0o q0o h0r q0r cA cJ cW D.n D.sv D.a D.lend D.fd D.sgd D.lenu D.fu D.sgu D.lene D.fe D.sge D.lenp D.fp D.sgp D.lenq D.fq D.sgq D.leno D.fo D.sgo D.lenr D.fr D.sgr D.tw D.iv D.hw D.qw D.gg D.ln D.sn) sz) := by
  refine vx_ofW (cc := b_Desk_part) (maxL := 3) (ret := (some .int)) (by decide) rfl ?_
  intro p e s m args below meth c s₁ B hml hnx hv
  obtain ⟨⟨rfl, hsz, hP, hK, hD0⟩, hE⟩ := hv
  have hx := B.exec
  have hb := B.bytes
  have hr := B.returns
  have hts : ∀ w ∈ gw_tbl, w.before ([.ref x0, .int b, .int k] : List Value).toArray s = true := fun w h => atoms_spec (ws := w_Desk_part) B.pre w (List.mem_cons_of_mem _ h)
  have hown : s.vm.findClass R_Desk = some m.cls := findClass_of_methodNamed B.named
  have hlocks := B.notSynchronized
  subst hsz
  have hD := hD0.self (sz := s.heap.size)
  generalize hAe : va_A (dw x0 gv cl d0 h0d q0d h0u q0u h0e q0e h0p q0p h0q q0q h0o q0o h0r q0r cA cJ cW D.n D.sv D.a D.lend D.fd D.sgd D.lenu D.fu D.sgu D.lene D.fe D.sge D.lenp D.fp D.sgp D.lenq D.fq D.sgq D.leno D.fo D.sgo D.lenr D.fr D.sgr D.tw D.iv D.hw D.qw D.gg D.ln D.sn) s.heap.size = A at hD hE ⊢
  have hA : ∀ q : Nat, s.heap.size ≤ q → A q := fun q h => by rw [← hAe]; exact Or.inr h
  have hS : va_S A s.heap s.heap [] := va_S.rf
  have hl := lv_entry ([.ref x0, .int b, .int k]) (n := 3) (Nat.le_of_ble_eq_true rfl)
  rw [lg_entry_eq]
  generalize (lg_sl ([.ref x0, .int b, .int k]) ++ List.replicate (3 - (lg_sl ([.ref x0, .int b, .int k])).length) Slot.unset).toArray = ls at hl ⊢
  have hl : lv_has ls 3 [(0, .ref x0), (1, .int b), (2, .int k)] := hl
  obtain ⟨g1, g2, g3, g4, g5, g6, g7, g8, g9, g10, g11⟩ := hG
  refine lv_iload_n hx hb d_Desk_part_0 rfl (lv_at hl 2 rfl) ?_
  refine lv_if_ge (tgt := 12) hx hb d_Desk_part_1 (by decide) (fun hk => ?_) (fun hk => ?_)
  rotate_left
  · exact xt_throw hx hb hlt (X := xt_i) (ik := 60) (ic := 62) (SX := Unit) hown (by decide +kernel) hts xt_i1 xt_i2 xt_i3 hE hS (hl.1.trans hml.symm) d_Desk_part_4 d_Desk_part_7 d_Desk_part_8 d_Desk_part_11 hnx (Nat.le_of_ble_eq_true rfl) (Nat.le_of_ble_eq_true rfl) (Nat.le_of_ble_eq_true rfl) (Nat.le_of_ble_eq_true rfl) hlocks () trivial (fun t_ hq_ => ⟨⟨rfl, by have := Int32.not_le.mp hk; exact this⟩, xt_keepP hP hq_, hD⟩)
  obtain ⟨kn, hkn, ek⟩ := nI_of (x := k) (Int32.not_lt.mpr hk)
  subst ek
  refine lv_aload_n hx hb d_Desk_part_12 rfl (lv_at hl 0 rfl) ?_
  refine lv_iload_n hx hb d_Desk_part_13 rfl (lv_at hl 1 rfl) ?_
  have hPc := hP
  refine va_csr (W.runV (As := [.int b]) (rest := []) ⟨hx, hb, hml, hown, hts⟩ (c_Desk_resultPart l dC dI x0 gv cl d0 h0d q0d h0u q0u h0e q0e h0p q0p h0q q0q h0o q0o h0r q0r cA cJ cW D.n D.sv D.a D.lend D.fd D.sgd D.lenu D.fu D.sgu D.lene D.fe D.sge D.lenp D.fp D.sgp D.lenq D.fq D.sgq D.leno D.fo D.sgo D.lenr D.fr D.sgr D.tw D.iv D.hw D.qw D.gg D.ln D.sn b) (cwV 1 hts (gw_V k_ml_Desk_96 k_im_Desk_resultPart k_sel_Desk_resultPart k_ini_Desk k_code_Desk_resultPart) rfl rfl rfl (by decide +kernel) ⟨Nat.le_of_ble_eq_true rfl, Nat.le_of_ble_eq_true rfl⟩) ⟨xc_R_blind, va_recv hK hP (ci := 0) (q0 := 0) rfl rfl, fun U hU hW => ⟨rfl, by rw [hU]; exact hPc, va_K.moved hW.alike (hK.sub (tys' := [(cA, .int), (cJ, .long), (cW, .object "EquationDesk$Whole")]) [0, 1, 2] rfl)⟩⟩ rfl rfl hl.1 rfl (lv_room (Nat.le_of_ble_eq_true rfl)) d_Desk_part_14 ⟨Nat.zero_le _, Nat.zero_le _⟩) (fun kk hkk => ?_)
  by_cases hb0 : b = 0
  · rw [if_pos hb0] at hkk
    have hkk := hkk.symm
    subst hkk
    refine lv_iload_n hx hb d_Desk_part_17 rfl (lv_at hl 2 rfl) ?_
    have hs_ : ([5, 6] : List Nat).map (fun i => (dw x0 gv cl d0 h0d q0d h0u q0u h0e q0e h0p q0p h0q q0q h0o q0o h0r q0r cA cJ cW D.n D.sv D.a D.lend D.fd D.sgd D.lenu D.fu D.sgu D.lene D.fe D.sge D.lenp D.fp D.sgp D.lenq D.fq D.sgq D.leno D.fo D.sgo D.lenr D.fr D.sgr D.tw D.iv D.hw D.qw D.gg D.ln D.sn)[i]?) = ([(h0u, .inr (1, [.ref q0u, .int (nI D.lenu), .int D.sgu])), (q0u, .inl (cA, 26, .inl (xn_f D.fu)))]).map some := rfl
    have hPc := xp_P hP [5, 6] hs_
    refine vp_callSi (W.runV (As := [.int (nI kn)]) (rest := []) ⟨hx, hb, hml, hown, hts⟩ (c_Whole_limbAt l dC dI cA h0u q0u 26 D.lenu D.fu D.sgu kn (by decide) g5.1 hkn) (cwV 1 hts (gw_V k_ml_Desk_104 k_im_Whole_limbAt k_sel_Whole_limbAt k_ini_Whole k_code_Whole_limbAt) rfl rfl rfl (by decide +kernel) ⟨Nat.le_of_ble_eq_true rfl, Nat.le_of_ble_eq_true rfl⟩) ⟨xc_R_blind, va_recv hK hP (ci := 1) (q0 := 5) rfl rfl, fun U hU hW => ⟨rfl, by rw [hU]; exact hPc, va_K.moved hW.alike (hK.sub (tys' := [(cA, .int)]) [0] rfl)⟩⟩ rfl rfl hl.1 rfl (lv_room (Nat.le_of_ble_eq_true rfl)) d_Desk_part_18 ⟨Nat.zero_le _, Nat.zero_le _⟩) (fun r_ e_r => ?_)
    have hpost : ∃ k2 : Nat, nI kn = nI k2 ∧ k2 < 2 ^ 31 ∧ r_ = nI ((if b = 0 then dN D else dE D) / 2 ^ (31 * k2) % 2147483648) := ⟨kn, rfl, hkn, by rw [e_r, lb_part (wh_n g5), if_pos hb0]; rfl⟩
    refine vx_ret (W.widen (k := 1) (n := 6) (Nat.zero_le _) (Nat.zero_le _) ?_)
    exact W.iret (v := r_) hx hb hr (fun T_ ht_ hW_ => ⟨⟨_, (), rfl, hpost, by show va_P (dC, dI) classes _ T_.heap; rw [ht_]; exact hP, hD⟩, hS.F ht_⟩) hS.2.2 d_Desk_part_21
  · rw [if_neg hb0] at hkk
    have hkk := hkk.symm
    subst hkk
    refine lv_iload_n hx hb d_Desk_part_17 rfl (lv_at hl 2 rfl) ?_
    have hs_ : ([7, 8] : List Nat).map (fun i => (dw x0 gv cl d0 h0d q0d h0u q0u h0e q0e h0p q0p h0q q0q h0o q0o h0r q0r cA cJ cW D.n D.sv D.a D.lend D.fd D.sgd D.lenu D.fu D.sgu D.lene D.fe D.sge D.lenp D.fp D.sgp D.lenq D.fq D.sgq D.leno D.fo D.sgo D.lenr D.fr D.sgr D.tw D.iv D.hw D.qw D.gg D.ln D.sn)[i]?) = ([(h0e, .inr (1, [.ref q0e, .int (nI D.lene), .int D.sge])), (q0e, .inl (cA, 26, .inl (xn_f D.fe)))]).map some := rfl
    have hPc := xp_P hP [7, 8] hs_
    refine vp_callSi (W.runV (As := [.int (nI kn)]) (rest := []) ⟨hx, hb, hml, hown, hts⟩ (c_Whole_limbAt l dC dI cA h0e q0e 26 D.lene D.fe D.sge kn (by decide) g6.1 hkn) (cwV 1 hts (gw_V k_ml_Desk_104 k_im_Whole_limbAt k_sel_Whole_limbAt k_ini_Whole k_code_Whole_limbAt) rfl rfl rfl (by decide +kernel) ⟨Nat.le_of_ble_eq_true rfl, Nat.le_of_ble_eq_true rfl⟩) ⟨xc_R_blind, va_recv hK hP (ci := 1) (q0 := 7) rfl rfl, fun U hU hW => ⟨rfl, by rw [hU]; exact hPc, va_K.moved hW.alike (hK.sub (tys' := [(cA, .int)]) [0] rfl)⟩⟩ rfl rfl hl.1 rfl (lv_room (Nat.le_of_ble_eq_true rfl)) d_Desk_part_18 ⟨Nat.zero_le _, Nat.zero_le _⟩) (fun r_ e_r => ?_)
    have hpost : ∃ k2 : Nat, nI kn = nI k2 ∧ k2 < 2 ^ 31 ∧ r_ = nI ((if b = 0 then dN D else dE D) / 2 ^ (31 * k2) % 2147483648) := ⟨kn, rfl, hkn, by rw [e_r, lb_part (wh_n g6), if_neg hb0]; rfl⟩
    refine vx_ret (W.widen (k := 1) (n := 6) (Nat.zero_le _) (Nat.zero_le _) ?_)
    exact W.iret (v := r_) hx hb hr (fun T_ ht_ hW_ => ⟨⟨_, (), rfl, hpost, by show va_P (dC, dI) classes _ T_.heap; rw [ht_]; exact hP, hD⟩, hS.F ht_⟩) hS.2.2 d_Desk_part_21
