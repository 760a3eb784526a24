set_option maxHeartbeats 8000000 in
set_option maxRecDepth 100000 in
/-- unknown -/
theorem c_Desk_unknown (l : Launch) (hlt : l.stackTraces = false) (dC : Nat → ClassId) (dI : Nat → Nat → Nat) (sz : Nat) (x0 gv cl d0 h0d q0d h0u q0u h0e q0e h0p q0p h0q q0q h0o q0o h0r q0r : Nat) (cA cJ cW : ClassId) (D : dS) (k : Int32) (hG : dG D) : vx_Met l y_Desk_unknown w_Desk_unknown ({ frames := 6, cells := 1, slots := 6, locals := 139 }) (xc_X [.ref x0, .int k] dC dI (dw x0 gv cl d0 h0d q0d h0u q0u h0e q0e h0p q0p h0q q0q h0o q0o h0r q0r cA cJ cW D.n D.sv D.a D.lend D.fd D.sgd D.lenu D.fu D.sgu D.lene D.fe D.sge D.lenp D.fp D.sgp D.lenq D.fq D.sgq D.leno D.fo D.sgo D.lenr D.fr D.sgr D.tw D.iv D.hw D.qw D.gg D.ln D.sn) [(cA, .int), (cJ, .long), (cW, .object "EquationDesk$Whole")] sz) (va_Qi (S := dS) (fun r u => dG u ∧ (∃ k2 : Nat, k = nI k2 ∧ k2 < D.n ∧ D.sv = 1 ∧ r.toInt = (dt_y (dA D.a) k2 (D.n - 1 - k2) D.n).sign * (dt_d (dA D.a) D.n).sign ∧ dN u = (dt_y (dA D.a) k2 (D.n - 1 - k2) D.n).natAbs / (Nat.gcd (dt_y (dA D.a) k2 (D.n - 1 - k2) D.n).natAbs (dt_d (dA D.a) D.n).natAbs) ∧ dE u = (dt_d (dA D.a) D.n).natAbs / (Nat.gcd (dt_y (dA D.a) k2 (D.n - 1 - k2) D.n).natAbs (dt_d (dA D.a) D.n).natAbs)) ∧ u.n = D.n ∧ u.sv = D.sv ∧ u.a = D.a) (fun u t => va_P (dC, dI) classes (dw x0 gv cl d0 h0d q0d h0u q0u h0e q0e h0p q0p h0q q0q h0o q0o h0r q0r cA cJ cW u.n u.sv u.a u.lend u.fd u.sgd u.lenu u.fu u.sgu u.lene u.fe u.sge u.lenp u.fp u.sgp u.lenq u.fq u.sgq u.leno u.fo u.sgo u.lenr u.fr u.sgr u.tw u.iv u.hw u.qw u.gg u.ln u.sn) t.heap ∧ va_D (va_A (dw x0 gv cl d0 h0d q0d h0u q0u h0e q0e h0p q0p h0q q0q h0o q0o h0r q0r cA cJ cW D.n D.sv D.a D.lend D.fd D.sgd D.lenu D.fu D.sgu D.lene D.fe D.sge D.lenp D.fp D.sgp D.lenq D.fq D.sgq D.leno D.fo D.sgo D.lenr D.fr D.sgr D.tw D.iv D.hw D.qw D.gg D.ln D.sn) sz) (dw x0 gv cl d0 h0d q0d h0u q0u h0e q0e h0p q0p h0q q0q h0o q0o h0r q0r cA cJ cW u.n u.sv u.a u.lend u.fd u.sgd u.lenu u.fu u.sgu u.lene u.fe u.sge u.lenp u.fp u.sgp u.lenq u.fq u.sgq u.leno u.fo u.sgo u.lenr u.fr u.sgr u.tw u.iv u.hw u.qw u.gg u.ln u.sn)) (va_A (dw x0 gv cl d0 h0d q0d h0u q0u h0e q0e h0p q0p h0q q0q h0o q0o h0r q0r cA cJ cW D.n D.sv D.a D.lend D.fd D.sgd D.lenu D.fu D.sgu D.lene D.fe D.sge D.lenp D.fp D.sgp D.lenq D.fq D.sgq D.leno D.fo D.sgo D.lenr D.fr D.sgr D.tw D.iv D.hw D.qw D.gg D.ln D.sn) sz)) (vx_X (S := Unit) (fun _ => True) (fun E _ t => ((E = xt_s ∧ D.sv = 0) ∨ (E = xt_i ∧ D.sv = 1 ∧ ¬ (0 ≤ k.toInt ∧ k.toInt < D.n))) ∧ va_P (dC, dI) classes (dw x0 gv cl d0 h0d q0d h0u q0u h0e q0e h0p q0p h0q q0q h0o q0o h0r q0r cA cJ cW D.n D.sv D.a D.lend D.fd D.sgd D.lenu D.fu D.sgu D.lene D.fe D.sge D.lenp D.fp D.sgp D.lenq D.fq D.sgq D.leno D.fo D.sgo D.lenr D.fr D.sgr D.tw D.iv D.hw D.qw D.gg D.ln D.sn) t.heap ∧ va_D (va_A (dw x0 gv cl d0 h0d q0d h0u q0u h0e q0e h0p q0p h0q q0q h0o q0o h0r q0r cA cJ cW D.n D.sv D.a D.lend D.fd D.sgd D.lenu D.fu D.sgu D.lene D.fe D.sge D.lenp D.fp D.sgp D.lenq D.fq D.sgq D.leno D.fo D.sgo D.lenr D.fr D.sgr D.tw D.iv D.hw D.qw D.gg D.ln D.sn) sz) (dw x0 gv cl d0 h0d q0d h0u q0u h0e q0e h0p q0p h0q q0q h0o q0o h0r q0r cA cJ cW D.n D.sv D.a D.lend D.fd D.sgd D.lenu D.fu D.sgu D.lene D.fe D.sge D.lenp D.fp D.sgp D.lenq D.fq D.sgq D.leno D.fo D.sgo D.lenr D.fr D.sgr D.tw D.iv D.hw D.qw D.gg D.ln D.sn)) (va_A (dw x0 gv cl d0 h0d q0d h0u q0u h0e q0e h0p q0p h0q q0q h0o q0o h0r q0r cA cJ cW D.n D.sv D.a D.lend D.fd D.sgd D.lenu D.fu D.sgu D.lene D.fe D.sge D.lenp D.fp D.sgp D.lenq D.fq D.sgq D.leno D.fo D.sgo D.lenr D.fr D.sgr D.tw D.iv D.hw D.qw D.gg D.ln D.sn) sz)) 1 6 (va_A (dw x0 gv cl d0 h0d q0d h0u q0u h0e q0e h0p q0p h0q q0q h0o q0o h0r q0r cA cJ cW D.n D.sv D.a D.lend D.fd D.sgd D.lenu D.fu D.sgu D.lene D.fe D.sge D.lenp D.fp D.sgp D.lenq D.fq D.sgq D.leno D.fo D.sgo D.lenr D.fr D.sgr D.tw D.iv D.hw D.qw D.gg D.ln D.sn) sz) := by
  refine vx_ofW (cc := b_Desk_unknown) (maxL := 2) (ret := (some .int)) (by decide) rfl ?_
  intro p e s m args below meth c s₁ B hml hnx hv
  obtain ⟨⟨rfl, hsz, hP, hK, hD0⟩, hE⟩ := hv
  have hx := B.exec
  have hb := B.bytes
  have hr := B.returns
  have hts : ∀ w ∈ gw_tbl, w.before ([.ref x0, .int k] : List Value).toArray s = true := fun w h => atoms_spec (ws := w_Desk_unknown) B.pre w (List.mem_cons_of_mem _ h)
  have hown : s.vm.findClass R_Desk = some m.cls := findClass_of_methodNamed B.named
  have hlocks := B.notSynchronized
  subst hsz
  have hD := hD0.self (sz := s.heap.size)
  generalize hAe : va_A (dw x0 gv cl d0 h0d q0d h0u q0u h0e q0e h0p q0p h0q q0q h0o q0o h0r q0r cA cJ cW D.n D.sv D.a D.lend D.fd D.sgd D.lenu D.fu D.sgu D.lene D.fe D.sge D.lenp D.fp D.sgp D.lenq D.fq D.sgq D.leno D.fo D.sgo D.lenr D.fr D.sgr D.tw D.iv D.hw D.qw D.gg D.ln D.sn) s.heap.size = A at hD hE ⊢
  have hA : ∀ q : Nat, s.heap.size ≤ q → A q := fun q h => by rw [← hAe]; exact Or.inr h
  have hS : va_S A s.heap s.heap [] := va_S.rf
  have hl := lv_entry ([.ref x0, .int k]) (n := 2) (Nat.le_of_ble_eq_true rfl)
  rw [lg_entry_eq]
  generalize (lg_sl ([.ref x0, .int k]) ++ List.replicate (2 - (lg_sl ([.ref x0, .int k])).length) Slot.unset).toArray = ls at hl ⊢
  have hl : lv_has ls 2 [(0, .ref x0), (1, .int k)] := hl
  have hG0 := hG
  obtain ⟨g1, g2, g3, g4, g5, g6, g7, g8, g9, g10, g11⟩ := hG
  refine lv_aload_n hx hb d_Desk_unknown_0 rfl (lv_at hl 0 rfl) ?_
  refine va_get (D := (dC, dI)) (ci := 0) (v := .int D.sv) (C := R_Desk) (T := F_Desk) (N := 10) hx hb hts i_Desk hown hK hP 0 rfl rfl 2 (by decide) (hts _ k_fl_Desk_17) (fun _ h9 => h9) rfl d_Desk_unknown_1 ?_
  refine lv_if_ne (tgt := 15) hx hb d_Desk_unknown_4 (by decide) (fun hs => ?_) (fun hs => ?_)
  rotate_left
  · exact xt_throw hx hb hlt (X := xt_s) (ik := 74) (ic := 76) (SX := Unit) hown (by decide +kernel) hts xt_s1 xt_s2 xt_s3 hE hS (hl.1.trans hml.symm) d_Desk_unknown_7 d_Desk_unknown_10 d_Desk_unknown_11 d_Desk_unknown_14 hnx (Nat.le_of_ble_eq_true rfl) (Nat.le_of_ble_eq_true rfl) (Nat.le_of_ble_eq_true rfl) (Nat.le_of_ble_eq_true rfl) hlocks () trivial (fun t_ hq_ => ⟨Or.inl ⟨rfl, hs⟩, xt_keepP hP hq_, hD⟩)
  have hs1 : D.sv = 1 := by
    rcases g2 with e | e
    · exact absurd e hs
    · exact e
  obtain ⟨d1, d2, d3⟩ := g11 hs1
  refine lv_aload_n hx hb d_Desk_unknown_15 rfl (lv_at hl 0 rfl) ?_
  refine lv_iload_n hx hb d_Desk_unknown_16 rfl (lv_at hl 1 rfl) ?_
  have hPc := hP
  refine vp_callSi (W.runV (As := [.int k]) (rest := []) ⟨hx, hb, hml, hown, hts⟩ (c_Desk_isUnknown l dC dI x0 gv cl d0 h0d q0d h0u q0u h0e q0e h0p q0p h0q q0q h0o q0o h0r q0r cA cJ cW D.n D.sv D.a D.lend D.fd D.sgd D.lenu D.fu D.sgu D.lene D.fe D.sge D.lenp D.fp D.sgp D.lenq D.fq D.sgq D.leno D.fo D.sgo D.lenr D.fr D.sgr D.tw D.iv D.hw D.qw D.gg D.ln D.sn k g1) (cwV 1 hts (gw_V k_ml_Desk_77 k_im_Desk_isUnknown k_sel_Desk_isUnknown k_ini_Desk k_code_Desk_isUnknown) rfl rfl rfl (by decide +kernel) ⟨Nat.le_of_ble_eq_true rfl, Nat.le_of_ble_eq_true rfl⟩) ⟨xc_R_blind, va_recv hK hP (ci := 0) (q0 := 0) rfl rfl, fun U hU hW => ⟨rfl, by rw [hU]; exact hPc, va_K.moved hW.alike (hK.sub (tys' := [(cA, .int), (cJ, .long), (cW, .object "EquationDesk$Whole")]) [0, 1, 2] rfl)⟩⟩ rfl rfl hl.1 rfl (lv_room (Nat.le_of_ble_eq_true rfl)) d_Desk_unknown_17 ⟨Nat.zero_le _, Nat.zero_le _⟩) (fun ur hU => ?_)
  refine lv_if_ne (tgt := 31) hx hb d_Desk_unknown_20 (by decide) (fun hz => ?_) (fun hz => ?_)
  rotate_left
  · exact xt_throw hx hb hlt (X := xt_i) (ik := 60) (ic := 62) (SX := Unit) hown (by decide +kernel) hts xt_i1 xt_i2 xt_i3 hE hS (hl.1.trans hml.symm) d_Desk_unknown_23 d_Desk_unknown_26 d_Desk_unknown_27 d_Desk_unknown_30 hnx (Nat.le_of_ble_eq_true rfl) (Nat.le_of_ble_eq_true rfl) (Nat.le_of_ble_eq_true rfl) (Nat.le_of_ble_eq_true rfl) hlocks () trivial (fun t_ hq_ => ⟨Or.inr ⟨rfl, hs1, by
            rcases hU with z | z
            · rw [z.1] at hz; exact absurd hz (by decide)
            · exact z.2⟩, xt_keepP hP hq_, hD⟩)
  have hk : 0 ≤ k.toInt ∧ k.toInt < D.n := by
    rcases hU with z | z
    · exact z.2
    · exact absurd z.1 hz
  obtain ⟨kn, hkn, ek⟩ := nI_of (x := k) (by rw [Int32.lt_iff_toInt_lt]; have z0 : (0 : Int32).toInt = 0 := rfl; omega)
  subst ek
  have t1 := nI_toInt hkn
  have hk2 : kn < D.n := by omega
  have hcc : kn * 13 + D.n < 156 := by omega
  refine lv_aload_n hx hb d_Desk_unknown_31 rfl (lv_at hl 0 rfl) ?_
  refine lv_aload_n hx hb d_Desk_unknown_32 rfl (lv_at hl 0 rfl) ?_
  refine va_get (D := (dC, dI)) (ci := 0) (v := .ref cl) (C := R_Desk) (T := F_Desk) (N := 10) hx hb hts i_Desk hown hK hP 0 rfl rfl 3 (by decide) (hts _ k_fl_Desk_23) (fun _ h9 => h9) rfl d_Desk_unknown_33 ?_
  refine lv_iload_n hx hb d_Desk_unknown_36 rfl (lv_at hl 1 rfl) ?_
  refine lv_aload_n hx hb d_Desk_unknown_37 rfl (lv_at hl 0 rfl) ?_
  refine va_get (D := (dC, dI)) (ci := 0) (v := .int (nI D.n)) (C := R_Desk) (T := F_Desk) (N := 10) hx hb hts i_Desk hown hK hP 0 rfl rfl 1 (by decide) (hts _ k_fl_Desk_13) (fun _ h9 => h9) rfl d_Desk_unknown_38 ?_
  refine vp_callSi (W.runS (As := [.int (nI kn), .int (nI D.n)]) (rest := [.ref cl, .ref x0]) ⟨hx, hb, hml, hown, hts⟩ (c_Desk_cellIndex l dC dI kn D.n) (cwS 2 hts (gw_S k_ml_Desk_63 k_st_Desk_cellIndex k_ini_Desk k_code_Desk_cellIndex) rfl rfl rfl (by decide +kernel) ⟨Nat.le_of_ble_eq_true rfl, Nat.le_of_ble_eq_true rfl⟩) ⟨xc_R_blind, fun U hU hW => ⟨rfl, by rw [hU]; exact hP.sub (ws' := []) [] rfl, va_K.moved hW.alike (hK.sub (tys' := []) [] rfl)⟩⟩ rfl rfl hl.1 rfl (lv_room (Nat.le_of_ble_eq_true rfl)) d_Desk_unknown_41 ⟨Nat.zero_le _, Nat.zero_le _⟩) (fun r_ e_r => ?_)
  subst e_r
  refine xn_aald hx hb hK hP 2 2 rfl rfl (i := kn * 13 + D.n) (b := D.hw (kn * 13 + D.n)) rfl hcc (by decide) d_Desk_unknown_44 ?_
  refine lv_aload_n hx hb d_Desk_unknown_45 rfl (lv_at hl 0 rfl) ?_
  refine va_get (D := (dC, dI)) (ci := 0) (v := .ref h0d) (C := R_Desk) (T := F_Desk) (N := 10) hx hb hts i_Desk hown hK hP 0 rfl rfl 4 (by decide) (hts _ k_fl_Desk_30) (fun _ h9 => h9) rfl d_Desk_unknown_46 ?_
  have hbz : (wz D.gg D.ln D.sn (kn * 13 + D.n)).natAbs < 2 ^ 785 := by rw [d3 kn hk2]; exact dt_y_lt (dA D.a) D.n kn (D.n - 1 - kn) D.n (by omega) g1 (Nat.le_refl _) (fun r c _ _ => dA_bd D.a r c)
  have hbd : (wh_z D.fd D.lend D.sgd).natAbs < 2 ^ 785 := by rw [d2]; exact dt_d_lt (dA D.a) D.n D.n (Nat.le_refl _) g1 (fun r c _ _ => dA_bd D.a r c)
  have hPc := hP
  have hDc := hD.weaken (B := fun _ => True) (fun _ _ _ _ => trivial)
  have hFc := xp_all hD hS hA
  refine va_callv (va_runV (As := [.ref (D.hw (kn * 13 + D.n)), .ref h0d]) (rest := []) ⟨hx, hb, hml, hown, hts⟩ (c_Desk_setResult l dC dI s.heap.size x0 gv cl d0 h0d q0d h0u q0u h0e q0e h0p q0p h0q q0q h0o q0o h0r q0r cA cJ cW D.n D.sv D.a D.lend D.fd D.sgd D.lenu D.fu D.sgu D.lene D.fe D.sge D.lenp D.fp D.sgp D.lenq D.fq D.sgq D.leno D.fo D.sgo D.lenr D.fr D.sgr D.tw D.iv D.hw D.qw D.gg D.ln D.sn (kn * 13 + D.n) hcc g3 g4 (by rw [d2]; exact d1) g5 g6 g9 g10 hbz hbd) (cwV 2 hts (gw_V k_ml_Desk_81 k_im_Desk_setResult k_sel_Desk_setResult k_ini_Desk k_code_Desk_setResult) rfl rfl rfl (by decide +kernel) ⟨Nat.le_of_ble_eq_true rfl, Nat.le_of_ble_eq_true rfl⟩) ⟨xc_W_blind, va_recv hK hP (ci := 0) (q0 := 0) rfl rfl, fun U hU hW => ⟨rfl, by rw [hU], by rw [hU]; exact hPc, va_K.moved hW.alike (hK.sub (tys' := [(cA, .int), (cJ, .long), (cW, .object "EquationDesk$Whole")]) [0, 1, 2] rfl), hDc⟩⟩ rfl rfl hl.1 rfl (lv_room (Nat.le_of_ble_eq_true rfl)) d_Desk_unknown_49 ⟨Nat.zero_le _, Nat.zero_le _⟩) hS (fun q _ h => hFc q h) hFc (fun u t_ H locs ht_ hvm_ w1 hB hz1 hk1 hS => ?_)
  obtain ⟨V, e_V⟩ : ∃ z, z = u := ⟨u, rfl⟩
  rw [← e_V] at w1 hB
  obtain ⟨hP, hD1⟩ := hB
  rw [ht_] at hP
  have hP : va_P (dC, dI) classes (dw x0 gv cl d0 h0d q0d h0u q0u h0e q0e h0p q0p h0q q0q h0o q0o h0r q0r cA cJ cW D.n D.sv D.a D.lend D.fd D.sgd V.lenu V.fu V.sgu V.lene V.fe V.sge D.lenp D.fp D.sgp D.lenq D.fq D.sgq V.leno V.fo V.sgo V.lenr V.fr V.sgr V.tw V.iv D.hw D.qw D.gg D.ln D.sn) H := hP
  have hD : va_D A (dw x0 gv cl d0 h0d q0d h0u q0u h0e q0e h0p q0p h0q q0q h0o q0o h0r q0r cA cJ cW D.n D.sv D.a D.lend D.fd D.sgd V.lenu V.fu V.sgu V.lene V.fe V.sge D.lenp D.fp D.sgp D.lenq D.fq D.sgq V.leno V.fo V.sgo V.lenr V.fr V.sgr V.tw V.iv D.hw D.qw D.gg D.ln D.sn) := hD1.weaken (fun k q _ h => hFc q.1 h)
  obtain ⟨v1, v2, v3, v4, v5, v6, v7⟩ := w1
  rw [d3 kn hk2, d2] at v5 v6 v7
  refine lv_aload_n hx hb d_Desk_unknown_52 rfl (lv_at hl 0 rfl) ?_
  refine va_get (D := (dC, dI)) (ci := 0) (v := .ref h0u) (C := R_Desk) (T := F_Desk) (N := 10) hx hb hts i_Desk hown hK hP 0 rfl rfl 5 (by decide) (hts _ k_fl_Desk_34) (fun _ h9 => h9) rfl d_Desk_unknown_53 ?_
  refine va_get (D := (dC, dI)) (ci := 1) (v := .int V.sgu) (C := R_Whole) (T := F_Whole) (N := 3) hx hb hts i_Whole hown hK hP 5 rfl rfl 2 (by decide) (hts _ k_fl_Desk_85) (fun _ h9 => h9) rfl d_Desk_unknown_56 ?_
  have hpost : dG (⟨D.n, D.sv, D.a, D.lend, D.fd, D.sgd, V.lenu, V.fu, V.sgu, V.lene, V.fe, V.sge, D.lenp, D.fp, D.sgp, D.lenq, D.fq, D.sgq, V.leno, V.fo, V.sgo, V.lenr, V.fr, V.sgr, V.tw, V.iv, D.hw, D.qw, D.gg, D.ln, D.sn⟩ : dS) ∧ (∃ k2 : Nat, nI kn = nI k2 ∧ k2 < D.n ∧ D.sv = 1 ∧ (V.sgu).toInt = (dt_y (dA D.a) k2 (D.n - 1 - k2) D.n).sign * (dt_d (dA D.a) D.n).sign ∧ lb_v V.fu V.lenu = (dt_y (dA D.a) k2 (D.n - 1 - k2) D.n).natAbs / (Nat.gcd (dt_y (dA D.a) k2 (D.n - 1 - k2) D.n).natAbs (dt_d (dA D.a) D.n).natAbs) ∧ lb_v V.fe V.lene = (dt_d (dA D.a) D.n).natAbs / (Nat.gcd (dt_y (dA D.a) k2 (D.n - 1 - k2) D.n).natAbs (dt_d (dA D.a) D.n).natAbs)) ∧ D.n = D.n ∧ D.sv = D.sv ∧ D.a = D.a := ⟨⟨g1, g2, g3, g4, v1, v2, g7, g8, v3, v4, fun _ => ⟨d1, d2, d3⟩⟩, ⟨kn, rfl, hk2, hs1, v7, v5, v6⟩, rfl, rfl, rfl⟩
  refine vx_ret (W.widen (k := 1) (n := 6) (Nat.zero_le _) (Nat.zero_le _) ?_)
  exact W.iret (v := V.sgu) hx hb hr (fun T_ ht_ hW_ => ⟨⟨_, (⟨D.n, D.sv, D.a, D.lend, D.fd, D.sgd, V.lenu, V.fu, V.sgu, V.lene, V.fe, V.sge, D.lenp, D.fp, D.sgp, D.lenq, D.fq, D.sgq, V.leno, V.fo, V.sgo, V.lenr, V.fr, V.sgr, V.tw, V.iv, D.hw, D.qw, D.gg, D.ln, D.sn⟩ : dS), rfl, hpost, by show va_P (dC, dI) classes _ T_.heap; rw [ht_]; exact hP, hD⟩, hS.F ht_⟩) hS.2.2 d_Desk_unknown_59
set_option maxHeartbeats 8000000 in
set_option maxRecDepth 100000 in
/-- determinant -/
theorem c_Desk_determinant (l : Launch) (hlt : l.stackTraces = false) (dC : Nat → ClassId) (dI : Nat → Nat → Nat) (sz : Nat) (x0 gv cl d0 h0d q0d h0u q0u h0e q0e h0p q0p h0q q0q h0o q0o h0r q0r : Nat) (cA cJ cW : ClassId) (D : dS)  (hG : dG D) : vx_Met l y_Desk_determinant w_Desk_determinant ({ frames := 6, cells := 1, slots := 6, locals := 81 }) (xc_X [.ref x0] dC dI (dw x0 gv cl d0 h0d q0d h0u q0u h0e q0e h0p q0p h0q q0q h0o q0o h0r q0r cA cJ cW D.n D.sv D.a D.lend D.fd D.sgd D.lenu D.fu D.sgu D.lene D.fe D.sge D.lenp D.fp D.sgp D.lenq D.fq D.sgq D.leno D.fo D.sgo D.lenr D.fr D.sgr D.tw D.iv D.hw D.qw D.gg D.ln D.sn) [(cA, .int), (cJ, .long), (cW, .object "EquationDesk$Whole")] sz) (va_Qi (S := dS) (fun r u => dG u ∧ (D.sv = 1 ∧ r.toInt = (dt_d (dA D.a) D.n).sign ∧ dN u = (dt_d (dA D.a) D.n).natAbs ∧ dE u = 1) ∧ u.n = D.n ∧ u.sv = D.sv ∧ u.a = D.a) (fun u t => va_P (dC, dI) classes (dw x0 gv cl d0 h0d q0d h0u q0u h0e q0e h0p q0p h0q q0q h0o q0o h0r q0r cA cJ cW u.n u.sv u.a u.lend u.fd u.sgd u.lenu u.fu u.sgu u.lene u.fe u.sge u.lenp u.fp u.sgp u.lenq u.fq u.sgq u.leno u.fo u.sgo u.lenr u.fr u.sgr u.tw u.iv u.hw u.qw u.gg u.ln u.sn) t.heap ∧ va_D (va_A (dw x0 gv cl d0 h0d q0d h0u q0u h0e q0e h0p q0p h0q q0q h0o q0o h0r q0r cA cJ cW D.n D.sv D.a D.lend D.fd D.sgd D.lenu D.fu D.sgu D.lene D.fe D.sge D.lenp D.fp D.sgp D.lenq D.fq D.sgq D.leno D.fo D.sgo D.lenr D.fr D.sgr D.tw D.iv D.hw D.qw D.gg D.ln D.sn) sz) (dw x0 gv cl d0 h0d q0d h0u q0u h0e q0e h0p q0p h0q q0q h0o q0o h0r q0r cA cJ cW u.n u.sv u.a u.lend u.fd u.sgd u.lenu u.fu u.sgu u.lene u.fe u.sge u.lenp u.fp u.sgp u.lenq u.fq u.sgq u.leno u.fo u.sgo u.lenr u.fr u.sgr u.tw u.iv u.hw u.qw u.gg u.ln u.sn)) (va_A (dw x0 gv cl d0 h0d q0d h0u q0u h0e q0e h0p q0p h0q q0q h0o q0o h0r q0r cA cJ cW D.n D.sv D.a D.lend D.fd D.sgd D.lenu D.fu D.sgu D.lene D.fe D.sge D.lenp D.fp D.sgp D.lenq D.fq D.sgq D.leno D.fo D.sgo D.lenr D.fr D.sgr D.tw D.iv D.hw D.qw D.gg D.ln D.sn) sz)) (vx_X (S := Unit) (fun _ => True) (fun E _ t => (E = xt_s ∧ D.sv = 0) ∧ va_P (dC, dI) classes (dw x0 gv cl d0 h0d q0d h0u q0u h0e q0e h0p q0p h0q q0q h0o q0o h0r q0r cA cJ cW D.n D.sv D.a D.lend D.fd D.sgd D.lenu D.fu D.sgu D.lene D.fe D.sge D.lenp D.fp D.sgp D.lenq D.fq D.sgq D.leno D.fo D.sgo D.lenr D.fr D.sgr D.tw D.iv D.hw D.qw D.gg D.ln D.sn) t.heap ∧ va_D (va_A (dw x0 gv cl d0 h0d q0d h0u q0u h0e q0e h0p q0p h0q q0q h0o q0o h0r q0r cA cJ cW D.n D.sv D.a D.lend D.fd D.sgd D.lenu D.fu D.sgu D.lene D.fe D.sge D.lenp D.fp D.sgp D.lenq D.fq D.sgq D.leno D.fo D.sgo D.lenr D.fr D.sgr D.tw D.iv D.hw D.qw D.gg D.ln D.sn) sz) (dw x0 gv cl d0 h0d q0d h0u q0u h0e q0e h0p q0p h0q q0q h0o q0o h0r q0r cA cJ cW D.n D.sv D.a D.lend D.fd D.sgd D.lenu D.fu D.sgu D.lene D.fe D.sge D.lenp D.fp D.sgp D.lenq D.fq D.sgq D.leno D.fo D.sgo D.lenr D.fr D.sgr D.tw D.iv D.hw D.qw D.gg D.ln D.sn)) (va_A (dw x0 gv cl d0 h0d q0d h0u q0u h0e q0e h0p q0p h0q q0q h0o q0o h0r q0r cA cJ cW D.n D.sv D.a D.lend D.fd D.sgd D.lenu D.fu D.sgu D.lene D.fe D.sge D.lenp D.fp D.sgp D.lenq D.fq D.sgq D.leno D.fo D.sgo D.lenr D.fr D.sgr D.tw D.iv D.hw D.qw D.gg D.ln D.sn) sz)) 1 6 (va_A (dw x0 gv cl d0 h0d q0d h0u q0u h0e q0e h0p q0p h0q q0q h0o q0o h0r q0r cA cJ cW D.n D.sv D.a D.lend D.fd D.sgd D.lenu D.fu D.sgu D.lene D.fe D.sge D.lenp D.fp D.sgp D.lenq D.fq D.sgq D.leno D.fo D.sgo D.lenr D.fr D.sgr D.tw D.iv D.hw D.qw D.gg D.ln D.sn) sz) := by
  refine vx_ofW (cc := b_Desk_determinant) (maxL := 1) (ret := (some .int)) (by decide) rfl ?_
  intro p e s m args below meth c s₁ B hml hnx hv
  obtain ⟨⟨rfl, hsz, hP, hK, hD0⟩, hE⟩ := hv
  have hx := B.exec
  have hb := B.bytes
  have hr := B.returns
  have hts : ∀ w ∈ gw_tbl, w.before ([.ref x0] : List Value).toArray s = true := fun w h => atoms_spec (ws := w_Desk_determinant) B.pre w (List.mem_cons_of_mem _ h)
  have hown : s.vm.findClass R_Desk = some m.cls := findClass_of_methodNamed B.named
  have hlocks := B.notSynchronized
  subst hsz
  have hD := hD0.self (sz := s.heap.size)
  generalize hAe : va_A (dw x0 gv cl d0 h0d q0d h0u q0u h0e q0e h0p q0p h0q q0q h0o q0o h0r q0r cA cJ cW D.n D.sv D.a D.lend D.fd D.sgd D.lenu D.fu D.sgu D.lene D.fe D.sge D.lenp D.fp D.sgp D.lenq D.fq D.sgq D.leno D.fo D.sgo D.lenr D.fr D.sgr D.tw D.iv D.hw D.qw D.gg D.ln D.sn) s.heap.size = A at hD hE ⊢
  have hA : ∀ q : Nat, s.heap.size ≤ q → A q := fun q h => by rw [← hAe]; exact Or.inr h
  have hS : va_S A s.heap s.heap [] := va_S.rf
  have hl := lv_entry ([.ref x0]) (n := 1) (Nat.le_of_ble_eq_true rfl)
  rw [lg_entry_eq]
  generalize (lg_sl ([.ref x0]) ++ List.replicate (1 - (lg_sl ([.ref x0])).length) Slot.unset).toArray = ls at hl ⊢
  have hl : lv_has ls 1 [(0, .ref x0)] := hl
  have hG0 := hG
  obtain ⟨g1, g2, g3, g4, g5, g6, g7, g8, g9, g10, g11⟩ := hG
  refine lv_aload_n hx hb d_Desk_determinant_0 rfl (lv_at hl 0 rfl) ?_
  refine va_get (D := (dC, dI)) (ci := 0) (v := .int D.sv) (C := R_Desk) (T := F_Desk) (N := 10) hx hb hts i_Desk hown hK hP 0 rfl rfl 2 (by decide) (hts _ k_fl_Desk_17) (fun _ h9 => h9) rfl d_Desk_determinant_1 ?_
  refine lv_if_ne (tgt := 15) hx hb d_Desk_determinant_4 (by decide) (fun hs => ?_) (fun hs => ?_)
  rotate_left
  · exact xt_throw hx hb hlt (X := xt_s) (ik := 74) (ic := 76) (SX := Unit) hown (by decide +kernel) hts xt_s1 xt_s2 xt_s3 hE hS (hl.1.trans hml.symm) d_Desk_determinant_7 d_Desk_determinant_10 d_Desk_determinant_11 d_Desk_determinant_14 hnx (Nat.le_of_ble_eq_true rfl) (Nat.le_of_ble_eq_true rfl) (Nat.le_of_ble_eq_true rfl) (Nat.le_of_ble_eq_true rfl) hlocks () trivial (fun t_ hq_ => ⟨⟨rfl, hs⟩, xt_keepP hP hq_, hD⟩)
  have hs1 : D.sv = 1 := by
    rcases g2 with e | e
    · exact absurd e hs
    · exact e
  obtain ⟨d1, d2, d3⟩ := g11 hs1
  refine lv_aload_n hx hb d_Desk_determinant_15 rfl (lv_at hl 0 rfl) ?_
  refine va_get (D := (dC, dI)) (ci := 0) (v := .ref h0u) (C := R_Desk) (T := F_Desk) (N := 10) hx hb hts i_Desk hown hK hP 0 rfl rfl 5 (by decide) (hts _ k_fl_Desk_34) (fun _ h9 => h9) rfl d_Desk_determinant_16 ?_
  refine lv_aload_n hx hb d_Desk_determinant_19 rfl (lv_at hl 0 rfl) ?_
  refine va_get (D := (dC, dI)) (ci := 0) (v := .ref h0d) (C := R_Desk) (T := F_Desk) (N := 10) hx hb hts i_Desk hown hK hP 0 rfl rfl 4 (by decide) (hts _ k_fl_Desk_30) (fun _ h9 => h9) rfl d_Desk_determinant_20 ?_
  have hs_ : ([5, 6, 3, 4] : List Nat).map (fun i => (dw x0 gv cl d0 h0d q0d h0u q0u h0e q0e h0p q0p h0q q0q h0o q0o h0r q0r cA cJ cW D.n D.sv D.a D.lend D.fd D.sgd D.lenu D.fu D.sgu D.lene D.fe D.sge D.lenp D.fp D.sgp D.lenq D.fq D.sgq D.leno D.fo D.sgo D.lenr D.fr D.sgr D.tw D.iv D.hw D.qw D.gg D.ln D.sn)[i]?) = ([(h0u, .inr (1, [.ref q0u, .int (nI D.lenu), .int D.sgu])), (q0u, .inl (cA, 26, .inl (xn_f D.fu))), (h0d, .inr (1, [.ref q0d, .int (nI D.lend), .int D.sgd])), (q0d, .inl (cA, 26, .inl (xn_f D.fd)))]).map some := rfl
  have hPc := xp_P hP [5, 6, 3, 4] hs_
  have hDc := (hD.sub [5, 6, 3, 4] (by decide) hs_).weaken (B := fun _ => True) (fun _ _ _ _ => trivial)
  have hFc := va_free hD hS hA [5, 6, 3, 4] hs_
  refine va_callv (va_runV (As := [.ref h0d]) (rest := []) ⟨hx, hb, hml, hown, hts⟩ (c_Whole_setWhole l dC dI s.heap.size cA h0u q0u 26 D.lenu D.fu D.sgu h0d q0d 26 D.lend D.fd D.sgd (by decide) (by decide) g4.1 g4.1) (cwV 1 hts (gw_V k_ml_Desk_88 k_im_Whole_setWhole k_sel_Whole_setWhole k_ini_Whole k_code_Whole_setWhole) rfl rfl rfl (by decide +kernel) ⟨Nat.le_of_ble_eq_true rfl, Nat.le_of_ble_eq_true rfl⟩) ⟨xc_W_blind, va_recv hK hP (ci := 1) (q0 := 5) rfl rfl, fun U hU hW => ⟨rfl, by rw [hU], by rw [hU]; exact hPc, va_K.moved hW.alike (hK.sub (tys' := [(cA, .int)]) [0] rfl), hDc⟩⟩ rfl rfl hl.1 rfl (lv_room (Nat.le_of_ble_eq_true rfl)) d_Desk_determinant_23 ⟨Nat.zero_le _, Nat.zero_le _⟩) hS (fun q _ h => hFc q h) hFc (fun u t_ H locs ht_ hvm_ w1 hB hz1 hk1 hS => ?_)
  obtain ⟨U1, lu1, su1⟩ := u
  try dsimp only at w1
  rw [ht_] at hB
  obtain ⟨hP, hD⟩ := xj_4 5 6 3 4 hP hD rfl rfl rfl rfl hk1 hB
  have h8 : va_P (dC, dI) classes (dx x0 gv cl d0 h0d q0d h0u q0u h0e q0e h0p q0p h0q q0q h0o q0o h0r q0r cA cJ cW D.n D.sv D.a D.lend D.fd D.sgd lu1 U1 su1 D.lene D.fe D.sge D.lenp D.fp D.sgp D.lenq D.fq D.sgq D.leno D.fo D.sgo D.lenr D.fr D.sgr D.tw D.iv (fun j => some (D.hw j)) ++ cw (cf cA D.hw D.qw D.gg D.ln D.sn)) H := hP
  have h9 : va_D A (dx x0 gv cl d0 h0d q0d h0u q0u h0e q0e h0p q0p h0q q0q h0o q0o h0r q0r cA cJ cW D.n D.sv D.a D.lend D.fd D.sgd lu1 U1 su1 D.lene D.fe D.sge D.lenp D.fp D.sgp D.lenq D.fq D.sgq D.leno D.fo D.sgo D.lenr D.fr D.sgr D.tw D.iv (fun j => some (D.hw j)) ++ cw (cf cA D.hw D.qw D.gg D.ln D.sn)) := hD
  have hP : va_P (dC, dI) classes (dw x0 gv cl d0 h0d q0d h0u q0u h0e q0e h0p q0p h0q q0q h0o q0o h0r q0r cA cJ cW D.n D.sv D.a D.lend D.fd D.sgd lu1 U1 su1 D.lene D.fe D.sge D.lenp D.fp D.sgp D.lenq D.fq D.sgq D.leno D.fo D.sgo D.lenr D.fr D.sgr D.tw D.iv D.hw D.qw D.gg D.ln D.sn) H := h8
  have hD : va_D A (dw x0 gv cl d0 h0d q0d h0u q0u h0e q0e h0p q0p h0q q0q h0o q0o h0r q0r cA cJ cW D.n D.sv D.a D.lend D.fd D.sgd lu1 U1 su1 D.lene D.fe D.sge D.lenp D.fp D.sgp D.lenq D.fq D.sgq D.leno D.fo D.sgo D.lenr D.fr D.sgr D.tw D.iv D.hw D.qw D.gg D.ln D.sn) := h9
  obtain ⟨e1, e2, e3⟩ := w1
  have e1 := e1.symm
  have e2 := e2.symm
  subst e1
  subst e2
  obtain ⟨-, c2, c3⟩ := cp_n g4 g4.1 g5.2.1 e3
  refine lv_aload_n hx hb d_Desk_determinant_26 rfl (lv_at hl 0 rfl) ?_
  refine va_get (D := (dC, dI)) (ci := 0) (v := .ref h0e) (C := R_Desk) (T := F_Desk) (N := 10) hx hb hts i_Desk hown hK hP 0 rfl rfl 6 (by decide) (hts _ k_fl_Desk_37) (fun _ h9 => h9) rfl d_Desk_determinant_27 ?_
  refine lv_lconst (v := lN 1) hx hb d_Desk_determinant_30 rfl ?_
  have hs_ : ([7, 8] : List Nat).map (fun i => (dw x0 gv cl d0 h0d q0d h0u q0u h0e q0e h0p q0p h0q q0q h0o q0o h0r q0r cA cJ cW D.n D.sv D.a D.lend D.fd D.sgd D.lend U1 D.sgd D.lene D.fe D.sge D.lenp D.fp D.sgp D.lenq D.fq D.sgq D.leno D.fo D.sgo D.lenr D.fr D.sgr D.tw D.iv D.hw D.qw D.gg D.ln D.sn)[i]?) = ([(h0e, .inr (1, [.ref q0e, .int (nI D.lene), .int D.sge])), (q0e, .inl (cA, 26, .inl (xn_f D.fe)))]).map some := rfl
  have hPc := xp_P hP [7, 8] hs_
  have hDc := (hD.sub [7, 8] (by decide) hs_).weaken (B := fun _ => True) (fun _ _ _ _ => trivial)
  have hFc := va_free hD hS hA [7, 8] hs_
  refine va_callv (va_runV (As := [.long (lN 1)]) (rest := []) ⟨hx, hb, hml, hown, hts⟩ (c_Whole_setLong l dC dI H.size cA h0e q0e 26 D.lene D.fe D.sge (lN 1) (by decide) (by decide) g6.2.1) (cwV 1 hts (gw_V k_ml_Desk_53 k_im_Whole_setLong k_sel_Whole_setLong k_ini_Whole k_code_Whole_setLong) rfl rfl rfl (by decide +kernel) ⟨Nat.le_of_ble_eq_true rfl, Nat.le_of_ble_eq_true rfl⟩) ⟨xc_W_blind, va_recv hK hP (ci := 1) (q0 := 7) rfl rfl, fun U hU hW => ⟨rfl, by rw [hU], by rw [hU]; exact hPc, va_K.moved hW.alike (hK.sub (tys' := [(cA, .int)]) [0] rfl), hDc⟩⟩ rfl rfl hl.1 rfl (lv_room (Nat.le_of_ble_eq_true rfl)) d_Desk_determinant_31 ⟨Nat.zero_le _, Nat.zero_le _⟩) hS (fun q _ h => hFc q h) hFc (fun u t_ H locs ht_ hvm_ w2 hB hz1 hk1 hS => ?_)
  obtain ⟨E1, le1, se1⟩ := u
  try dsimp only at w2
  rw [ht_] at hB
  obtain ⟨hP, hD⟩ := xj_2 7 8 hP hD rfl rfl hk1 hB
  have h8 : va_P (dC, dI) classes (dx x0 gv cl d0 h0d q0d h0u q0u h0e q0e h0p q0p h0q q0q h0o q0o h0r q0r cA cJ cW D.n D.sv D.a D.lend D.fd D.sgd D.lend U1 D.sgd le1 E1 se1 D.lenp D.fp D.sgp D.lenq D.fq D.sgq D.leno D.fo D.sgo D.lenr D.fr D.sgr D.tw D.iv (fun j => some (D.hw j)) ++ cw (cf cA D.hw D.qw D.gg D.ln D.sn)) H := hP
  have h9 : va_D A (dx x0 gv cl d0 h0d q0d h0u q0u h0e q0e h0p q0p h0q q0q h0o q0o h0r q0r cA cJ cW D.n D.sv D.a D.lend D.fd D.sgd D.lend U1 D.sgd le1 E1 se1 D.lenp D.fp D.sgp D.lenq D.fq D.sgq D.leno D.fo D.sgo D.lenr D.fr D.sgr D.tw D.iv (fun j => some (D.hw j)) ++ cw (cf cA D.hw D.qw D.gg D.ln D.sn)) := hD
  have hP : va_P (dC, dI) classes (dw x0 gv cl d0 h0d q0d h0u q0u h0e q0e h0p q0p h0q q0q h0o q0o h0r q0r cA cJ cW D.n D.sv D.a D.lend D.fd D.sgd D.lend U1 D.sgd le1 E1 se1 D.lenp D.fp D.sgp D.lenq D.fq D.sgq D.leno D.fo D.sgo D.lenr D.fr D.sgr D.tw D.iv D.hw D.qw D.gg D.ln D.sn) H := h8
  have hD : va_D A (dw x0 gv cl d0 h0d q0d h0u q0u h0e q0e h0p q0p h0q q0q h0o q0o h0r q0r cA cJ cW D.n D.sv D.a D.lend D.fd D.sgd D.lend U1 D.sgd le1 E1 se1 D.lenp D.fp D.sgp D.lenq D.fq D.sgq D.leno D.fo D.sgo D.lenr D.fr D.sgr D.tw D.iv D.hw D.qw D.gg D.ln D.sn) := h9
  have w2v : wh_z E1 le1 se1 = 1 := w2.2
  refine lv_aload_n hx hb d_Desk_determinant_34 rfl (lv_at hl 0 rfl) ?_
  refine va_get (D := (dC, dI)) (ci := 0) (v := .ref h0u) (C := R_Desk) (T := F_Desk) (N := 10) hx hb hts i_Desk hown hK hP 0 rfl rfl 5 (by decide) (hts _ k_fl_Desk_34) (fun _ h9 => h9) rfl d_Desk_determinant_35 ?_
  refine va_get (D := (dC, dI)) (ci := 1) (v := .int D.sgd) (C := R_Whole) (T := F_Whole) (N := 3) hx hb hts i_Whole hown hK hP 5 rfl rfl 2 (by decide) (hts _ k_fl_Desk_85) (fun _ h9 => h9) rfl d_Desk_determinant_38 ?_
  have hpost : dG (⟨D.n, D.sv, D.a, D.lend, D.fd, D.sgd, D.lend, U1, D.sgd, le1, E1, se1, D.lenp, D.fp, D.sgp, D.lenq, D.fq, D.sgq, D.leno, D.fo, D.sgo, D.lenr, D.fr, D.sgr, D.tw, D.iv, D.hw, D.qw, D.gg, D.ln, D.sn⟩ : dS) ∧ (D.sv = 1 ∧ D.sgd.toInt = (dt_d (dA D.a) D.n).sign ∧ lb_v U1 D.lend = (dt_d (dA D.a) D.n).natAbs ∧ lb_v E1 le1 = 1) ∧ D.n = D.n ∧ D.sv = D.sv ∧ D.a = D.a := ⟨⟨g1, g2, g3, g4, c3, w2.1, g7, g8, g9, g10, fun _ => ⟨d1, d2, d3⟩⟩, ⟨hs1, by rw [wh_sgn g4, d2], by rw [c2, ← wh_abs g4, d2], by rw [← wh_abs w2.1, w2v]; rfl⟩, rfl, rfl, rfl⟩
  refine vx_ret (W.widen (k := 1) (n := 6) (Nat.zero_le _) (Nat.zero_le _) ?_)
  exact W.iret (v := D.sgd) hx hb hr (fun T_ ht_ hW_ => ⟨⟨_, (⟨D.n, D.sv, D.a, D.lend, D.fd, D.sgd, D.lend, U1, D.sgd, le1, E1, se1, D.lenp, D.fp, D.sgp, D.lenq, D.fq, D.sgq, D.leno, D.fo, D.sgo, D.lenr, D.fr, D.sgr, D.tw, D.iv, D.hw, D.qw, D.gg, D.ln, D.sn⟩ : dS), rfl, hpost, by show va_P (dC, dI) classes _ T_.heap; rw [ht_]; exact hP, hD⟩, hS.F ht_⟩) hS.2.2 d_Desk_determinant_41
