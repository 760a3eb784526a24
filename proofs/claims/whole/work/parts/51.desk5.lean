set_option maxHeartbeats 8000000 in
set_option maxRecDepth 100000 in
/-- size -/
theorem c_Desk_size (l : Launch) (hlt : l.stackTraces = false) (dC : Nat → ClassId) (dI : Nat → Nat → Nat) (sz : Nat) (x0 gv cl d0 h0d q0d h0u q0u h0e q0e h0p q0p h0q q0q h0o q0o h0r q0r : Nat) (cA cJ cW : ClassId) (D : dS) (k : Int32) (hG : dG D) : vx_Met l y_Desk_size w_Desk_size ({ frames := 6, cells := 1, slots := 6, locals := 81 }) (xc_X [.ref x0, .int k] dC dI (dw x0 gv cl d0 h0d q0d h0u q0u h0e q0e h0p q0p h0q q0q h0o q0o h0r q0r cA cJ cW D.n D.sv D.a D.lend D.fd D.sgd D.lenu D.fu D.sgu D.lene D.fe D.sge D.lenp D.fp D.sgp D.lenq D.fq D.sgq D.leno D.fo D.sgo D.lenr D.fr D.sgr D.tw D.iv D.hw D.qw D.gg D.ln D.sn) [(cA, .int), (cJ, .long), (cW, .object "EquationDesk$Whole")] sz) (va_Qv (S := dS) (fun u => dG u ∧ (u.n : Int) = k.toInt ∧ 0 ≤ k.toInt ∧ k.toInt ≤ 12 ∧ u.sv = 0 ∧ u.a = (fun _ => 0) ∧ dN u = dN D ∧ dE u = dE D) (fun u t => va_P (dC, dI) classes (dw x0 gv cl d0 h0d q0d h0u q0u h0e q0e h0p q0p h0q q0q h0o q0o h0r q0r cA cJ cW u.n u.sv u.a u.lend u.fd u.sgd u.lenu u.fu u.sgu u.lene u.fe u.sge u.lenp u.fp u.sgp u.lenq u.fq u.sgq u.leno u.fo u.sgo u.lenr u.fr u.sgr u.tw u.iv u.hw u.qw u.gg u.ln u.sn) t.heap ∧ va_D (va_A (dw x0 gv cl d0 h0d q0d h0u q0u h0e q0e h0p q0p h0q q0q h0o q0o h0r q0r cA cJ cW D.n D.sv D.a D.lend D.fd D.sgd D.lenu D.fu D.sgu D.lene D.fe D.sge D.lenp D.fp D.sgp D.lenq D.fq D.sgq D.leno D.fo D.sgo D.lenr D.fr D.sgr D.tw D.iv D.hw D.qw D.gg D.ln D.sn) sz) (dw x0 gv cl d0 h0d q0d h0u q0u h0e q0e h0p q0p h0q q0q h0o q0o h0r q0r cA cJ cW u.n u.sv u.a u.lend u.fd u.sgd u.lenu u.fu u.sgu u.lene u.fe u.sge u.lenp u.fp u.sgp u.lenq u.fq u.sgq u.leno u.fo u.sgo u.lenr u.fr u.sgr u.tw u.iv u.hw u.qw u.gg u.ln u.sn)) (va_A (dw x0 gv cl d0 h0d q0d h0u q0u h0e q0e h0p q0p h0q q0q h0o q0o h0r q0r cA cJ cW D.n D.sv D.a D.lend D.fd D.sgd D.lenu D.fu D.sgu D.lene D.fe D.sge D.lenp D.fp D.sgp D.lenq D.fq D.sgq D.leno D.fo D.sgo D.lenr D.fr D.sgr D.tw D.iv D.hw D.qw D.gg D.ln D.sn) sz)) (vx_X (S := Unit) (fun _ => True) (fun E _ t => (E = xt_a ∧ ¬ (0 ≤ k.toInt ∧ k.toInt ≤ 12)) ∧ va_P (dC, dI) classes (dw x0 gv cl d0 h0d q0d h0u q0u h0e q0e h0p q0p h0q q0q h0o q0o h0r q0r cA cJ cW D.n D.sv D.a D.lend D.fd D.sgd D.lenu D.fu D.sgu D.lene D.fe D.sge D.lenp D.fp D.sgp D.lenq D.fq D.sgq D.leno D.fo D.sgo D.lenr D.fr D.sgr D.tw D.iv D.hw D.qw D.gg D.ln D.sn) t.heap ∧ va_D (va_A (dw x0 gv cl d0 h0d q0d h0u q0u h0e q0e h0p q0p h0q q0q h0o q0o h0r q0r cA cJ cW D.n D.sv D.a D.lend D.fd D.sgd D.lenu D.fu D.sgu D.lene D.fe D.sge D.lenp D.fp D.sgp D.lenq D.fq D.sgq D.leno D.fo D.sgo D.lenr D.fr D.sgr D.tw D.iv D.hw D.qw D.gg D.ln D.sn) sz) (dw x0 gv cl d0 h0d q0d h0u q0u h0e q0e h0p q0p h0q q0q h0o q0o h0r q0r cA cJ cW D.n D.sv D.a D.lend D.fd D.sgd D.lenu D.fu D.sgu D.lene D.fe D.sge D.lenp D.fp D.sgp D.lenq D.fq D.sgq D.leno D.fo D.sgo D.lenr D.fr D.sgr D.tw D.iv D.hw D.qw D.gg D.ln D.sn)) (va_A (dw x0 gv cl d0 h0d q0d h0u q0u h0e q0e h0p q0p h0q q0q h0o q0o h0r q0r cA cJ cW D.n D.sv D.a D.lend D.fd D.sgd D.lenu D.fu D.sgu D.lene D.fe D.sge D.lenp D.fp D.sgp D.lenq D.fq D.sgq D.leno D.fo D.sgo D.lenr D.fr D.sgr D.tw D.iv D.hw D.qw D.gg D.ln D.sn) sz)) 1 6 (va_A (dw x0 gv cl d0 h0d q0d h0u q0u h0e q0e h0p q0p h0q q0q h0o q0o h0r q0r cA cJ cW D.n D.sv D.a D.lend D.fd D.sgd D.lenu D.fu D.sgu D.lene D.fe D.sge D.lenp D.fp D.sgp D.lenq D.fq D.sgq D.leno D.fo D.sgo D.lenr D.fr D.sgr D.tw D.iv D.hw D.qw D.gg D.ln D.sn) sz) := by
  refine vx_ofW (cc := b_Desk_size) (maxL := 3) (ret := none) (by decide) rfl ?_
  intro p e s m args below meth c s₁ B hml hnx hv
  obtain ⟨⟨rfl, hsz, hP, hK, hD0⟩, hE⟩ := hv
  have hx := B.exec
  have hb := B.bytes
  have hr := B.returns
  have hts : ∀ w ∈ gw_tbl, w.before ([.ref x0, .int k] : List Value).toArray s = true := fun w h => atoms_spec (ws := w_Desk_size) B.pre w (List.mem_cons_of_mem _ h)
  have hown : s.vm.findClass R_Desk = some m.cls := findClass_of_methodNamed B.named
  have hlocks := B.notSynchronized
  subst hsz
  have hD := hD0.self (sz := s.heap.size)
  generalize hAe : va_A (dw x0 gv cl d0 h0d q0d h0u q0u h0e q0e h0p q0p h0q q0q h0o q0o h0r q0r cA cJ cW D.n D.sv D.a D.lend D.fd D.sgd D.lenu D.fu D.sgu D.lene D.fe D.sge D.lenp D.fp D.sgp D.lenq D.fq D.sgq D.leno D.fo D.sgo D.lenr D.fr D.sgr D.tw D.iv D.hw D.qw D.gg D.ln D.sn) s.heap.size = A at hD hE ⊢
  have hA : ∀ q : Nat, s.heap.size ≤ q → A q := fun q h => by rw [← hAe]; exact Or.inr h
  have hS : va_S A s.heap s.heap [] := va_S.rf
  have hl := lv_entry ([.ref x0, .int k]) (n := 3) (Nat.le_of_ble_eq_true rfl)
  rw [lg_entry_eq]
  generalize (lg_sl ([.ref x0, .int k]) ++ List.replicate (3 - (lg_sl ([.ref x0, .int k])).length) Slot.unset).toArray = ls at hl ⊢
  have hl : lv_has ls 3 [(0, .ref x0), (1, .int k)] := hl
  have z0 : (0 : Int32).toInt = 0 := rfl
  have z12 : (nI 12).toInt = 12 := rfl
  refine lv_iload_n hx hb d_Desk_size_0 rfl (lv_at hl 1 rfl) ?_
  refine lv_if_lt (tgt := 10) hx hb d_Desk_size_1 (by decide) (fun hlt0 => ?_) (fun hlt0 => ?_)
  · exact xt_throw hx hb hlt (X := xt_a) (ik := 57) (ic := 59) (SX := Unit) hown (by decide +kernel) hts xt_a1 xt_a2 xt_a3 hE hS (hl.1.trans hml.symm) d_Desk_size_10 d_Desk_size_13 d_Desk_size_14 d_Desk_size_17 hnx (Nat.le_of_ble_eq_true rfl) (Nat.le_of_ble_eq_true rfl) (Nat.le_of_ble_eq_true rfl) (Nat.le_of_ble_eq_true rfl) hlocks () trivial (fun t_ hq_ => ⟨⟨rfl, fun z => by rw [Int32.lt_iff_toInt_lt] at hlt0; omega⟩, xt_keepP hP hq_, hD⟩)
  refine lv_iload_n hx hb d_Desk_size_4 rfl (lv_at hl 1 rfl) ?_
  refine lv_bipush (v := nI 12) hx hb d_Desk_size_5 rfl ?_
  refine lv_icmp_le (tgt := 18) hx hb d_Desk_size_7 (by decide) (fun hle0 => ?_) (fun hle0 => ?_)
  rotate_left
  · exact xt_throw hx hb hlt (X := xt_a) (ik := 57) (ic := 59) (SX := Unit) hown (by decide +kernel) hts xt_a1 xt_a2 xt_a3 hE hS (hl.1.trans hml.symm) d_Desk_size_10 d_Desk_size_13 d_Desk_size_14 d_Desk_size_17 hnx (Nat.le_of_ble_eq_true rfl) (Nat.le_of_ble_eq_true rfl) (Nat.le_of_ble_eq_true rfl) (Nat.le_of_ble_eq_true rfl) hlocks () trivial (fun t_ hq_ => ⟨⟨rfl, fun z => by rw [Int32.le_iff_toInt_le] at hle0; omega⟩, xt_keepP hP hq_, hD⟩)
  obtain ⟨kn, hkn, ek⟩ := nI_of hlt0
  have hkt : k.toInt = (kn : Int) := by rw [ek, nI_toInt hkn]
  have hk12 : kn ≤ 12 := by rw [Int32.le_iff_toInt_le] at hle0; omega
  refine lv_iconst (v := nI 0) hx hb d_Desk_size_18 rfl ?_
  refine lv_istore_n (lv' := [(2, .int (nI 0)), (0, .ref x0), (1, .int k)]) hx hb d_Desk_size_19 rfl hl (by decide) rfl (fun ls hl => ?_)
  have loop : ∀ (n0 : Nat) (j : Nat) (a1 : Nat → Int64), (j ≤ 156) → (∀ j2, j2 < j → a1 j2 = 0) → (157 ≤ j + n0) → ∀ (H : Heap) (locs : List Loc), va_P (dC, dI) classes (dw x0 gv cl d0 h0d q0d h0u q0u h0e q0e h0p q0p h0q q0q h0o q0o h0r q0r cA cJ cW D.n D.sv a1 D.lend D.fd D.sgd D.lenu D.fu D.sgu D.lene D.fe D.sge D.lenp D.fp D.sgp D.lenq D.fq D.sgq D.leno D.fo D.sgo D.lenr D.fr D.sgr D.tw D.iv D.hw D.qw D.gg D.ln D.sn) H → va_D A (dw x0 gv cl d0 h0d q0d h0u q0u h0e q0e h0p q0p h0q q0q h0o q0o h0r q0r cA cJ cW D.n D.sv a1 D.lend D.fd D.sgd D.lenu D.fu D.sgu D.lene D.fe D.sge D.lenp D.fp D.sgp D.lenq D.fq D.sgq D.leno D.fo D.sgo D.lenr D.fr D.sgr D.tw D.iv D.hw D.qw D.gg D.ln D.sn) → va_S A s.heap H locs → ∀ (ls : Array Slot), lv_has ls 3 [(2, .int (nI j)), (0, .ref x0), (1, .int k)] → W p l e (headSpec w_Desk_size ({ frames := 6, cells := 1, slots := 6, locals := 81 })).room s m ([.ref x0, .int k] : List Value).toArray below meth c H locs 0 0 (vx_MQ below (va_Qv (S := dS) (fun u => dG u ∧ (u.n : Int) = k.toInt ∧ 0 ≤ k.toInt ∧ k.toInt ≤ 12 ∧ u.sv = 0 ∧ u.a = (fun _ => 0) ∧ dN u = dN D ∧ dE u = dE D) (fun u t => va_P (dC, dI) classes (dw x0 gv cl d0 h0d q0d h0u q0u h0e q0e h0p q0p h0q q0q h0o q0o h0r q0r cA cJ cW u.n u.sv u.a u.lend u.fd u.sgd u.lenu u.fu u.sgu u.lene u.fe u.sge u.lenp u.fp u.sgp u.lenq u.fq u.sgq u.leno u.fo u.sgo u.lenr u.fr u.sgr u.tw u.iv u.hw u.qw u.gg u.ln u.sn) t.heap ∧ va_D A (dw x0 gv cl d0 h0d q0d h0u q0u h0e q0e h0p q0p h0q q0q h0o q0o h0r q0r cA cJ cW u.n u.sv u.a u.lend u.fd u.sgd u.lenu u.fu u.sgu u.lene u.fe u.sge u.lenp u.fp u.sgp u.lenq u.fq u.sgq u.leno u.fo u.sgo u.lenr u.fr u.sgr u.tw u.iv u.hw u.qw u.gg u.ln u.sn)) A) (vx_X (S := Unit) (fun _ => True) (fun E _ t => (E = xt_a ∧ ¬ (0 ≤ k.toInt ∧ k.toInt ≤ 12)) ∧ va_P (dC, dI) classes (dw x0 gv cl d0 h0d q0d h0u q0u h0e q0e h0p q0p h0q q0q h0o q0o h0r q0r cA cJ cW D.n D.sv D.a D.lend D.fd D.sgd D.lenu D.fu D.sgu D.lene D.fe D.sge D.lenp D.fp D.sgp D.lenq D.fq D.sgq D.leno D.fo D.sgo D.lenr D.fr D.sgr D.tw D.iv D.hw D.qw D.gg D.ln D.sn) t.heap ∧ va_D A (dw x0 gv cl d0 h0d q0d h0u q0u h0e q0e h0p q0p h0q q0q h0o q0o h0r q0r cA cJ cW D.n D.sv D.a D.lend D.fd D.sgd D.lenu D.fu D.sgu D.lene D.fe D.sge D.lenp D.fp D.sgp D.lenq D.fq D.sgq D.leno D.fo D.sgo D.lenr D.fr D.sgr D.tw D.iv D.hw D.qw D.gg D.ln D.sn)) A) ([.ref x0, .int k] : List Value).toArray s 1 6 A) (F0 m 20 ls []) := by
    intro n0
    induction n0 with
    | zero => intro j a1 hj hz hn_; exact absurd hn_ (by omega)
    | succ n0 ih =>
      intro j a1 hj hz hn_ H locs hP hD hS ls hl
      refine lv_iload_n hx hb d_Desk_size_20 rfl (lv_at hl 0 rfl) ?_
      refine lv_aload_n hx hb d_Desk_size_21 rfl (lv_at hl 1 rfl) ?_
      refine va_get (D := (dC, dI)) (ci := 0) (v := .ref gv) (C := R_Desk) (T := F_Desk) (N := 10) hx hb hts i_Desk hown hK hP 0 rfl rfl 0 (by decide) (hts _ k_fl_Desk_9) (fun _ h9 => h9) rfl d_Desk_size_22 ?_
      refine va_alen (v := nI 156) hx hb hK hP 1 1 rfl rfl rfl d_Desk_size_25 ?_
      refine xn_icmp_ge (tgt := 42) hx hb (by omega) (by omega) d_Desk_size_26 (by decide) (fun hge => ?_) (fun hge => ?_)
      · subst ek
        refine lv_aload_n hx hb d_Desk_size_42 rfl (lv_at hl 1 rfl) ?_
        refine lv_iload_n hx hb d_Desk_size_43 rfl (lv_at hl 2 rfl) ?_
        refine va_put (D := (dC, dI)) (ci := 0) (v := .int (nI kn)) (ty := .int) (C := R_Desk) (T := F_Desk) (N := 10) hx hb hts i_Desk t_Desk t_Desk_ok n_Desk hown hK hP hD hS 0 rfl rfl 1 (by decide) (hts _ k_fl_Desk_13) (fun _ h9 => h9) rfl (by decide +kernel) rfl rfl (Nat.le_of_ble_eq_true rfl) d_Desk_size_44 (fun H locs hP hD hS => ?_)
        have hP : va_P (dC, dI) classes (dw x0 gv cl d0 h0d q0d h0u q0u h0e q0e h0p q0p h0q q0q h0o q0o h0r q0r cA cJ cW kn D.sv a1 D.lend D.fd D.sgd D.lenu D.fu D.sgu D.lene D.fe D.sge D.lenp D.fp D.sgp D.lenq D.fq D.sgq D.leno D.fo D.sgo D.lenr D.fr D.sgr D.tw D.iv D.hw D.qw D.gg D.ln D.sn) H := hP
        have hD : va_D A (dw x0 gv cl d0 h0d q0d h0u q0u h0e q0e h0p q0p h0q q0q h0o q0o h0r q0r cA cJ cW kn D.sv a1 D.lend D.fd D.sgd D.lenu D.fu D.sgu D.lene D.fe D.sge D.lenp D.fp D.sgp D.lenq D.fq D.sgq D.leno D.fo D.sgo D.lenr D.fr D.sgr D.tw D.iv D.hw D.qw D.gg D.ln D.sn) := hD
        refine lv_aload_n hx hb d_Desk_size_47 rfl (lv_at hl 1 rfl) ?_
        refine lv_iconst (v := nI 0) hx hb d_Desk_size_48 rfl ?_
        refine va_put (D := (dC, dI)) (ci := 0) (v := .int (nI 0)) (ty := .boolean) (C := R_Desk) (T := F_Desk) (N := 10) hx hb hts i_Desk t_Desk t_Desk_ok n_Desk hown hK hP hD hS 0 rfl rfl 2 (by decide) (hts _ k_fl_Desk_17) (fun _ h9 => h9) rfl (by decide +kernel) rfl rfl (Nat.le_of_ble_eq_true rfl) d_Desk_size_49 (fun H locs hP hD hS => ?_)
        have hP : va_P (dC, dI) classes (dw x0 gv cl d0 h0d q0d h0u q0u h0e q0e h0p q0p h0q q0q h0o q0o h0r q0r cA cJ cW kn (nI 0) a1 D.lend D.fd D.sgd D.lenu D.fu D.sgu D.lene D.fe D.sge D.lenp D.fp D.sgp D.lenq D.fq D.sgq D.leno D.fo D.sgo D.lenr D.fr D.sgr D.tw D.iv D.hw D.qw D.gg D.ln D.sn) H := hP
        have hD : va_D A (dw x0 gv cl d0 h0d q0d h0u q0u h0e q0e h0p q0p h0q q0q h0o q0o h0r q0r cA cJ cW kn (nI 0) a1 D.lend D.fd D.sgd D.lenu D.fu D.sgu D.lene D.fe D.sge D.lenp D.fp D.sgp D.lenq D.fq D.sgq D.leno D.fo D.sgo D.lenr D.fr D.sgr D.tw D.iv D.hw D.qw D.gg D.ln D.sn) := hD
        have hG9 := hG
        obtain ⟨g1, g2, g3, g4, g5, g6, g7, g8, g9, g10, g11⟩ := hG9
        have hP := arr_PJ (k := 1) (g := fun _ => 0) hP rfl (fun i hi => hz i (by omega))
        have hD := hD.set (p := 1) (e := .inl (cJ, 156, .inr (.inl (fun _ => 0)))) rfl
        have hP : va_P (dC, dI) classes (dw x0 gv cl d0 h0d q0d h0u q0u h0e q0e h0p q0p h0q q0q h0o q0o h0r q0r cA cJ cW kn (nI 0) (fun _ => 0) D.lend D.fd D.sgd D.lenu D.fu D.sgu D.lene D.fe D.sge D.lenp D.fp D.sgp D.lenq D.fq D.sgq D.leno D.fo D.sgo D.lenr D.fr D.sgr D.tw D.iv D.hw D.qw D.gg D.ln D.sn) H := hP
        have hD : va_D A (dw x0 gv cl d0 h0d q0d h0u q0u h0e q0e h0p q0p h0q q0q h0o q0o h0r q0r cA cJ cW kn (nI 0) (fun _ => 0) D.lend D.fd D.sgd D.lenu D.fu D.sgu D.lene D.fe D.sge D.lenp D.fp D.sgp D.lenq D.fq D.sgq D.leno D.fo D.sgo D.lenr D.fr D.sgr D.tw D.iv D.hw D.qw D.gg D.ln D.sn) := hD
        have hpost : dG (⟨kn, nI 0, fun _ => 0, D.lend, D.fd, D.sgd, D.lenu, D.fu, D.sgu, D.lene, D.fe, D.sge, D.lenp, D.fp, D.sgp, D.lenq, D.fq, D.sgq, D.leno, D.fo, D.sgo, D.lenr, D.fr, D.sgr, D.tw, D.iv, D.hw, D.qw, D.gg, D.ln, D.sn⟩ : dS) ∧ ((kn : Nat) : Int) = (nI kn).toInt ∧ 0 ≤ (nI kn).toInt ∧ (nI kn).toInt ≤ 12 ∧ (nI 0 : Int32) = 0 ∧ (fun _ : Nat => (0 : Int64)) = (fun _ => 0) ∧ dN D = dN D ∧ dE D = dE D := ⟨⟨hk12, Or.inl rfl, g3, g4, g5, g6, g7, g8, g9, g10, fun z => absurd (show (nI 0 : Int32) = 1 from z) (by decide)⟩, hkt.symm, by omega, by omega, rfl, rfl, rfl, rfl⟩
        refine vx_ret (W.widen (k := 1) (n := 6) (Nat.zero_le _) (Nat.zero_le _) ?_)
        exact W.vret hx hb hr (fun T_ ht_ hW_ => ⟨⟨(⟨kn, nI 0, fun _ => 0, D.lend, D.fd, D.sgd, D.lenu, D.fu, D.sgu, D.lene, D.fe, D.sge, D.lenp, D.fp, D.sgp, D.lenq, D.fq, D.sgq, D.leno, D.fo, D.sgo, D.lenr, D.fr, D.sgr, D.tw, D.iv, D.hw, D.qw, D.gg, D.ln, D.sn⟩ : dS), rfl, hpost, by show va_P (dC, dI) classes _ T_.heap; rw [ht_]; exact hP, hD⟩, hS.F ht_⟩) hS.2.2 d_Desk_size_52
      refine lv_aload_n hx hb d_Desk_size_29 rfl (lv_at hl 1 rfl) ?_
      refine va_get (D := (dC, dI)) (ci := 0) (v := .ref gv) (C := R_Desk) (T := F_Desk) (N := 10) hx hb hts i_Desk hown hK hP 0 rfl rfl 0 (by decide) (hts _ k_fl_Desk_9) (fun _ h9 => h9) rfl d_Desk_size_30 ?_
      refine lv_iload_n hx hb d_Desk_size_33 rfl (lv_at hl 0 rfl) ?_
      refine lv_lconst (v := lN 0) hx hb d_Desk_size_34 rfl ?_
      refine xn_last hx hb hK hP hD hS 1 1 rfl rfl (i := j) (x := lN 0) (by omega) (by omega) d_Desk_size_35 (fun H locs hP hD hS => ?_)
      have hP : va_P (dC, dI) classes (dw x0 gv cl d0 h0d q0d h0u q0u h0e q0e h0p q0p h0q q0q h0o q0o h0r q0r cA cJ cW D.n D.sv (va_up a1 j (lN 0)) D.lend D.fd D.sgd D.lenu D.fu D.sgu D.lene D.fe D.sge D.lenp D.fp D.sgp D.lenq D.fq D.sgq D.leno D.fo D.sgo D.lenr D.fr D.sgr D.tw D.iv D.hw D.qw D.gg D.ln D.sn) H := hP
      have hD : va_D A (dw x0 gv cl d0 h0d q0d h0u q0u h0e q0e h0p q0p h0q q0q h0o q0o h0r q0r cA cJ cW D.n D.sv (va_up a1 j (lN 0)) D.lend D.fd D.sgd D.lenu D.fu D.sgu D.lene D.fe D.sge D.lenp D.fp D.sgp D.lenq D.fq D.sgq D.leno D.fo D.sgo D.lenr D.fr D.sgr D.tw D.iv D.hw D.qw D.gg D.ln D.sn) := hD
      refine lv_iinc (v := nI (j + 1)) (lv' := [(2, .int (nI (j + 1))), (0, .ref x0), (1, .int k)]) hx hb d_Desk_size_36 hl (k := 0) rfl (nI_1 _) (by decide) rfl (fun ls hl => ?_)
      refine lv_goto (tgt := 20) hx hb d_Desk_size_39 (by decide) ?_
      exact ih (j + 1) (va_up a1 j (lN 0)) (by omega) (fun j2 h2 => by
                by_cases q : j2 = j
                · subst q; rw [va_up_self]; rfl
                · rw [va_up_ne _ _ q]; exact hz j2 (by omega)) (by omega) H locs hP hD hS ls (lv_sub hl [0, 1, 2] rfl)
  exact loop 157 0 D.a (Nat.zero_le _) (fun j2 h2 => absurd h2 (Nat.not_lt_zero _)) (by omega) s.heap [] hP hD hS ls (lv_sub hl [0, 1, 2] rfl)
set_option maxHeartbeats 8000000 in
set_option maxRecDepth 100000 in
/-- put -/
theorem c_Desk_put (l : Launch) (hlt : l.stackTraces = false) (dC : Nat → ClassId) (dI : Nat → Nat → Nat) (sz : Nat) (x0 gv cl d0 h0d q0d h0u q0u h0e q0e h0p q0p h0q q0q h0o q0o h0r q0r : Nat) (cA cJ cW : ClassId) (D : dS) (i j : Int32) (v : Int64) (hG : dG D) : vx_Met l y_Desk_put w_Desk_put ({ frames := 6, cells := 1, slots := 6, locals := 81 }) (xc_X [.ref x0, .int i, .int j, .long v] dC dI (dw x0 gv cl d0 h0d q0d h0u q0u h0e q0e h0p q0p h0q q0q h0o q0o h0r q0r cA cJ cW D.n D.sv D.a D.lend D.fd D.sgd D.lenu D.fu D.sgu D.lene D.fe D.sge D.lenp D.fp D.sgp D.lenq D.fq D.sgq D.leno D.fo D.sgo D.lenr D.fr D.sgr D.tw D.iv D.hw D.qw D.gg D.ln D.sn) [(cA, .int), (cJ, .long), (cW, .object "EquationDesk$Whole")] sz) (va_Ql (S := dS) (fun r u => dG u ∧ (∃ i2 j2 : Nat, i = nI i2 ∧ j = nI j2 ∧ i2 < D.n ∧ j2 ≤ D.n ∧ r = D.a (i2 * 13 + j2) ∧ u.a = va_up D.a (i2 * 13 + j2) v) ∧ u.n = D.n ∧ u.sv = 0 ∧ dN u = dN D ∧ dE u = dE D) (fun u t => va_P (dC, dI) classes (dw x0 gv cl d0 h0d q0d h0u q0u h0e q0e h0p q0p h0q q0q h0o q0o h0r q0r cA cJ cW u.n u.sv u.a u.lend u.fd u.sgd u.lenu u.fu u.sgu u.lene u.fe u.sge u.lenp u.fp u.sgp u.lenq u.fq u.sgq u.leno u.fo u.sgo u.lenr u.fr u.sgr u.tw u.iv u.hw u.qw u.gg u.ln u.sn) t.heap ∧ va_D (va_A (dw x0 gv cl d0 h0d q0d h0u q0u h0e q0e h0p q0p h0q q0q h0o q0o h0r q0r cA cJ cW D.n D.sv D.a D.lend D.fd D.sgd D.lenu D.fu D.sgu D.lene D.fe D.sge D.lenp D.fp D.sgp D.lenq D.fq D.sgq D.leno D.fo D.sgo D.lenr D.fr D.sgr D.tw D.iv D.hw D.qw D.gg D.ln D.sn) sz) (dw x0 gv cl d0 h0d q0d h0u q0u h0e q0e h0p q0p h0q q0q h0o q0o h0r q0r cA cJ cW u.n u.sv u.a u.lend u.fd u.sgd u.lenu u.fu u.sgu u.lene u.fe u.sge u.lenp u.fp u.sgp u.lenq u.fq u.sgq u.leno u.fo u.sgo u.lenr u.fr u.sgr u.tw u.iv u.hw u.qw u.gg u.ln u.sn)) (va_A (dw x0 gv cl d0 h0d q0d h0u q0u h0e q0e h0p q0p h0q q0q h0o q0o h0r q0r cA cJ cW D.n D.sv D.a D.lend D.fd D.sgd D.lenu D.fu D.sgu D.lene D.fe D.sge D.lenp D.fp D.sgp D.lenq D.fq D.sgq D.leno D.fo D.sgo D.lenr D.fr D.sgr D.tw D.iv D.hw D.qw D.gg D.ln D.sn) sz)) (vx_X (S := Unit) (fun _ => True) (fun E _ t => (E = xt_i ∧ ¬ (0 ≤ i.toInt ∧ i.toInt < D.n ∧ 0 ≤ j.toInt ∧ j.toInt ≤ D.n)) ∧ va_P (dC, dI) classes (dw x0 gv cl d0 h0d q0d h0u q0u h0e q0e h0p q0p h0q q0q h0o q0o h0r q0r cA cJ cW D.n D.sv D.a D.lend D.fd D.sgd D.lenu D.fu D.sgu D.lene D.fe D.sge D.lenp D.fp D.sgp D.lenq D.fq D.sgq D.leno D.fo D.sgo D.lenr D.fr D.sgr D.tw D.iv D.hw D.qw D.gg D.ln D.sn) t.heap ∧ va_D (va_A (dw x0 gv cl d0 h0d q0d h0u q0u h0e q0e h0p q0p h0q q0q h0o q0o h0r q0r cA cJ cW D.n D.sv D.a D.lend D.fd D.sgd D.lenu D.fu D.sgu D.lene D.fe D.sge D.lenp D.fp D.sgp D.lenq D.fq D.sgq D.leno D.fo D.sgo D.lenr D.fr D.sgr D.tw D.iv D.hw D.qw D.gg D.ln D.sn) sz) (dw x0 gv cl d0 h0d q0d h0u q0u h0e q0e h0p q0p h0q q0q h0o q0o h0r q0r cA cJ cW D.n D.sv D.a D.lend D.fd D.sgd D.lenu D.fu D.sgu D.lene D.fe D.sge D.lenp D.fp D.sgp D.lenq D.fq D.sgq D.leno D.fo D.sgo D.lenr D.fr D.sgr D.tw D.iv D.hw D.qw D.gg D.ln D.sn)) (va_A (dw x0 gv cl d0 h0d q0d h0u q0u h0e q0e h0p q0p h0q q0q h0o q0o h0r q0r cA cJ cW D.n D.sv D.a D.lend D.fd D.sgd D.lenu D.fu D.sgu D.lene D.fe D.sge D.lenp D.fp D.sgp D.lenq D.fq D.sgq D.leno D.fo D.sgo D.lenr D.fr D.sgr D.tw D.iv D.hw D.qw D.gg D.ln D.sn) sz)) 1 6 (va_A (dw x0 gv cl d0 h0d q0d h0u q0u h0e q0e h0p q0p h0q q0q h0o q0o h0r q0r cA cJ cW D.n D.sv D.a D.lend D.fd D.sgd D.lenu D.fu D.sgu D.lene D.fe D.sge D.lenp D.fp D.sgp D.lenq D.fq D.sgq D.leno D.fo D.sgo D.lenr D.fr D.sgr D.tw D.iv D.hw D.qw D.gg D.ln D.sn) sz) := by
  refine vx_ofW (cc := b_Desk_put) (maxL := 8) (ret := (some .long)) (by decide) rfl ?_
  intro p e s m args below meth c s₁ B hml hnx hv
  obtain ⟨⟨rfl, hsz, hP, hK, hD0⟩, hE⟩ := hv
  have hx := B.exec
  have hb := B.bytes
  have hr := B.returns
  have hts : ∀ w ∈ gw_tbl, w.before ([.ref x0, .int i, .int j, .long v] : List Value).toArray s = true := fun w h => atoms_spec (ws := w_Desk_put) B.pre w (List.mem_cons_of_mem _ h)
  have hown : s.vm.findClass R_Desk = some m.cls := findClass_of_methodNamed B.named
  have hlocks := B.notSynchronized
  subst hsz
  have hD := hD0.self (sz := s.heap.size)
  generalize hAe : va_A (dw x0 gv cl d0 h0d q0d h0u q0u h0e q0e h0p q0p h0q q0q h0o q0o h0r q0r cA cJ cW D.n D.sv D.a D.lend D.fd D.sgd D.lenu D.fu D.sgu D.lene D.fe D.sge D.lenp D.fp D.sgp D.lenq D.fq D.sgq D.leno D.fo D.sgo D.lenr D.fr D.sgr D.tw D.iv D.hw D.qw D.gg D.ln D.sn) s.heap.size = A at hD hE ⊢
  have hA : ∀ q : Nat, s.heap.size ≤ q → A q := fun q h => by rw [← hAe]; exact Or.inr h
  have hS : va_S A s.heap s.heap [] := va_S.rf
  have hl := lv_entry ([.ref x0, .int i, .int j, .long v]) (n := 8) (Nat.le_of_ble_eq_true rfl)
  rw [lg_entry_eq]
  generalize (lg_sl ([.ref x0, .int i, .int j, .long v]) ++ List.replicate (8 - (lg_sl ([.ref x0, .int i, .int j, .long v])).length) Slot.unset).toArray = ls at hl ⊢
  have hl : lv_has ls 8 [(0, .ref x0), (1, .int i), (2, .int j), (3, .long v)] := hl
  obtain ⟨g1, g2, g3, g4, g5, g6, g7, g8, g9, g10, g11⟩ := hG
  have z0 : (0 : Int32).toInt = 0 := rfl
  have hnt : (nI D.n).toInt = (D.n : Int) := nI_toInt (by omega)
  refine lv_iload_n hx hb d_Desk_put_0 rfl (lv_at hl 1 rfl) ?_
  refine lv_if_lt (tgt := 24) hx hb d_Desk_put_1 (by decide) (fun h1 => ?_) (fun h1 => ?_)
  · exact xt_throw hx hb hlt (X := xt_i) (ik := 60) (ic := 62) (SX := Unit) hown (by decide +kernel) hts xt_i1 xt_i2 xt_i3 hE hS (hl.1.trans hml.symm) d_Desk_put_24 d_Desk_put_27 d_Desk_put_28 d_Desk_put_31 hnx (Nat.le_of_ble_eq_true rfl) (Nat.le_of_ble_eq_true rfl) (Nat.le_of_ble_eq_true rfl) (Nat.le_of_ble_eq_true rfl) hlocks () trivial (fun t_ hq_ => ⟨⟨rfl, fun z => by rw [Int32.lt_iff_toInt_lt] at h1; omega⟩, xt_keepP hP hq_, hD⟩)
  refine lv_iload_n hx hb d_Desk_put_4 rfl (lv_at hl 1 rfl) ?_
  refine lv_aload_n hx hb d_Desk_put_5 rfl (lv_at hl 0 rfl) ?_
  refine va_get (D := (dC, dI)) (ci := 0) (v := .int (nI D.n)) (C := R_Desk) (T := F_Desk) (N := 10) hx hb hts i_Desk hown hK hP 0 rfl rfl 1 (by decide) (hts _ k_fl_Desk_13) (fun _ h9 => h9) rfl d_Desk_put_6 ?_
  refine lv_icmp_ge (tgt := 24) hx hb d_Desk_put_9 (by decide) (fun h2 => ?_) (fun h2 => ?_)
  · exact xt_throw hx hb hlt (X := xt_i) (ik := 60) (ic := 62) (SX := Unit) hown (by decide +kernel) hts xt_i1 xt_i2 xt_i3 hE hS (hl.1.trans hml.symm) d_Desk_put_24 d_Desk_put_27 d_Desk_put_28 d_Desk_put_31 hnx (Nat.le_of_ble_eq_true rfl) (Nat.le_of_ble_eq_true rfl) (Nat.le_of_ble_eq_true rfl) (Nat.le_of_ble_eq_true rfl) hlocks () trivial (fun t_ hq_ => ⟨⟨rfl, fun z => by rw [Int32.le_iff_toInt_le] at h2; omega⟩, xt_keepP hP hq_, hD⟩)
  refine lv_iload_n hx hb d_Desk_put_12 rfl (lv_at hl 2 rfl) ?_
  refine lv_if_lt (tgt := 24) hx hb d_Desk_put_13 (by decide) (fun h3 => ?_) (fun h3 => ?_)
  · exact xt_throw hx hb hlt (X := xt_i) (ik := 60) (ic := 62) (SX := Unit) hown (by decide +kernel) hts xt_i1 xt_i2 xt_i3 hE hS (hl.1.trans hml.symm) d_Desk_put_24 d_Desk_put_27 d_Desk_put_28 d_Desk_put_31 hnx (Nat.le_of_ble_eq_true rfl) (Nat.le_of_ble_eq_true rfl) (Nat.le_of_ble_eq_true rfl) (Nat.le_of_ble_eq_true rfl) hlocks () trivial (fun t_ hq_ => ⟨⟨rfl, fun z => by rw [Int32.lt_iff_toInt_lt] at h3; omega⟩, xt_keepP hP hq_, hD⟩)
  refine lv_iload_n hx hb d_Desk_put_16 rfl (lv_at hl 2 rfl) ?_
  refine lv_aload_n hx hb d_Desk_put_17 rfl (lv_at hl 0 rfl) ?_
  refine va_get (D := (dC, dI)) (ci := 0) (v := .int (nI D.n)) (C := R_Desk) (T := F_Desk) (N := 10) hx hb hts i_Desk hown hK hP 0 rfl rfl 1 (by decide) (hts _ k_fl_Desk_13) (fun _ h9 => h9) rfl d_Desk_put_18 ?_
  refine lv_icmp_le (tgt := 32) hx hb d_Desk_put_21 (by decide) (fun h4 => ?_) (fun h4 => ?_)
  rotate_left
  · exact xt_throw hx hb hlt (X := xt_i) (ik := 60) (ic := 62) (SX := Unit) hown (by decide +kernel) hts xt_i1 xt_i2 xt_i3 hE hS (hl.1.trans hml.symm) d_Desk_put_24 d_Desk_put_27 d_Desk_put_28 d_Desk_put_31 hnx (Nat.le_of_ble_eq_true rfl) (Nat.le_of_ble_eq_true rfl) (Nat.le_of_ble_eq_true rfl) (Nat.le_of_ble_eq_true rfl) hlocks () trivial (fun t_ hq_ => ⟨⟨rfl, fun z => by rw [Int32.le_iff_toInt_le] at h4; omega⟩, xt_keepP hP hq_, hD⟩)
  obtain ⟨ik, hik, ei⟩ := nI_of h1
  obtain ⟨jk, hjk, ej⟩ := nI_of h3
  subst ei
  subst ej
  have t1 := nI_toInt hik
  have t2 := nI_toInt hjk
  have hin : ik < D.n := by rw [Int32.le_iff_toInt_le] at h2; omega
  have hjn : jk ≤ D.n := by rw [Int32.le_iff_toInt_le] at h4; omega
  refine lv_iload_n hx hb d_Desk_put_32 rfl (lv_at hl 1 rfl) ?_
  refine lv_iload_n hx hb d_Desk_put_33 rfl (lv_at hl 2 rfl) ?_
  refine vp_callSi (W.runS (As := [.int (nI ik), .int (nI jk)]) (rest := []) ⟨hx, hb, hml, hown, hts⟩ (c_Desk_cellIndex l dC dI ik jk) (cwS 2 hts (gw_S k_ml_Desk_63 k_st_Desk_cellIndex k_ini_Desk k_code_Desk_cellIndex) rfl rfl rfl (by decide +kernel) ⟨Nat.le_of_ble_eq_true rfl, Nat.le_of_ble_eq_true rfl⟩) ⟨xc_R_blind, fun U hU hW => ⟨rfl, by rw [hU]; exact hP.sub (ws' := []) [] rfl, va_K.moved hW.alike (hK.sub (tys' := []) [] rfl)⟩⟩ rfl rfl hl.1 rfl (lv_room (Nat.le_of_ble_eq_true rfl)) d_Desk_put_34 ⟨Nat.zero_le _, Nat.zero_le _⟩) (fun r_ e_r => ?_)
  subst e_r
  refine lv_istore (lv' := [(5, .int (nI (ik * 13 + jk))), (0, .ref x0), (1, .int (nI ik)), (2, .int (nI jk)), (3, .long v)]) hx hb d_Desk_put_37 hl (by decide) rfl (fun ls hl => ?_)
  refine lv_aload_n hx hb d_Desk_put_39 rfl (lv_at hl 1 rfl) ?_
  refine va_get (D := (dC, dI)) (ci := 0) (v := .ref gv) (C := R_Desk) (T := F_Desk) (N := 10) hx hb hts i_Desk hown hK hP 0 rfl rfl 0 (by decide) (hts _ k_fl_Desk_9) (fun _ h9 => h9) rfl d_Desk_put_40 ?_
  refine lv_iload hx hb d_Desk_put_43 (lv_at hl 0 rfl) ?_
  refine xn_lald hx hb hK hP 1 1 rfl rfl (i := ik * 13 + jk) (by omega) (by omega) d_Desk_put_45 ?_
  refine lv_lstore (lv' := [(6, .long (D.a (ik * 13 + jk))), (5, .int (nI (ik * 13 + jk))), (0, .ref x0), (1, .int (nI ik)), (2, .int (nI jk)), (3, .long v)]) hx hb d_Desk_put_46 hl (by decide) rfl (fun ls hl => ?_)
  refine lv_aload_n hx hb d_Desk_put_48 rfl (lv_at hl 2 rfl) ?_
  refine va_get (D := (dC, dI)) (ci := 0) (v := .ref gv) (C := R_Desk) (T := F_Desk) (N := 10) hx hb hts i_Desk hown hK hP 0 rfl rfl 0 (by decide) (hts _ k_fl_Desk_9) (fun _ h9 => h9) rfl d_Desk_put_49 ?_
  refine lv_iload hx hb d_Desk_put_52 (lv_at hl 1 rfl) ?_
  refine lv_lload_n hx hb d_Desk_put_54 rfl (lv_at hl 5 rfl) ?_
  refine xn_last hx hb hK hP hD hS 1 1 rfl rfl (i := ik * 13 + jk) (x := v) (by omega) (by omega) d_Desk_put_55 (fun H locs hP hD hS => ?_)
  have hP : va_P (dC, dI) classes (dw x0 gv cl d0 h0d q0d h0u q0u h0e q0e h0p q0p h0q q0q h0o q0o h0r q0r cA cJ cW D.n D.sv (va_up D.a (ik * 13 + jk) v) D.lend D.fd D.sgd D.lenu D.fu D.sgu D.lene D.fe D.sge D.lenp D.fp D.sgp D.lenq D.fq D.sgq D.leno D.fo D.sgo D.lenr D.fr D.sgr D.tw D.iv D.hw D.qw D.gg D.ln D.sn) H := hP
  have hD : va_D A (dw x0 gv cl d0 h0d q0d h0u q0u h0e q0e h0p q0p h0q q0q h0o q0o h0r q0r cA cJ cW D.n D.sv (va_up D.a (ik * 13 + jk) v) D.lend D.fd D.sgd D.lenu D.fu D.sgu D.lene D.fe D.sge D.lenp D.fp D.sgp D.lenq D.fq D.sgq D.leno D.fo D.sgo D.lenr D.fr D.sgr D.tw D.iv D.hw D.qw D.gg D.ln D.sn) := hD
  refine lv_aload_n hx hb d_Desk_put_56 rfl (lv_at hl 2 rfl) ?_
  refine lv_iconst (v := nI 0) hx hb d_Desk_put_57 rfl ?_
  refine va_put (D := (dC, dI)) (ci := 0) (v := .int (nI 0)) (ty := .boolean) (C := R_Desk) (T := F_Desk) (N := 10) hx hb hts i_Desk t_Desk t_Desk_ok n_Desk hown hK hP hD hS 0 rfl rfl 2 (by decide) (hts _ k_fl_Desk_17) (fun _ h9 => h9) rfl (by decide +kernel) rfl rfl (Nat.le_of_ble_eq_true rfl) d_Desk_put_58 (fun H locs hP hD hS => ?_)
  have hP : va_P (dC, dI) classes (dw x0 gv cl d0 h0d q0d h0u q0u h0e q0e h0p q0p h0q q0q h0o q0o h0r q0r cA cJ cW D.n (nI 0) (va_up D.a (ik * 13 + jk) v) D.lend D.fd D.sgd D.lenu D.fu D.sgu D.lene D.fe D.sge D.lenp D.fp D.sgp D.lenq D.fq D.sgq D.leno D.fo D.sgo D.lenr D.fr D.sgr D.tw D.iv D.hw D.qw D.gg D.ln D.sn) H := hP
  have hD : va_D A (dw x0 gv cl d0 h0d q0d h0u q0u h0e q0e h0p q0p h0q q0q h0o q0o h0r q0r cA cJ cW D.n (nI 0) (va_up D.a (ik * 13 + jk) v) D.lend D.fd D.sgd D.lenu D.fu D.sgu D.lene D.fe D.sge D.lenp D.fp D.sgp D.lenq D.fq D.sgq D.leno D.fo D.sgo D.lenr D.fr D.sgr D.tw D.iv D.hw D.qw D.gg D.ln D.sn) := hD
  refine lv_lload hx hb d_Desk_put_61 (lv_at hl 0 rfl) ?_
  have hpost : dG (⟨D.n, nI 0, va_up D.a (ik * 13 + jk) v, D.lend, D.fd, D.sgd, D.lenu, D.fu, D.sgu, D.lene, D.fe, D.sge, D.lenp, D.fp, D.sgp, D.lenq, D.fq, D.sgq, D.leno, D.fo, D.sgo, D.lenr, D.fr, D.sgr, D.tw, D.iv, D.hw, D.qw, D.gg, D.ln, D.sn⟩ : dS) ∧ (∃ i2 j2 : Nat, nI ik = nI i2 ∧ nI jk = nI j2 ∧ i2 < D.n ∧ j2 ≤ D.n ∧ D.a (ik * 13 + jk) = D.a (i2 * 13 + j2) ∧ va_up D.a (ik * 13 + jk) v = va_up D.a (i2 * 13 + j2) v) ∧ D.n = D.n ∧ (nI 0 : Int32) = 0 ∧ dN D = dN D ∧ dE D = dE D := ⟨⟨g1, Or.inl rfl, g3, g4, g5, g6, g7, g8, g9, g10, fun z => absurd (show (nI 0 : Int32) = 1 from z) (by decide)⟩, ⟨ik, jk, rfl, rfl, hin, hjn, rfl, rfl⟩, rfl, rfl, rfl, rfl⟩
  refine vx_ret (W.widen (k := 1) (n := 6) (Nat.zero_le _) (Nat.zero_le _) ?_)
  exact W.lret (v := D.a (ik * 13 + jk)) hx hb hr (fun T_ ht_ hW_ => ⟨⟨_, (⟨D.n, nI 0, va_up D.a (ik * 13 + jk) v, D.lend, D.fd, D.sgd, D.lenu, D.fu, D.sgu, D.lene, D.fe, D.sge, D.lenp, D.fp, D.sgp, D.lenq, D.fq, D.sgq, D.leno, D.fo, D.sgo, D.lenr, D.fr, D.sgr, D.tw, D.iv, D.hw, D.qw, D.gg, D.ln, D.sn⟩ : dS), rfl, hpost, by show va_P (dC, dI) classes _ T_.heap; rw [ht_]; exact hP, hD⟩, hS.F ht_⟩) hS.2.2 d_Desk_put_63
set_option maxHeartbeats 8000000 in
set_option maxRecDepth 100000 in
/-- solve -/
theorem c_Desk_solve (l : Launch) (dC : Nat → ClassId) (dI : Nat → Nat → Nat) (sz : Nat) (x0 gv cl d0 h0d q0d h0u q0u h0e q0e h0p q0p h0q q0q h0o q0o h0r q0r : Nat) (cA cJ cW : ClassId) (D : dS)  (hG : dG D) : Met l y_Desk_solve w_Desk_solve ({ frames := 5, cells := 0, slots := 0, locals := 132 }) (xc_W [.ref x0] dC dI (dw x0 gv cl d0 h0d q0d h0u q0u h0e q0e h0p q0p h0q q0q h0o q0o h0r q0r cA cJ cW D.n D.sv D.a D.lend D.fd D.sgd D.lenu D.fu D.sgu D.lene D.fe D.sge D.lenp D.fp D.sgp D.lenq D.fq D.sgq D.leno D.fo D.sgo D.lenr D.fr D.sgr D.tw D.iv D.hw D.qw D.gg D.ln D.sn) [(cA, .int), (cJ, .long), (cW, .object "EquationDesk$Whole")] sz) (va_Qi (S := dS) (fun r u => dG u ∧ r = u.sv ∧ u.n = D.n ∧ u.a = D.a ∧ (u.sv = 1 ↔ dt_d (dA D.a) D.n ≠ 0) ∧ dN u = dN D ∧ dE u = dE D) (fun u t => va_P (dC, dI) classes (dw x0 gv cl d0 h0d q0d h0u q0u h0e q0e h0p q0p h0q q0q h0o q0o h0r q0r cA cJ cW u.n u.sv u.a u.lend u.fd u.sgd u.lenu u.fu u.sgu u.lene u.fe u.sge u.lenp u.fp u.sgp u.lenq u.fq u.sgq u.leno u.fo u.sgo u.lenr u.fr u.sgr u.tw u.iv u.hw u.qw u.gg u.ln u.sn) t.heap ∧ va_D (va_A (dw x0 gv cl d0 h0d q0d h0u q0u h0e q0e h0p q0p h0q q0q h0o q0o h0r q0r cA cJ cW D.n D.sv D.a D.lend D.fd D.sgd D.lenu D.fu D.sgu D.lene D.fe D.sge D.lenp D.fp D.sgp D.lenq D.fq D.sgq D.leno D.fo D.sgo D.lenr D.fr D.sgr D.tw D.iv D.hw D.qw D.gg D.ln D.sn) sz) (dw x0 gv cl d0 h0d q0d h0u q0u h0e q0e h0p q0p h0q q0q h0o q0o h0r q0r cA cJ cW u.n u.sv u.a u.lend u.fd u.sgd u.lenu u.fu u.sgu u.lene u.fe u.sge u.lenp u.fp u.sgp u.lenq u.fq u.sgq u.leno u.fo u.sgo u.lenr u.fr u.sgr u.tw u.iv u.hw u.qw u.gg u.ln u.sn)) (va_A (dw x0 gv cl d0 h0d q0d h0u q0u h0e q0e h0p q0p h0q q0q h0o q0o h0r q0r cA cJ cW D.n D.sv D.a D.lend D.fd D.sgd D.lenu D.fu D.sgu D.lene D.fe D.sge D.lenp D.fp D.sgp D.lenq D.fq D.sgq D.leno D.fo D.sgo D.lenr D.fr D.sgr D.tw D.iv D.hw D.qw D.gg D.ln D.sn) sz)) 0 0 (va_A (dw x0 gv cl d0 h0d q0d h0u q0u h0e q0e h0p q0p h0q q0q h0o q0o h0r q0r cA cJ cW D.n D.sv D.a D.lend D.fd D.sgd D.lenu D.fu D.sgu D.lene D.fe D.sge D.lenp D.fp D.sgp D.lenq D.fq D.sgq D.leno D.fo D.sgo D.lenr D.fr D.sgr D.tw D.iv D.hw D.qw D.gg D.ln D.sn) sz) := by
  refine Met.ofW (cc := b_Desk_solve) (maxL := 1) (ret := (some .boolean)) (by decide) rfl ?_
  intro p e s m args below meth c s₁ B hml hv
  obtain ⟨rfl, hsz, hP, hK, hD0⟩ := hv
  have hx := B.exec
  have hb := B.bytes
  have hr := B.returns
  have hts : ∀ w ∈ gw_tbl, w.before ([.ref x0] : List Value).toArray s = true := fun w h => atoms_spec (ws := w_Desk_solve) B.pre w (List.mem_cons_of_mem _ h)
  have hown : s.vm.findClass R_Desk = some m.cls := findClass_of_methodNamed B.named
  have hlocks := B.notSynchronized
  subst hsz
  have hD := hD0.self (sz := s.heap.size)
  generalize hAe : va_A (dw x0 gv cl d0 h0d q0d h0u q0u h0e q0e h0p q0p h0q q0q h0o q0o h0r q0r cA cJ cW D.n D.sv D.a D.lend D.fd D.sgd D.lenu D.fu D.sgu D.lene D.fe D.sge D.lenp D.fp D.sgp D.lenq D.fq D.sgq D.leno D.fo D.sgo D.lenr D.fr D.sgr D.tw D.iv D.hw D.qw D.gg D.ln D.sn) s.heap.size = A at hD ⊢
  have hA : ∀ q : Nat, s.heap.size ≤ q → A q := fun q h => by rw [← hAe]; exact Or.inr h
  have hS : va_S A s.heap s.heap [] := va_S.rf
  have hl := lv_entry ([.ref x0]) (n := 1) (Nat.le_of_ble_eq_true rfl)
  rw [lg_entry_eq]
  generalize (lg_sl ([.ref x0]) ++ List.replicate (1 - (lg_sl ([.ref x0])).length) Slot.unset).toArray = ls at hl ⊢
  have hl : lv_has ls 1 [(0, .ref x0)] := hl
  have hG0 := hG
  obtain ⟨g1, g2, g3, g4, g5, g6, g7, g8, g9, g10, g11⟩ := hG
  refine lv_aload_n hx hb d_Desk_solve_0 rfl (lv_at hl 0 rfl) ?_
  refine va_get (D := (dC, dI)) (ci := 0) (v := .int D.sv) (C := R_Desk) (T := F_Desk) (N := 10) hx hb hts i_Desk hown hK hP 0 rfl rfl 2 (by decide) (hts _ k_fl_Desk_17) (fun _ h9 => h9) rfl d_Desk_solve_1 ?_
  refine lv_if_ne (tgt := 19) hx hb d_Desk_solve_4 (by decide) (fun hs => ?_) (fun hs => ?_)
  · have hs1 : D.sv = 1 := by
      rcases g2 with e | e
      · exact absurd e hs
      · exact e
    refine lv_aload_n hx hb d_Desk_solve_19 rfl (lv_at hl 0 rfl) ?_
    refine va_get (D := (dC, dI)) (ci := 0) (v := .int D.sv) (C := R_Desk) (T := F_Desk) (N := 10) hx hb hts i_Desk hown hK hP 0 rfl rfl 2 (by decide) (hts _ k_fl_Desk_17) (fun _ h9 => h9) rfl d_Desk_solve_20 ?_
    have hpost : dG D ∧ D.sv = D.sv ∧ D.n = D.n ∧ D.a = D.a ∧ (D.sv = 1 ↔ dt_d (dA D.a) D.n ≠ 0) ∧ dN D = dN D ∧ dE D = dE D := ⟨hG0, rfl, rfl, rfl, ⟨fun _ => (g11 hs1).1, fun _ => hs1⟩, rfl, rfl⟩
    have hnr : narrow .boolean (.int D.sv) = .int D.sv := by rw [hs1]; rfl
    exact W.zret (v := D.sv) hx hb hr hnr (fun T_ ht_ hW_ => ⟨⟨_, D, rfl, hpost, by show va_P (dC, dI) classes _ T_.heap; rw [ht_]; exact hP, hD⟩, hS.F ht_⟩) hS.2.2 d_Desk_solve_23
  refine lv_aload_n hx hb d_Desk_solve_7 rfl (lv_at hl 0 rfl) ?_
  have hPc := hP
  have hDc := hD.weaken (B := fun _ => True) (fun _ _ _ _ => trivial)
  have hFc := xp_all hD hS hA
  refine va_callv (va_runV (As := []) (rest := []) ⟨hx, hb, hml, hown, hts⟩ (c_Desk_loadCells l dC dI s.heap.size x0 gv cl d0 h0d q0d h0u q0u h0e q0e h0p q0p h0q q0q h0o q0o h0r q0r cA cJ cW D.n D.sv D.a D.lend D.fd D.sgd D.lenu D.fu D.sgu D.lene D.fe D.sge D.lenp D.fp D.sgp D.lenq D.fq D.sgq D.leno D.fo D.sgo D.lenr D.fr D.sgr D.tw D.iv D.hw D.qw D.gg D.ln D.sn g1 g3) (cwV 0 hts (gw_V k_ml_Desk_67 k_im_Desk_loadCells k_sel_Desk_loadCells k_ini_Desk k_code_Desk_loadCells) rfl rfl rfl (by decide +kernel) ⟨Nat.le_of_ble_eq_true rfl, Nat.le_of_ble_eq_true rfl⟩) ⟨xc_W_blind, va_recv hK hP (ci := 0) (q0 := 0) rfl rfl, fun U hU hW => ⟨rfl, by rw [hU], by rw [hU]; exact hPc, va_K.moved hW.alike (hK.sub (tys' := [(cA, .int), (cJ, .long), (cW, .object "EquationDesk$Whole")]) [0, 1, 2] rfl), hDc⟩⟩ rfl rfl hl.1 rfl (lv_room (Nat.le_of_ble_eq_true rfl)) d_Desk_solve_8 ⟨Nat.zero_le _, Nat.zero_le _⟩) hS (fun q _ h => hFc q h) hFc (fun u t_ H locs ht_ hvm_ w1 hB hz1 hk1 hS => ?_)
  obtain ⟨g1_, l1_, s1_⟩ := u
  try dsimp only at w1
  obtain ⟨hP, hD1⟩ := hB
  rw [ht_] at hP
  have hP : va_P (dC, dI) classes (dw x0 gv cl d0 h0d q0d h0u q0u h0e q0e h0p q0p h0q q0q h0o q0o h0r q0r cA cJ cW D.n D.sv D.a D.lend D.fd D.sgd D.lenu D.fu D.sgu D.lene D.fe D.sge D.lenp D.fp D.sgp D.lenq D.fq D.sgq D.leno D.fo D.sgo D.lenr D.fr D.sgr D.tw D.iv D.hw D.qw g1_ l1_ s1_) H := hP
  have hD : va_D A (dw x0 gv cl d0 h0d q0d h0u q0u h0e q0e h0p q0p h0q q0q h0o q0o h0r q0r cA cJ cW D.n D.sv D.a D.lend D.fd D.sgd D.lenu D.fu D.sgu D.lene D.fe D.sge D.lenp D.fp D.sgp D.lenq D.fq D.sgq D.leno D.fo D.sgo D.lenr D.fr D.sgr D.tw D.iv D.hw D.qw g1_ l1_ s1_) := hD1.weaken (fun k q _ h => hFc q.1 h)
  refine lv_aload_n hx hb d_Desk_solve_11 rfl (lv_at hl 0 rfl) ?_
  refine lv_aload_n hx hb d_Desk_solve_12 rfl (lv_at hl 0 rfl) ?_
  have hPc := hP
  have hDc := hD.weaken (B := fun _ => True) (fun _ _ _ _ => trivial)
  have hFc := xp_all hD hS hA
  refine va_calli (va_runV (As := []) (rest := [.ref x0]) ⟨hx, hb, hml, hown, hts⟩ (c_Desk_eliminateAll l dC dI H.size x0 gv cl d0 h0d q0d h0u q0u h0e q0e h0p q0p h0q q0q h0o q0o h0r q0r cA cJ cW D.n D.sv D.a D.lend D.fd D.sgd D.lenu D.fu D.sgu D.lene D.fe D.sge D.lenp D.fp D.sgp D.lenq D.fq D.sgq D.leno D.fo D.sgo D.lenr D.fr D.sgr D.tw D.iv D.hw D.qw g1_ l1_ s1_ (dA D.a) g1 w1.1 g4.2.1 g7 g8 g9 (fun i j h1 h2 => w1.2 i j h1 h2) (fun i j _ _ => dA_bd D.a i j)) (cwV 0 hts (gw_V k_ml_Desk_70 k_im_Desk_eliminateAll k_sel_Desk_eliminateAll k_ini_Desk k_code_Desk_eliminateAll) rfl rfl rfl (by decide +kernel) ⟨Nat.le_of_ble_eq_true rfl, Nat.le_of_ble_eq_true rfl⟩) ⟨xc_W_blind, va_recv hK hP (ci := 0) (q0 := 0) rfl rfl, fun U hU hW => ⟨rfl, by rw [hU], by rw [hU]; exact hPc, va_K.moved hW.alike (hK.sub (tys' := [(cA, .int), (cJ, .long), (cW, .object "EquationDesk$Whole")]) [0, 1, 2] rfl), hDc⟩⟩ rfl rfl hl.1 rfl (lv_room (Nat.le_of_ble_eq_true rfl)) d_Desk_solve_13 ⟨Nat.zero_le _, Nat.zero_le _⟩) hS (fun q _ h => hFc q h) hFc (fun rr u t_ H locs ht_ hvm_ w2 hB hz1 hk1 hS => ?_)
  obtain ⟨V, e_V⟩ : ∃ z, z = u := ⟨u, rfl⟩
  rw [← e_V] at w2 hB
  obtain ⟨hP, hD1⟩ := hB
  rw [ht_] at hP
  have hP : va_P (dC, dI) classes (dw x0 gv cl d0 h0d q0d h0u q0u h0e q0e h0p q0p h0q q0q h0o q0o h0r q0r cA cJ cW D.n D.sv D.a V.lend V.fd V.sgd D.lenu D.fu D.sgu D.lene D.fe D.sge V.lenp V.fp V.sgp V.lenq V.fq V.sgq V.leno V.fo V.sgo D.lenr D.fr D.sgr V.tw V.iv V.hw V.qw V.gg V.ln V.sn) H := hP
  have hD : va_D A (dw x0 gv cl d0 h0d q0d h0u q0u h0e q0e h0p q0p h0q q0q h0o q0o h0r q0r cA cJ cW D.n D.sv D.a V.lend V.fd V.sgd D.lenu D.fu D.sgu D.lene D.fe D.sge V.lenp V.fp V.sgp V.lenq V.fq V.sgq V.leno V.fo V.sgo D.lenr D.fr D.sgr V.tw V.iv V.hw V.qw V.gg V.ln V.sn) := hD1.weaken (fun k q _ h => hFc q.1 h)
  obtain ⟨v1, v2, v3, v4, v5, v6⟩ := w2
  have hrr : rr = 0 ∨ rr = 1 := v6.elim (fun z => Or.inr z.1) (fun z => Or.inl z.1)
  have hnr : narrow .boolean (.int rr) = .int rr := by rcases hrr with z | z <;> rw [z] <;> rfl
  have hft : fits .boolean (.int rr) = true := by rcases hrr with z | z <;> rw [z] <;> rfl
  refine va_put (D := (dC, dI)) (ci := 0) (v := .int rr) (ty := .boolean) (C := R_Desk) (T := F_Desk) (N := 10) hx hb hts i_Desk t_Desk t_Desk_ok n_Desk hown hK hP hD hS 0 rfl rfl 2 (by decide) (hts _ k_fl_Desk_17) (fun _ h9 => h9) rfl (by decide +kernel) hnr hft (Nat.le_of_ble_eq_true rfl) d_Desk_solve_16 (fun H locs hP hD hS => ?_)
  have hP : va_P (dC, dI) classes (dw x0 gv cl d0 h0d q0d h0u q0u h0e q0e h0p q0p h0q q0q h0o q0o h0r q0r cA cJ cW D.n rr D.a V.lend V.fd V.sgd D.lenu D.fu D.sgu D.lene D.fe D.sge V.lenp V.fp V.sgp V.lenq V.fq V.sgq V.leno V.fo V.sgo D.lenr D.fr D.sgr V.tw V.iv V.hw V.qw V.gg V.ln V.sn) H := hP
  have hD : va_D A (dw x0 gv cl d0 h0d q0d h0u q0u h0e q0e h0p q0p h0q q0q h0o q0o h0r q0r cA cJ cW D.n rr D.a V.lend V.fd V.sgd D.lenu D.fu D.sgu D.lene D.fe D.sge V.lenp V.fp V.sgp V.lenq V.fq V.sgq V.leno V.fo V.sgo D.lenr D.fr D.sgr V.tw V.iv V.hw V.qw V.gg V.ln V.sn) := hD
  refine lv_aload_n hx hb d_Desk_solve_19 rfl (lv_at hl 0 rfl) ?_
  refine va_get (D := (dC, dI)) (ci := 0) (v := .int rr) (C := R_Desk) (T := F_Desk) (N := 10) hx hb hts i_Desk hown hK hP 0 rfl rfl 2 (by decide) (hts _ k_fl_Desk_17) (fun _ h9 => h9) rfl d_Desk_solve_20 ?_
  have hpost : dG (⟨D.n, rr, D.a, V.lend, V.fd, V.sgd, D.lenu, D.fu, D.sgu, D.lene, D.fe, D.sge, V.lenp, V.fp, V.sgp, V.lenq, V.fq, V.sgq, V.leno, V.fo, V.sgo, D.lenr, D.fr, D.sgr, V.tw, V.iv, V.hw, V.qw, V.gg, V.ln, V.sn⟩ : dS) ∧ rr = rr ∧ D.n = D.n ∧ D.a = D.a ∧ (rr = 1 ↔ dt_d (dA D.a) D.n ≠ 0) ∧ dN D = dN D ∧ dE D = dE D := ⟨⟨g1, hrr, v1, v2, g5, g6, v3, v4, v5, g10, fun z => by
      have z : rr = 1 := z
      rcases v6 with q | q
      · exact q.2
      · rw [q.1] at z; exact absurd z (by decide)⟩, rfl, rfl, rfl, ⟨fun z => by
      rcases v6 with q | q
      · exact q.2.1
      · rw [q.1] at z; exact absurd z (by decide), fun z => by
      rcases v6 with q | q
      · exact q.1
      · exact absurd q.2 z⟩, rfl, rfl⟩
  exact W.zret (v := rr) hx hb hr hnr (fun T_ ht_ hW_ => ⟨⟨_, (⟨D.n, rr, D.a, V.lend, V.fd, V.sgd, D.lenu, D.fu, D.sgu, D.lene, D.fe, D.sge, V.lenp, V.fp, V.sgp, V.lenq, V.fq, V.sgq, V.leno, V.fo, V.sgo, D.lenr, D.fr, D.sgr, V.tw, V.iv, V.hw, V.qw, V.gg, V.ln, V.sn⟩ : dS), rfl, hpost, by show va_P (dC, dI) classes _ T_.heap; rw [ht_]; exact hP, hD⟩, hS.F ht_⟩) hS.2.2 d_Desk_solve_23
