set_option maxHeartbeats 8000000 in
set_option maxRecDepth 100000 in
/-- the law's Law_size -/
theorem c_Law_size (l : Launch) (hlt : l.stackTraces = false) (dC : Nat → ClassId) (dI : Nat → Nat → Nat) (sz : Nat) (x0 gv cl d0 h0d q0d h0u q0u h0e q0e h0p q0p h0q q0q h0o q0o h0r q0r : Nat) (cA cJ cW : ClassId) (ou : Nat) (D : dS) (o1 : Nat → Int64)  (k : Int32) (hG : dG D) : vx_Met l y_Law_size w_Law_size ({ frames := 7, cells := 1, slots := 6, locals := 103 }) (xc_X [.ref x0, .int k] dC dI ([(ou, .inl (cJ, 1, .inr (.inl o1)))] ++ dw x0 gv cl d0 h0d q0d h0u q0u h0e q0e h0p q0p h0q q0q h0o q0o h0r q0r cA cJ cW D.n D.sv D.a D.lend D.fd D.sgd D.lenu D.fu D.sgu D.lene D.fe D.sge D.lenp D.fp D.sgp D.lenq D.fq D.sgq D.leno D.fo D.sgo D.lenr D.fr D.sgr D.tw D.iv D.hw D.qw D.gg D.ln D.sn) [(cA, .int), (cJ, .long), (cW, .object "EquationDesk$Whole")] sz) (va_Qi (S := dS × (Nat → Int64)) (fun rr u => (rr = 0 ∧ (fun u => dG u ∧ (u.n : Int) = k.toInt ∧ 0 ≤ k.toInt ∧ k.toInt ≤ 12 ∧ u.sv = 0 ∧ u.a = (fun _ => 0) ∧ dN u = dN D ∧ dE u = dE D) u.1) ∨ (rr = 1 ∧ (¬ (0 ≤ k.toInt ∧ k.toInt ≤ 12)) ∧ u.1 = D)) (fun u t => va_P (dC, dI) classes ([(ou, .inl (cJ, 1, .inr (.inl u.2)))] ++ dw x0 gv cl d0 h0d q0d h0u q0u h0e q0e h0p q0p h0q q0q h0o q0o h0r q0r cA cJ cW u.1.n u.1.sv u.1.a u.1.lend u.1.fd u.1.sgd u.1.lenu u.1.fu u.1.sgu u.1.lene u.1.fe u.1.sge u.1.lenp u.1.fp u.1.sgp u.1.lenq u.1.fq u.1.sgq u.1.leno u.1.fo u.1.sgo u.1.lenr u.1.fr u.1.sgr u.1.tw u.1.iv u.1.hw u.1.qw u.1.gg u.1.ln u.1.sn) t.heap ∧ va_D (va_A ([(ou, .inl (cJ, 1, .inr (.inl o1)))] ++ dw x0 gv cl d0 h0d q0d h0u q0u h0e q0e h0p q0p h0q q0q h0o q0o h0r q0r cA cJ cW D.n D.sv D.a D.lend D.fd D.sgd D.lenu D.fu D.sgu D.lene D.fe D.sge D.lenp D.fp D.sgp D.lenq D.fq D.sgq D.leno D.fo D.sgo D.lenr D.fr D.sgr D.tw D.iv D.hw D.qw D.gg D.ln D.sn) sz) ([(ou, .inl (cJ, 1, .inr (.inl u.2)))] ++ dw x0 gv cl d0 h0d q0d h0u q0u h0e q0e h0p q0p h0q q0q h0o q0o h0r q0r cA cJ cW u.1.n u.1.sv u.1.a u.1.lend u.1.fd u.1.sgd u.1.lenu u.1.fu u.1.sgu u.1.lene u.1.fe u.1.sge u.1.lenp u.1.fp u.1.sgp u.1.lenq u.1.fq u.1.sgq u.1.leno u.1.fo u.1.sgo u.1.lenr u.1.fr u.1.sgr u.1.tw u.1.iv u.1.hw u.1.qw u.1.gg u.1.ln u.1.sn)) (va_A ([(ou, .inl (cJ, 1, .inr (.inl o1)))] ++ dw x0 gv cl d0 h0d q0d h0u q0u h0e q0e h0p q0p h0q q0q h0o q0o h0r q0r cA cJ cW D.n D.sv D.a D.lend D.fd D.sgd D.lenu D.fu D.sgu D.lene D.fe D.sge D.lenp D.fp D.sgp D.lenq D.fq D.sgq D.leno D.fo D.sgo D.lenr D.fr D.sgr D.tw D.iv D.hw D.qw D.gg D.ln D.sn) sz)) (vx_X (S := Unit) (fun _ => False) (fun _ _ _ => True) (va_A ([(ou, .inl (cJ, 1, .inr (.inl o1)))] ++ dw x0 gv cl d0 h0d q0d h0u q0u h0e q0e h0p q0p h0q q0q h0o q0o h0r q0r cA cJ cW D.n D.sv D.a D.lend D.fd D.sgd D.lenu D.fu D.sgu D.lene D.fe D.sge D.lenp D.fp D.sgp D.lenq D.fq D.sgq D.leno D.fo D.sgo D.lenr D.fr D.sgr D.tw D.iv D.hw D.qw D.gg D.ln D.sn) sz)) 1 6 (va_A ([(ou, .inl (cJ, 1, .inr (.inl o1)))] ++ dw x0 gv cl d0 h0d q0d h0u q0u h0e q0e h0p q0p h0q q0q h0o q0o h0r q0r cA cJ cW D.n D.sv D.a D.lend D.fd D.sgd D.lenu D.fu D.sgu D.lene D.fe D.sge D.lenp D.fp D.sgp D.lenq D.fq D.sgq D.leno D.fo D.sgo D.lenr D.fr D.sgr D.tw D.iv D.hw D.qw D.gg D.ln D.sn) sz) := by
  refine vx_ofWH (cc := b_Law_size) (maxL := 3) (ret := (some .int)) (hh := hh_Law_size) (by decide) rfl ?_
  intro p e s m args below meth c s₁ B hml hv
  obtain ⟨⟨rfl, hsz, hP, hK, hD0⟩, hE⟩ := hv
  have hx := B.exec
  have hb := B.bytes
  have hr := B.returns
  have hts : ∀ w ∈ gw_tbl, w.before ([.ref x0, .int k] : List Value).toArray s = true := fun w h => atoms_spec (ws := w_Law_size) B.pre w (List.mem_cons_of_mem _ h)
  have htab : c.exceptionTable.toList = tableOf hh_Law_size := vx_table (x := y_Law_size) B (atoms_spec (ws := w_Law_size) B.pre _ List.mem_cons_self)
  have hown : s.vm.findClass R_Law = some m.cls := findClass_of_methodNamed B.named
  have hlocks := B.notSynchronized
  subst hsz
  have hD := hD0.self (sz := s.heap.size)
  generalize hAe : va_A ([(ou, .inl (cJ, 1, .inr (.inl o1)))] ++ dw x0 gv cl d0 h0d q0d h0u q0u h0e q0e h0p q0p h0q q0q h0o q0o h0r q0r cA cJ cW D.n D.sv D.a D.lend D.fd D.sgd D.lenu D.fu D.sgu D.lene D.fe D.sge D.lenp D.fp D.sgp D.lenq D.fq D.sgq D.leno D.fo D.sgo D.lenr D.fr D.sgr D.tw D.iv D.hw D.qw D.gg D.ln D.sn) s.heap.size = A at hD hE ⊢
  have hA : ∀ q : Nat, s.heap.size ≤ q → A q := fun q h => by rw [← hAe]; exact Or.inr h
  have hS : va_S A s.heap s.heap [] := va_S.rf
  have hl := lv_entry ([.ref x0, .int k]) (n := 3) (Nat.le_of_ble_eq_true rfl)
  rw [lg_entry_eq]
  generalize (lg_sl ([.ref x0, .int k]) ++ List.replicate (3 - (lg_sl ([.ref x0, .int k])).length) Slot.unset).toArray = ls at hl ⊢
  have hl : lv_has ls 3 [(0, .ref x0), (1, .int k)] := hl
  refine lv_aload_n hx hb d_Law_size_0 rfl (lv_at hl 0 rfl) ?_
  refine lv_iload_n hx hb d_Law_size_1 rfl (lv_at hl 1 rfl) ?_
  have hPc := xz_P hP
  have hDc := (xz_D hD).weaken (B := fun _ => True) (fun _ _ _ _ => trivial)
  have hFc := xz_F hD hS hA
  refine vx_callv (vx_runV (As := [.int k]) (rest := []) ⟨hx, hb, hml, hown, hts⟩ (c_Desk_size l hlt dC dI s.heap.size x0 gv cl d0 h0d q0d h0u q0u h0e q0e h0p q0p h0q q0q h0o q0o h0r q0r cA cJ cW D k hG) (cwV 1 hts (gw_V k_ml_Law_7 k_im_Desk_size k_sel_Desk_size k_ini_Desk k_code_Desk_size) rfl rfl rfl (by decide +kernel) ⟨(Nat.le_of_ble_eq_true rfl), (Nat.le_of_ble_eq_true rfl)⟩) ⟨xc_X_blind, va_recv hK hPc (ci := 0) (q0 := 0) rfl rfl, fun U hU hW => ⟨⟨rfl, by rw [hU], by rw [hU]; exact hPc, va_K.moved hW.alike hK, hDc⟩, by rw [hU]; exact (hE.narrow hFc).moved hW.alike⟩⟩ rfl rfl hl.1 rfl (lv_room (Nat.le_of_ble_eq_true rfl)) d_Law_size_2 ⟨(Nat.le_of_ble_eq_true rfl), (Nat.le_of_ble_eq_true rfl)⟩) hS (fun q _ h => hFc q h) hFc (fun q _ h => hFc q h) (fun E ce q9 u t_ H locs ht_ hvm_ hpx hBX hz1 hk1 hS hce hcv hcl => ?_) (fun u t_ H locs ht_ hvm_ hw hB hz1 hk1 hS => ?_)
  · obtain ⟨hc, hP1, hD1⟩ := hBX
    rw [ht_] at hP1
    obtain ⟨hP, hD⟩ := xz_1 hP hD hk1 hFc hP1 hD1
    obtain ⟨hcE, hc⟩ := hc
    subst hcE
    refine vx_catch (pc := 2) hown [] (⟨0, 5, 8, 13⟩ : ExceptionTableEntry) [] htab (fun z hz => by cases hz) (by decide) (by decide) (hts _ k_cl_Law_13) (va_Nw.use rfl (hE.2.2.1 _ (List.mem_of_getElem? (i := 0) rfl))) hce hcv hcl ?_
    refine W.eq (g2 := F0 m 8 ls [.ref q9]) rfl ?_
    refine lv_astore_n (lv' := [(2, .ref q9), (0, .ref x0), (1, .int k)]) hx hb d_Law_size_8 rfl hl (by decide) rfl (fun ls hl => ?_)
    refine lv_iconst (v := nI 1) hx hb d_Law_size_9 rfl ?_
    refine vx_ret (W.widen (k := 1) (n := 6) (by omega) (by omega) ?_)
    exact W.iret (v := nI 1) hx hb hr (fun T_ ht_ hW_ => ⟨⟨_, (D, o1), rfl, Or.inr ⟨rfl, hc, rfl⟩, by show va_P (dC, dI) classes _ T_.heap; rw [ht_]; exact hP, hD⟩, hS.F ht_⟩) hS.2.2 d_Law_size_10
  · obtain ⟨hP1, hD1⟩ := hB
    rw [ht_] at hP1
    obtain ⟨hP, hD⟩ := xz_1 hP hD hk1 hFc hP1 hD1
    have hP : va_P (dC, dI) classes ([(ou, .inl (cJ, 1, .inr (.inl o1)))] ++ dw x0 gv cl d0 h0d q0d h0u q0u h0e q0e h0p q0p h0q q0q h0o q0o h0r q0r cA cJ cW u.n u.sv u.a u.lend u.fd u.sgd u.lenu u.fu u.sgu u.lene u.fe u.sge u.lenp u.fp u.sgp u.lenq u.fq u.sgq u.leno u.fo u.sgo u.lenr u.fr u.sgr u.tw u.iv u.hw u.qw u.gg u.ln u.sn) H := hP
    have hD : va_D A ([(ou, .inl (cJ, 1, .inr (.inl o1)))] ++ dw x0 gv cl d0 h0d q0d h0u q0u h0e q0e h0p q0p h0q q0q h0o q0o h0r q0r cA cJ cW u.n u.sv u.a u.lend u.fd u.sgd u.lenu u.fu u.sgu u.lene u.fe u.sge u.lenp u.fp u.sgp u.lenq u.fq u.sgq u.leno u.fo u.sgo u.lenr u.fr u.sgr u.tw u.iv u.hw u.qw u.gg u.ln u.sn) := hD
    refine lv_goto (tgt := 11) hx hb d_Law_size_5 (by decide) ?_
    refine lv_iconst (v := nI 0) hx hb d_Law_size_11 rfl ?_
    refine vx_ret (W.widen (k := 1) (n := 6) (by omega) (by omega) ?_)
    exact W.iret (v := nI 0) hx hb hr (fun T_ ht_ hW_ => ⟨⟨_, (u, o1), rfl, Or.inl ⟨rfl, hw⟩, by show va_P (dC, dI) classes _ T_.heap; rw [ht_]; exact hP, hD⟩, hS.F ht_⟩) hS.2.2 d_Law_size_12
set_option maxHeartbeats 8000000 in
set_option maxRecDepth 100000 in
/-- the law's Law_put -/
theorem c_Law_put (l : Launch) (hlt : l.stackTraces = false) (dC : Nat → ClassId) (dI : Nat → Nat → Nat) (sz : Nat) (x0 gv cl d0 h0d q0d h0u q0u h0e q0e h0p q0p h0q q0q h0o q0o h0r q0r : Nat) (cA cJ cW : ClassId) (ou : Nat) (D : dS) (o1 : Nat → Int64)  (i j : Int32) (v : Int64) (hG : dG D) : vx_Met l y_Law_put w_Law_put ({ frames := 7, cells := 1, slots := 6, locals := 108 }) (xc_X [.ref x0, .int i, .int j, .long v, .ref ou] dC dI ([(ou, .inl (cJ, 1, .inr (.inl o1)))] ++ dw x0 gv cl d0 h0d q0d h0u q0u h0e q0e h0p q0p h0q q0q h0o q0o h0r q0r cA cJ cW D.n D.sv D.a D.lend D.fd D.sgd D.lenu D.fu D.sgu D.lene D.fe D.sge D.lenp D.fp D.sgp D.lenq D.fq D.sgq D.leno D.fo D.sgo D.lenr D.fr D.sgr D.tw D.iv D.hw D.qw D.gg D.ln D.sn) [(cA, .int), (cJ, .long), (cW, .object "EquationDesk$Whole")] sz) (va_Qi (S := dS × (Nat → Int64)) (fun rr u => (rr = 0 ∧ ∃ r : Int64, (fun r u => dG u ∧ (∃ i2 j2 : Nat, i = nI i2 ∧ j = nI j2 ∧ i2 < D.n ∧ j2 ≤ D.n ∧ r = D.a (i2 * 13 + j2) ∧ u.a = va_up D.a (i2 * 13 + j2) v) ∧ u.n = D.n ∧ u.sv = 0 ∧ dN u = dN D ∧ dE u = dE D) r u.1 ∧ u.2 0 = r) ∨ (rr = 1 ∧ (¬ (0 ≤ i.toInt ∧ i.toInt < D.n ∧ 0 ≤ j.toInt ∧ j.toInt ≤ D.n)) ∧ u.1 = D)) (fun u t => va_P (dC, dI) classes ([(ou, .inl (cJ, 1, .inr (.inl u.2)))] ++ dw x0 gv cl d0 h0d q0d h0u q0u h0e q0e h0p q0p h0q q0q h0o q0o h0r q0r cA cJ cW u.1.n u.1.sv u.1.a u.1.lend u.1.fd u.1.sgd u.1.lenu u.1.fu u.1.sgu u.1.lene u.1.fe u.1.sge u.1.lenp u.1.fp u.1.sgp u.1.lenq u.1.fq u.1.sgq u.1.leno u.1.fo u.1.sgo u.1.lenr u.1.fr u.1.sgr u.1.tw u.1.iv u.1.hw u.1.qw u.1.gg u.1.ln u.1.sn) t.heap ∧ va_D (va_A ([(ou, .inl (cJ, 1, .inr (.inl o1)))] ++ dw x0 gv cl d0 h0d q0d h0u q0u h0e q0e h0p q0p h0q q0q h0o q0o h0r q0r cA cJ cW D.n D.sv D.a D.lend D.fd D.sgd D.lenu D.fu D.sgu D.lene D.fe D.sge D.lenp D.fp D.sgp D.lenq D.fq D.sgq D.leno D.fo D.sgo D.lenr D.fr D.sgr D.tw D.iv D.hw D.qw D.gg D.ln D.sn) sz) ([(ou, .inl (cJ, 1, .inr (.inl u.2)))] ++ dw x0 gv cl d0 h0d q0d h0u q0u h0e q0e h0p q0p h0q q0q h0o q0o h0r q0r cA cJ cW u.1.n u.1.sv u.1.a u.1.lend u.1.fd u.1.sgd u.1.lenu u.1.fu u.1.sgu u.1.lene u.1.fe u.1.sge u.1.lenp u.1.fp u.1.sgp u.1.lenq u.1.fq u.1.sgq u.1.leno u.1.fo u.1.sgo u.1.lenr u.1.fr u.1.sgr u.1.tw u.1.iv u.1.hw u.1.qw u.1.gg u.1.ln u.1.sn)) (va_A ([(ou, .inl (cJ, 1, .inr (.inl o1)))] ++ dw x0 gv cl d0 h0d q0d h0u q0u h0e q0e h0p q0p h0q q0q h0o q0o h0r q0r cA cJ cW D.n D.sv D.a D.lend D.fd D.sgd D.lenu D.fu D.sgu D.lene D.fe D.sge D.lenp D.fp D.sgp D.lenq D.fq D.sgq D.leno D.fo D.sgo D.lenr D.fr D.sgr D.tw D.iv D.hw D.qw D.gg D.ln D.sn) sz)) (vx_X (S := Unit) (fun _ => False) (fun _ _ _ => True) (va_A ([(ou, .inl (cJ, 1, .inr (.inl o1)))] ++ dw x0 gv cl d0 h0d q0d h0u q0u h0e q0e h0p q0p h0q q0q h0o q0o h0r q0r cA cJ cW D.n D.sv D.a D.lend D.fd D.sgd D.lenu D.fu D.sgu D.lene D.fe D.sge D.lenp D.fp D.sgp D.lenq D.fq D.sgq D.leno D.fo D.sgo D.lenr D.fr D.sgr D.tw D.iv D.hw D.qw D.gg D.ln D.sn) sz)) 1 6 (va_A ([(ou, .inl (cJ, 1, .inr (.inl o1)))] ++ dw x0 gv cl d0 h0d q0d h0u q0u h0e q0e h0p q0p h0q q0q h0o q0o h0r q0r cA cJ cW D.n D.sv D.a D.lend D.fd D.sgd D.lenu D.fu D.sgu D.lene D.fe D.sge D.lenp D.fp D.sgp D.lenq D.fq D.sgq D.leno D.fo D.sgo D.lenr D.fr D.sgr D.tw D.iv D.hw D.qw D.gg D.ln D.sn) sz) := by
  refine vx_ofWH (cc := b_Law_put) (maxL := 7) (ret := (some .int)) (hh := hh_Law_put) (by decide) rfl ?_
  intro p e s m args below meth c s₁ B hml hv
  obtain ⟨⟨rfl, hsz, hP, hK, hD0⟩, hE⟩ := hv
  have hx := B.exec
  have hb := B.bytes
  have hr := B.returns
  have hts : ∀ w ∈ gw_tbl, w.before ([.ref x0, .int i, .int j, .long v, .ref ou] : List Value).toArray s = true := fun w h => atoms_spec (ws := w_Law_put) B.pre w (List.mem_cons_of_mem _ h)
  have htab : c.exceptionTable.toList = tableOf hh_Law_put := vx_table (x := y_Law_put) B (atoms_spec (ws := w_Law_put) B.pre _ List.mem_cons_self)
  have hown : s.vm.findClass R_Law = some m.cls := findClass_of_methodNamed B.named
  have hlocks := B.notSynchronized
  subst hsz
  have hD := hD0.self (sz := s.heap.size)
  generalize hAe : va_A ([(ou, .inl (cJ, 1, .inr (.inl o1)))] ++ dw x0 gv cl d0 h0d q0d h0u q0u h0e q0e h0p q0p h0q q0q h0o q0o h0r q0r cA cJ cW D.n D.sv D.a D.lend D.fd D.sgd D.lenu D.fu D.sgu D.lene D.fe D.sge D.lenp D.fp D.sgp D.lenq D.fq D.sgq D.leno D.fo D.sgo D.lenr D.fr D.sgr D.tw D.iv D.hw D.qw D.gg D.ln D.sn) s.heap.size = A at hD hE ⊢
  have hA : ∀ q : Nat, s.heap.size ≤ q → A q := fun q h => by rw [← hAe]; exact Or.inr h
  have hS : va_S A s.heap s.heap [] := va_S.rf
  have hl := lv_entry ([.ref x0, .int i, .int j, .long v, .ref ou]) (n := 7) (Nat.le_of_ble_eq_true rfl)
  rw [lg_entry_eq]
  generalize (lg_sl ([.ref x0, .int i, .int j, .long v, .ref ou]) ++ List.replicate (7 - (lg_sl ([.ref x0, .int i, .int j, .long v, .ref ou])).length) Slot.unset).toArray = ls at hl ⊢
  have hl : lv_has ls 7 [(0, .ref x0), (1, .int i), (2, .int j), (3, .long v), (5, .ref ou)] := hl
  refine lv_aload hx hb d_Law_put_0 (lv_at hl 4 rfl) ?_
  refine lv_iconst (v := nI 0) hx hb d_Law_put_2 rfl ?_
  refine lv_aload_n hx hb d_Law_put_3 rfl (lv_at hl 0 rfl) ?_
  refine lv_iload_n hx hb d_Law_put_4 rfl (lv_at hl 1 rfl) ?_
  refine lv_iload_n hx hb d_Law_put_5 rfl (lv_at hl 2 rfl) ?_
  refine lv_lload_n hx hb d_Law_put_6 rfl (lv_at hl 3 rfl) ?_
  have hPc := xz_P hP
  have hDc := (xz_D hD).weaken (B := fun _ => True) (fun _ _ _ _ => trivial)
  have hFc := xz_F hD hS hA
  refine vx_calll (vx_runV (As := [.int i, .int j, .long v]) (rest := [.int (nI 0), .ref ou]) ⟨hx, hb, hml, hown, hts⟩ (c_Desk_put l hlt dC dI s.heap.size x0 gv cl d0 h0d q0d h0u q0u h0e q0e h0p q0p h0q q0q h0o q0o h0r q0r cA cJ cW D i j v hG) (cwV 3 hts (gw_V k_ml_Law_15 k_im_Desk_put k_sel_Desk_put k_ini_Desk k_code_Desk_put) rfl rfl rfl (by decide +kernel) ⟨(Nat.le_of_ble_eq_true rfl), (Nat.le_of_ble_eq_true rfl)⟩) ⟨xc_X_blind, va_recv hK hPc (ci := 0) (q0 := 0) rfl rfl, fun U hU hW => ⟨⟨rfl, by rw [hU], by rw [hU]; exact hPc, va_K.moved hW.alike hK, hDc⟩, by rw [hU]; exact (hE.narrow hFc).moved hW.alike⟩⟩ rfl rfl hl.1 rfl (lv_room (Nat.le_of_ble_eq_true rfl)) d_Law_put_7 ⟨(Nat.le_of_ble_eq_true rfl), (Nat.le_of_ble_eq_true rfl)⟩) hS (fun q _ h => hFc q h) hFc (fun q _ h => hFc q h) (fun E ce q9 u t_ H locs ht_ hvm_ hpx hBX hz1 hk1 hS hce hcv hcl => ?_) (fun r_ u t_ H locs ht_ hvm_ hw hB hz1 hk1 hS => ?_)
  · obtain ⟨hc, hP1, hD1⟩ := hBX
    rw [ht_] at hP1
    obtain ⟨hP, hD⟩ := xz_1 hP hD hk1 hFc hP1 hD1
    obtain ⟨hcE, hc⟩ := hc
    subst hcE
    refine vx_catch (pc := 7) hown [] (⟨0, 11, 14, 19⟩ : ExceptionTableEntry) [] htab (fun z hz => by cases hz) (by decide) (by decide) (hts _ k_cl_Law_19) (va_Nw.use rfl (hE.2.2.1 _ (List.mem_of_getElem? (i := 1) rfl))) hce hcv hcl ?_
    refine W.eq (g2 := F0 m 14 ls [.ref q9]) rfl ?_
    refine lv_astore (lv' := [(6, .ref q9), (0, .ref x0), (1, .int i), (2, .int j), (3, .long v), (5, .ref ou)]) hx hb d_Law_put_14 hl (by decide) rfl (fun ls hl => ?_)
    refine lv_iconst (v := nI 1) hx hb d_Law_put_16 rfl ?_
    refine vx_ret (W.widen (k := 1) (n := 6) (by omega) (by omega) ?_)
    exact W.iret (v := nI 1) hx hb hr (fun T_ ht_ hW_ => ⟨⟨_, (D, o1), rfl, Or.inr ⟨rfl, hc, rfl⟩, by show va_P (dC, dI) classes _ T_.heap; rw [ht_]; exact hP, hD⟩, hS.F ht_⟩) hS.2.2 d_Law_put_17
  · obtain ⟨hP1, hD1⟩ := hB
    rw [ht_] at hP1
    obtain ⟨hP, hD⟩ := xz_1 hP hD hk1 hFc hP1 hD1
    have hP : va_P (dC, dI) classes ([(ou, .inl (cJ, 1, .inr (.inl o1)))] ++ dw x0 gv cl d0 h0d q0d h0u q0u h0e q0e h0p q0p h0q q0q h0o q0o h0r q0r cA cJ cW u.n u.sv u.a u.lend u.fd u.sgd u.lenu u.fu u.sgu u.lene u.fe u.sge u.lenp u.fp u.sgp u.lenq u.fq u.sgq u.leno u.fo u.sgo u.lenr u.fr u.sgr u.tw u.iv u.hw u.qw u.gg u.ln u.sn) H := hP
    have hD : va_D A ([(ou, .inl (cJ, 1, .inr (.inl o1)))] ++ dw x0 gv cl d0 h0d q0d h0u q0u h0e q0e h0p q0p h0q q0q h0o q0o h0r q0r cA cJ cW u.n u.sv u.a u.lend u.fd u.sgd u.lenu u.fu u.sgu u.lene u.fe u.sge u.lenp u.fp u.sgp u.lenq u.fq u.sgq u.leno u.fo u.sgo u.lenr u.fr u.sgr u.tw u.iv u.hw u.qw u.gg u.ln u.sn) := hD
    refine xn_last hx hb hK hP hD hS 0 1 rfl rfl (i := 0) (x := r_) (by omega) (by omega) d_Law_put_10 (fun H locs hP hD hS => ?_)
    have hP : va_P (dC, dI) classes ([(ou, .inl (cJ, 1, .inr (.inl (va_up o1 0 r_))))] ++ dw x0 gv cl d0 h0d q0d h0u q0u h0e q0e h0p q0p h0q q0q h0o q0o h0r q0r cA cJ cW u.n u.sv u.a u.lend u.fd u.sgd u.lenu u.fu u.sgu u.lene u.fe u.sge u.lenp u.fp u.sgp u.lenq u.fq u.sgq u.leno u.fo u.sgo u.lenr u.fr u.sgr u.tw u.iv u.hw u.qw u.gg u.ln u.sn) H := hP
    have hD : va_D A ([(ou, .inl (cJ, 1, .inr (.inl (va_up o1 0 r_))))] ++ dw x0 gv cl d0 h0d q0d h0u q0u h0e q0e h0p q0p h0q q0q h0o q0o h0r q0r cA cJ cW u.n u.sv u.a u.lend u.fd u.sgd u.lenu u.fu u.sgu u.lene u.fe u.sge u.lenp u.fp u.sgp u.lenq u.fq u.sgq u.leno u.fo u.sgo u.lenr u.fr u.sgr u.tw u.iv u.hw u.qw u.gg u.ln u.sn) := hD
    refine lv_goto (tgt := 18) hx hb d_Law_put_11 (by decide) ?_
    refine lv_iconst (v := nI 0) hx hb d_Law_put_18 rfl ?_
    refine vx_ret (W.widen (k := 1) (n := 6) (by omega) (by omega) ?_)
    exact W.iret (v := nI 0) hx hb hr (fun T_ ht_ hW_ => ⟨⟨_, (u, va_up o1 0 r_), rfl, Or.inl ⟨rfl, r_, hw, (show va_up o1 0 r_ 0 = r_ from va_up_self ..)⟩, by show va_P (dC, dI) classes _ T_.heap; rw [ht_]; exact hP, hD⟩, hS.F ht_⟩) hS.2.2 d_Law_put_19
set_option maxHeartbeats 8000000 in
set_option maxRecDepth 100000 in
/-- the law's Law_unknown -/
theorem c_Law_unknown (l : Launch) (hlt : l.stackTraces = false) (dC : Nat → ClassId) (dI : Nat → Nat → Nat) (sz : Nat) (x0 gv cl d0 h0d q0d h0u q0u h0e q0e h0p q0p h0q q0q h0o q0o h0r q0r : Nat) (cA cJ cW : ClassId) (ou : Nat) (D : dS) (o1 : Nat → Int64)  (k : Int32) (hG : dG D) : vx_Met l y_Law_unknown w_Law_unknown ({ frames := 7, cells := 1, slots := 6, locals := 160 }) (xc_X [.ref x0, .int k, .ref ou] dC dI ([(ou, .inl (cJ, 1, .inr (.inl o1)))] ++ dw x0 gv cl d0 h0d q0d h0u q0u h0e q0e h0p q0p h0q q0q h0o q0o h0r q0r cA cJ cW D.n D.sv D.a D.lend D.fd D.sgd D.lenu D.fu D.sgu D.lene D.fe D.sge D.lenp D.fp D.sgp D.lenq D.fq D.sgq D.leno D.fo D.sgo D.lenr D.fr D.sgr D.tw D.iv D.hw D.qw D.gg D.ln D.sn) [(cA, .int), (cJ, .long), (cW, .object "EquationDesk$Whole")] sz) (va_Qi (S := dS × (Nat → Int64)) (fun rr u => (rr = 0 ∧ ∃ r : Int32, (fun r u => dG u ∧ (∃ k2 : Nat, k = nI k2 ∧ k2 < D.n ∧ D.sv = 1 ∧ r.toInt = (dt_y (dA D.a) k2 (D.n - 1 - k2) D.n).sign * (dt_d (dA D.a) D.n).sign ∧ dN u = (dt_y (dA D.a) k2 (D.n - 1 - k2) D.n).natAbs / (Nat.gcd (dt_y (dA D.a) k2 (D.n - 1 - k2) D.n).natAbs (dt_d (dA D.a) D.n).natAbs) ∧ dE u = (dt_d (dA D.a) D.n).natAbs / (Nat.gcd (dt_y (dA D.a) k2 (D.n - 1 - k2) D.n).natAbs (dt_d (dA D.a) D.n).natAbs)) ∧ u.n = D.n ∧ u.sv = D.sv ∧ u.a = D.a) r u.1 ∧ u.2 0 = r.toInt64) ∨ (rr = 1 ∧ (D.sv = 0) ∧ u.1 = D) ∨ (rr = 2 ∧ (D.sv = 1 ∧ ¬ (0 ≤ k.toInt ∧ k.toInt < D.n)) ∧ u.1 = D)) (fun u t => va_P (dC, dI) classes ([(ou, .inl (cJ, 1, .inr (.inl u.2)))] ++ dw x0 gv cl d0 h0d q0d h0u q0u h0e q0e h0p q0p h0q q0q h0o q0o h0r q0r cA cJ cW u.1.n u.1.sv u.1.a u.1.lend u.1.fd u.1.sgd u.1.lenu u.1.fu u.1.sgu u.1.lene u.1.fe u.1.sge u.1.lenp u.1.fp u.1.sgp u.1.lenq u.1.fq u.1.sgq u.1.leno u.1.fo u.1.sgo u.1.lenr u.1.fr u.1.sgr u.1.tw u.1.iv u.1.hw u.1.qw u.1.gg u.1.ln u.1.sn) t.heap ∧ va_D (va_A ([(ou, .inl (cJ, 1, .inr (.inl o1)))] ++ dw x0 gv cl d0 h0d q0d h0u q0u h0e q0e h0p q0p h0q q0q h0o q0o h0r q0r cA cJ cW D.n D.sv D.a D.lend D.fd D.sgd D.lenu D.fu D.sgu D.lene D.fe D.sge D.lenp D.fp D.sgp D.lenq D.fq D.sgq D.leno D.fo D.sgo D.lenr D.fr D.sgr D.tw D.iv D.hw D.qw D.gg D.ln D.sn) sz) ([(ou, .inl (cJ, 1, .inr (.inl u.2)))] ++ dw x0 gv cl d0 h0d q0d h0u q0u h0e q0e h0p q0p h0q q0q h0o q0o h0r q0r cA cJ cW u.1.n u.1.sv u.1.a u.1.lend u.1.fd u.1.sgd u.1.lenu u.1.fu u.1.sgu u.1.lene u.1.fe u.1.sge u.1.lenp u.1.fp u.1.sgp u.1.lenq u.1.fq u.1.sgq u.1.leno u.1.fo u.1.sgo u.1.lenr u.1.fr u.1.sgr u.1.tw u.1.iv u.1.hw u.1.qw u.1.gg u.1.ln u.1.sn)) (va_A ([(ou, .inl (cJ, 1, .inr (.inl o1)))] ++ dw x0 gv cl d0 h0d q0d h0u q0u h0e q0e h0p q0p h0q q0q h0o q0o h0r q0r cA cJ cW D.n D.sv D.a D.lend D.fd D.sgd D.lenu D.fu D.sgu D.lene D.fe D.sge D.lenp D.fp D.sgp D.lenq D.fq D.sgq D.leno D.fo D.sgo D.lenr D.fr D.sgr D.tw D.iv D.hw D.qw D.gg D.ln D.sn) sz)) (vx_X (S := Unit) (fun _ => False) (fun _ _ _ => True) (va_A ([(ou, .inl (cJ, 1, .inr (.inl o1)))] ++ dw x0 gv cl d0 h0d q0d h0u q0u h0e q0e h0p q0p h0q q0q h0o q0o h0r q0r cA cJ cW D.n D.sv D.a D.lend D.fd D.sgd D.lenu D.fu D.sgu D.lene D.fe D.sge D.lenp D.fp D.sgp D.lenq D.fq D.sgq D.leno D.fo D.sgo D.lenr D.fr D.sgr D.tw D.iv D.hw D.qw D.gg D.ln D.sn) sz)) 1 6 (va_A ([(ou, .inl (cJ, 1, .inr (.inl o1)))] ++ dw x0 gv cl d0 h0d q0d h0u q0u h0e q0e h0p q0p h0q q0q h0o q0o h0r q0r cA cJ cW D.n D.sv D.a D.lend D.fd D.sgd D.lenu D.fu D.sgu D.lene D.fe D.sge D.lenp D.fp D.sgp D.lenq D.fq D.sgq D.leno D.fo D.sgo D.lenr D.fr D.sgr D.tw D.iv D.hw D.qw D.gg D.ln D.sn) sz) := by
  refine vx_ofWH (cc := b_Law_unknown) (maxL := 4) (ret := (some .int)) (hh := hh_Law_unknown) (by decide) rfl ?_
  intro p e s m args below meth c s₁ B hml hv
  obtain ⟨⟨rfl, hsz, hP, hK, hD0⟩, hE⟩ := hv
  have hx := B.exec
  have hb := B.bytes
  have hr := B.returns
  have hts : ∀ w ∈ gw_tbl, w.before ([.ref x0, .int k, .ref ou] : List Value).toArray s = true := fun w h => atoms_spec (ws := w_Law_unknown) B.pre w (List.mem_cons_of_mem _ h)
  have htab : c.exceptionTable.toList = tableOf hh_Law_unknown := vx_table (x := y_Law_unknown) B (atoms_spec (ws := w_Law_unknown) B.pre _ List.mem_cons_self)
  have hown : s.vm.findClass R_Law = some m.cls := findClass_of_methodNamed B.named
  have hlocks := B.notSynchronized
  subst hsz
  have hD := hD0.self (sz := s.heap.size)
  generalize hAe : va_A ([(ou, .inl (cJ, 1, .inr (.inl o1)))] ++ dw x0 gv cl d0 h0d q0d h0u q0u h0e q0e h0p q0p h0q q0q h0o q0o h0r q0r cA cJ cW D.n D.sv D.a D.lend D.fd D.sgd D.lenu D.fu D.sgu D.lene D.fe D.sge D.lenp D.fp D.sgp D.lenq D.fq D.sgq D.leno D.fo D.sgo D.lenr D.fr D.sgr D.tw D.iv D.hw D.qw D.gg D.ln D.sn) s.heap.size = A at hD hE ⊢
  have hA : ∀ q : Nat, s.heap.size ≤ q → A q := fun q h => by rw [← hAe]; exact Or.inr h
  have hS : va_S A s.heap s.heap [] := va_S.rf
  have hl := lv_entry ([.ref x0, .int k, .ref ou]) (n := 4) (Nat.le_of_ble_eq_true rfl)
  rw [lg_entry_eq]
  generalize (lg_sl ([.ref x0, .int k, .ref ou]) ++ List.replicate (4 - (lg_sl ([.ref x0, .int k, .ref ou])).length) Slot.unset).toArray = ls at hl ⊢
  have hl : lv_has ls 4 [(0, .ref x0), (1, .int k), (2, .ref ou)] := hl
  refine lv_aload_n hx hb d_Law_unknown_0 rfl (lv_at hl 2 rfl) ?_
  refine lv_iconst (v := nI 0) hx hb d_Law_unknown_1 rfl ?_
  refine lv_aload_n hx hb d_Law_unknown_2 rfl (lv_at hl 0 rfl) ?_
  refine lv_iload_n hx hb d_Law_unknown_3 rfl (lv_at hl 1 rfl) ?_
  have hPc := xz_P hP
  have hDc := (xz_D hD).weaken (B := fun _ => True) (fun _ _ _ _ => trivial)
  have hFc := xz_F hD hS hA
  refine vx_calli (vx_runV (As := [.int k]) (rest := [.int (nI 0), .ref ou]) ⟨hx, hb, hml, hown, hts⟩ (c_Desk_unknown l hlt dC dI s.heap.size x0 gv cl d0 h0d q0d h0u q0u h0e q0e h0p q0p h0q q0q h0o q0o h0r q0r cA cJ cW D k hG) (cwV 1 hts (gw_V k_ml_Law_21 k_im_Desk_unknown k_sel_Desk_unknown k_ini_Desk k_code_Desk_unknown) rfl rfl rfl (by decide +kernel) ⟨(Nat.le_of_ble_eq_true rfl), (Nat.le_of_ble_eq_true rfl)⟩) ⟨xc_X_blind, va_recv hK hPc (ci := 0) (q0 := 0) rfl rfl, fun U hU hW => ⟨⟨rfl, by rw [hU], by rw [hU]; exact hPc, va_K.moved hW.alike hK, hDc⟩, by rw [hU]; exact (hE.narrow hFc).moved hW.alike⟩⟩ rfl rfl hl.1 rfl (lv_room (Nat.le_of_ble_eq_true rfl)) d_Law_unknown_4 ⟨(Nat.le_of_ble_eq_true rfl), (Nat.le_of_ble_eq_true rfl)⟩) hS (fun q _ h => hFc q h) hFc (fun q _ h => hFc q h) (fun E ce q9 u t_ H locs ht_ hvm_ hpx hBX hz1 hk1 hS hce hcv hcl => ?_) (fun r_ u t_ H locs ht_ hvm_ hw hB hz1 hk1 hS => ?_)
  · obtain ⟨hc, hP1, hD1⟩ := hBX
    rw [ht_] at hP1
    obtain ⟨hP, hD⟩ := xz_1 hP hD hk1 hFc hP1 hD1
    rcases hc with ⟨hcE, hc⟩ | ⟨hcE, hc⟩
    · subst hcE
      refine vx_catch (pc := 4) hown [] (⟨0, 9, 12, 25⟩ : ExceptionTableEntry) [(⟨0, 9, 15, 19⟩ : ExceptionTableEntry)] htab (fun z hz => by cases hz) (by decide) (by decide) (hts _ k_cl_Law_25) (va_Nw.use rfl (hE.2.2.1 _ (List.mem_of_getElem? (i := 2) rfl))) hce hcv hcl ?_
      refine W.eq (g2 := F0 m 12 ls [.ref q9]) rfl ?_
      refine lv_astore_n (lv' := [(3, .ref q9), (0, .ref x0), (1, .int k), (2, .ref ou)]) hx hb d_Law_unknown_12 rfl hl (by decide) rfl (fun ls hl => ?_)
      refine lv_iconst (v := nI 1) hx hb d_Law_unknown_13 rfl ?_
      refine vx_ret (W.widen (k := 1) (n := 6) (by omega) (by omega) ?_)
      exact W.iret (v := nI 1) hx hb hr (fun T_ ht_ hW_ => ⟨⟨_, (D, o1), rfl, Or.inr (Or.inl ⟨rfl, hc, rfl⟩), by show va_P (dC, dI) classes _ T_.heap; rw [ht_]; exact hP, hD⟩, hS.F ht_⟩) hS.2.2 d_Law_unknown_14
    · subst hcE
      refine vx_catch (pc := 4) hown [(⟨0, 9, 12, 25⟩ : ExceptionTableEntry)] (⟨0, 9, 15, 19⟩ : ExceptionTableEntry) [] htab (fun z hz => by
                have e9 : z = (⟨0, 9, 12, 25⟩ : ExceptionTableEntry) := by simpa using hz
                subst e9
                exact Or.inr ⟨by decide, "java/lang/IllegalStateException", hts _ k_cl_Law_25, hE.2.2.2⟩) (by decide) (by decide) (hts _ k_cl_Law_19) (va_Nw.use rfl (hE.2.2.1 _ (List.mem_of_getElem? (i := 1) rfl))) hce hcv hcl ?_
      refine W.eq (g2 := F0 m 15 ls [.ref q9]) rfl ?_
      refine lv_astore_n (lv' := [(3, .ref q9), (0, .ref x0), (1, .int k), (2, .ref ou)]) hx hb d_Law_unknown_15 rfl hl (by decide) rfl (fun ls hl => ?_)
      refine lv_iconst (v := nI 2) hx hb d_Law_unknown_16 rfl ?_
      refine vx_ret (W.widen (k := 1) (n := 6) (by omega) (by omega) ?_)
      exact W.iret (v := nI 2) hx hb hr (fun T_ ht_ hW_ => ⟨⟨_, (D, o1), rfl, Or.inr (Or.inr ⟨rfl, hc, rfl⟩), by show va_P (dC, dI) classes _ T_.heap; rw [ht_]; exact hP, hD⟩, hS.F ht_⟩) hS.2.2 d_Law_unknown_17
  · obtain ⟨hP1, hD1⟩ := hB
    rw [ht_] at hP1
    obtain ⟨hP, hD⟩ := xz_1 hP hD hk1 hFc hP1 hD1
    have hP : va_P (dC, dI) classes ([(ou, .inl (cJ, 1, .inr (.inl o1)))] ++ dw x0 gv cl d0 h0d q0d h0u q0u h0e q0e h0p q0p h0q q0q h0o q0o h0r q0r cA cJ cW u.n u.sv u.a u.lend u.fd u.sgd u.lenu u.fu u.sgu u.lene u.fe u.sge u.lenp u.fp u.sgp u.lenq u.fq u.sgq u.leno u.fo u.sgo u.lenr u.fr u.sgr u.tw u.iv u.hw u.qw u.gg u.ln u.sn) H := hP
    have hD : va_D A ([(ou, .inl (cJ, 1, .inr (.inl o1)))] ++ dw x0 gv cl d0 h0d q0d h0u q0u h0e q0e h0p q0p h0q q0q h0o q0o h0r q0r cA cJ cW u.n u.sv u.a u.lend u.fd u.sgd u.lenu u.fu u.sgu u.lene u.fe u.sge u.lenp u.fp u.sgp u.lenq u.fq u.sgq u.leno u.fo u.sgo u.lenr u.fr u.sgr u.tw u.iv u.hw u.qw u.gg u.ln u.sn) := hD
    refine lv_i2l (v := r_.toInt64) hx hb d_Law_unknown_7 rfl ?_
    refine xn_last hx hb hK hP hD hS 0 1 rfl rfl (i := 0) (x := r_.toInt64) (by omega) (by omega) d_Law_unknown_8 (fun H locs hP hD hS => ?_)
    have hP : va_P (dC, dI) classes ([(ou, .inl (cJ, 1, .inr (.inl (va_up o1 0 r_.toInt64))))] ++ dw x0 gv cl d0 h0d q0d h0u q0u h0e q0e h0p q0p h0q q0q h0o q0o h0r q0r cA cJ cW u.n u.sv u.a u.lend u.fd u.sgd u.lenu u.fu u.sgu u.lene u.fe u.sge u.lenp u.fp u.sgp u.lenq u.fq u.sgq u.leno u.fo u.sgo u.lenr u.fr u.sgr u.tw u.iv u.hw u.qw u.gg u.ln u.sn) H := hP
    have hD : va_D A ([(ou, .inl (cJ, 1, .inr (.inl (va_up o1 0 r_.toInt64))))] ++ dw x0 gv cl d0 h0d q0d h0u q0u h0e q0e h0p q0p h0q q0q h0o q0o h0r q0r cA cJ cW u.n u.sv u.a u.lend u.fd u.sgd u.lenu u.fu u.sgu u.lene u.fe u.sge u.lenp u.fp u.sgp u.lenq u.fq u.sgq u.leno u.fo u.sgo u.lenr u.fr u.sgr u.tw u.iv u.hw u.qw u.gg u.ln u.sn) := hD
    refine lv_goto (tgt := 18) hx hb d_Law_unknown_9 (by decide) ?_
    refine lv_iconst (v := nI 0) hx hb d_Law_unknown_18 rfl ?_
    refine vx_ret (W.widen (k := 1) (n := 6) (by omega) (by omega) ?_)
    exact W.iret (v := nI 0) hx hb hr (fun T_ ht_ hW_ => ⟨⟨_, (u, va_up o1 0 r_.toInt64), rfl, Or.inl ⟨rfl, r_, hw, (show va_up o1 0 r_.toInt64 0 = r_.toInt64 from va_up_self ..)⟩, by show va_P (dC, dI) classes _ T_.heap; rw [ht_]; exact hP, hD⟩, hS.F ht_⟩) hS.2.2 d_Law_unknown_19
set_option maxHeartbeats 8000000 in
set_option maxRecDepth 100000 in
/-- the law's Law_determinant -/
theorem c_Law_determinant (l : Launch) (hlt : l.stackTraces = false) (dC : Nat → ClassId) (dI : Nat → Nat → Nat) (sz : Nat) (x0 gv cl d0 h0d q0d h0u q0u h0e q0e h0p q0p h0q q0q h0o q0o h0r q0r : Nat) (cA cJ cW : ClassId) (ou : Nat) (D : dS) (o1 : Nat → Int64)   (hG : dG D) : vx_Met l y_Law_determinant w_Law_determinant ({ frames := 7, cells := 1, slots := 6, locals := 101 }) (xc_X [.ref x0, .ref ou] dC dI ([(ou, .inl (cJ, 1, .inr (.inl o1)))] ++ dw x0 gv cl d0 h0d q0d h0u q0u h0e q0e h0p q0p h0q q0q h0o q0o h0r q0r cA cJ cW D.n D.sv D.a D.lend D.fd D.sgd D.lenu D.fu D.sgu D.lene D.fe D.sge D.lenp D.fp D.sgp D.lenq D.fq D.sgq D.leno D.fo D.sgo D.lenr D.fr D.sgr D.tw D.iv D.hw D.qw D.gg D.ln D.sn) [(cA, .int), (cJ, .long), (cW, .object "EquationDesk$Whole")] sz) (va_Qi (S := dS × (Nat → Int64)) (fun rr u => (rr = 0 ∧ ∃ r : Int32, (fun r u => dG u ∧ (D.sv = 1 ∧ r.toInt = (dt_d (dA D.a) D.n).sign ∧ dN u = (dt_d (dA D.a) D.n).natAbs ∧ dE u = 1) ∧ u.n = D.n ∧ u.sv = D.sv ∧ u.a = D.a) r u.1 ∧ u.2 0 = r.toInt64) ∨ (rr = 1 ∧ (D.sv = 0) ∧ u.1 = D)) (fun u t => va_P (dC, dI) classes ([(ou, .inl (cJ, 1, .inr (.inl u.2)))] ++ dw x0 gv cl d0 h0d q0d h0u q0u h0e q0e h0p q0p h0q q0q h0o q0o h0r q0r cA cJ cW u.1.n u.1.sv u.1.a u.1.lend u.1.fd u.1.sgd u.1.lenu u.1.fu u.1.sgu u.1.lene u.1.fe u.1.sge u.1.lenp u.1.fp u.1.sgp u.1.lenq u.1.fq u.1.sgq u.1.leno u.1.fo u.1.sgo u.1.lenr u.1.fr u.1.sgr u.1.tw u.1.iv u.1.hw u.1.qw u.1.gg u.1.ln u.1.sn) t.heap ∧ va_D (va_A ([(ou, .inl (cJ, 1, .inr (.inl o1)))] ++ dw x0 gv cl d0 h0d q0d h0u q0u h0e q0e h0p q0p h0q q0q h0o q0o h0r q0r cA cJ cW D.n D.sv D.a D.lend D.fd D.sgd D.lenu D.fu D.sgu D.lene D.fe D.sge D.lenp D.fp D.sgp D.lenq D.fq D.sgq D.leno D.fo D.sgo D.lenr D.fr D.sgr D.tw D.iv D.hw D.qw D.gg D.ln D.sn) sz) ([(ou, .inl (cJ, 1, .inr (.inl u.2)))] ++ dw x0 gv cl d0 h0d q0d h0u q0u h0e q0e h0p q0p h0q q0q h0o q0o h0r q0r cA cJ cW u.1.n u.1.sv u.1.a u.1.lend u.1.fd u.1.sgd u.1.lenu u.1.fu u.1.sgu u.1.lene u.1.fe u.1.sge u.1.lenp u.1.fp u.1.sgp u.1.lenq u.1.fq u.1.sgq u.1.leno u.1.fo u.1.sgo u.1.lenr u.1.fr u.1.sgr u.1.tw u.1.iv u.1.hw u.1.qw u.1.gg u.1.ln u.1.sn)) (va_A ([(ou, .inl (cJ, 1, .inr (.inl o1)))] ++ dw x0 gv cl d0 h0d q0d h0u q0u h0e q0e h0p q0p h0q q0q h0o q0o h0r q0r cA cJ cW D.n D.sv D.a D.lend D.fd D.sgd D.lenu D.fu D.sgu D.lene D.fe D.sge D.lenp D.fp D.sgp D.lenq D.fq D.sgq D.leno D.fo D.sgo D.lenr D.fr D.sgr D.tw D.iv D.hw D.qw D.gg D.ln D.sn) sz)) (vx_X (S := Unit) (fun _ => False) (fun _ _ _ => True) (va_A ([(ou, .inl (cJ, 1, .inr (.inl o1)))] ++ dw x0 gv cl d0 h0d q0d h0u q0u h0e q0e h0p q0p h0q q0q h0o q0o h0r q0r cA cJ cW D.n D.sv D.a D.lend D.fd D.sgd D.lenu D.fu D.sgu D.lene D.fe D.sge D.lenp D.fp D.sgp D.lenq D.fq D.sgq D.leno D.fo D.sgo D.lenr D.fr D.sgr D.tw D.iv D.hw D.qw D.gg D.ln D.sn) sz)) 1 6 (va_A ([(ou, .inl (cJ, 1, .inr (.inl o1)))] ++ dw x0 gv cl d0 h0d q0d h0u q0u h0e q0e h0p q0p h0q q0q h0o q0o h0r q0r cA cJ cW D.n D.sv D.a D.lend D.fd D.sgd D.lenu D.fu D.sgu D.lene D.fe D.sge D.lenp D.fp D.sgp D.lenq D.fq D.sgq D.leno D.fo D.sgo D.lenr D.fr D.sgr D.tw D.iv D.hw D.qw D.gg D.ln D.sn) sz) := by
  refine vx_ofWH (cc := b_Law_determinant) (maxL := 3) (ret := (some .int)) (hh := hh_Law_determinant) (by decide) rfl ?_
  intro p e s m args below meth c s₁ B hml hv
  obtain ⟨⟨rfl, hsz, hP, hK, hD0⟩, hE⟩ := hv
  have hx := B.exec
  have hb := B.bytes
  have hr := B.returns
  have hts : ∀ w ∈ gw_tbl, w.before ([.ref x0, .ref ou] : List Value).toArray s = true := fun w h => atoms_spec (ws := w_Law_determinant) B.pre w (List.mem_cons_of_mem _ h)
  have htab : c.exceptionTable.toList = tableOf hh_Law_determinant := vx_table (x := y_Law_determinant) B (atoms_spec (ws := w_Law_determinant) B.pre _ List.mem_cons_self)
  have hown : s.vm.findClass R_Law = some m.cls := findClass_of_methodNamed B.named
  have hlocks := B.notSynchronized
  subst hsz
  have hD := hD0.self (sz := s.heap.size)
  generalize hAe : va_A ([(ou, .inl (cJ, 1, .inr (.inl o1)))] ++ dw x0 gv cl d0 h0d q0d h0u q0u h0e q0e h0p q0p h0q q0q h0o q0o h0r q0r cA cJ cW D.n D.sv D.a D.lend D.fd D.sgd D.lenu D.fu D.sgu D.lene D.fe D.sge D.lenp D.fp D.sgp D.lenq D.fq D.sgq D.leno D.fo D.sgo D.lenr D.fr D.sgr D.tw D.iv D.hw D.qw D.gg D.ln D.sn) s.heap.size = A at hD hE ⊢
  have hA : ∀ q : Nat, s.heap.size ≤ q → A q := fun q h => by rw [← hAe]; exact Or.inr h
  have hS : va_S A s.heap s.heap [] := va_S.rf
  have hl := lv_entry ([.ref x0, .ref ou]) (n := 3) (Nat.le_of_ble_eq_true rfl)
  rw [lg_entry_eq]
  generalize (lg_sl ([.ref x0, .ref ou]) ++ List.replicate (3 - (lg_sl ([.ref x0, .ref ou])).length) Slot.unset).toArray = ls at hl ⊢
  have hl : lv_has ls 3 [(0, .ref x0), (1, .ref ou)] := hl
  refine lv_aload_n hx hb d_Law_determinant_0 rfl (lv_at hl 1 rfl) ?_
  refine lv_iconst (v := nI 0) hx hb d_Law_determinant_1 rfl ?_
  refine lv_aload_n hx hb d_Law_determinant_2 rfl (lv_at hl 0 rfl) ?_
  have hPc := xz_P hP
  have hDc := (xz_D hD).weaken (B := fun _ => True) (fun _ _ _ _ => trivial)
  have hFc := xz_F hD hS hA
  refine vx_calli (vx_runV (As := []) (rest := [.int (nI 0), .ref ou]) ⟨hx, hb, hml, hown, hts⟩ (c_Desk_determinant l hlt dC dI s.heap.size x0 gv cl d0 h0d q0d h0u q0u h0e q0e h0p q0p h0q q0q h0o q0o h0r q0r cA cJ cW D  hG) (cwV 0 hts (gw_V k_ml_Law_27 k_im_Desk_determinant k_sel_Desk_determinant k_ini_Desk k_code_Desk_determinant) rfl rfl rfl (by decide +kernel) ⟨(Nat.le_of_ble_eq_true rfl), (Nat.le_of_ble_eq_true rfl)⟩) ⟨xc_X_blind, va_recv hK hPc (ci := 0) (q0 := 0) rfl rfl, fun U hU hW => ⟨⟨rfl, by rw [hU], by rw [hU]; exact hPc, va_K.moved hW.alike hK, hDc⟩, by rw [hU]; exact (hE.narrow hFc).moved hW.alike⟩⟩ rfl rfl hl.1 rfl (lv_room (Nat.le_of_ble_eq_true rfl)) d_Law_determinant_3 ⟨(Nat.le_of_ble_eq_true rfl), (Nat.le_of_ble_eq_true rfl)⟩) hS (fun q _ h => hFc q h) hFc (fun q _ h => hFc q h) (fun E ce q9 u t_ H locs ht_ hvm_ hpx hBX hz1 hk1 hS hce hcv hcl => ?_) (fun r_ u t_ H locs ht_ hvm_ hw hB hz1 hk1 hS => ?_)
  · obtain ⟨hc, hP1, hD1⟩ := hBX
    rw [ht_] at hP1
    obtain ⟨hP, hD⟩ := xz_1 hP hD hk1 hFc hP1 hD1
    obtain ⟨hcE, hc⟩ := hc
    subst hcE
    refine vx_catch (pc := 3) hown [] (⟨0, 8, 11, 25⟩ : ExceptionTableEntry) [] htab (fun z hz => by cases hz) (by decide) (by decide) (hts _ k_cl_Law_25) (va_Nw.use rfl (hE.2.2.1 _ (List.mem_of_getElem? (i := 2) rfl))) hce hcv hcl ?_
    refine W.eq (g2 := F0 m 11 ls [.ref q9]) rfl ?_
    refine lv_astore_n (lv' := [(2, .ref q9), (0, .ref x0), (1, .ref ou)]) hx hb d_Law_determinant_11 rfl hl (by decide) rfl (fun ls hl => ?_)
    refine lv_iconst (v := nI 1) hx hb d_Law_determinant_12 rfl ?_
    refine vx_ret (W.widen (k := 1) (n := 6) (by omega) (by omega) ?_)
    exact W.iret (v := nI 1) hx hb hr (fun T_ ht_ hW_ => ⟨⟨_, (D, o1), rfl, Or.inr ⟨rfl, hc, rfl⟩, by show va_P (dC, dI) classes _ T_.heap; rw [ht_]; exact hP, hD⟩, hS.F ht_⟩) hS.2.2 d_Law_determinant_13
  · obtain ⟨hP1, hD1⟩ := hB
    rw [ht_] at hP1
    obtain ⟨hP, hD⟩ := xz_1 hP hD hk1 hFc hP1 hD1
    have hP : va_P (dC, dI) classes ([(ou, .inl (cJ, 1, .inr (.inl o1)))] ++ dw x0 gv cl d0 h0d q0d h0u q0u h0e q0e h0p q0p h0q q0q h0o q0o h0r q0r cA cJ cW u.n u.sv u.a u.lend u.fd u.sgd u.lenu u.fu u.sgu u.lene u.fe u.sge u.lenp u.fp u.sgp u.lenq u.fq u.sgq u.leno u.fo u.sgo u.lenr u.fr u.sgr u.tw u.iv u.hw u.qw u.gg u.ln u.sn) H := hP
    have hD : va_D A ([(ou, .inl (cJ, 1, .inr (.inl o1)))] ++ dw x0 gv cl d0 h0d q0d h0u q0u h0e q0e h0p q0p h0q q0q h0o q0o h0r q0r cA cJ cW u.n u.sv u.a u.lend u.fd u.sgd u.lenu u.fu u.sgu u.lene u.fe u.sge u.lenp u.fp u.sgp u.lenq u.fq u.sgq u.leno u.fo u.sgo u.lenr u.fr u.sgr u.tw u.iv u.hw u.qw u.gg u.ln u.sn) := hD
    refine lv_i2l (v := r_.toInt64) hx hb d_Law_determinant_6 rfl ?_
    refine xn_last hx hb hK hP hD hS 0 1 rfl rfl (i := 0) (x := r_.toInt64) (by omega) (by omega) d_Law_determinant_7 (fun H locs hP hD hS => ?_)
    have hP : va_P (dC, dI) classes ([(ou, .inl (cJ, 1, .inr (.inl (va_up o1 0 r_.toInt64))))] ++ dw x0 gv cl d0 h0d q0d h0u q0u h0e q0e h0p q0p h0q q0q h0o q0o h0r q0r cA cJ cW u.n u.sv u.a u.lend u.fd u.sgd u.lenu u.fu u.sgu u.lene u.fe u.sge u.lenp u.fp u.sgp u.lenq u.fq u.sgq u.leno u.fo u.sgo u.lenr u.fr u.sgr u.tw u.iv u.hw u.qw u.gg u.ln u.sn) H := hP
    have hD : va_D A ([(ou, .inl (cJ, 1, .inr (.inl (va_up o1 0 r_.toInt64))))] ++ dw x0 gv cl d0 h0d q0d h0u q0u h0e q0e h0p q0p h0q q0q h0o q0o h0r q0r cA cJ cW u.n u.sv u.a u.lend u.fd u.sgd u.lenu u.fu u.sgu u.lene u.fe u.sge u.lenp u.fp u.sgp u.lenq u.fq u.sgq u.leno u.fo u.sgo u.lenr u.fr u.sgr u.tw u.iv u.hw u.qw u.gg u.ln u.sn) := hD
    refine lv_goto (tgt := 14) hx hb d_Law_determinant_8 (by decide) ?_
    refine lv_iconst (v := nI 0) hx hb d_Law_determinant_14 rfl ?_
    refine vx_ret (W.widen (k := 1) (n := 6) (by omega) (by omega) ?_)
    exact W.iret (v := nI 0) hx hb hr (fun T_ ht_ hW_ => ⟨⟨_, (u, va_up o1 0 r_.toInt64), rfl, Or.inl ⟨rfl, r_, hw, (show va_up o1 0 r_.toInt64 0 = r_.toInt64 from va_up_self ..)⟩, by show va_P (dC, dI) classes _ T_.heap; rw [ht_]; exact hP, hD⟩, hS.F ht_⟩) hS.2.2 d_Law_determinant_15
set_option maxHeartbeats 8000000 in
set_option maxRecDepth 100000 in
/-- the law's Law_compare -/
theorem c_Law_compare (l : Launch) (hlt : l.stackTraces = false) (dC : Nat → ClassId) (dI : Nat → Nat → Nat) (sz : Nat) (x0 gv cl d0 h0d q0d h0u q0u h0e q0e h0p q0p h0q q0q h0o q0o h0r q0r : Nat) (cA cJ cW : ClassId) (ou : Nat) (D : dS) (o1 : Nat → Int64)  (j k : Int32) (hG : dG D) : vx_Met l y_Law_compare w_Law_compare ({ frames := 7, cells := 1, slots := 6, locals := 105 }) (xc_X [.ref x0, .int j, .int k, .ref ou] dC dI ([(ou, .inl (cJ, 1, .inr (.inl o1)))] ++ dw x0 gv cl d0 h0d q0d h0u q0u h0e q0e h0p q0p h0q q0q h0o q0o h0r q0r cA cJ cW D.n D.sv D.a D.lend D.fd D.sgd D.lenu D.fu D.sgu D.lene D.fe D.sge D.lenp D.fp D.sgp D.lenq D.fq D.sgq D.leno D.fo D.sgo D.lenr D.fr D.sgr D.tw D.iv D.hw D.qw D.gg D.ln D.sn) [(cA, .int), (cJ, .long), (cW, .object "EquationDesk$Whole")] sz) (va_Qi (S := dS × (Nat → Int64)) (fun rr u => (rr = 0 ∧ ∃ r : Int32, (u.1 = D ∧ (fun r u => ∃ (j2 k2 : Nat) (sg : Int32), j = nI j2 ∧ k = nI k2 ∧ j2 < D.n ∧ k2 < D.n ∧ D.sv = 1 ∧ sg.toInt = (dt_d (dA D.a) D.n).sign ∧ r = wh_c (dt_y (dA D.a) j2 (D.n - 1 - j2) D.n) (dt_y (dA D.a) k2 (D.n - 1 - k2) D.n) * sg) r ()) ∧ u.2 0 = r.toInt64) ∨ (rr = 1 ∧ (D.sv = 0) ∧ u.1 = D) ∨ (rr = 2 ∧ (D.sv = 1 ∧ ¬ (0 ≤ j.toInt ∧ j.toInt < D.n ∧ 0 ≤ k.toInt ∧ k.toInt < D.n)) ∧ u.1 = D)) (fun u t => va_P (dC, dI) classes ([(ou, .inl (cJ, 1, .inr (.inl u.2)))] ++ dw x0 gv cl d0 h0d q0d h0u q0u h0e q0e h0p q0p h0q q0q h0o q0o h0r q0r cA cJ cW u.1.n u.1.sv u.1.a u.1.lend u.1.fd u.1.sgd u.1.lenu u.1.fu u.1.sgu u.1.lene u.1.fe u.1.sge u.1.lenp u.1.fp u.1.sgp u.1.lenq u.1.fq u.1.sgq u.1.leno u.1.fo u.1.sgo u.1.lenr u.1.fr u.1.sgr u.1.tw u.1.iv u.1.hw u.1.qw u.1.gg u.1.ln u.1.sn) t.heap ∧ va_D (va_A ([(ou, .inl (cJ, 1, .inr (.inl o1)))] ++ dw x0 gv cl d0 h0d q0d h0u q0u h0e q0e h0p q0p h0q q0q h0o q0o h0r q0r cA cJ cW D.n D.sv D.a D.lend D.fd D.sgd D.lenu D.fu D.sgu D.lene D.fe D.sge D.lenp D.fp D.sgp D.lenq D.fq D.sgq D.leno D.fo D.sgo D.lenr D.fr D.sgr D.tw D.iv D.hw D.qw D.gg D.ln D.sn) sz) ([(ou, .inl (cJ, 1, .inr (.inl u.2)))] ++ dw x0 gv cl d0 h0d q0d h0u q0u h0e q0e h0p q0p h0q q0q h0o q0o h0r q0r cA cJ cW u.1.n u.1.sv u.1.a u.1.lend u.1.fd u.1.sgd u.1.lenu u.1.fu u.1.sgu u.1.lene u.1.fe u.1.sge u.1.lenp u.1.fp u.1.sgp u.1.lenq u.1.fq u.1.sgq u.1.leno u.1.fo u.1.sgo u.1.lenr u.1.fr u.1.sgr u.1.tw u.1.iv u.1.hw u.1.qw u.1.gg u.1.ln u.1.sn)) (va_A ([(ou, .inl (cJ, 1, .inr (.inl o1)))] ++ dw x0 gv cl d0 h0d q0d h0u q0u h0e q0e h0p q0p h0q q0q h0o q0o h0r q0r cA cJ cW D.n D.sv D.a D.lend D.fd D.sgd D.lenu D.fu D.sgu D.lene D.fe D.sge D.lenp D.fp D.sgp D.lenq D.fq D.sgq D.leno D.fo D.sgo D.lenr D.fr D.sgr D.tw D.iv D.hw D.qw D.gg D.ln D.sn) sz)) (vx_X (S := Unit) (fun _ => False) (fun _ _ _ => True) (va_A ([(ou, .inl (cJ, 1, .inr (.inl o1)))] ++ dw x0 gv cl d0 h0d q0d h0u q0u h0e q0e h0p q0p h0q q0q h0o q0o h0r q0r cA cJ cW D.n D.sv D.a D.lend D.fd D.sgd D.lenu D.fu D.sgu D.lene D.fe D.sge D.lenp D.fp D.sgp D.lenq D.fq D.sgq D.leno D.fo D.sgo D.lenr D.fr D.sgr D.tw D.iv D.hw D.qw D.gg D.ln D.sn) sz)) 1 6 (va_A ([(ou, .inl (cJ, 1, .inr (.inl o1)))] ++ dw x0 gv cl d0 h0d q0d h0u q0u h0e q0e h0p q0p h0q q0q h0o q0o h0r q0r cA cJ cW D.n D.sv D.a D.lend D.fd D.sgd D.lenu D.fu D.sgu D.lene D.fe D.sge D.lenp D.fp D.sgp D.lenq D.fq D.sgq D.leno D.fo D.sgo D.lenr D.fr D.sgr D.tw D.iv D.hw D.qw D.gg D.ln D.sn) sz) := by
  refine vx_ofWH (cc := b_Law_compare) (maxL := 5) (ret := (some .int)) (hh := hh_Law_compare) (by decide) rfl ?_
  intro p e s m args below meth c s₁ B hml hv
  obtain ⟨⟨rfl, hsz, hP, hK, hD0⟩, hE⟩ := hv
  have hx := B.exec
  have hb := B.bytes
  have hr := B.returns
  have hts : ∀ w ∈ gw_tbl, w.before ([.ref x0, .int j, .int k, .ref ou] : List Value).toArray s = true := fun w h => atoms_spec (ws := w_Law_compare) B.pre w (List.mem_cons_of_mem _ h)
  have htab : c.exceptionTable.toList = tableOf hh_Law_compare := vx_table (x := y_Law_compare) B (atoms_spec (ws := w_Law_compare) B.pre _ List.mem_cons_self)
  have hown : s.vm.findClass R_Law = some m.cls := findClass_of_methodNamed B.named
  have hlocks := B.notSynchronized
  subst hsz
  have hD := hD0.self (sz := s.heap.size)
  generalize hAe : va_A ([(ou, .inl (cJ, 1, .inr (.inl o1)))] ++ dw x0 gv cl d0 h0d q0d h0u q0u h0e q0e h0p q0p h0q q0q h0o q0o h0r q0r cA cJ cW D.n D.sv D.a D.lend D.fd D.sgd D.lenu D.fu D.sgu D.lene D.fe D.sge D.lenp D.fp D.sgp D.lenq D.fq D.sgq D.leno D.fo D.sgo D.lenr D.fr D.sgr D.tw D.iv D.hw D.qw D.gg D.ln D.sn) s.heap.size = A at hD hE ⊢
  have hA : ∀ q : Nat, s.heap.size ≤ q → A q := fun q h => by rw [← hAe]; exact Or.inr h
  have hS : va_S A s.heap s.heap [] := va_S.rf
  have hl := lv_entry ([.ref x0, .int j, .int k, .ref ou]) (n := 5) (Nat.le_of_ble_eq_true rfl)
  rw [lg_entry_eq]
  generalize (lg_sl ([.ref x0, .int j, .int k, .ref ou]) ++ List.replicate (5 - (lg_sl ([.ref x0, .int j, .int k, .ref ou])).length) Slot.unset).toArray = ls at hl ⊢
  have hl : lv_has ls 5 [(0, .ref x0), (1, .int j), (2, .int k), (3, .ref ou)] := hl
  refine lv_aload_n hx hb d_Law_compare_0 rfl (lv_at hl 3 rfl) ?_
  refine lv_iconst (v := nI 0) hx hb d_Law_compare_1 rfl ?_
  refine lv_aload_n hx hb d_Law_compare_2 rfl (lv_at hl 0 rfl) ?_
  refine lv_iload_n hx hb d_Law_compare_3 rfl (lv_at hl 1 rfl) ?_
  refine lv_iload_n hx hb d_Law_compare_4 rfl (lv_at hl 2 rfl) ?_
  have hPc := xz_P hP
  have hDc := (xz_D hD).weaken (B := fun _ => True) (fun _ _ _ _ => trivial)
  have hFc := xz_F hD hS hA
  refine vx_calli (vx_runV (As := [.int j, .int k]) (rest := [.int (nI 0), .ref ou]) ⟨hx, hb, hml, hown, hts⟩ (c_Desk_compare l hlt dC dI s.heap.size x0 gv cl d0 h0d q0d h0u q0u h0e q0e h0p q0p h0q q0q h0o q0o h0r q0r cA cJ cW D j k hG) (cwV 2 hts (gw_V k_ml_Law_31 k_im_Desk_compare k_sel_Desk_compare k_ini_Desk k_code_Desk_compare) rfl rfl rfl (by decide +kernel) ⟨(Nat.le_of_ble_eq_true rfl), (Nat.le_of_ble_eq_true rfl)⟩) ⟨xc_X_blind, va_recv hK hPc (ci := 0) (q0 := 0) rfl rfl, fun U hU hW => ⟨⟨rfl, by rw [hU], by rw [hU]; exact hPc, va_K.moved hW.alike hK, hDc⟩, by rw [hU]; exact (hE.narrow hFc).moved hW.alike⟩⟩ rfl rfl hl.1 rfl (lv_room (Nat.le_of_ble_eq_true rfl)) d_Law_compare_5 ⟨(Nat.le_of_ble_eq_true rfl), (Nat.le_of_ble_eq_true rfl)⟩) hS (fun q _ h => hFc q h) hFc (fun q _ h => hFc q h) (fun E ce q9 u t_ H locs ht_ hvm_ hpx hBX hz1 hk1 hS hce hcv hcl => ?_) (fun r_ u t_ H locs ht_ hvm_ hw hB hz1 hk1 hS => ?_)
  · obtain ⟨hc, hP1, hD1⟩ := hBX
    rw [ht_] at hP1
    obtain ⟨hP, hD⟩ := xz_1 hP hD hk1 hFc hP1 hD1
    rcases hc with ⟨hcE, hc⟩ | ⟨hcE, hc⟩
    · subst hcE
      refine vx_catch (pc := 5) hown [] (⟨0, 10, 13, 25⟩ : ExceptionTableEntry) [(⟨0, 10, 17, 19⟩ : ExceptionTableEntry)] htab (fun z hz => by cases hz) (by decide) (by decide) (hts _ k_cl_Law_25) (va_Nw.use rfl (hE.2.2.1 _ (List.mem_of_getElem? (i := 2) rfl))) hce hcv hcl ?_
      refine W.eq (g2 := F0 m 13 ls [.ref q9]) rfl ?_
      refine lv_astore (lv' := [(4, .ref q9), (0, .ref x0), (1, .int j), (2, .int k), (3, .ref ou)]) hx hb d_Law_compare_13 hl (by decide) rfl (fun ls hl => ?_)
      refine lv_iconst (v := nI 1) hx hb d_Law_compare_15 rfl ?_
      refine vx_ret (W.widen (k := 1) (n := 6) (by omega) (by omega) ?_)
      exact W.iret (v := nI 1) hx hb hr (fun T_ ht_ hW_ => ⟨⟨_, (D, o1), rfl, Or.inr (Or.inl ⟨rfl, hc, rfl⟩), by show va_P (dC, dI) classes _ T_.heap; rw [ht_]; exact hP, hD⟩, hS.F ht_⟩) hS.2.2 d_Law_compare_16
    · subst hcE
      refine vx_catch (pc := 5) hown [(⟨0, 10, 13, 25⟩ : ExceptionTableEntry)] (⟨0, 10, 17, 19⟩ : ExceptionTableEntry) [] htab (fun z hz => by
                have e9 : z = (⟨0, 10, 13, 25⟩ : ExceptionTableEntry) := by simpa using hz
                subst e9
                exact Or.inr ⟨by decide, "java/lang/IllegalStateException", hts _ k_cl_Law_25, hE.2.2.2⟩) (by decide) (by decide) (hts _ k_cl_Law_19) (va_Nw.use rfl (hE.2.2.1 _ (List.mem_of_getElem? (i := 1) rfl))) hce hcv hcl ?_
      refine W.eq (g2 := F0 m 17 ls [.ref q9]) rfl ?_
      refine lv_astore (lv' := [(4, .ref q9), (0, .ref x0), (1, .int j), (2, .int k), (3, .ref ou)]) hx hb d_Law_compare_17 hl (by decide) rfl (fun ls hl => ?_)
      refine lv_iconst (v := nI 2) hx hb d_Law_compare_19 rfl ?_
      refine vx_ret (W.widen (k := 1) (n := 6) (by omega) (by omega) ?_)
      exact W.iret (v := nI 2) hx hb hr (fun T_ ht_ hW_ => ⟨⟨_, (D, o1), rfl, Or.inr (Or.inr ⟨rfl, hc, rfl⟩), by show va_P (dC, dI) classes _ T_.heap; rw [ht_]; exact hP, hD⟩, hS.F ht_⟩) hS.2.2 d_Law_compare_20
  · obtain ⟨hP1, hD1⟩ := hB
    rw [ht_] at hP1
    obtain ⟨hP, hD⟩ := xz_1 hP hD hk1 hFc hP1 hD1
    have hP : va_P (dC, dI) classes ([(ou, .inl (cJ, 1, .inr (.inl o1)))] ++ dw x0 gv cl d0 h0d q0d h0u q0u h0e q0e h0p q0p h0q q0q h0o q0o h0r q0r cA cJ cW D.n D.sv D.a D.lend D.fd D.sgd D.lenu D.fu D.sgu D.lene D.fe D.sge D.lenp D.fp D.sgp D.lenq D.fq D.sgq D.leno D.fo D.sgo D.lenr D.fr D.sgr D.tw D.iv D.hw D.qw D.gg D.ln D.sn) H := hP
    have hD : va_D A ([(ou, .inl (cJ, 1, .inr (.inl o1)))] ++ dw x0 gv cl d0 h0d q0d h0u q0u h0e q0e h0p q0p h0q q0q h0o q0o h0r q0r cA cJ cW D.n D.sv D.a D.lend D.fd D.sgd D.lenu D.fu D.sgu D.lene D.fe D.sge D.lenp D.fp D.sgp D.lenq D.fq D.sgq D.leno D.fo D.sgo D.lenr D.fr D.sgr D.tw D.iv D.hw D.qw D.gg D.ln D.sn) := hD
    refine lv_i2l (v := r_.toInt64) hx hb d_Law_compare_8 rfl ?_
    refine xn_last hx hb hK hP hD hS 0 1 rfl rfl (i := 0) (x := r_.toInt64) (by omega) (by omega) d_Law_compare_9 (fun H locs hP hD hS => ?_)
    have hP : va_P (dC, dI) classes ([(ou, .inl (cJ, 1, .inr (.inl (va_up o1 0 r_.toInt64))))] ++ dw x0 gv cl d0 h0d q0d h0u q0u h0e q0e h0p q0p h0q q0q h0o q0o h0r q0r cA cJ cW D.n D.sv D.a D.lend D.fd D.sgd D.lenu D.fu D.sgu D.lene D.fe D.sge D.lenp D.fp D.sgp D.lenq D.fq D.sgq D.leno D.fo D.sgo D.lenr D.fr D.sgr D.tw D.iv D.hw D.qw D.gg D.ln D.sn) H := hP
    have hD : va_D A ([(ou, .inl (cJ, 1, .inr (.inl (va_up o1 0 r_.toInt64))))] ++ dw x0 gv cl d0 h0d q0d h0u q0u h0e q0e h0p q0p h0q q0q h0o q0o h0r q0r cA cJ cW D.n D.sv D.a D.lend D.fd D.sgd D.lenu D.fu D.sgu D.lene D.fe D.sge D.lenp D.fp D.sgp D.lenq D.fq D.sgq D.leno D.fo D.sgo D.lenr D.fr D.sgr D.tw D.iv D.hw D.qw D.gg D.ln D.sn) := hD
    refine lv_goto (tgt := 21) hx hb d_Law_compare_10 (by decide) ?_
    refine lv_iconst (v := nI 0) hx hb d_Law_compare_21 rfl ?_
    refine vx_ret (W.widen (k := 1) (n := 6) (by omega) (by omega) ?_)
    exact W.iret (v := nI 0) hx hb hr (fun T_ ht_ hW_ => ⟨⟨_, (D, va_up o1 0 r_.toInt64), rfl, Or.inl ⟨rfl, r_, ⟨rfl, hw⟩, (show va_up o1 0 r_.toInt64 0 = r_.toInt64 from va_up_self ..)⟩, by show va_P (dC, dI) classes _ T_.heap; rw [ht_]; exact hP, hD⟩, hS.F ht_⟩) hS.2.2 d_Law_compare_22
set_option maxHeartbeats 8000000 in
set_option maxRecDepth 100000 in
/-- the law's Law_part -/
theorem c_Law_part (l : Launch) (hlt : l.stackTraces = false) (dC : Nat → ClassId) (dI : Nat → Nat → Nat) (sz : Nat) (x0 gv cl d0 h0d q0d h0u q0u h0e q0e h0p q0p h0q q0q h0o q0o h0r q0r : Nat) (cA cJ cW : ClassId) (ou : Nat) (D : dS) (o1 : Nat → Int64)  (b k : Int32) (hG : dG D) : vx_Met l y_Law_part w_Law_part ({ frames := 7, cells := 1, slots := 6, locals := 103 }) (xc_X [.ref x0, .int b, .int k, .ref ou] dC dI ([(ou, .inl (cJ, 1, .inr (.inl o1)))] ++ dw x0 gv cl d0 h0d q0d h0u q0u h0e q0e h0p q0p h0q q0q h0o q0o h0r q0r cA cJ cW D.n D.sv D.a D.lend D.fd D.sgd D.lenu D.fu D.sgu D.lene D.fe D.sge D.lenp D.fp D.sgp D.lenq D.fq D.sgq D.leno D.fo D.sgo D.lenr D.fr D.sgr D.tw D.iv D.hw D.qw D.gg D.ln D.sn) [(cA, .int), (cJ, .long), (cW, .object "EquationDesk$Whole")] sz) (va_Qi (S := dS × (Nat → Int64)) (fun rr u => (rr = 0 ∧ ∃ r : Int32, (u.1 = D ∧ (fun r u => ∃ k2 : Nat, k = nI k2 ∧ k2 < 2 ^ 31 ∧ r = nI ((if b = 0 then dN D else dE D) / 2 ^ (31 * k2) % 2147483648)) r ()) ∧ u.2 0 = r.toInt64) ∨ (rr = 1 ∧ (k < 0) ∧ u.1 = D)) (fun u t => va_P (dC, dI) classes ([(ou, .inl (cJ, 1, .inr (.inl u.2)))] ++ dw x0 gv cl d0 h0d q0d h0u q0u h0e q0e h0p q0p h0q q0q h0o q0o h0r q0r cA cJ cW u.1.n u.1.sv u.1.a u.1.lend u.1.fd u.1.sgd u.1.lenu u.1.fu u.1.sgu u.1.lene u.1.fe u.1.sge u.1.lenp u.1.fp u.1.sgp u.1.lenq u.1.fq u.1.sgq u.1.leno u.1.fo u.1.sgo u.1.lenr u.1.fr u.1.sgr u.1.tw u.1.iv u.1.hw u.1.qw u.1.gg u.1.ln u.1.sn) t.heap ∧ va_D (va_A ([(ou, .inl (cJ, 1, .inr (.inl o1)))] ++ dw x0 gv cl d0 h0d q0d h0u q0u h0e q0e h0p q0p h0q q0q h0o q0o h0r q0r cA cJ cW D.n D.sv D.a D.lend D.fd D.sgd D.lenu D.fu D.sgu D.lene D.fe D.sge D.lenp D.fp D.sgp D.lenq D.fq D.sgq D.leno D.fo D.sgo D.lenr D.fr D.sgr D.tw D.iv D.hw D.qw D.gg D.ln D.sn) sz) ([(ou, .inl (cJ, 1, .inr (.inl u.2)))] ++ dw x0 gv cl d0 h0d q0d h0u q0u h0e q0e h0p q0p h0q q0q h0o q0o h0r q0r cA cJ cW u.1.n u.1.sv u.1.a u.1.lend u.1.fd u.1.sgd u.1.lenu u.1.fu u.1.sgu u.1.lene u.1.fe u.1.sge u.1.lenp u.1.fp u.1.sgp u.1.lenq u.1.fq u.1.sgq u.1.leno u.1.fo u.1.sgo u.1.lenr u.1.fr u.1.sgr u.1.tw u.1.iv u.1.hw u.1.qw u.1.gg u.1.ln u.1.sn)) (va_A ([(ou, .inl (cJ, 1, .inr (.inl o1)))] ++ dw x0 gv cl d0 h0d q0d h0u q0u h0e q0e h0p q0p h0q q0q h0o q0o h0r q0r cA cJ cW D.n D.sv D.a D.lend D.fd D.sgd D.lenu D.fu D.sgu D.lene D.fe D.sge D.lenp D.fp D.sgp D.lenq D.fq D.sgq D.leno D.fo D.sgo D.lenr D.fr D.sgr D.tw D.iv D.hw D.qw D.gg D.ln D.sn) sz)) (vx_X (S := Unit) (fun _ => False) (fun _ _ _ => True) (va_A ([(ou, .inl (cJ, 1, .inr (.inl o1)))] ++ dw x0 gv cl d0 h0d q0d h0u q0u h0e q0e h0p q0p h0q q0q h0o q0o h0r q0r cA cJ cW D.n D.sv D.a D.lend D.fd D.sgd D.lenu D.fu D.sgu D.lene D.fe D.sge D.lenp D.fp D.sgp D.lenq D.fq D.sgq D.leno D.fo D.sgo D.lenr D.fr D.sgr D.tw D.iv D.hw D.qw D.gg D.ln D.sn) sz)) 1 6 (va_A ([(ou, .inl (cJ, 1, .inr (.inl o1)))] ++ dw x0 gv cl d0 h0d q0d h0u q0u h0e q0e h0p q0p h0q q0q h0o q0o h0r q0r cA cJ cW D.n D.sv D.a D.lend D.fd D.sgd D.lenu D.fu D.sgu D.lene D.fe D.sge D.lenp D.fp D.sgp D.lenq D.fq D.sgq D.leno D.fo D.sgo D.lenr D.fr D.sgr D.tw D.iv D.hw D.qw D.gg D.ln D.sn) sz) := by
  refine vx_ofWH (cc := b_Law_part) (maxL := 5) (ret := (some .int)) (hh := hh_Law_part) (by decide) rfl ?_
  intro p e s m args below meth c s₁ B hml hv
  obtain ⟨⟨rfl, hsz, hP, hK, hD0⟩, hE⟩ := hv
  have hx := B.exec
  have hb := B.bytes
  have hr := B.returns
  have hts : ∀ w ∈ gw_tbl, w.before ([.ref x0, .int b, .int k, .ref ou] : List Value).toArray s = true := fun w h => atoms_spec (ws := w_Law_part) B.pre w (List.mem_cons_of_mem _ h)
  have htab : c.exceptionTable.toList = tableOf hh_Law_part := vx_table (x := y_Law_part) B (atoms_spec (ws := w_Law_part) B.pre _ List.mem_cons_self)
  have hown : s.vm.findClass R_Law = some m.cls := findClass_of_methodNamed B.named
  have hlocks := B.notSynchronized
  subst hsz
  have hD := hD0.self (sz := s.heap.size)
  generalize hAe : va_A ([(ou, .inl (cJ, 1, .inr (.inl o1)))] ++ dw x0 gv cl d0 h0d q0d h0u q0u h0e q0e h0p q0p h0q q0q h0o q0o h0r q0r cA cJ cW D.n D.sv D.a D.lend D.fd D.sgd D.lenu D.fu D.sgu D.lene D.fe D.sge D.lenp D.fp D.sgp D.lenq D.fq D.sgq D.leno D.fo D.sgo D.lenr D.fr D.sgr D.tw D.iv D.hw D.qw D.gg D.ln D.sn) s.heap.size = A at hD hE ⊢
  have hA : ∀ q : Nat, s.heap.size ≤ q → A q := fun q h => by rw [← hAe]; exact Or.inr h
  have hS : va_S A s.heap s.heap [] := va_S.rf
  have hl := lv_entry ([.ref x0, .int b, .int k, .ref ou]) (n := 5) (Nat.le_of_ble_eq_true rfl)
  rw [lg_entry_eq]
  generalize (lg_sl ([.ref x0, .int b, .int k, .ref ou]) ++ List.replicate (5 - (lg_sl ([.ref x0, .int b, .int k, .ref ou])).length) Slot.unset).toArray = ls at hl ⊢
  have hl : lv_has ls 5 [(0, .ref x0), (1, .int b), (2, .int k), (3, .ref ou)] := hl
  refine lv_aload_n hx hb d_Law_part_0 rfl (lv_at hl 3 rfl) ?_
  refine lv_iconst (v := nI 0) hx hb d_Law_part_1 rfl ?_
  refine lv_aload_n hx hb d_Law_part_2 rfl (lv_at hl 0 rfl) ?_
  refine lv_iload_n hx hb d_Law_part_3 rfl (lv_at hl 1 rfl) ?_
  refine lv_iload_n hx hb d_Law_part_4 rfl (lv_at hl 2 rfl) ?_
  have hPc := xz_P hP
  have hDc := (xz_D hD).weaken (B := fun _ => True) (fun _ _ _ _ => trivial)
  have hFc := xz_F hD hS hA
  refine vx_calli (vx_runV (As := [.int b, .int k]) (rest := [.int (nI 0), .ref ou]) ⟨hx, hb, hml, hown, hts⟩ (c_Desk_part l hlt dC dI s.heap.size x0 gv cl d0 h0d q0d h0u q0u h0e q0e h0p q0p h0q q0q h0o q0o h0r q0r cA cJ cW D b k hG) (cwV 2 hts (gw_V k_ml_Law_35 k_im_Desk_part k_sel_Desk_part k_ini_Desk k_code_Desk_part) rfl rfl rfl (by decide +kernel) ⟨(Nat.le_of_ble_eq_true rfl), (Nat.le_of_ble_eq_true rfl)⟩) ⟨xc_X_blind, va_recv hK hPc (ci := 0) (q0 := 0) rfl rfl, fun U hU hW => ⟨⟨rfl, by rw [hU], by rw [hU]; exact hPc, va_K.moved hW.alike hK, hDc⟩, by rw [hU]; exact (hE.narrow hFc).moved hW.alike⟩⟩ rfl rfl hl.1 rfl (lv_room (Nat.le_of_ble_eq_true rfl)) d_Law_part_5 ⟨(Nat.le_of_ble_eq_true rfl), (Nat.le_of_ble_eq_true rfl)⟩) hS (fun q _ h => hFc q h) hFc (fun q _ h => hFc q h) (fun E ce q9 u t_ H locs ht_ hvm_ hpx hBX hz1 hk1 hS hce hcv hcl => ?_) (fun r_ u t_ H locs ht_ hvm_ hw hB hz1 hk1 hS => ?_)
  · obtain ⟨hc, hP1, hD1⟩ := hBX
    rw [ht_] at hP1
    obtain ⟨hP, hD⟩ := xz_1 hP hD hk1 hFc hP1 hD1
    obtain ⟨hcE, hc⟩ := hc
    subst hcE
    refine vx_catch (pc := 5) hown [] (⟨0, 10, 13, 19⟩ : ExceptionTableEntry) [] htab (fun z hz => by cases hz) (by decide) (by decide) (hts _ k_cl_Law_19) (va_Nw.use rfl (hE.2.2.1 _ (List.mem_of_getElem? (i := 1) rfl))) hce hcv hcl ?_
    refine W.eq (g2 := F0 m 13 ls [.ref q9]) rfl ?_
    refine lv_astore (lv' := [(4, .ref q9), (0, .ref x0), (1, .int b), (2, .int k), (3, .ref ou)]) hx hb d_Law_part_13 hl (by decide) rfl (fun ls hl => ?_)
    refine lv_iconst (v := nI 1) hx hb d_Law_part_15 rfl ?_
    refine vx_ret (W.widen (k := 1) (n := 6) (by omega) (by omega) ?_)
    exact W.iret (v := nI 1) hx hb hr (fun T_ ht_ hW_ => ⟨⟨_, (D, o1), rfl, Or.inr ⟨rfl, hc, rfl⟩, by show va_P (dC, dI) classes _ T_.heap; rw [ht_]; exact hP, hD⟩, hS.F ht_⟩) hS.2.2 d_Law_part_16
  · obtain ⟨hP1, hD1⟩ := hB
    rw [ht_] at hP1
    obtain ⟨hP, hD⟩ := xz_1 hP hD hk1 hFc hP1 hD1
    have hP : va_P (dC, dI) classes ([(ou, .inl (cJ, 1, .inr (.inl o1)))] ++ dw x0 gv cl d0 h0d q0d h0u q0u h0e q0e h0p q0p h0q q0q h0o q0o h0r q0r cA cJ cW D.n D.sv D.a D.lend D.fd D.sgd D.lenu D.fu D.sgu D.lene D.fe D.sge D.lenp D.fp D.sgp D.lenq D.fq D.sgq D.leno D.fo D.sgo D.lenr D.fr D.sgr D.tw D.iv D.hw D.qw D.gg D.ln D.sn) H := hP
    have hD : va_D A ([(ou, .inl (cJ, 1, .inr (.inl o1)))] ++ dw x0 gv cl d0 h0d q0d h0u q0u h0e q0e h0p q0p h0q q0q h0o q0o h0r q0r cA cJ cW D.n D.sv D.a D.lend D.fd D.sgd D.lenu D.fu D.sgu D.lene D.fe D.sge D.lenp D.fp D.sgp D.lenq D.fq D.sgq D.leno D.fo D.sgo D.lenr D.fr D.sgr D.tw D.iv D.hw D.qw D.gg D.ln D.sn) := hD
    refine lv_i2l (v := r_.toInt64) hx hb d_Law_part_8 rfl ?_
    refine xn_last hx hb hK hP hD hS 0 1 rfl rfl (i := 0) (x := r_.toInt64) (by omega) (by omega) d_Law_part_9 (fun H locs hP hD hS => ?_)
    have hP : va_P (dC, dI) classes ([(ou, .inl (cJ, 1, .inr (.inl (va_up o1 0 r_.toInt64))))] ++ dw x0 gv cl d0 h0d q0d h0u q0u h0e q0e h0p q0p h0q q0q h0o q0o h0r q0r cA cJ cW D.n D.sv D.a D.lend D.fd D.sgd D.lenu D.fu D.sgu D.lene D.fe D.sge D.lenp D.fp D.sgp D.lenq D.fq D.sgq D.leno D.fo D.sgo D.lenr D.fr D.sgr D.tw D.iv D.hw D.qw D.gg D.ln D.sn) H := hP
    have hD : va_D A ([(ou, .inl (cJ, 1, .inr (.inl (va_up o1 0 r_.toInt64))))] ++ dw x0 gv cl d0 h0d q0d h0u q0u h0e q0e h0p q0p h0q q0q h0o q0o h0r q0r cA cJ cW D.n D.sv D.a D.lend D.fd D.sgd D.lenu D.fu D.sgu D.lene D.fe D.sge D.lenp D.fp D.sgp D.lenq D.fq D.sgq D.leno D.fo D.sgo D.lenr D.fr D.sgr D.tw D.iv D.hw D.qw D.gg D.ln D.sn) := hD
    refine lv_goto (tgt := 17) hx hb d_Law_part_10 (by decide) ?_
    refine lv_iconst (v := nI 0) hx hb d_Law_part_17 rfl ?_
    refine vx_ret (W.widen (k := 1) (n := 6) (by omega) (by omega) ?_)
    exact W.iret (v := nI 0) hx hb hr (fun T_ ht_ hW_ => ⟨⟨_, (D, va_up o1 0 r_.toInt64), rfl, Or.inl ⟨rfl, r_, ⟨rfl, hw⟩, (show va_up o1 0 r_.toInt64 0 = r_.toInt64 from va_up_self ..)⟩, by show va_P (dC, dI) classes _ T_.heap; rw [ht_]; exact hP, hD⟩, hS.F ht_⟩) hS.2.2 d_Law_part_18
-- THE LAW: HOW THE DESK STANDS TO THE REFERENCE, AND WHAT EACH CALL KEEPS OF IT
abbrev dv (x0 gv cl d0 h0d q0d h0u q0u h0e q0e h0p q0p h0q q0q h0o q0o h0r q0r : Nat) (cA cJ cW : ClassId) (D : dS) : va_W := dw x0 gv cl d0 h0d q0d h0u q0u h0e q0e h0p q0p h0q q0q h0o q0o h0r q0r cA cJ cW D.n D.sv D.a D.lend D.fd D.sgd D.lenu D.fu D.sgu D.lene D.fe D.sge D.lenp D.fp D.sgp D.lenq D.fq D.sgq D.leno D.fo D.sgo D.lenr D.fr D.sgr D.tw D.iv D.hw D.qw D.gg D.ln D.sn
abbrev mv (m0 ma mS mt mo mb mg mh mr : Nat) (cA cJ : ClassId) (M : mT) : va_W := mw m0 ma mS mt mo mb mg mh mr cA cJ M.er M.n M.sv M.a M.S M.ft M.fo M.fb M.fg M.fh M.fr
abbrev ob (ou : Nat) (cJ : ClassId) (o1 : Nat → Int64) : va_W := [(ou, .inl (cJ, 1, .inr (.inl o1)))]
def lw_R (D : dS) (M : mT) : Prop := dG D ∧ mG M ∧ D.n = M.n ∧ D.sv = M.sv ∧ D.a = M.a ∧ dN D = dg_v M.fo 56 ∧ dE D = dg_v M.fb 56
theorem lr_i {i : Int32} {a : Nat} (h : i = nI a) (ha : a ≤ 12) : i.toInt = (a : Int) := by rw [h]; exact nI_toInt (by omega)
theorem lr_u {i : Int32} {a b : Nat} (h : i = nI a) (ha : a ≤ 12) (h2 : i = nI b) (hb : b ≤ 12) : a = b := (nI_eq (by omega) (by omega)).mp (h.symm.trans h2)
theorem lr_size {D : dS} {M : mT} {k : Int32} {rr : Int32} {u : dS × (Nat → Int64)} {w : mT} (hR : lw_R D M) (h1 : (fun (rr : Int32) (u : dS × (Nat → Int64)) => (rr = 0 ∧ (fun u => dG u ∧ (u.n : Int) = k.toInt ∧ 0 ≤ k.toInt ∧ k.toInt ≤ 12 ∧ u.sv = 0 ∧ u.a = (fun _ => 0) ∧ dN u = dN D ∧ dE u = dE D) u.1) ∨ (rr = 1 ∧ (¬ (0 ≤ k.toInt ∧ k.toInt ≤ 12)) ∧ u.1 = D)) rr u) (h2 : (fun (u : mT) => mG u ∧ ((0 ≤ k.toInt ∧ k.toInt ≤ 12 ∧ u.er = 0 ∧ (u.n : Int) = k.toInt ∧ u.sv = 0 ∧ u.a = fun _ => 0) ∨ (¬ (0 ≤ k.toInt ∧ k.toInt ≤ 12) ∧ u.er = 1 ∧ u.n = M.n ∧ u.sv = M.sv ∧ u.a = M.a)) ∧ u.fo = M.fo ∧ u.fb = M.fb) w) : w.er = rr ∧ lw_R u.1 w := by
  obtain ⟨g1, g2, e1, e2, e3, e4, e5⟩ := hR
  have hn : M.n ≤ 12 := g2.1
  obtain ⟨m1, m2, m3, m4⟩ := h2
  rcases h1 with ⟨hr, q1, q2, q3, q4, q5, q6, q7, q8⟩ | ⟨hr, q1, q2⟩
  · rcases m2 with ⟨w1, w2, w3, w4, w5, w6⟩ | ⟨w1, -⟩
    · exact ⟨by rw [w3, hr], q1, m1, by have := q2.trans w4.symm; omega, by rw [q5, w5], by rw [q6, w6], by rw [q7, m3]; exact e4, by rw [q8, m4]; exact e5⟩
    · exact absurd ⟨q3, q4⟩ w1
  · rcases m2 with ⟨w1, w2, -⟩ | ⟨w1, w2, w3, w4, w5⟩
    · exact absurd ⟨w1, w2⟩ q1
    · rw [q2]
      exact ⟨by rw [w2, hr], g1, m1, by rw [w3, e1], by rw [w4, e2], by rw [w5, e3], by rw [m3]; exact e4, by rw [m4]; exact e5⟩
theorem lr_put {D : dS} {M : mT} {i j : Int32} {v : Int64} {r2 : Int64} {rr : Int32} {u : dS × (Nat → Int64)} {w : mT} (hR : lw_R D M) (h1 : (fun (rr : Int32) (u : dS × (Nat → Int64)) => (rr = 0 ∧ ∃ r : Int64, (fun r u => dG u ∧ (∃ i2 j2 : Nat, i = nI i2 ∧ j = nI j2 ∧ i2 < D.n ∧ j2 ≤ D.n ∧ r = D.a (i2 * 13 + j2) ∧ u.a = va_up D.a (i2 * 13 + j2) v) ∧ u.n = D.n ∧ u.sv = 0 ∧ dN u = dN D ∧ dE u = dE D) r u.1 ∧ u.2 0 = r) ∨ (rr = 1 ∧ (¬ (0 ≤ i.toInt ∧ i.toInt < D.n ∧ 0 ≤ j.toInt ∧ j.toInt ≤ D.n)) ∧ u.1 = D)) rr u) (h2 : (fun (r : Int64) (u : mT) => mG u ∧ ((∃ i2 j2 : Nat, i = nI i2 ∧ j = nI j2 ∧ i2 < M.n ∧ j2 ≤ M.n ∧ u.er = 0 ∧ r = M.a (i2 * 13 + j2) ∧ u.a = va_up M.a (i2 * 13 + j2) v ∧ u.sv = 0) ∨ (¬ (0 ≤ i.toInt ∧ i.toInt < M.n ∧ 0 ≤ j.toInt ∧ j.toInt ≤ M.n) ∧ u.er = 1 ∧ u.sv = M.sv ∧ u.a = M.a)) ∧ u.n = M.n ∧ u.fo = M.fo ∧ u.fb = M.fb) r2 w) : w.er = rr ∧ (rr = 0 → u.2 0 = r2) ∧ lw_R u.1 w := by
  obtain ⟨g1, g2, e1, e2, e3, e4, e5⟩ := hR
  have hn : M.n ≤ 12 := g2.1
  obtain ⟨m1, m2, m3, m4, m5⟩ := h2
  rcases h1 with ⟨hr, r, ⟨q1, ⟨i1, j1, a1, a2, a3, a4, a5, a6⟩, q3, q4, q5, q6⟩, q7⟩ | ⟨hr, q1, q2⟩
  · have x1 := lr_i a1 (by omega)
    have x2 := lr_i a2 (by omega)
    rcases m2 with ⟨i2, j2, b1, b2, b3, b4, b5, b6, b7, b8⟩ | ⟨c1, -⟩
    · have y1 : i1 = i2 := lr_u a1 (by omega) b1 (by omega)
      have y2 : j1 = j2 := lr_u a2 (by omega) b2 (by omega)
      subst y1
      subst y2
      exact ⟨by rw [b5, hr], fun _ => by rw [q7, a5, b6, e3], q1, m1, by rw [q3, m3, e1], by rw [q4, b8], by rw [a6, b7, e3], by rw [q5, m4]; exact e4, by rw [q6, m5]; exact e5⟩
    · exact absurd (by omega) c1
  · rcases m2 with ⟨i2, j2, b1, b2, b3, b4, -⟩ | ⟨c1, c2, c3, c4⟩
    · have x1 := lr_i b1 (by omega)
      have x2 := lr_i b2 (by omega)
      exact absurd (by omega) q1
    · rw [q2]
      exact ⟨by rw [c2, hr], fun h => absurd (hr.symm.trans h) (by decide), g1, m1, by rw [m3, e1], by rw [c3, e2], by rw [c4, e3], by rw [m4]; exact e4, by rw [m5]; exact e5⟩
theorem lr_solve {D : dS} {M : mT} {r r2 : Int32} {u : dS} {w : mT} (hR : lw_R D M) (h1 : (fun (r : Int32) (u : dS) => dG u ∧ r = u.sv ∧ u.n = D.n ∧ u.a = D.a ∧ (u.sv = 1 ↔ dt_d (dA D.a) D.n ≠ 0) ∧ dN u = dN D ∧ dE u = dE D) r u) (h2 : (fun (r : Int32) (u : mT) => mG u ∧ r = u.sv ∧ u.er = 0 ∧ u.n = M.n ∧ u.a = M.a ∧ (u.sv = 1 ↔ dt_d (dA M.a) M.n ≠ 0) ∧ u.fo = M.fo ∧ u.fb = M.fb) r2 w) : r = r2 ∧ lw_R u w := by
  obtain ⟨g1, g2, e1, e2, e3, e4, e5⟩ := hR
  obtain ⟨q1, q2, q3, q4, q5, q6, q7⟩ := h1
  obtain ⟨m1, m2, m3, m4, m5, m6, m7, m8⟩ := h2
  rw [e1, e3] at q5
  have y : u.sv = w.sv := by
    rcases q1.2.1 with z | z
    · rcases m1.2.1 with z2 | z2
      · rw [z, z2]
      · exact absurd (z.symm.trans (q5.mpr (m6.mp z2))) (by decide)
    · rw [z, m6.mpr (q5.mp z)]
  exact ⟨by rw [q2, m2, y], q1, m1, by rw [q3, m4, e1], y, by rw [q4, m5, e3], by rw [q6, m7]; exact e4, by rw [q7, m8]; exact e5⟩
theorem lr_unknown {D : dS} {M : mT} {k : Int32} {r2 : Int32} {rr : Int32} {u : dS × (Nat → Int64)} {w : mT} (hR : lw_R D M) (h1 : (fun (rr : Int32) (u : dS × (Nat → Int64)) => (rr = 0 ∧ ∃ r : Int32, (fun r u => dG u ∧ (∃ k2 : Nat, k = nI k2 ∧ k2 < D.n ∧ D.sv = 1 ∧ r.toInt = (dt_y (dA D.a) k2 (D.n - 1 - k2) D.n).sign * (dt_d (dA D.a) D.n).sign ∧ dN u = (dt_y (dA D.a) k2 (D.n - 1 - k2) D.n).natAbs / (Nat.gcd (dt_y (dA D.a) k2 (D.n - 1 - k2) D.n).natAbs (dt_d (dA D.a) D.n).natAbs) ∧ dE u = (dt_d (dA D.a) D.n).natAbs / (Nat.gcd (dt_y (dA D.a) k2 (D.n - 1 - k2) D.n).natAbs (dt_d (dA D.a) D.n).natAbs)) ∧ u.n = D.n ∧ u.sv = D.sv ∧ u.a = D.a) r u.1 ∧ u.2 0 = r.toInt64) ∨ (rr = 1 ∧ (D.sv = 0) ∧ u.1 = D) ∨ (rr = 2 ∧ (D.sv = 1 ∧ ¬ (0 ≤ k.toInt ∧ k.toInt < D.n)) ∧ u.1 = D)) rr u) (h2 : (fun (r : Int32) (u : mT) => mG u ∧ ((M.sv = 0 ∧ u.er = 1 ∧ u.fo = M.fo ∧ u.fb = M.fb) ∨ (M.sv = 1 ∧ ¬ (0 ≤ (k).toInt ∧ (k).toInt < M.n) ∧ u.er = 2 ∧ u.fo = M.fo ∧ u.fb = M.fb) ∨ (∃ k2 : Nat, k = nI k2 ∧ k2 < M.n ∧ M.sv = 1 ∧ u.er = 0 ∧ r.toInt = (dt_y (dA M.a) k2 (M.n - 1 - k2) M.n).sign * (dt_d (dA M.a) M.n).sign ∧ dg_v u.fo 56 = (dt_y (dA M.a) k2 (M.n - 1 - k2) M.n).natAbs / (Nat.gcd (dt_y (dA M.a) k2 (M.n - 1 - k2) M.n).natAbs (dt_d (dA M.a) M.n).natAbs) ∧ dg_v u.fb 56 = (dt_d (dA M.a) M.n).natAbs / (Nat.gcd (dt_y (dA M.a) k2 (M.n - 1 - k2) M.n).natAbs (dt_d (dA M.a) M.n).natAbs))) ∧ u.n = M.n ∧ u.sv = M.sv ∧ u.a = M.a) r2 w) : w.er = rr ∧ (rr = 0 → u.2 0 = r2.toInt64) ∧ lw_R u.1 w := by
  obtain ⟨g1, g2, e1, e2, e3, e4, e5⟩ := hR
  have hn : M.n ≤ 12 := g2.1
  obtain ⟨m1, m2, m3, m4, m5⟩ := h2
  rcases h1 with ⟨hr, r, ⟨q1, ⟨k1, a1, a2, a3, a4, a5, a6⟩, q3, q4, q5⟩, q6⟩ | ⟨hr, q1, q2⟩ | ⟨hr, ⟨q1, q3⟩, q2⟩
  · have x1 := lr_i a1 (by omega)
    rw [e2] at a3
    rcases m2 with ⟨c1, -⟩ | ⟨-, c1, -⟩ | ⟨k2, b1, b2, b3, b4, b5, b6, b7⟩
    · exact absurd (a3.symm.trans c1) (by decide)
    · exact absurd (by omega) c1
    · have y1 : k1 = k2 := lr_u a1 (by omega) b1 (by omega)
      subst y1
      rw [e1, e3] at a4 a5 a6
      have y3 : r = r2 := Int32.toInt_inj.mp (a4.trans b5.symm)
      exact ⟨by rw [b4, hr], fun _ => by rw [q6, y3], q1, m1, by rw [q3, m3, e1], by rw [q4, m4, e2], by rw [q5, m5, e3], a5.trans b6.symm, a6.trans b7.symm⟩
  · rw [e2] at q1
    rcases m2 with ⟨c1, c2, c3, c4⟩ | ⟨c1, -⟩ | ⟨k2, b1, b2, b3, -⟩
    · rw [q2]
      exact ⟨by rw [c2, hr], fun h => absurd (hr.symm.trans h) (by decide), g1, m1, by rw [m3, e1], by rw [m4, e2], by rw [m5, e3], by rw [c3]; exact e4, by rw [c4]; exact e5⟩
    · exact absurd (q1.symm.trans c1) (by decide)
    · exact absurd (q1.symm.trans b3) (by decide)
  · rw [e2] at q1
    rcases m2 with ⟨c1, -⟩ | ⟨-, c1, c2, c3, c4⟩ | ⟨k2, b1, b2, b3, -⟩
    · exact absurd (q1.symm.trans c1) (by decide)
    · rw [q2]
      exact ⟨by rw [c2, hr], fun h => absurd (hr.symm.trans h) (by decide), g1, m1, by rw [m3, e1], by rw [m4, e2], by rw [m5, e3], by rw [c3]; exact e4, by rw [c4]; exact e5⟩
    · have x1 := lr_i b1 (by omega)
      exact absurd (by omega) q3
theorem lr_determinant {D : dS} {M : mT} {r2 : Int32} {rr : Int32} {u : dS × (Nat → Int64)} {w : mT} (hR : lw_R D M) (h1 : (fun (rr : Int32) (u : dS × (Nat → Int64)) => (rr = 0 ∧ ∃ r : Int32, (fun r u => dG u ∧ (D.sv = 1 ∧ r.toInt = (dt_d (dA D.a) D.n).sign ∧ dN u = (dt_d (dA D.a) D.n).natAbs ∧ dE u = 1) ∧ u.n = D.n ∧ u.sv = D.sv ∧ u.a = D.a) r u.1 ∧ u.2 0 = r.toInt64) ∨ (rr = 1 ∧ (D.sv = 0) ∧ u.1 = D)) rr u) (h2 : (fun (r : Int32) (u : mT) => mG u ∧ ((M.sv = 0 ∧ u.er = 1 ∧ u.fo = M.fo ∧ u.fb = M.fb) ∨ (M.sv = 1 ∧ u.er = 0 ∧ r.toInt = (dt_d (dA M.a) M.n).sign ∧ dg_v u.fo 56 = (dt_d (dA M.a) M.n).natAbs ∧ dg_v u.fb 56 = 1)) ∧ u.n = M.n ∧ u.sv = M.sv ∧ u.a = M.a) r2 w) : w.er = rr ∧ (rr = 0 → u.2 0 = r2.toInt64) ∧ lw_R u.1 w := by
  obtain ⟨g1, g2, e1, e2, e3, e4, e5⟩ := hR
  have hn : M.n ≤ 12 := g2.1
  obtain ⟨m1, m2, m3, m4, m5⟩ := h2
  rcases h1 with ⟨hr, r, ⟨q1, ⟨a3, a4, a5, a6⟩, q3, q4, q5⟩, q6⟩ | ⟨hr, q1, q2⟩
  · rw [e2] at a3
    rcases m2 with ⟨c1, -⟩ | ⟨b3, b4, b5, b6, b7⟩
    · exact absurd (a3.symm.trans c1) (by decide)
    · rw [e1, e3] at a4 a5
      have y3 : r = r2 := Int32.toInt_inj.mp (a4.trans b5.symm)
      exact ⟨by rw [b4, hr], fun _ => by rw [q6, y3], q1, m1, by rw [q3, m3, e1], by rw [q4, m4, e2], by rw [q5, m5, e3], a5.trans b6.symm, a6.trans b7.symm⟩
  · rw [e2] at q1
    rcases m2 with ⟨c1, c2, c3, c4⟩ | ⟨b3, -⟩
    · rw [q2]
      exact ⟨by rw [c2, hr], fun h => absurd (hr.symm.trans h) (by decide), g1, m1, by rw [m3, e1], by rw [m4, e2], by rw [m5, e3], by rw [c3]; exact e4, by rw [c4]; exact e5⟩
    · exact absurd (q1.symm.trans b3) (by decide)
theorem lr_compare {D : dS} {M : mT} {j k : Int32} {r2 : Int32} {rr : Int32} {u : dS × (Nat → Int64)} {w : mT} (hR : lw_R D M) (h1 : (fun (rr : Int32) (u : dS × (Nat → Int64)) => (rr = 0 ∧ ∃ r : Int32, (u.1 = D ∧ (fun r u => ∃ (j2 k2 : Nat) (sg : Int32), j = nI j2 ∧ k = nI k2 ∧ j2 < D.n ∧ k2 < D.n ∧ D.sv = 1 ∧ sg.toInt = (dt_d (dA D.a) D.n).sign ∧ r = wh_c (dt_y (dA D.a) j2 (D.n - 1 - j2) D.n) (dt_y (dA D.a) k2 (D.n - 1 - k2) D.n) * sg) r ()) ∧ u.2 0 = r.toInt64) ∨ (rr = 1 ∧ (D.sv = 0) ∧ u.1 = D) ∨ (rr = 2 ∧ (D.sv = 1 ∧ ¬ (0 ≤ j.toInt ∧ j.toInt < D.n ∧ 0 ≤ k.toInt ∧ k.toInt < D.n)) ∧ u.1 = D)) rr u) (h2 : (fun (r : Int32) (u : mT) => mG u ∧ ((M.sv = 0 ∧ u.er = 1) ∨ (M.sv = 1 ∧ ¬ (0 ≤ (j).toInt ∧ (j).toInt < M.n ∧ 0 ≤ (k).toInt ∧ (k).toInt < M.n) ∧ u.er = 2) ∨ (∃ j2 k2 : Nat, j = nI j2 ∧ k = nI k2 ∧ j2 < M.n ∧ k2 < M.n ∧ M.sv = 1 ∧ u.er = 0 ∧ r = wh_c (dt_y (dA M.a) j2 (M.n - 1 - j2) M.n) (dt_y (dA M.a) k2 (M.n - 1 - k2) M.n) * sgI (dt_d (dA M.a) M.n))) ∧ u.n = M.n ∧ u.sv = M.sv ∧ u.a = M.a ∧ u.fo = M.fo ∧ u.fb = M.fb) r2 w) : w.er = rr ∧ (rr = 0 → u.2 0 = r2.toInt64) ∧ lw_R u.1 w := by
  obtain ⟨g1, g2, e1, e2, e3, e4, e5⟩ := hR
  have hn : M.n ≤ 12 := g2.1
  obtain ⟨m1, m2, m3, m4, m5, m6, m7⟩ := h2
  rcases h1 with ⟨hr, r, ⟨q0, j1, k1, sg, a1, a2, a3, a4, a5, a6, a7⟩, q6⟩ | ⟨hr, q1, q2⟩ | ⟨hr, ⟨q1, q3⟩, q2⟩
  · have x1 := lr_i a1 (by omega)
    have x2 := lr_i a2 (by omega)
    rw [e2] at a5
    rcases m2 with ⟨c1, -⟩ | ⟨-, c1, -⟩ | ⟨j2, k2, b1, b2, b3, b4, b5, b6, b7⟩
    · exact absurd (a5.symm.trans c1) (by decide)
    · exact absurd (by omega) c1
    · have y1 : j1 = j2 := lr_u a1 (by omega) b1 (by omega)
      have y2 : k1 = k2 := lr_u a2 (by omega) b2 (by omega)
      subst y1
      subst y2
      rw [e1, e3] at a6 a7
      have y4 : sg = sgI (dt_d (dA M.a) M.n) := Int32.toInt_inj.mp (a6.trans (sgI_t _).symm)
      have y3 : r = r2 := by rw [a7, b7, y4]
      rw [q0]
      exact ⟨by rw [b6, hr], fun _ => by rw [q6, y3], g1, m1, by rw [m3, e1], by rw [m4, e2], by rw [m5, e3], by rw [m6]; exact e4, by rw [m7]; exact e5⟩
  · rw [e2] at q1
    rcases m2 with ⟨c1, c2⟩ | ⟨c1, -⟩ | ⟨j2, k2, b1, b2, b3, b4, b5, -⟩
    · rw [q2]
      exact ⟨by rw [c2, hr], fun h => absurd (hr.symm.trans h) (by decide), g1, m1, by rw [m3, e1], by rw [m4, e2], by rw [m5, e3], by rw [m6]; exact e4, by rw [m7]; exact e5⟩
    · exact absurd (q1.symm.trans c1) (by decide)
    · exact absurd (q1.symm.trans b5) (by decide)
  · rw [e2] at q1
    rcases m2 with ⟨c1, -⟩ | ⟨-, c1, c2⟩ | ⟨j2, k2, b1, b2, b3, b4, -⟩
    · exact absurd (q1.symm.trans c1) (by decide)
    · rw [q2]
      exact ⟨by rw [c2, hr], fun h => absurd (hr.symm.trans h) (by decide), g1, m1, by rw [m3, e1], by rw [m4, e2], by rw [m5, e3], by rw [m6]; exact e4, by rw [m7]; exact e5⟩
    · have x1 := lr_i b1 (by omega)
      have x2 := lr_i b2 (by omega)
      exact absurd (by omega) q3
theorem lr_part {D : dS} {M : mT} {b k : Int32} {r2 : Int32} {rr : Int32} {u : dS × (Nat → Int64)} {w : mT} (hR : lw_R D M) (h1 : (fun (rr : Int32) (u : dS × (Nat → Int64)) => (rr = 0 ∧ ∃ r : Int32, (u.1 = D ∧ (fun r u => ∃ k2 : Nat, k = nI k2 ∧ k2 < 2 ^ 31 ∧ r = nI ((if b = 0 then dN D else dE D) / 2 ^ (31 * k2) % 2147483648)) r ()) ∧ u.2 0 = r.toInt64) ∨ (rr = 1 ∧ (k < 0) ∧ u.1 = D)) rr u) (h2 : (fun (r : Int32) (u : mT) => mG u ∧ ((k < 0 ∧ u.er = 1) ∨ (∃ k2 : Nat, k = nI k2 ∧ k2 < 2 ^ 31 ∧ u.er = 0 ∧ r = nI ((if b = 0 then dg_v M.fo 56 else dg_v M.fb 56) / 2 ^ (31 * k2) % 2147483648))) ∧ u.n = M.n ∧ u.sv = M.sv ∧ u.a = M.a ∧ u.fo = M.fo ∧ u.fb = M.fb) r2 w) : w.er = rr ∧ (rr = 0 → u.2 0 = r2.toInt64) ∧ lw_R u.1 w := by
  obtain ⟨g1, g2, e1, e2, e3, e4, e5⟩ := hR
  obtain ⟨m1, m2, m3, m4, m5, m6, m7⟩ := h2
  rcases h1 with ⟨hr, r, ⟨q0, k1, a1, a2, a3⟩, q6⟩ | ⟨hr, q1, q2⟩
  · rcases m2 with ⟨c1, -⟩ | ⟨k2, b1, b2, b3, b4⟩
    · rw [a1] at c1
      exact absurd c1 (nI_pos a2)
    · have y1 : k1 = k2 := (nI_eq a2 b2).mp (a1.symm.trans b1)
      subst y1
      rw [e4, e5] at a3
      have y3 : r = r2 := a3.trans b4.symm
      rw [q0]
      exact ⟨by rw [b3, hr], fun _ => by rw [q6, y3], g1, m1, by rw [m3, e1], by rw [m4, e2], by rw [m5, e3], by rw [m6]; exact e4, by rw [m7]; exact e5⟩
  · rcases m2 with ⟨c1, c2⟩ | ⟨k2, b1, b2, b3, b4⟩
    · rw [q2]
      exact ⟨by rw [c2, hr], fun h => absurd (hr.symm.trans h) (by decide), g1, m1, by rw [m3, e1], by rw [m4, e2], by rw [m5, e3], by rw [m6]; exact e4, by rw [m7]; exact e5⟩
    · rw [b1] at q1
      exact absurd q1 (nI_pos b2)
theorem lr_bl {X a c : Nat} (h1 : X < 2 ^ a) (h2 : ∀ q, a = q + 1 → 2 ^ q ≤ X) (h3 : X < 2 ^ c) (h4 : ∀ q, c = q + 1 → 2 ^ q ≤ X) : a = c := by
  have key : ∀ x y : Nat, X < 2 ^ x → (∀ q, y = q + 1 → 2 ^ q ≤ X) → y ≤ x := by
    intro x y hx hy
    cases y with
    | zero => exact Nat.zero_le _
    | succ q =>
      have h5 := hy q rfl
      have h6 : 2 ^ q < 2 ^ x := Nat.lt_of_le_of_lt h5 hx
      have h7 := (Nat.pow_lt_pow_iff_right (by decide : 1 < 2)).mp h6
      omega
  have h8 := key a c h1 h4
  have h9 := key c a h3 h2
  omega
theorem lr_bits {D : dS} {M : mT} {b : Int32} {r r2 : Int32} {w : mT} (hR : lw_R D M) (h1 : (fun (r : Int32) => ∃ bl : Nat, r = nI bl ∧ bl ≤ 806 ∧ (if b = 0 then dN D else dE D) < 2 ^ bl ∧ ∀ q, bl = q + 1 → 2 ^ q ≤ (if b = 0 then dN D else dE D)) r) (h2 : (fun (r : Int32) (u : mT) => mG u ∧ (∃ bl : Nat, r = nI bl ∧ (if b = 0 then dg_v M.fo 56 else dg_v M.fb 56) < 2 ^ bl ∧ ∀ q, bl = q + 1 → 2 ^ q ≤ (if b = 0 then dg_v M.fo 56 else dg_v M.fb 56)) ∧ u.er = 0 ∧ u.n = M.n ∧ u.sv = M.sv ∧ u.a = M.a ∧ u.fo = M.fo ∧ u.fb = M.fb) r2 w) : r = r2 ∧ lw_R D w := by
  obtain ⟨g1, g2, e1, e2, e3, e4, e5⟩ := hR
  obtain ⟨bl, q1, q2, q3, q4⟩ := h1
  obtain ⟨m1, ⟨b2, c1, c2, c3⟩, m2, m3, m4, m5, m6, m7⟩ := h2
  rw [e4, e5] at q3
  have q5 : ∀ q, bl = q + 1 → 2 ^ q ≤ (if b = 0 then dg_v M.fo 56 else dg_v M.fb 56) := fun q hq => by rw [← e4, ← e5]; exact q4 q hq
  have y : bl = b2 := lr_bl q3 q5 c2 c3
  exact ⟨by rw [q1, c1, y], g1, m1, by rw [m3, e1], by rw [m4, e2], by rw [m5, e3], by rw [m6]; exact e4, by rw [m7]; exact e5⟩
theorem lr_turn0 : ∀ L, L < 5 → ∀ i, i ≤ L → nI L - nI 5 < nI i := by decide +kernel
theorem lr_turn {i L : Nat} (hL : L ≤ 2560) (hi : i ≤ L) (h : ¬ nI L - nI 5 < nI i) : i + 5 ≤ L := by
  by_cases q : L < 5
  · exact absurd (lr_turn0 L q i hi) h
  · rw [pk_sub (by omega), nI_ltI (by omega) (by omega)] at h
    omega
theorem lr_and7 (x : Int32) : ∃ k : Nat, k < 8 ∧ x &&& nI 7 = nI k := by
  refine ⟨(x &&& nI 7).toBitVec.toNat, ?_, ?_⟩
  · have h : (x &&& nI 7).toBitVec.toNat = x.toBitVec.toNat &&& 7 := by
      rw [Int32.toBitVec_and, BitVec.toNat_and] <;> rfl
    rw [h]
    exact Nat.lt_succ_of_le Nat.and_le_right
  · apply Int32.toBitVec_inj.mp
    show _ = BitVec.ofNat 32 _
    rw [BitVec.ofNat_toNat, BitVec.setWidth_eq]
theorem gw_SW {own : String} {idx n : Nat} {y : MethodName} {b : ByteArray} {r : Option FieldType} {hh : List (Nat × Nat × Nat × Nat)} (h1 : Cond.methodLink own idx y ∈ gw_tbl) (h2 : Cond.static y ∈ gw_tbl) (h4 : Cond.initialized y.cls ∈ gw_tbl) (h5 : Cond.codeWith y b n r hh ∈ gw_tbl) : GoodIn gw_tbl (va_wsS own idx y (Cond.codeWith y b n r hh :: gw_tbl)) := by
  intro w hw
  have key : w ∈ gw_tbl := by
    rcases List.mem_append.mp hw with h | h
    · simp only [List.mem_cons, List.not_mem_nil, or_false] at h
      rcases h with rfl | rfl | rfl
      · exact h1
      · exact h2
      · exact h4
    · rcases List.mem_cons.mp h with rfl | h
      · exact h5
      · exact h
  exact ⟨key, gw_good w key⟩
theorem d_Law_law_39 : decode code 39 = .ok (.tableswitch 498 0 7 #[45, 81, 192, 205, 261, 305, 373, 414], 45) := by decide +kernel
section LWR
variable {p : Program} {l : Launch} {e : Env} {R : Room} {s : State} {m : MethodId} {args : Array Value} {below : List Frame} {meth : Method} {c : Code} {H H0 : Heap} {locs : List Loc} {cells slots : Nat} {Q : State → Prop}
variable {cc : ByteArray} {pc : Nat} {ls : Array Slot} {rest : List Value} {A : Nat → Prop}
theorem lw_sld (hexec : p.tables.exec = Jvm.exec) (hb : c.code = cc) {b L : Nat} {xs : Nat → Int32} (hX : va_X b L xs s H0) (hbl : b < H0.size) (hbA : ¬ A b) (hS : va_S A H0 H locs) {i : Nat} (hi : i < L) (hL : L ≤ 2560) (hdg : decode cc pc = .ok (.iaload, 1))
    (kk : W p l e R s m args below meth c H locs cells slots Q (F0 m (pc + 1) ls (.int (xs i) :: rest))) : W p l e R s m args below meth c H locs cells slots Q (F0 m pc ls (.int (nI i) :: .ref b :: rest)) :=
  va_sld hexec hb hX hbl hbA hS (i := nI i) (vp_in_nI hi (by omega)) hdg (by rw [nI_clamp (by omega)]; exact kk)
theorem lw_slen (hexec : p.tables.exec = Jvm.exec) (hb : c.code = cc) {b L : Nat} {xs : Nat → Int32} (hX : va_X b L xs s H0) (hbl : b < H0.size) (hbA : ¬ A b) (hS : va_S A H0 H locs) (hdg : decode cc pc = .ok (.arraylength, 1))
    (kk : W p l e R s m args below meth c H locs cells slots Q (F0 m (pc + 1) ls (.int (nI L) :: rest))) : W p l e R s m args below meth c H locs cells slots Q (F0 m pc ls (.ref b :: rest)) := va_slen hexec hb hX hbl hbA hS hdg kk
end LWR
-- THE LAW'S EIGHT CASES
set_option maxHeartbeats 8000000 in
set_option maxRecDepth 100000 in
/-- the law's case 0 -/
theorem lw_c0 {p : Program} {e : Env} {s : State} {m : MethodId} {below : List Frame} {meth : Method} {c : Code} {Q : State → Prop} (l : Launch) (hlt : l.stackTraces = false) {b L : Nat} {xs : Nat → Int32} (hL : L ≤ 2560) (hx : p.tables.exec = Jvm.exec) (hb : c.code = code) (hml : c.maxLocals = 8) (hown : s.vm.findClass R_Law = some m.cls) (hts : ∀ w ∈ gw_tbl, w.before #[Value.ref b] s = true) (hX : va_X b L xs s s.heap) (hbl : b < s.heap.size) {A : Nat → Prop} (hA : ∀ q : Nat, s.heap.size ≤ q → A q) (hbA : ¬ A b) (hE : xt_E A s s.heap)
    (dC : Nat → ClassId) (dI : Nat → Nat → Nat) (x0 gv cl d0 h0d q0d h0u q0u h0e q0e h0p q0p h0q q0q h0o q0o h0r q0r : Nat) (cA cJ cW : ClassId) (m0 ma mS mt mo mb mg mh mr ou : Nat) (hK : va_K (dC, dI) classes [(cA, .int), (cJ, .long), (cW, .object "EquationDesk$Whole")] s) {ka sa kc ks : Nat} (hka : ka + 1 ≤ kc) (hsa : sa + 6 ≤ ks) (hcl : kc ≤ room_1.cells) (hsl : ks ≤ room_1.slots) {i : Nat} (hi : i + 5 ≤ L)
    (kk : ∀ (D : dS) (M : mT) (o1 : Nat → Int64), lw_R D M → ∀ (H : Heap) (locs : List Loc), va_P (dC, dI) classes (mv m0 ma mS mt mo mb mg mh mr cA cJ M ++ (ob ou cJ o1 ++ dv x0 gv cl d0 h0d q0d h0u q0u h0e q0e h0p q0p h0q q0q h0o q0o h0r q0r cA cJ cW D)) H → va_D A (mv m0 ma mS mt mo mb mg mh mr cA cJ M ++ (ob ou cJ o1 ++ dv x0 gv cl d0 h0d q0d h0u q0u h0e q0e h0p q0p h0q q0q h0o q0o h0r q0r cA cJ cW D)) → va_S A s.heap H locs → ∀ ls : Array Slot, lv_has ls 8 [(4, .int (nI i)), (3, .ref ou), (2, .ref m0), (1, .ref x0), (0, .ref b)] → W p l e room_1 s m #[Value.ref b] below meth c H locs kc ks Q (F0 m 537 ls []))
    (D : dS) (M : mT) (o1 : Nat → Int64) (hR : lw_R D M) (H : Heap) (locs : List Loc) (hP : va_P (dC, dI) classes (mv m0 ma mS mt mo mb mg mh mr cA cJ M ++ (ob ou cJ o1 ++ dv x0 gv cl d0 h0d q0d h0u q0u h0e q0e h0p q0p h0q q0q h0o q0o h0r q0r cA cJ cW D)) H) (hD : va_D A (mv m0 ma mS mt mo mb mg mh mr cA cJ M ++ (ob ou cJ o1 ++ dv x0 gv cl d0 h0d q0d h0u q0u h0e q0e h0p q0p h0q q0q h0o q0o h0r q0r cA cJ cW D))) (hS : va_S A s.heap H locs) (ls : Array Slot) (hl : lv_has ls 8 [(4, .int (nI i)), (3, .ref ou), (2, .ref m0), (1, .ref x0), (0, .ref b)]) : W p l e room_1 s m #[Value.ref b] below meth c H locs ka sa Q (F0 m 84 ls []) := by
  refine lv_aload_n hx hb d_Law_law_84 rfl (lv_at hl 3 rfl) ?_
  refine lv_aload_n hx hb d_Law_law_85 rfl (lv_at hl 4 rfl) ?_
  refine lv_iload hx hb d_Law_law_86 (lv_at hl 0 rfl) ?_
  refine lv_iconst (v := nI 1) hx hb d_Law_law_88 rfl ?_
  refine xn_iadd hx hb d_Law_law_89 ?_
  refine lw_sld hx hb hX hbl hbA hS (i := i + 1) (by omega) hL d_Law_law_90 ?_
  have hPc := xz_P hP
  have hDc := (xz_D hD).weaken (B := fun _ => True) (fun _ _ _ _ => trivial)
  have hFc := xz_F hD hS hA
  refine vx_calli (vx_runSX (As := [.ref x0, .int (xs (i + 1))]) (rest := []) ⟨hx, hb, hml, hown, hts⟩ (c_Law_size l hlt dC dI H.size x0 gv cl d0 h0d q0d h0u q0u h0e q0e h0p q0p h0q q0q h0o q0o h0r q0r cA cJ cW ou D o1 (xs (i + 1)) hR.1) (vx_cwSW 2 hts (gw_SW k_ml_Law_43 k_st_Law_size k_ini_Law k_code_Law_size) rfl rfl rfl (by decide +kernel) ⟨(Nat.le_of_ble_eq_true rfl), (Nat.le_of_ble_eq_true rfl)⟩) ⟨xc_X_blind, fun U hU hW => ⟨⟨rfl, by rw [hU], by rw [hU]; exact hPc, va_K.moved hW.alike hK, hDc⟩, by rw [hU]; exact ((hE.kept hS.2.1).narrow hFc).moved hW.alike⟩⟩ rfl rfl hl.1 rfl (lv_room (Nat.le_of_ble_eq_true rfl)) d_Law_law_91 ⟨Nat.le_trans hka hcl, Nat.le_trans hsa hsl⟩) hS (fun q _ h => hFc q h) hFc (fun q _ h => hFc q h) (fun E ce q9 u t_ H locs ht_ hvm_ hpx hBX hz1 hk1 hS hce hcv hcl => False.elim hpx) (fun rr u t_ H locs ht_ hvm_ hw hB hz1 hk1 hS => ?_)
  obtain ⟨hP1, hD1⟩ := hB
  rw [ht_] at hP1
  obtain ⟨hP, hD⟩ := xz_1 hP hD hk1 hFc hP1 hD1
  refine W.widen hka hsa ?_
  have hP : va_P (dC, dI) classes (mv m0 ma mS mt mo mb mg mh mr cA cJ M ++ (ob ou cJ u.2 ++ dv x0 gv cl d0 h0d q0d h0u q0u h0e q0e h0p q0p h0q q0q h0o q0o h0r q0r cA cJ cW u.1)) H := hP
  have hD : va_D A (mv m0 ma mS mt mo mb mg mh mr cA cJ M ++ (ob ou cJ u.2 ++ dv x0 gv cl d0 h0d q0d h0u q0u h0e q0e h0p q0p h0q q0q h0o q0o h0r q0r cA cJ cW u.1)) := hD
  refine lv_istore (lv' := [(5, .int rr), (4, .int (nI i)), (3, .ref ou), (2, .ref m0), (1, .ref x0), (0, .ref b)]) hx hb d_Law_law_94 hl (by decide) rfl (fun ls hl => ?_)
  refine lv_aload_n hx hb d_Law_law_96 rfl (lv_at hl 3 rfl) ?_
  refine lv_aload_n hx hb d_Law_law_97 rfl (lv_at hl 5 rfl) ?_
  refine lv_iload hx hb d_Law_law_98 (lv_at hl 1 rfl) ?_
  refine lv_iconst (v := nI 1) hx hb d_Law_law_100 rfl ?_
  refine xn_iadd hx hb d_Law_law_101 ?_
  refine lw_sld hx hb hX hbl hbA hS (i := i + 1) (by omega) hL d_Law_law_102 ?_
  have hPr := xz_rotP hP
  have hDr := xz_rotD hD
  have hPc := xz_P hPr
  have hDc := (xz_D hDr).weaken (B := fun _ => True) (fun _ _ _ _ => trivial)
  have hFc := xz_F hDr hS hA
  refine va_callv (va_runV (As := [.int (xs (i + 1))]) (rest := []) ⟨hx, hb, hml, hown, hts⟩ (c_Model_size l dC dI H.size m0 ma mS mt mo mb mg mh mr cA cJ M (xs (i + 1)) hR.2.1) (cwV 1 hts (gw_V k_ml_Law_48 k_im_Model_size k_sel_Model_size k_ini_Model k_code_Model_size) rfl rfl rfl (by decide +kernel) ⟨(Nat.le_of_ble_eq_true rfl), (Nat.le_of_ble_eq_true rfl)⟩) ⟨xc_W_blind, va_recv hK hP (ci := 3) (q0 := 0) rfl rfl, fun U hU hW => ⟨rfl, by rw [hU], by rw [hU]; exact hPc, va_K.moved hW.alike (hK.sub (tys' := [(cA, .int), (cJ, .long)]) [0, 1] rfl), hDc⟩⟩ rfl rfl hl.1 rfl (lv_room (Nat.le_of_ble_eq_true rfl)) d_Law_law_103 ⟨hcl, hsl⟩) hS (fun q _ h => hFc q h) hFc (fun w t_ H locs ht_ hvm_ hv hB hz1 hk1 hS => ?_)
  obtain ⟨hP1, hD1⟩ := hB
  rw [ht_] at hP1
  obtain ⟨hP, hD⟩ := xz_1 hPr hDr hk1 hFc hP1 hD1
  have hP := xz_rotP hP
  have hD := xz_rotD hD
  refine W.widen (k := kc) (n := ks) (Nat.le_refl _) (Nat.le_refl _) ?_
  have hP : va_P (dC, dI) classes (mv m0 ma mS mt mo mb mg mh mr cA cJ w ++ (ob ou cJ u.2 ++ dv x0 gv cl d0 h0d q0d h0u q0u h0e q0e h0p q0p h0q q0q h0o q0o h0r q0r cA cJ cW u.1)) H := hP
  have hD : va_D A (mv m0 ma mS mt mo mb mg mh mr cA cJ w ++ (ob ou cJ u.2 ++ dv x0 gv cl d0 h0d q0d h0u q0u h0e q0e h0p q0p h0q q0q h0o q0o h0r q0r cA cJ cW u.1)) := hD
  refine lv_aload_n hx hb d_Law_law_106 rfl (lv_at hl 3 rfl) ?_
  have hPc := xp_P (wc := [(m0, .inr (3, [.int w.er, .int (nI w.n), .int w.sv, .ref ma, .ref mS, .ref mt, .ref mo, .ref mb, .ref mg, .ref mh, .ref mr]))]) hP [0] rfl
  refine vp_callSi (W.runV (As := []) (rest := []) ⟨hx, hb, hml, hown, hts⟩ (c_Model_thrown l dC dI m0 ma mS mt mo mb mg mh mr w.er w.n w.sv) (cwV 0 hts (gw_V k_ml_Law_49 k_im_Model_thrown k_sel_Model_thrown k_ini_Model k_code_Model_thrown) rfl rfl rfl (by decide +kernel) ⟨(Nat.le_of_ble_eq_true rfl), (Nat.le_of_ble_eq_true rfl)⟩) ⟨xc_R_blind, va_recv hK hP (ci := 3) (q0 := 0) rfl rfl, fun U hU hW => ⟨rfl, by rw [hU]; exact hPc, va_K.moved hW.alike (hK.sub (tys' := []) [] rfl)⟩⟩ rfl rfl hl.1 rfl (lv_room (Nat.le_of_ble_eq_true rfl)) d_Law_law_107 ⟨hcl, hsl⟩) (fun r_ e_r => ?_)
  subst e_r
  have hr9 := lr_size hR hw hv
  refine lv_iload hx hb d_Law_law_110 (lv_at hl 0 rfl) ?_
  refine lv_icmp_eq (tgt := 117) hx hb d_Law_law_112 (by decide) (fun hne => ?_) (fun hne => ?_)
  rotate_left
  · exact absurd hr9.1 hne
  refine lv_goto (tgt := 537) hx hb d_Law_law_117 (by decide) ?_
  exact kk u.1 w u.2 hr9.2 H locs hP hD hS ls (lv_sub hl [1, 2, 3, 4, 5] rfl)
set_option maxHeartbeats 8000000 in
set_option maxRecDepth 100000 in
/-- the law's case 1 -/
theorem lw_c1 {p : Program} {e : Env} {s : State} {m : MethodId} {below : List Frame} {meth : Method} {c : Code} {Q : State → Prop} (l : Launch) (hlt : l.stackTraces = false) {b L : Nat} {xs : Nat → Int32} (hL : L ≤ 2560) (hx : p.tables.exec = Jvm.exec) (hb : c.code = code) (hml : c.maxLocals = 8) (hown : s.vm.findClass R_Law = some m.cls) (hts : ∀ w ∈ gw_tbl, w.before #[Value.ref b] s = true) (hX : va_X b L xs s s.heap) (hbl : b < s.heap.size) {A : Nat → Prop} (hA : ∀ q : Nat, s.heap.size ≤ q → A q) (hbA : ¬ A b) (hE : xt_E A s s.heap)
    (dC : Nat → ClassId) (dI : Nat → Nat → Nat) (x0 gv cl d0 h0d q0d h0u q0u h0e q0e h0p q0p h0q q0q h0o q0o h0r q0r : Nat) (cA cJ cW : ClassId) (m0 ma mS mt mo mb mg mh mr ou : Nat) (hK : va_K (dC, dI) classes [(cA, .int), (cJ, .long), (cW, .object "EquationDesk$Whole")] s) {ka sa kc ks : Nat} (hka : ka + 1 ≤ kc) (hsa : sa + 6 ≤ ks) (hcl : kc ≤ room_1.cells) (hsl : ks ≤ room_1.slots) {i : Nat} (hi : i + 5 ≤ L)
    (kk : ∀ (D : dS) (M : mT) (o1 : Nat → Int64), lw_R D M → ∀ (H : Heap) (locs : List Loc), va_P (dC, dI) classes (mv m0 ma mS mt mo mb mg mh mr cA cJ M ++ (ob ou cJ o1 ++ dv x0 gv cl d0 h0d q0d h0u q0u h0e q0e h0p q0p h0q q0q h0o q0o h0r q0r cA cJ cW D)) H → va_D A (mv m0 ma mS mt mo mb mg mh mr cA cJ M ++ (ob ou cJ o1 ++ dv x0 gv cl d0 h0d q0d h0u q0u h0e q0e h0p q0p h0q q0q h0o q0o h0r q0r cA cJ cW D)) → va_S A s.heap H locs → ∀ ls : Array Slot, lv_has ls 8 [(4, .int (nI i)), (3, .ref ou), (2, .ref m0), (1, .ref x0), (0, .ref b)] → W p l e room_1 s m #[Value.ref b] below meth c H locs kc ks Q (F0 m 537 ls []))
    (D : dS) (M : mT) (o1 : Nat → Int64) (hR : lw_R D M) (H : Heap) (locs : List Loc) (hP : va_P (dC, dI) classes (mv m0 ma mS mt mo mb mg mh mr cA cJ M ++ (ob ou cJ o1 ++ dv x0 gv cl d0 h0d q0d h0u q0u h0e q0e h0p q0p h0q q0q h0o q0o h0r q0r cA cJ cW D)) H) (hD : va_D A (mv m0 ma mS mt mo mb mg mh mr cA cJ M ++ (ob ou cJ o1 ++ dv x0 gv cl d0 h0d q0d h0u q0u h0e q0e h0p q0p h0q q0q h0o q0o h0r q0r cA cJ cW D))) (hS : va_S A s.heap H locs) (ls : Array Slot) (hl : lv_has ls 8 [(4, .int (nI i)), (3, .ref ou), (2, .ref m0), (1, .ref x0), (0, .ref b)]) : W p l e room_1 s m #[Value.ref b] below meth c H locs ka sa Q (F0 m 120 ls []) := by
  refine lv_aload_n hx hb d_Law_law_120 rfl (lv_at hl 3 rfl) ?_
  refine lv_aload_n hx hb d_Law_law_121 rfl (lv_at hl 4 rfl) ?_
  refine lv_iload hx hb d_Law_law_122 (lv_at hl 0 rfl) ?_
  refine lv_iconst (v := nI 1) hx hb d_Law_law_124 rfl ?_
  refine xn_iadd hx hb d_Law_law_125 ?_
  refine lw_sld hx hb hX hbl hbA hS (i := i + 1) (by omega) hL d_Law_law_126 ?_
  refine lv_aload_n hx hb d_Law_law_127 rfl (lv_at hl 4 rfl) ?_
  refine lv_iload hx hb d_Law_law_128 (lv_at hl 0 rfl) ?_
  refine lv_iconst (v := nI 2) hx hb d_Law_law_130 rfl ?_
  refine xn_iadd hx hb d_Law_law_131 ?_
  refine lw_sld hx hb hX hbl hbA hS (i := i + 2) (by omega) hL d_Law_law_132 ?_
  refine lv_aload_n hx hb d_Law_law_133 rfl (lv_at hl 4 rfl) ?_
  refine lv_iload hx hb d_Law_law_134 (lv_at hl 0 rfl) ?_
  refine lv_iconst (v := nI 3) hx hb d_Law_law_136 rfl ?_
  refine xn_iadd hx hb d_Law_law_137 ?_
  refine lw_sld hx hb hX hbl hbA hS (i := i + 3) (by omega) hL d_Law_law_138 ?_
  refine lv_i2l (v := (xs (i + 3)).toInt64) hx hb d_Law_law_139 rfl ?_
  refine lv_bipush (v := nI 32) hx hb d_Law_law_140 rfl ?_
  refine lv_lshl (v := ((xs (i + 3)).toInt64) <<< ((nI 32).toInt64 &&& 63)) hx hb d_Law_law_142 rfl ?_
  refine lv_aload_n hx hb d_Law_law_143 rfl (lv_at hl 4 rfl) ?_
  refine lv_iload hx hb d_Law_law_144 (lv_at hl 0 rfl) ?_
  refine lv_iconst (v := nI 4) hx hb d_Law_law_146 rfl ?_
  refine xn_iadd hx hb d_Law_law_147 ?_
  refine lw_sld hx hb hX hbl hbA hS (i := i + 4) (by omega) hL d_Law_law_148 ?_
  refine lv_i2l (v := (xs (i + 4)).toInt64) hx hb d_Law_law_149 rfl ?_
  refine lv_ldc2 (v := lN 4294967295) hx hb hown (hts _ k_ldc_Law_52) d_Law_law_150 ?_
  refine xe_land (v := ((xs (i + 4)).toInt64) &&& (lN 4294967295)) hx hb d_Law_law_153 rfl ?_
  refine xe_lor (v := (((xs (i + 3)).toInt64) <<< ((nI 32).toInt64 &&& 63)) ||| (((xs (i + 4)).toInt64) &&& (lN 4294967295))) hx hb d_Law_law_154 rfl ?_
  refine lv_aload_n hx hb d_Law_law_155 rfl (lv_at hl 1 rfl) ?_
  have hPc := xz_P hP
  have hDc := (xz_D hD).weaken (B := fun _ => True) (fun _ _ _ _ => trivial)
  have hFc := xz_F hD hS hA
  refine vx_calli (vx_runSX (As := [.ref x0, .int (xs (i + 1)), .int (xs (i + 2)), .long ((((xs (i + 3)).toInt64) <<< ((nI 32).toInt64 &&& 63)) ||| (((xs (i + 4)).toInt64) &&& (lN 4294967295))), .ref ou]) (rest := []) ⟨hx, hb, hml, hown, hts⟩ (c_Law_put l hlt dC dI H.size x0 gv cl d0 h0d q0d h0u q0u h0e q0e h0p q0p h0q q0q h0o q0o h0r q0r cA cJ cW ou D o1 (xs (i + 1)) (xs (i + 2)) ((((xs (i + 3)).toInt64) <<< ((nI 32).toInt64 &&& 63)) ||| (((xs (i + 4)).toInt64) &&& (lN 4294967295))) hR.1) (vx_cwSW 5 hts (gw_SW k_ml_Law_54 k_st_Law_put k_ini_Law k_code_Law_put) rfl rfl rfl (by decide +kernel) ⟨(Nat.le_of_ble_eq_true rfl), (Nat.le_of_ble_eq_true rfl)⟩) ⟨xc_X_blind, fun U hU hW => ⟨⟨rfl, by rw [hU], by rw [hU]; exact hPc, va_K.moved hW.alike hK, hDc⟩, by rw [hU]; exact ((hE.kept hS.2.1).narrow hFc).moved hW.alike⟩⟩ rfl rfl hl.1 rfl (lv_room (Nat.le_of_ble_eq_true rfl)) d_Law_law_156 ⟨Nat.le_trans hka hcl, Nat.le_trans hsa hsl⟩) hS (fun q _ h => hFc q h) hFc (fun q _ h => hFc q h) (fun E ce q9 u t_ H locs ht_ hvm_ hpx hBX hz1 hk1 hS hce hcv hcl => False.elim hpx) (fun rr u t_ H locs ht_ hvm_ hw hB hz1 hk1 hS => ?_)
  obtain ⟨hP1, hD1⟩ := hB
  rw [ht_] at hP1
  obtain ⟨hP, hD⟩ := xz_1 hP hD hk1 hFc hP1 hD1
  refine W.widen hka hsa ?_
  have hP : va_P (dC, dI) classes (mv m0 ma mS mt mo mb mg mh mr cA cJ M ++ (ob ou cJ u.2 ++ dv x0 gv cl d0 h0d q0d h0u q0u h0e q0e h0p q0p h0q q0q h0o q0o h0r q0r cA cJ cW u.1)) H := hP
  have hD : va_D A (mv m0 ma mS mt mo mb mg mh mr cA cJ M ++ (ob ou cJ u.2 ++ dv x0 gv cl d0 h0d q0d h0u q0u h0e q0e h0p q0p h0q q0q h0o q0o h0r q0r cA cJ cW u.1)) := hD
  refine lv_istore (lv' := [(5, .int rr), (4, .int (nI i)), (3, .ref ou), (2, .ref m0), (1, .ref x0), (0, .ref b)]) hx hb d_Law_law_159 hl (by decide) rfl (fun ls hl => ?_)
  refine lv_aload_n hx hb d_Law_law_161 rfl (lv_at hl 3 rfl) ?_
  refine lv_aload_n hx hb d_Law_law_162 rfl (lv_at hl 5 rfl) ?_
  refine lv_iload hx hb d_Law_law_163 (lv_at hl 1 rfl) ?_
  refine lv_iconst (v := nI 1) hx hb d_Law_law_165 rfl ?_
  refine xn_iadd hx hb d_Law_law_166 ?_
  refine lw_sld hx hb hX hbl hbA hS (i := i + 1) (by omega) hL d_Law_law_167 ?_
  refine lv_aload_n hx hb d_Law_law_168 rfl (lv_at hl 5 rfl) ?_
  refine lv_iload hx hb d_Law_law_169 (lv_at hl 1 rfl) ?_
  refine lv_iconst (v := nI 2) hx hb d_Law_law_171 rfl ?_
  refine xn_iadd hx hb d_Law_law_172 ?_
  refine lw_sld hx hb hX hbl hbA hS (i := i + 2) (by omega) hL d_Law_law_173 ?_
  refine lv_aload_n hx hb d_Law_law_174 rfl (lv_at hl 5 rfl) ?_
  refine lv_iload hx hb d_Law_law_175 (lv_at hl 1 rfl) ?_
  refine lv_iconst (v := nI 3) hx hb d_Law_law_177 rfl ?_
  refine xn_iadd hx hb d_Law_law_178 ?_
  refine lw_sld hx hb hX hbl hbA hS (i := i + 3) (by omega) hL d_Law_law_179 ?_
  refine lv_i2l (v := (xs (i + 3)).toInt64) hx hb d_Law_law_180 rfl ?_
  refine lv_bipush (v := nI 32) hx hb d_Law_law_181 rfl ?_
  refine lv_lshl (v := ((xs (i + 3)).toInt64) <<< ((nI 32).toInt64 &&& 63)) hx hb d_Law_law_183 rfl ?_
  refine lv_aload_n hx hb d_Law_law_184 rfl (lv_at hl 5 rfl) ?_
  refine lv_iload hx hb d_Law_law_185 (lv_at hl 1 rfl) ?_
  refine lv_iconst (v := nI 4) hx hb d_Law_law_187 rfl ?_
  refine xn_iadd hx hb d_Law_law_188 ?_
  refine lw_sld hx hb hX hbl hbA hS (i := i + 4) (by omega) hL d_Law_law_189 ?_
  refine lv_i2l (v := (xs (i + 4)).toInt64) hx hb d_Law_law_190 rfl ?_
  refine lv_ldc2 (v := lN 4294967295) hx hb hown (hts _ k_ldc_Law_52) d_Law_law_191 ?_
  refine xe_land (v := ((xs (i + 4)).toInt64) &&& (lN 4294967295)) hx hb d_Law_law_194 rfl ?_
  refine xe_lor (v := (((xs (i + 3)).toInt64) <<< ((nI 32).toInt64 &&& 63)) ||| (((xs (i + 4)).toInt64) &&& (lN 4294967295))) hx hb d_Law_law_195 rfl ?_
  have hPr := xz_rotP hP
  have hDr := xz_rotD hD
  have hPc := xz_P hPr
  have hDc := (xz_D hDr).weaken (B := fun _ => True) (fun _ _ _ _ => trivial)
  have hFc := xz_F hDr hS hA
  refine va_calll (va_runV (As := [.int (xs (i + 1)), .int (xs (i + 2)), .long ((((xs (i + 3)).toInt64) <<< ((nI 32).toInt64 &&& 63)) ||| (((xs (i + 4)).toInt64) &&& (lN 4294967295)))]) (rest := []) ⟨hx, hb, hml, hown, hts⟩ (c_Model_put l dC dI H.size m0 ma mS mt mo mb mg mh mr cA cJ M (xs (i + 1)) (xs (i + 2)) ((((xs (i + 3)).toInt64) <<< ((nI 32).toInt64 &&& 63)) ||| (((xs (i + 4)).toInt64) &&& (lN 4294967295))) hR.2.1) (cwV 3 hts (gw_V k_ml_Law_57 k_im_Model_put k_sel_Model_put k_ini_Model k_code_Model_put) rfl rfl rfl (by decide +kernel) ⟨(Nat.le_of_ble_eq_true rfl), (Nat.le_of_ble_eq_true rfl)⟩) ⟨xc_W_blind, va_recv hK hP (ci := 3) (q0 := 0) rfl rfl, fun U hU hW => ⟨rfl, by rw [hU], by rw [hU]; exact hPc, va_K.moved hW.alike (hK.sub (tys' := [(cA, .int), (cJ, .long)]) [0, 1] rfl), hDc⟩⟩ rfl rfl hl.1 rfl (lv_room (Nat.le_of_ble_eq_true rfl)) d_Law_law_196 ⟨hcl, hsl⟩) hS (fun q _ h => hFc q h) hFc (fun r2 w t_ H locs ht_ hvm_ hv hB hz1 hk1 hS => ?_)
  obtain ⟨hP1, hD1⟩ := hB
  rw [ht_] at hP1
  obtain ⟨hP, hD⟩ := xz_1 hPr hDr hk1 hFc hP1 hD1
  have hP := xz_rotP hP
  have hD := xz_rotD hD
  refine W.widen (k := kc) (n := ks) (Nat.le_refl _) (Nat.le_refl _) ?_
  have hP : va_P (dC, dI) classes (mv m0 ma mS mt mo mb mg mh mr cA cJ w ++ (ob ou cJ u.2 ++ dv x0 gv cl d0 h0d q0d h0u q0u h0e q0e h0p q0p h0q q0q h0o q0o h0r q0r cA cJ cW u.1)) H := hP
  have hD : va_D A (mv m0 ma mS mt mo mb mg mh mr cA cJ w ++ (ob ou cJ u.2 ++ dv x0 gv cl d0 h0d q0d h0u q0u h0e q0e h0p q0p h0q q0q h0o q0o h0r q0r cA cJ cW u.1)) := hD
  refine lv_lstore (lv' := [(6, .long r2), (5, .int rr), (4, .int (nI i)), (3, .ref ou), (2, .ref m0), (1, .ref x0), (0, .ref b)]) hx hb d_Law_law_199 hl (by decide) rfl (fun ls hl => ?_)
  refine lv_aload_n hx hb d_Law_law_201 rfl (lv_at hl 4 rfl) ?_
  have hPc := xp_P (wc := [(m0, .inr (3, [.int w.er, .int (nI w.n), .int w.sv, .ref ma, .ref mS, .ref mt, .ref mo, .ref mb, .ref mg, .ref mh, .ref mr]))]) hP [0] rfl
  refine vp_callSi (W.runV (As := []) (rest := []) ⟨hx, hb, hml, hown, hts⟩ (c_Model_thrown l dC dI m0 ma mS mt mo mb mg mh mr w.er w.n w.sv) (cwV 0 hts (gw_V k_ml_Law_49 k_im_Model_thrown k_sel_Model_thrown k_ini_Model k_code_Model_thrown) rfl rfl rfl (by decide +kernel) ⟨(Nat.le_of_ble_eq_true rfl), (Nat.le_of_ble_eq_true rfl)⟩) ⟨xc_R_blind, va_recv hK hP (ci := 3) (q0 := 0) rfl rfl, fun U hU hW => ⟨rfl, by rw [hU]; exact hPc, va_K.moved hW.alike (hK.sub (tys' := []) [] rfl)⟩⟩ rfl rfl hl.1 rfl (lv_room (Nat.le_of_ble_eq_true rfl)) d_Law_law_202 ⟨hcl, hsl⟩) (fun r_ e_r => ?_)
  subst e_r
  have hr9 := lr_put hR hw hv
  refine lv_iload hx hb d_Law_law_205 (lv_at hl 1 rfl) ?_
  refine lv_icmp_eq (tgt := 212) hx hb d_Law_law_207 (by decide) (fun hne => ?_) (fun hne => ?_)
  rotate_left
  · exact absurd hr9.1 hne
  refine lv_iload hx hb d_Law_law_212 (lv_at hl 1 rfl) ?_
  refine lv_if_ne (tgt := 228) hx hb d_Law_law_214 (by decide) (fun hk0 => ?_) (fun hk0 => ?_)
  · refine lv_goto (tgt := 537) hx hb d_Law_law_228 (by decide) ?_
    exact kk u.1 w u.2 hr9.2.2 H locs hP hD hS ls (lv_sub hl [2, 3, 4, 5, 6] rfl)
  refine lv_aload_n hx hb d_Law_law_217 rfl (lv_at hl 3 rfl) ?_
  refine lv_iconst (v := nI 0) hx hb d_Law_law_218 rfl ?_
  refine xn_lald hx hb hK hP 9 1 rfl rfl (i := 0) (by decide) (by decide) d_Law_law_219 ?_
  refine lv_lload hx hb d_Law_law_220 (lv_at hl 0 rfl) ?_
  refine W.lcmp hx hb d_Law_law_222 ?_
  refine lv_if_eq (tgt := 228) hx hb d_Law_law_223 (by decide) (fun hq0 => ?_) (fun hq0 => ?_)
  rotate_left
  · exact absurd ((lg_cmp_eq _ _).mpr (hr9.2.1 hk0)) hq0
  refine lv_goto (tgt := 537) hx hb d_Law_law_228 (by decide) ?_
  exact kk u.1 w u.2 hr9.2.2 H locs hP hD hS ls (lv_sub hl [2, 3, 4, 5, 6] rfl)
set_option maxHeartbeats 8000000 in
set_option maxRecDepth 100000 in
/-- the law's case 2 -/
theorem lw_c2 {p : Program} {e : Env} {s : State} {m : MethodId} {below : List Frame} {meth : Method} {c : Code} {Q : State → Prop} (l : Launch) (hlt : l.stackTraces = false) {b L : Nat} {xs : Nat → Int32} (hL : L ≤ 2560) (hx : p.tables.exec = Jvm.exec) (hb : c.code = code) (hml : c.maxLocals = 8) (hown : s.vm.findClass R_Law = some m.cls) (hts : ∀ w ∈ gw_tbl, w.before #[Value.ref b] s = true) (hX : va_X b L xs s s.heap) (hbl : b < s.heap.size) {A : Nat → Prop} (hA : ∀ q : Nat, s.heap.size ≤ q → A q) (hbA : ¬ A b) (hE : xt_E A s s.heap)
    (dC : Nat → ClassId) (dI : Nat → Nat → Nat) (x0 gv cl d0 h0d q0d h0u q0u h0e q0e h0p q0p h0q q0q h0o q0o h0r q0r : Nat) (cA cJ cW : ClassId) (m0 ma mS mt mo mb mg mh mr ou : Nat) (hK : va_K (dC, dI) classes [(cA, .int), (cJ, .long), (cW, .object "EquationDesk$Whole")] s) {ka sa kc ks : Nat} (hka : ka + 1 ≤ kc) (hsa : sa + 6 ≤ ks) (hcl : kc ≤ room_1.cells) (hsl : ks ≤ room_1.slots) {i : Nat} (hi : i + 5 ≤ L)
    (kk : ∀ (D : dS) (M : mT) (o1 : Nat → Int64), lw_R D M → ∀ (H : Heap) (locs : List Loc), va_P (dC, dI) classes (mv m0 ma mS mt mo mb mg mh mr cA cJ M ++ (ob ou cJ o1 ++ dv x0 gv cl d0 h0d q0d h0u q0u h0e q0e h0p q0p h0q q0q h0o q0o h0r q0r cA cJ cW D)) H → va_D A (mv m0 ma mS mt mo mb mg mh mr cA cJ M ++ (ob ou cJ o1 ++ dv x0 gv cl d0 h0d q0d h0u q0u h0e q0e h0p q0p h0q q0q h0o q0o h0r q0r cA cJ cW D)) → va_S A s.heap H locs → ∀ ls : Array Slot, lv_has ls 8 [(4, .int (nI i)), (3, .ref ou), (2, .ref m0), (1, .ref x0), (0, .ref b)] → W p l e room_1 s m #[Value.ref b] below meth c H locs kc ks Q (F0 m 537 ls []))
    (D : dS) (M : mT) (o1 : Nat → Int64) (hR : lw_R D M) (H : Heap) (locs : List Loc) (hP : va_P (dC, dI) classes (mv m0 ma mS mt mo mb mg mh mr cA cJ M ++ (ob ou cJ o1 ++ dv x0 gv cl d0 h0d q0d h0u q0u h0e q0e h0p q0p h0q q0q h0o q0o h0r q0r cA cJ cW D)) H) (hD : va_D A (mv m0 ma mS mt mo mb mg mh mr cA cJ M ++ (ob ou cJ o1 ++ dv x0 gv cl d0 h0d q0d h0u q0u h0e q0e h0p q0p h0q q0q h0o q0o h0r q0r cA cJ cW D))) (hS : va_S A s.heap H locs) (ls : Array Slot) (hl : lv_has ls 8 [(4, .int (nI i)), (3, .ref ou), (2, .ref m0), (1, .ref x0), (0, .ref b)]) : W p l e room_1 s m #[Value.ref b] below meth c H locs ka sa Q (F0 m 231 ls []) := by
  refine lv_aload_n hx hb d_Law_law_231 rfl (lv_at hl 3 rfl) ?_
  have hPa : va_P (dC, dI) classes ((mv m0 ma mS mt mo mb mg mh mr cA cJ M ++ ob ou cJ o1) ++ dv x0 gv cl d0 h0d q0d h0u q0u h0e q0e h0p q0p h0q q0q h0o q0o h0r q0r cA cJ cW D) H := by rw [List.append_assoc]; exact hP
  have hDa : va_D A ((mv m0 ma mS mt mo mb mg mh mr cA cJ M ++ ob ou cJ o1) ++ dv x0 gv cl d0 h0d q0d h0u q0u h0e q0e h0p q0p h0q q0q h0o q0o h0r q0r cA cJ cW D) := by rw [List.append_assoc]; exact hD
  have hPc := xz_P hPa
  have hDc := (xz_D hDa).weaken (B := fun _ => True) (fun _ _ _ _ => trivial)
  have hFc := xz_F hDa hS hA
  refine va_calli (va_runV (As := []) (rest := []) ⟨hx, hb, hml, hown, hts⟩ (c_Desk_solve l dC dI H.size x0 gv cl d0 h0d q0d h0u q0u h0e q0e h0p q0p h0q q0q h0o q0o h0r q0r cA cJ cW D hR.1) (cwV 0 hts (gw_V k_ml_Law_58 k_im_Desk_solve k_sel_Desk_solve k_ini_Desk k_code_Desk_solve) rfl rfl rfl (by decide +kernel) ⟨(Nat.le_of_ble_eq_true rfl), (Nat.le_of_ble_eq_true rfl)⟩) ⟨xc_W_blind, va_recv hK hPc (ci := 0) (q0 := 0) rfl rfl, fun U hU hW => ⟨rfl, by rw [hU], by rw [hU]; exact hPc, va_K.moved hW.alike hK, hDc⟩⟩ rfl rfl hl.1 rfl (lv_room (Nat.le_of_ble_eq_true rfl)) d_Law_law_232 ⟨Nat.le_trans (Nat.le_of_succ_le hka) hcl, Nat.le_trans (Nat.le_trans (Nat.le_add_right _ 6) hsa) hsl⟩) hS (fun q _ h => hFc q h) hFc (fun rr u t_ H locs ht_ hvm_ hw hB hz1 hk1 hS => ?_)
  obtain ⟨hP1, hD1⟩ := hB
  rw [ht_] at hP1
  obtain ⟨hP, hD⟩ := xz_1 hPa hDa hk1 hFc hP1 hD1
  rw [List.append_assoc] at hP hD
  refine W.widen (k := kc) (n := ks) (Nat.le_of_succ_le hka) (Nat.le_trans (Nat.le_add_right _ 6) hsa) ?_
  have hP : va_P (dC, dI) classes (mv m0 ma mS mt mo mb mg mh mr cA cJ M ++ (ob ou cJ o1 ++ dv x0 gv cl d0 h0d q0d h0u q0u h0e q0e h0p q0p h0q q0q h0o q0o h0r q0r cA cJ cW u)) H := hP
  have hD : va_D A (mv m0 ma mS mt mo mb mg mh mr cA cJ M ++ (ob ou cJ o1 ++ dv x0 gv cl d0 h0d q0d h0u q0u h0e q0e h0p q0p h0q q0q h0o q0o h0r q0r cA cJ cW u)) := hD
  refine lv_aload_n hx hb d_Law_law_235 rfl (lv_at hl 2 rfl) ?_
  have hPr := xz_rotP hP
  have hDr := xz_rotD hD
  have hPc := xz_P hPr
  have hDc := (xz_D hDr).weaken (B := fun _ => True) (fun _ _ _ _ => trivial)
  have hFc := xz_F hDr hS hA
  refine va_calli (va_runV (As := []) (rest := [.int rr]) ⟨hx, hb, hml, hown, hts⟩ (c_Model_solve l dC dI H.size m0 ma mS mt mo mb mg mh mr cA cJ M  hR.2.1) (cwV 0 hts (gw_V k_ml_Law_62 k_im_Model_solve k_sel_Model_solve k_ini_Model k_code_Model_solve) rfl rfl rfl (by decide +kernel) ⟨(Nat.le_of_ble_eq_true rfl), (Nat.le_of_ble_eq_true rfl)⟩) ⟨xc_W_blind, va_recv hK hP (ci := 3) (q0 := 0) rfl rfl, fun U hU hW => ⟨rfl, by rw [hU], by rw [hU]; exact hPc, va_K.moved hW.alike (hK.sub (tys' := [(cA, .int), (cJ, .long)]) [0, 1] rfl), hDc⟩⟩ rfl rfl hl.1 rfl (lv_room (Nat.le_of_ble_eq_true rfl)) d_Law_law_236 ⟨hcl, hsl⟩) hS (fun q _ h => hFc q h) hFc (fun r2 w t_ H locs ht_ hvm_ hv hB hz1 hk1 hS => ?_)
  obtain ⟨hP1, hD1⟩ := hB
  rw [ht_] at hP1
  obtain ⟨hP, hD⟩ := xz_1 hPr hDr hk1 hFc hP1 hD1
  have hP := xz_rotP hP
  have hD := xz_rotD hD
  refine W.widen (k := kc) (n := ks) (Nat.le_refl _) (Nat.le_refl _) ?_
  have hP : va_P (dC, dI) classes (mv m0 ma mS mt mo mb mg mh mr cA cJ w ++ (ob ou cJ o1 ++ dv x0 gv cl d0 h0d q0d h0u q0u h0e q0e h0p q0p h0q q0q h0o q0o h0r q0r cA cJ cW u)) H := hP
  have hD : va_D A (mv m0 ma mS mt mo mb mg mh mr cA cJ w ++ (ob ou cJ o1 ++ dv x0 gv cl d0 h0d q0d h0u q0u h0e q0e h0p q0p h0q q0q h0o q0o h0r q0r cA cJ cW u)) := hD
  have hr9 := lr_solve hR hw hv
  refine lv_icmp_eq (tgt := 537) hx hb d_Law_law_239 (by decide) (fun hne => ?_) (fun hne => ?_)
  rotate_left
  · exact absurd hr9.1 hne
  exact kk u w o1 hr9.2 H locs hP hD hS ls (lv_sub hl [0, 1, 2, 3, 4] rfl)
set_option maxHeartbeats 8000000 in
set_option maxRecDepth 100000 in
/-- the law's case 3 -/
theorem lw_c3 {p : Program} {e : Env} {s : State} {m : MethodId} {below : List Frame} {meth : Method} {c : Code} {Q : State → Prop} (l : Launch) (hlt : l.stackTraces = false) {b L : Nat} {xs : Nat → Int32} (hL : L ≤ 2560) (hx : p.tables.exec = Jvm.exec) (hb : c.code = code) (hml : c.maxLocals = 8) (hown : s.vm.findClass R_Law = some m.cls) (hts : ∀ w ∈ gw_tbl, w.before #[Value.ref b] s = true) (hX : va_X b L xs s s.heap) (hbl : b < s.heap.size) {A : Nat → Prop} (hA : ∀ q : Nat, s.heap.size ≤ q → A q) (hbA : ¬ A b) (hE : xt_E A s s.heap)
    (dC : Nat → ClassId) (dI : Nat → Nat → Nat) (x0 gv cl d0 h0d q0d h0u q0u h0e q0e h0p q0p h0q q0q h0o q0o h0r q0r : Nat) (cA cJ cW : ClassId) (m0 ma mS mt mo mb mg mh mr ou : Nat) (hK : va_K (dC, dI) classes [(cA, .int), (cJ, .long), (cW, .object "EquationDesk$Whole")] s) {ka sa kc ks : Nat} (hka : ka + 1 ≤ kc) (hsa : sa + 6 ≤ ks) (hcl : kc ≤ room_1.cells) (hsl : ks ≤ room_1.slots) {i : Nat} (hi : i + 5 ≤ L)
    (kk : ∀ (D : dS) (M : mT) (o1 : Nat → Int64), lw_R D M → ∀ (H : Heap) (locs : List Loc), va_P (dC, dI) classes (mv m0 ma mS mt mo mb mg mh mr cA cJ M ++ (ob ou cJ o1 ++ dv x0 gv cl d0 h0d q0d h0u q0u h0e q0e h0p q0p h0q q0q h0o q0o h0r q0r cA cJ cW D)) H → va_D A (mv m0 ma mS mt mo mb mg mh mr cA cJ M ++ (ob ou cJ o1 ++ dv x0 gv cl d0 h0d q0d h0u q0u h0e q0e h0p q0p h0q q0q h0o q0o h0r q0r cA cJ cW D)) → va_S A s.heap H locs → ∀ ls : Array Slot, lv_has ls 8 [(4, .int (nI i)), (3, .ref ou), (2, .ref m0), (1, .ref x0), (0, .ref b)] → W p l e room_1 s m #[Value.ref b] below meth c H locs kc ks Q (F0 m 537 ls []))
    (D : dS) (M : mT) (o1 : Nat → Int64) (hR : lw_R D M) (H : Heap) (locs : List Loc) (hP : va_P (dC, dI) classes (mv m0 ma mS mt mo mb mg mh mr cA cJ M ++ (ob ou cJ o1 ++ dv x0 gv cl d0 h0d q0d h0u q0u h0e q0e h0p q0p h0q q0q h0o q0o h0r q0r cA cJ cW D)) H) (hD : va_D A (mv m0 ma mS mt mo mb mg mh mr cA cJ M ++ (ob ou cJ o1 ++ dv x0 gv cl d0 h0d q0d h0u q0u h0e q0e h0p q0p h0q q0q h0o q0o h0r q0r cA cJ cW D))) (hS : va_S A s.heap H locs) (ls : Array Slot) (hl : lv_has ls 8 [(4, .int (nI i)), (3, .ref ou), (2, .ref m0), (1, .ref x0), (0, .ref b)]) : W p l e room_1 s m #[Value.ref b] below meth c H locs ka sa Q (F0 m 244 ls []) := by
  refine lv_aload_n hx hb d_Law_law_244 rfl (lv_at hl 3 rfl) ?_
  refine lv_aload_n hx hb d_Law_law_245 rfl (lv_at hl 4 rfl) ?_
  refine lv_iload hx hb d_Law_law_246 (lv_at hl 0 rfl) ?_
  refine lv_iconst (v := nI 1) hx hb d_Law_law_248 rfl ?_
  refine xn_iadd hx hb d_Law_law_249 ?_
  refine lw_sld hx hb hX hbl hbA hS (i := i + 1) (by omega) hL d_Law_law_250 ?_
  refine lv_aload_n hx hb d_Law_law_251 rfl (lv_at hl 1 rfl) ?_
  have hPc := xz_P hP
  have hDc := (xz_D hD).weaken (B := fun _ => True) (fun _ _ _ _ => trivial)
  have hFc := xz_F hD hS hA
  refine vx_calli (vx_runSX (As := [.ref x0, .int (xs (i + 1)), .ref ou]) (rest := []) ⟨hx, hb, hml, hown, hts⟩ (c_Law_unknown l hlt dC dI H.size x0 gv cl d0 h0d q0d h0u q0u h0e q0e h0p q0p h0q q0q h0o q0o h0r q0r cA cJ cW ou D o1 (xs (i + 1)) hR.1) (vx_cwSW 3 hts (gw_SW k_ml_Law_63 k_st_Law_unknown k_ini_Law k_code_Law_unknown) rfl rfl rfl (by decide +kernel) ⟨(Nat.le_of_ble_eq_true rfl), (Nat.le_of_ble_eq_true rfl)⟩) ⟨xc_X_blind, fun U hU hW => ⟨⟨rfl, by rw [hU], by rw [hU]; exact hPc, va_K.moved hW.alike hK, hDc⟩, by rw [hU]; exact ((hE.kept hS.2.1).narrow hFc).moved hW.alike⟩⟩ rfl rfl hl.1 rfl (lv_room (Nat.le_of_ble_eq_true rfl)) d_Law_law_252 ⟨Nat.le_trans hka hcl, Nat.le_trans hsa hsl⟩) hS (fun q _ h => hFc q h) hFc (fun q _ h => hFc q h) (fun E ce q9 u t_ H locs ht_ hvm_ hpx hBX hz1 hk1 hS hce hcv hcl => False.elim hpx) (fun rr u t_ H locs ht_ hvm_ hw hB hz1 hk1 hS => ?_)
  obtain ⟨hP1, hD1⟩ := hB
  rw [ht_] at hP1
  obtain ⟨hP, hD⟩ := xz_1 hP hD hk1 hFc hP1 hD1
  refine W.widen hka hsa ?_
  have hP : va_P (dC, dI) classes (mv m0 ma mS mt mo mb mg mh mr cA cJ M ++ (ob ou cJ u.2 ++ dv x0 gv cl d0 h0d q0d h0u q0u h0e q0e h0p q0p h0q q0q h0o q0o h0r q0r cA cJ cW u.1)) H := hP
  have hD : va_D A (mv m0 ma mS mt mo mb mg mh mr cA cJ M ++ (ob ou cJ u.2 ++ dv x0 gv cl d0 h0d q0d h0u q0u h0e q0e h0p q0p h0q q0q h0o q0o h0r q0r cA cJ cW u.1)) := hD
  refine lv_istore (lv' := [(5, .int rr), (4, .int (nI i)), (3, .ref ou), (2, .ref m0), (1, .ref x0), (0, .ref b)]) hx hb d_Law_law_255 hl (by decide) rfl (fun ls hl => ?_)
  refine lv_aload_n hx hb d_Law_law_257 rfl (lv_at hl 3 rfl) ?_
  refine lv_aload_n hx hb d_Law_law_258 rfl (lv_at hl 5 rfl) ?_
  refine lv_iload hx hb d_Law_law_259 (lv_at hl 1 rfl) ?_
  refine lv_iconst (v := nI 1) hx hb d_Law_law_261 rfl ?_
  refine xn_iadd hx hb d_Law_law_262 ?_
  refine lw_sld hx hb hX hbl hbA hS (i := i + 1) (by omega) hL d_Law_law_263 ?_
  have hPr := xz_rotP hP
  have hDr := xz_rotD hD
  have hPc := xz_P hPr
  have hDc := (xz_D hDr).weaken (B := fun _ => True) (fun _ _ _ _ => trivial)
  have hFc := xz_F hDr hS hA
  refine va_calli (va_runV (As := [.int (xs (i + 1))]) (rest := []) ⟨hx, hb, hml, hown, hts⟩ (c_Model_unknown l dC dI H.size m0 ma mS mt mo mb mg mh mr cA cJ M (xs (i + 1)) hR.2.1) (cwV 1 hts (gw_V k_ml_Law_66 k_im_Model_unknown k_sel_Model_unknown k_ini_Model k_code_Model_unknown) rfl rfl rfl (by decide +kernel) ⟨(Nat.le_of_ble_eq_true rfl), (Nat.le_of_ble_eq_true rfl)⟩) ⟨xc_W_blind, va_recv hK hP (ci := 3) (q0 := 0) rfl rfl, fun U hU hW => ⟨rfl, by rw [hU], by rw [hU]; exact hPc, va_K.moved hW.alike (hK.sub (tys' := [(cA, .int), (cJ, .long)]) [0, 1] rfl), hDc⟩⟩ rfl rfl hl.1 rfl (lv_room (Nat.le_of_ble_eq_true rfl)) d_Law_law_264 ⟨hcl, hsl⟩) hS (fun q _ h => hFc q h) hFc (fun r2 w t_ H locs ht_ hvm_ hv hB hz1 hk1 hS => ?_)
  obtain ⟨hP1, hD1⟩ := hB
  rw [ht_] at hP1
  obtain ⟨hP, hD⟩ := xz_1 hPr hDr hk1 hFc hP1 hD1
  have hP := xz_rotP hP
  have hD := xz_rotD hD
  refine W.widen (k := kc) (n := ks) (Nat.le_refl _) (Nat.le_refl _) ?_
  have hP : va_P (dC, dI) classes (mv m0 ma mS mt mo mb mg mh mr cA cJ w ++ (ob ou cJ u.2 ++ dv x0 gv cl d0 h0d q0d h0u q0u h0e q0e h0p q0p h0q q0q h0o q0o h0r q0r cA cJ cW u.1)) H := hP
  have hD : va_D A (mv m0 ma mS mt mo mb mg mh mr cA cJ w ++ (ob ou cJ u.2 ++ dv x0 gv cl d0 h0d q0d h0u q0u h0e q0e h0p q0p h0q q0q h0o q0o h0r q0r cA cJ cW u.1)) := hD
  refine lv_istore (lv' := [(6, .int r2), (5, .int rr), (4, .int (nI i)), (3, .ref ou), (2, .ref m0), (1, .ref x0), (0, .ref b)]) hx hb d_Law_law_267 hl (by decide) rfl (fun ls hl => ?_)
  refine lv_aload_n hx hb d_Law_law_269 rfl (lv_at hl 4 rfl) ?_
  have hPc := xp_P (wc := [(m0, .inr (3, [.int w.er, .int (nI w.n), .int w.sv, .ref ma, .ref mS, .ref mt, .ref mo, .ref mb, .ref mg, .ref mh, .ref mr]))]) hP [0] rfl
  refine vp_callSi (W.runV (As := []) (rest := []) ⟨hx, hb, hml, hown, hts⟩ (c_Model_thrown l dC dI m0 ma mS mt mo mb mg mh mr w.er w.n w.sv) (cwV 0 hts (gw_V k_ml_Law_49 k_im_Model_thrown k_sel_Model_thrown k_ini_Model k_code_Model_thrown) rfl rfl rfl (by decide +kernel) ⟨(Nat.le_of_ble_eq_true rfl), (Nat.le_of_ble_eq_true rfl)⟩) ⟨xc_R_blind, va_recv hK hP (ci := 3) (q0 := 0) rfl rfl, fun U hU hW => ⟨rfl, by rw [hU]; exact hPc, va_K.moved hW.alike (hK.sub (tys' := []) [] rfl)⟩⟩ rfl rfl hl.1 rfl (lv_room (Nat.le_of_ble_eq_true rfl)) d_Law_law_270 ⟨hcl, hsl⟩) (fun r_ e_r => ?_)
  subst e_r
  have hr9 := lr_unknown hR hw hv
  refine lv_iload hx hb d_Law_law_273 (lv_at hl 1 rfl) ?_
  refine lv_icmp_eq (tgt := 280) hx hb d_Law_law_275 (by decide) (fun hne => ?_) (fun hne => ?_)
  rotate_left
  · exact absurd hr9.1 hne
  refine lv_iload hx hb d_Law_law_280 (lv_at hl 1 rfl) ?_
  refine lv_if_ne (tgt := 297) hx hb d_Law_law_282 (by decide) (fun hk0 => ?_) (fun hk0 => ?_)
  · refine lv_goto (tgt := 537) hx hb d_Law_law_297 (by decide) ?_
    exact kk u.1 w u.2 hr9.2.2 H locs hP hD hS ls (lv_sub hl [2, 3, 4, 5, 6] rfl)
  refine lv_aload_n hx hb d_Law_law_285 rfl (lv_at hl 3 rfl) ?_
  refine lv_iconst (v := nI 0) hx hb d_Law_law_286 rfl ?_
  refine xn_lald hx hb hK hP 9 1 rfl rfl (i := 0) (by decide) (by decide) d_Law_law_287 ?_
  refine lv_iload hx hb d_Law_law_288 (lv_at hl 0 rfl) ?_
  refine lv_i2l (v := r2.toInt64) hx hb d_Law_law_290 rfl ?_
  refine W.lcmp hx hb d_Law_law_291 ?_
  refine lv_if_eq (tgt := 297) hx hb d_Law_law_292 (by decide) (fun hq0 => ?_) (fun hq0 => ?_)
  rotate_left
  · exact absurd ((lg_cmp_eq _ _).mpr (hr9.2.1 hk0)) hq0
  refine lv_goto (tgt := 537) hx hb d_Law_law_297 (by decide) ?_
  exact kk u.1 w u.2 hr9.2.2 H locs hP hD hS ls (lv_sub hl [2, 3, 4, 5, 6] rfl)
set_option maxHeartbeats 8000000 in
set_option maxRecDepth 100000 in
/-- the law's case 4 -/
theorem lw_c4 {p : Program} {e : Env} {s : State} {m : MethodId} {below : List Frame} {meth : Method} {c : Code} {Q : State → Prop} (l : Launch) (hlt : l.stackTraces = false) {b L : Nat} {xs : Nat → Int32} (hL : L ≤ 2560) (hx : p.tables.exec = Jvm.exec) (hb : c.code = code) (hml : c.maxLocals = 8) (hown : s.vm.findClass R_Law = some m.cls) (hts : ∀ w ∈ gw_tbl, w.before #[Value.ref b] s = true) (hX : va_X b L xs s s.heap) (hbl : b < s.heap.size) {A : Nat → Prop} (hA : ∀ q : Nat, s.heap.size ≤ q → A q) (hbA : ¬ A b) (hE : xt_E A s s.heap)
    (dC : Nat → ClassId) (dI : Nat → Nat → Nat) (x0 gv cl d0 h0d q0d h0u q0u h0e q0e h0p q0p h0q q0q h0o q0o h0r q0r : Nat) (cA cJ cW : ClassId) (m0 ma mS mt mo mb mg mh mr ou : Nat) (hK : va_K (dC, dI) classes [(cA, .int), (cJ, .long), (cW, .object "EquationDesk$Whole")] s) {ka sa kc ks : Nat} (hka : ka + 1 ≤ kc) (hsa : sa + 6 ≤ ks) (hcl : kc ≤ room_1.cells) (hsl : ks ≤ room_1.slots) {i : Nat} (hi : i + 5 ≤ L)
    (kk : ∀ (D : dS) (M : mT) (o1 : Nat → Int64), lw_R D M → ∀ (H : Heap) (locs : List Loc), va_P (dC, dI) classes (mv m0 ma mS mt mo mb mg mh mr cA cJ M ++ (ob ou cJ o1 ++ dv x0 gv cl d0 h0d q0d h0u q0u h0e q0e h0p q0p h0q q0q h0o q0o h0r q0r cA cJ cW D)) H → va_D A (mv m0 ma mS mt mo mb mg mh mr cA cJ M ++ (ob ou cJ o1 ++ dv x0 gv cl d0 h0d q0d h0u q0u h0e q0e h0p q0p h0q q0q h0o q0o h0r q0r cA cJ cW D)) → va_S A s.heap H locs → ∀ ls : Array Slot, lv_has ls 8 [(4, .int (nI i)), (3, .ref ou), (2, .ref m0), (1, .ref x0), (0, .ref b)] → W p l e room_1 s m #[Value.ref b] below meth c H locs kc ks Q (F0 m 537 ls []))
    (D : dS) (M : mT) (o1 : Nat → Int64) (hR : lw_R D M) (H : Heap) (locs : List Loc) (hP : va_P (dC, dI) classes (mv m0 ma mS mt mo mb mg mh mr cA cJ M ++ (ob ou cJ o1 ++ dv x0 gv cl d0 h0d q0d h0u q0u h0e q0e h0p q0p h0q q0q h0o q0o h0r q0r cA cJ cW D)) H) (hD : va_D A (mv m0 ma mS mt mo mb mg mh mr cA cJ M ++ (ob ou cJ o1 ++ dv x0 gv cl d0 h0d q0d h0u q0u h0e q0e h0p q0p h0q q0q h0o q0o h0r q0r cA cJ cW D))) (hS : va_S A s.heap H locs) (ls : Array Slot) (hl : lv_has ls 8 [(4, .int (nI i)), (3, .ref ou), (2, .ref m0), (1, .ref x0), (0, .ref b)]) : W p l e room_1 s m #[Value.ref b] below meth c H locs ka sa Q (F0 m 300 ls []) := by
  refine lv_aload_n hx hb d_Law_law_300 rfl (lv_at hl 3 rfl) ?_
  refine lv_aload_n hx hb d_Law_law_301 rfl (lv_at hl 1 rfl) ?_
  have hPc := xz_P hP
  have hDc := (xz_D hD).weaken (B := fun _ => True) (fun _ _ _ _ => trivial)
  have hFc := xz_F hD hS hA
  refine vx_calli (vx_runSX (As := [.ref x0, .ref ou]) (rest := []) ⟨hx, hb, hml, hown, hts⟩ (c_Law_determinant l hlt dC dI H.size x0 gv cl d0 h0d q0d h0u q0u h0e q0e h0p q0p h0q q0q h0o q0o h0r q0r cA cJ cW ou D o1  hR.1) (vx_cwSW 2 hts (gw_SW k_ml_Law_67 k_st_Law_determinant k_ini_Law k_code_Law_determinant) rfl rfl rfl (by decide +kernel) ⟨(Nat.le_of_ble_eq_true rfl), (Nat.le_of_ble_eq_true rfl)⟩) ⟨xc_X_blind, fun U hU hW => ⟨⟨rfl, by rw [hU], by rw [hU]; exact hPc, va_K.moved hW.alike hK, hDc⟩, by rw [hU]; exact ((hE.kept hS.2.1).narrow hFc).moved hW.alike⟩⟩ rfl rfl hl.1 rfl (lv_room (Nat.le_of_ble_eq_true rfl)) d_Law_law_302 ⟨Nat.le_trans hka hcl, Nat.le_trans hsa hsl⟩) hS (fun q _ h => hFc q h) hFc (fun q _ h => hFc q h) (fun E ce q9 u t_ H locs ht_ hvm_ hpx hBX hz1 hk1 hS hce hcv hcl => False.elim hpx) (fun rr u t_ H locs ht_ hvm_ hw hB hz1 hk1 hS => ?_)
  obtain ⟨hP1, hD1⟩ := hB
  rw [ht_] at hP1
  obtain ⟨hP, hD⟩ := xz_1 hP hD hk1 hFc hP1 hD1
  refine W.widen hka hsa ?_
  have hP : va_P (dC, dI) classes (mv m0 ma mS mt mo mb mg mh mr cA cJ M ++ (ob ou cJ u.2 ++ dv x0 gv cl d0 h0d q0d h0u q0u h0e q0e h0p q0p h0q q0q h0o q0o h0r q0r cA cJ cW u.1)) H := hP
  have hD : va_D A (mv m0 ma mS mt mo mb mg mh mr cA cJ M ++ (ob ou cJ u.2 ++ dv x0 gv cl d0 h0d q0d h0u q0u h0e q0e h0p q0p h0q q0q h0o q0o h0r q0r cA cJ cW u.1)) := hD
  refine lv_istore (lv' := [(5, .int rr), (4, .int (nI i)), (3, .ref ou), (2, .ref m0), (1, .ref x0), (0, .ref b)]) hx hb d_Law_law_305 hl (by decide) rfl (fun ls hl => ?_)
  refine lv_aload_n hx hb d_Law_law_307 rfl (lv_at hl 3 rfl) ?_
  have hPr := xz_rotP hP
  have hDr := xz_rotD hD
  have hPc := xz_P hPr
  have hDc := (xz_D hDr).weaken (B := fun _ => True) (fun _ _ _ _ => trivial)
  have hFc := xz_F hDr hS hA
  refine va_calli (va_runV (As := []) (rest := []) ⟨hx, hb, hml, hown, hts⟩ (c_Model_determinant l dC dI H.size m0 ma mS mt mo mb mg mh mr cA cJ M  hR.2.1) (cwV 0 hts (gw_V k_ml_Law_70 k_im_Model_determinant k_sel_Model_determinant k_ini_Model k_code_Model_determinant) rfl rfl rfl (by decide +kernel) ⟨(Nat.le_of_ble_eq_true rfl), (Nat.le_of_ble_eq_true rfl)⟩) ⟨xc_W_blind, va_recv hK hP (ci := 3) (q0 := 0) rfl rfl, fun U hU hW => ⟨rfl, by rw [hU], by rw [hU]; exact hPc, va_K.moved hW.alike (hK.sub (tys' := [(cA, .int), (cJ, .long)]) [0, 1] rfl), hDc⟩⟩ rfl rfl hl.1 rfl (lv_room (Nat.le_of_ble_eq_true rfl)) d_Law_law_308 ⟨hcl, hsl⟩) hS (fun q _ h => hFc q h) hFc (fun r2 w t_ H locs ht_ hvm_ hv hB hz1 hk1 hS => ?_)
  obtain ⟨hP1, hD1⟩ := hB
  rw [ht_] at hP1
  obtain ⟨hP, hD⟩ := xz_1 hPr hDr hk1 hFc hP1 hD1
  have hP := xz_rotP hP
  have hD := xz_rotD hD
  refine W.widen (k := kc) (n := ks) (Nat.le_refl _) (Nat.le_refl _) ?_
  have hP : va_P (dC, dI) classes (mv m0 ma mS mt mo mb mg mh mr cA cJ w ++ (ob ou cJ u.2 ++ dv x0 gv cl d0 h0d q0d h0u q0u h0e q0e h0p q0p h0q q0q h0o q0o h0r q0r cA cJ cW u.1)) H := hP
  have hD : va_D A (mv m0 ma mS mt mo mb mg mh mr cA cJ w ++ (ob ou cJ u.2 ++ dv x0 gv cl d0 h0d q0d h0u q0u h0e q0e h0p q0p h0q q0q h0o q0o h0r q0r cA cJ cW u.1)) := hD
  refine lv_istore (lv' := [(6, .int r2), (5, .int rr), (4, .int (nI i)), (3, .ref ou), (2, .ref m0), (1, .ref x0), (0, .ref b)]) hx hb d_Law_law_311 hl (by decide) rfl (fun ls hl => ?_)
  refine lv_aload_n hx hb d_Law_law_313 rfl (lv_at hl 4 rfl) ?_
  have hPc := xp_P (wc := [(m0, .inr (3, [.int w.er, .int (nI w.n), .int w.sv, .ref ma, .ref mS, .ref mt, .ref mo, .ref mb, .ref mg, .ref mh, .ref mr]))]) hP [0] rfl
  refine vp_callSi (W.runV (As := []) (rest := []) ⟨hx, hb, hml, hown, hts⟩ (c_Model_thrown l dC dI m0 ma mS mt mo mb mg mh mr w.er w.n w.sv) (cwV 0 hts (gw_V k_ml_Law_49 k_im_Model_thrown k_sel_Model_thrown k_ini_Model k_code_Model_thrown) rfl rfl rfl (by decide +kernel) ⟨(Nat.le_of_ble_eq_true rfl), (Nat.le_of_ble_eq_true rfl)⟩) ⟨xc_R_blind, va_recv hK hP (ci := 3) (q0 := 0) rfl rfl, fun U hU hW => ⟨rfl, by rw [hU]; exact hPc, va_K.moved hW.alike (hK.sub (tys' := []) [] rfl)⟩⟩ rfl rfl hl.1 rfl (lv_room (Nat.le_of_ble_eq_true rfl)) d_Law_law_314 ⟨hcl, hsl⟩) (fun r_ e_r => ?_)
  subst e_r
  have hr9 := lr_determinant hR hw hv
  refine lv_iload hx hb d_Law_law_317 (lv_at hl 1 rfl) ?_
  refine lv_icmp_eq (tgt := 324) hx hb d_Law_law_319 (by decide) (fun hne => ?_) (fun hne => ?_)
  rotate_left
  · exact absurd hr9.1 hne
  refine lv_iload hx hb d_Law_law_324 (lv_at hl 1 rfl) ?_
  refine lv_if_ne (tgt := 341) hx hb d_Law_law_326 (by decide) (fun hk0 => ?_) (fun hk0 => ?_)
  · refine lv_goto (tgt := 537) hx hb d_Law_law_341 (by decide) ?_
    exact kk u.1 w u.2 hr9.2.2 H locs hP hD hS ls (lv_sub hl [2, 3, 4, 5, 6] rfl)
  refine lv_aload_n hx hb d_Law_law_329 rfl (lv_at hl 3 rfl) ?_
  refine lv_iconst (v := nI 0) hx hb d_Law_law_330 rfl ?_
  refine xn_lald hx hb hK hP 9 1 rfl rfl (i := 0) (by decide) (by decide) d_Law_law_331 ?_
  refine lv_iload hx hb d_Law_law_332 (lv_at hl 0 rfl) ?_
  refine lv_i2l (v := r2.toInt64) hx hb d_Law_law_334 rfl ?_
  refine W.lcmp hx hb d_Law_law_335 ?_
  refine lv_if_eq (tgt := 341) hx hb d_Law_law_336 (by decide) (fun hq0 => ?_) (fun hq0 => ?_)
  rotate_left
  · exact absurd ((lg_cmp_eq _ _).mpr (hr9.2.1 hk0)) hq0
  refine lv_goto (tgt := 537) hx hb d_Law_law_341 (by decide) ?_
  exact kk u.1 w u.2 hr9.2.2 H locs hP hD hS ls (lv_sub hl [2, 3, 4, 5, 6] rfl)
set_option maxHeartbeats 8000000 in
set_option maxRecDepth 100000 in
/-- the law's case 5 -/
theorem lw_c5 {p : Program} {e : Env} {s : State} {m : MethodId} {below : List Frame} {meth : Method} {c : Code} {Q : State → Prop} (l : Launch) (hlt : l.stackTraces = false) {b L : Nat} {xs : Nat → Int32} (hL : L ≤ 2560) (hx : p.tables.exec = Jvm.exec) (hb : c.code = code) (hml : c.maxLocals = 8) (hown : s.vm.findClass R_Law = some m.cls) (hts : ∀ w ∈ gw_tbl, w.before #[Value.ref b] s = true) (hX : va_X b L xs s s.heap) (hbl : b < s.heap.size) {A : Nat → Prop} (hA : ∀ q : Nat, s.heap.size ≤ q → A q) (hbA : ¬ A b) (hE : xt_E A s s.heap)
    (dC : Nat → ClassId) (dI : Nat → Nat → Nat) (x0 gv cl d0 h0d q0d h0u q0u h0e q0e h0p q0p h0q q0q h0o q0o h0r q0r : Nat) (cA cJ cW : ClassId) (m0 ma mS mt mo mb mg mh mr ou : Nat) (hK : va_K (dC, dI) classes [(cA, .int), (cJ, .long), (cW, .object "EquationDesk$Whole")] s) {ka sa kc ks : Nat} (hka : ka + 1 ≤ kc) (hsa : sa + 6 ≤ ks) (hcl : kc ≤ room_1.cells) (hsl : ks ≤ room_1.slots) {i : Nat} (hi : i + 5 ≤ L)
    (kk : ∀ (D : dS) (M : mT) (o1 : Nat → Int64), lw_R D M → ∀ (H : Heap) (locs : List Loc), va_P (dC, dI) classes (mv m0 ma mS mt mo mb mg mh mr cA cJ M ++ (ob ou cJ o1 ++ dv x0 gv cl d0 h0d q0d h0u q0u h0e q0e h0p q0p h0q q0q h0o q0o h0r q0r cA cJ cW D)) H → va_D A (mv m0 ma mS mt mo mb mg mh mr cA cJ M ++ (ob ou cJ o1 ++ dv x0 gv cl d0 h0d q0d h0u q0u h0e q0e h0p q0p h0q q0q h0o q0o h0r q0r cA cJ cW D)) → va_S A s.heap H locs → ∀ ls : Array Slot, lv_has ls 8 [(4, .int (nI i)), (3, .ref ou), (2, .ref m0), (1, .ref x0), (0, .ref b)] → W p l e room_1 s m #[Value.ref b] below meth c H locs kc ks Q (F0 m 537 ls []))
    (D : dS) (M : mT) (o1 : Nat → Int64) (hR : lw_R D M) (H : Heap) (locs : List Loc) (hP : va_P (dC, dI) classes (mv m0 ma mS mt mo mb mg mh mr cA cJ M ++ (ob ou cJ o1 ++ dv x0 gv cl d0 h0d q0d h0u q0u h0e q0e h0p q0p h0q q0q h0o q0o h0r q0r cA cJ cW D)) H) (hD : va_D A (mv m0 ma mS mt mo mb mg mh mr cA cJ M ++ (ob ou cJ o1 ++ dv x0 gv cl d0 h0d q0d h0u q0u h0e q0e h0p q0p h0q q0q h0o q0o h0r q0r cA cJ cW D))) (hS : va_S A s.heap H locs) (ls : Array Slot) (hl : lv_has ls 8 [(4, .int (nI i)), (3, .ref ou), (2, .ref m0), (1, .ref x0), (0, .ref b)]) : W p l e room_1 s m #[Value.ref b] below meth c H locs ka sa Q (F0 m 344 ls []) := by
  refine lv_aload_n hx hb d_Law_law_344 rfl (lv_at hl 3 rfl) ?_
  refine lv_aload_n hx hb d_Law_law_345 rfl (lv_at hl 4 rfl) ?_
  refine lv_iload hx hb d_Law_law_346 (lv_at hl 0 rfl) ?_
  refine lv_iconst (v := nI 1) hx hb d_Law_law_348 rfl ?_
  refine xn_iadd hx hb d_Law_law_349 ?_
  refine lw_sld hx hb hX hbl hbA hS (i := i + 1) (by omega) hL d_Law_law_350 ?_
  refine lv_aload_n hx hb d_Law_law_351 rfl (lv_at hl 4 rfl) ?_
  refine lv_iload hx hb d_Law_law_352 (lv_at hl 0 rfl) ?_
  refine lv_iconst (v := nI 2) hx hb d_Law_law_354 rfl ?_
  refine xn_iadd hx hb d_Law_law_355 ?_
  refine lw_sld hx hb hX hbl hbA hS (i := i + 2) (by omega) hL d_Law_law_356 ?_
  refine lv_aload_n hx hb d_Law_law_357 rfl (lv_at hl 1 rfl) ?_
  have hPc := xz_P hP
  have hDc := (xz_D hD).weaken (B := fun _ => True) (fun _ _ _ _ => trivial)
  have hFc := xz_F hD hS hA
  refine vx_calli (vx_runSX (As := [.ref x0, .int (xs (i + 1)), .int (xs (i + 2)), .ref ou]) (rest := []) ⟨hx, hb, hml, hown, hts⟩ (c_Law_compare l hlt dC dI H.size x0 gv cl d0 h0d q0d h0u q0u h0e q0e h0p q0p h0q q0q h0o q0o h0r q0r cA cJ cW ou D o1 (xs (i + 1)) (xs (i + 2)) hR.1) (vx_cwSW 4 hts (gw_SW k_ml_Law_71 k_st_Law_compare k_ini_Law k_code_Law_compare) rfl rfl rfl (by decide +kernel) ⟨(Nat.le_of_ble_eq_true rfl), (Nat.le_of_ble_eq_true rfl)⟩) ⟨xc_X_blind, fun U hU hW => ⟨⟨rfl, by rw [hU], by rw [hU]; exact hPc, va_K.moved hW.alike hK, hDc⟩, by rw [hU]; exact ((hE.kept hS.2.1).narrow hFc).moved hW.alike⟩⟩ rfl rfl hl.1 rfl (lv_room (Nat.le_of_ble_eq_true rfl)) d_Law_law_358 ⟨Nat.le_trans hka hcl, Nat.le_trans hsa hsl⟩) hS (fun q _ h => hFc q h) hFc (fun q _ h => hFc q h) (fun E ce q9 u t_ H locs ht_ hvm_ hpx hBX hz1 hk1 hS hce hcv hcl => False.elim hpx) (fun rr u t_ H locs ht_ hvm_ hw hB hz1 hk1 hS => ?_)
  obtain ⟨hP1, hD1⟩ := hB
  rw [ht_] at hP1
  obtain ⟨hP, hD⟩ := xz_1 hP hD hk1 hFc hP1 hD1
  refine W.widen hka hsa ?_
  have hP : va_P (dC, dI) classes (mv m0 ma mS mt mo mb mg mh mr cA cJ M ++ (ob ou cJ u.2 ++ dv x0 gv cl d0 h0d q0d h0u q0u h0e q0e h0p q0p h0q q0q h0o q0o h0r q0r cA cJ cW u.1)) H := hP
  have hD : va_D A (mv m0 ma mS mt mo mb mg mh mr cA cJ M ++ (ob ou cJ u.2 ++ dv x0 gv cl d0 h0d q0d h0u q0u h0e q0e h0p q0p h0q q0q h0o q0o h0r q0r cA cJ cW u.1)) := hD
  refine lv_istore (lv' := [(5, .int rr), (4, .int (nI i)), (3, .ref ou), (2, .ref m0), (1, .ref x0), (0, .ref b)]) hx hb d_Law_law_361 hl (by decide) rfl (fun ls hl => ?_)
  refine lv_aload_n hx hb d_Law_law_363 rfl (lv_at hl 3 rfl) ?_
  refine lv_aload_n hx hb d_Law_law_364 rfl (lv_at hl 5 rfl) ?_
  refine lv_iload hx hb d_Law_law_365 (lv_at hl 1 rfl) ?_
  refine lv_iconst (v := nI 1) hx hb d_Law_law_367 rfl ?_
  refine xn_iadd hx hb d_Law_law_368 ?_
  refine lw_sld hx hb hX hbl hbA hS (i := i + 1) (by omega) hL d_Law_law_369 ?_
  refine lv_aload_n hx hb d_Law_law_370 rfl (lv_at hl 5 rfl) ?_
  refine lv_iload hx hb d_Law_law_371 (lv_at hl 1 rfl) ?_
  refine lv_iconst (v := nI 2) hx hb d_Law_law_373 rfl ?_
  refine xn_iadd hx hb d_Law_law_374 ?_
  refine lw_sld hx hb hX hbl hbA hS (i := i + 2) (by omega) hL d_Law_law_375 ?_
  have hPr := xz_rotP hP
  have hDr := xz_rotD hD
  have hPc := xz_P hPr
  have hDc := (xz_D hDr).weaken (B := fun _ => True) (fun _ _ _ _ => trivial)
  have hFc := xz_F hDr hS hA
  refine va_calli (va_runV (As := [.int (xs (i + 1)), .int (xs (i + 2))]) (rest := []) ⟨hx, hb, hml, hown, hts⟩ (c_Model_compare l dC dI H.size m0 ma mS mt mo mb mg mh mr cA cJ M (xs (i + 1)) (xs (i + 2)) hR.2.1) (cwV 2 hts (gw_V k_ml_Law_74 k_im_Model_compare k_sel_Model_compare k_ini_Model k_code_Model_compare) rfl rfl rfl (by decide +kernel) ⟨(Nat.le_of_ble_eq_true rfl), (Nat.le_of_ble_eq_true rfl)⟩) ⟨xc_W_blind, va_recv hK hP (ci := 3) (q0 := 0) rfl rfl, fun U hU hW => ⟨rfl, by rw [hU], by rw [hU]; exact hPc, va_K.moved hW.alike (hK.sub (tys' := [(cA, .int), (cJ, .long)]) [0, 1] rfl), hDc⟩⟩ rfl rfl hl.1 rfl (lv_room (Nat.le_of_ble_eq_true rfl)) d_Law_law_376 ⟨hcl, hsl⟩) hS (fun q _ h => hFc q h) hFc (fun r2 w t_ H locs ht_ hvm_ hv hB hz1 hk1 hS => ?_)
  obtain ⟨hP1, hD1⟩ := hB
  rw [ht_] at hP1
  obtain ⟨hP, hD⟩ := xz_1 hPr hDr hk1 hFc hP1 hD1
  have hP := xz_rotP hP
  have hD := xz_rotD hD
  refine W.widen (k := kc) (n := ks) (Nat.le_refl _) (Nat.le_refl _) ?_
  have hP : va_P (dC, dI) classes (mv m0 ma mS mt mo mb mg mh mr cA cJ w ++ (ob ou cJ u.2 ++ dv x0 gv cl d0 h0d q0d h0u q0u h0e q0e h0p q0p h0q q0q h0o q0o h0r q0r cA cJ cW u.1)) H := hP
  have hD : va_D A (mv m0 ma mS mt mo mb mg mh mr cA cJ w ++ (ob ou cJ u.2 ++ dv x0 gv cl d0 h0d q0d h0u q0u h0e q0e h0p q0p h0q q0q h0o q0o h0r q0r cA cJ cW u.1)) := hD
  refine lv_istore (lv' := [(6, .int r2), (5, .int rr), (4, .int (nI i)), (3, .ref ou), (2, .ref m0), (1, .ref x0), (0, .ref b)]) hx hb d_Law_law_379 hl (by decide) rfl (fun ls hl => ?_)
  refine lv_aload_n hx hb d_Law_law_381 rfl (lv_at hl 4 rfl) ?_
  have hPc := xp_P (wc := [(m0, .inr (3, [.int w.er, .int (nI w.n), .int w.sv, .ref ma, .ref mS, .ref mt, .ref mo, .ref mb, .ref mg, .ref mh, .ref mr]))]) hP [0] rfl
  refine vp_callSi (W.runV (As := []) (rest := []) ⟨hx, hb, hml, hown, hts⟩ (c_Model_thrown l dC dI m0 ma mS mt mo mb mg mh mr w.er w.n w.sv) (cwV 0 hts (gw_V k_ml_Law_49 k_im_Model_thrown k_sel_Model_thrown k_ini_Model k_code_Model_thrown) rfl rfl rfl (by decide +kernel) ⟨(Nat.le_of_ble_eq_true rfl), (Nat.le_of_ble_eq_true rfl)⟩) ⟨xc_R_blind, va_recv hK hP (ci := 3) (q0 := 0) rfl rfl, fun U hU hW => ⟨rfl, by rw [hU]; exact hPc, va_K.moved hW.alike (hK.sub (tys' := []) [] rfl)⟩⟩ rfl rfl hl.1 rfl (lv_room (Nat.le_of_ble_eq_true rfl)) d_Law_law_382 ⟨hcl, hsl⟩) (fun r_ e_r => ?_)
  subst e_r
  have hr9 := lr_compare hR hw hv
  refine lv_iload hx hb d_Law_law_385 (lv_at hl 1 rfl) ?_
  refine lv_icmp_eq (tgt := 392) hx hb d_Law_law_387 (by decide) (fun hne => ?_) (fun hne => ?_)
  rotate_left
  · exact absurd hr9.1 hne
  refine lv_iload hx hb d_Law_law_392 (lv_at hl 1 rfl) ?_
  refine lv_if_ne (tgt := 409) hx hb d_Law_law_394 (by decide) (fun hk0 => ?_) (fun hk0 => ?_)
  · refine lv_goto (tgt := 537) hx hb d_Law_law_409 (by decide) ?_
    exact kk u.1 w u.2 hr9.2.2 H locs hP hD hS ls (lv_sub hl [2, 3, 4, 5, 6] rfl)
  refine lv_aload_n hx hb d_Law_law_397 rfl (lv_at hl 3 rfl) ?_
  refine lv_iconst (v := nI 0) hx hb d_Law_law_398 rfl ?_
  refine xn_lald hx hb hK hP 9 1 rfl rfl (i := 0) (by decide) (by decide) d_Law_law_399 ?_
  refine lv_iload hx hb d_Law_law_400 (lv_at hl 0 rfl) ?_
  refine lv_i2l (v := r2.toInt64) hx hb d_Law_law_402 rfl ?_
  refine W.lcmp hx hb d_Law_law_403 ?_
  refine lv_if_eq (tgt := 409) hx hb d_Law_law_404 (by decide) (fun hq0 => ?_) (fun hq0 => ?_)
  rotate_left
  · exact absurd ((lg_cmp_eq _ _).mpr (hr9.2.1 hk0)) hq0
  refine lv_goto (tgt := 537) hx hb d_Law_law_409 (by decide) ?_
  exact kk u.1 w u.2 hr9.2.2 H locs hP hD hS ls (lv_sub hl [2, 3, 4, 5, 6] rfl)
set_option maxHeartbeats 8000000 in
set_option maxRecDepth 100000 in
/-- the law's case 6 -/
theorem lw_c6 {p : Program} {e : Env} {s : State} {m : MethodId} {below : List Frame} {meth : Method} {c : Code} {Q : State → Prop} (l : Launch) (hlt : l.stackTraces = false) {b L : Nat} {xs : Nat → Int32} (hL : L ≤ 2560) (hx : p.tables.exec = Jvm.exec) (hb : c.code = code) (hml : c.maxLocals = 8) (hown : s.vm.findClass R_Law = some m.cls) (hts : ∀ w ∈ gw_tbl, w.before #[Value.ref b] s = true) (hX : va_X b L xs s s.heap) (hbl : b < s.heap.size) {A : Nat → Prop} (hA : ∀ q : Nat, s.heap.size ≤ q → A q) (hbA : ¬ A b) (hE : xt_E A s s.heap)
    (dC : Nat → ClassId) (dI : Nat → Nat → Nat) (x0 gv cl d0 h0d q0d h0u q0u h0e q0e h0p q0p h0q q0q h0o q0o h0r q0r : Nat) (cA cJ cW : ClassId) (m0 ma mS mt mo mb mg mh mr ou : Nat) (hK : va_K (dC, dI) classes [(cA, .int), (cJ, .long), (cW, .object "EquationDesk$Whole")] s) {ka sa kc ks : Nat} (hka : ka + 1 ≤ kc) (hsa : sa + 6 ≤ ks) (hcl : kc ≤ room_1.cells) (hsl : ks ≤ room_1.slots) {i : Nat} (hi : i + 5 ≤ L)
    (kk : ∀ (D : dS) (M : mT) (o1 : Nat → Int64), lw_R D M → ∀ (H : Heap) (locs : List Loc), va_P (dC, dI) classes (mv m0 ma mS mt mo mb mg mh mr cA cJ M ++ (ob ou cJ o1 ++ dv x0 gv cl d0 h0d q0d h0u q0u h0e q0e h0p q0p h0q q0q h0o q0o h0r q0r cA cJ cW D)) H → va_D A (mv m0 ma mS mt mo mb mg mh mr cA cJ M ++ (ob ou cJ o1 ++ dv x0 gv cl d0 h0d q0d h0u q0u h0e q0e h0p q0p h0q q0q h0o q0o h0r q0r cA cJ cW D)) → va_S A s.heap H locs → ∀ ls : Array Slot, lv_has ls 8 [(4, .int (nI i)), (3, .ref ou), (2, .ref m0), (1, .ref x0), (0, .ref b)] → W p l e room_1 s m #[Value.ref b] below meth c H locs kc ks Q (F0 m 537 ls []))
    (D : dS) (M : mT) (o1 : Nat → Int64) (hR : lw_R D M) (H : Heap) (locs : List Loc) (hP : va_P (dC, dI) classes (mv m0 ma mS mt mo mb mg mh mr cA cJ M ++ (ob ou cJ o1 ++ dv x0 gv cl d0 h0d q0d h0u q0u h0e q0e h0p q0p h0q q0q h0o q0o h0r q0r cA cJ cW D)) H) (hD : va_D A (mv m0 ma mS mt mo mb mg mh mr cA cJ M ++ (ob ou cJ o1 ++ dv x0 gv cl d0 h0d q0d h0u q0u h0e q0e h0p q0p h0q q0q h0o q0o h0r q0r cA cJ cW D))) (hS : va_S A s.heap H locs) (ls : Array Slot) (hl : lv_has ls 8 [(4, .int (nI i)), (3, .ref ou), (2, .ref m0), (1, .ref x0), (0, .ref b)]) : W p l e room_1 s m #[Value.ref b] below meth c H locs ka sa Q (F0 m 412 ls []) := by
  refine W.widen (k := kc) (n := ks) (Nat.le_of_succ_le hka) (Nat.le_trans (Nat.le_add_right _ 6) hsa) ?_
  refine lv_aload_n hx hb d_Law_law_412 rfl (lv_at hl 3 rfl) ?_
  refine lv_aload_n hx hb d_Law_law_413 rfl (lv_at hl 4 rfl) ?_
  refine lv_iload hx hb d_Law_law_414 (lv_at hl 0 rfl) ?_
  refine lv_iconst (v := nI 1) hx hb d_Law_law_416 rfl ?_
  refine xn_iadd hx hb d_Law_law_417 ?_
  refine lw_sld hx hb hX hbl hbA hS (i := i + 1) (by omega) hL d_Law_law_418 ?_
  refine lv_if_eq (tgt := 426) hx hb d_Law_law_419 (by decide) (fun hb0 => ?_) (fun hb0 => ?_)
  · refine lv_iconst (v := nI 0) hx hb d_Law_law_426 rfl ?_
    have hPa : va_P (dC, dI) classes ((mv m0 ma mS mt mo mb mg mh mr cA cJ M ++ ob ou cJ o1) ++ dv x0 gv cl d0 h0d q0d h0u q0u h0e q0e h0p q0p h0q q0q h0o q0o h0r q0r cA cJ cW D) H := by rw [List.append_assoc]; exact hP
    have hPc := xz_P hPa
    refine vp_callSi (W.runV (As := [.int (nI 0)]) (rest := []) ⟨hx, hb, hml, hown, hts⟩ (c_Desk_bits l dC dI x0 gv cl d0 h0d q0d h0u q0u h0e q0e h0p q0p h0q q0q h0o q0o h0r q0r cA cJ cW D (nI 0) hR.1) (cwV 1 hts (gw_V k_ml_Law_75 k_im_Desk_bits k_sel_Desk_bits k_ini_Desk k_code_Desk_bits) rfl rfl rfl (by decide +kernel) ⟨(Nat.le_of_ble_eq_true rfl), (Nat.le_of_ble_eq_true rfl)⟩) ⟨xc_R_blind, va_recv hK hPc (ci := 0) (q0 := 0) rfl rfl, fun U hU hW => ⟨rfl, by rw [hU]; exact hPc, va_K.moved hW.alike hK⟩⟩ rfl rfl hl.1 rfl (lv_room (Nat.le_of_ble_eq_true rfl)) d_Law_law_427 ⟨hcl, hsl⟩) (fun rr hw => ?_)
    refine lv_aload_n hx hb d_Law_law_430 rfl (lv_at hl 2 rfl) ?_
    refine lv_aload_n hx hb d_Law_law_431 rfl (lv_at hl 4 rfl) ?_
    refine lv_iload hx hb d_Law_law_432 (lv_at hl 0 rfl) ?_
    refine lv_iconst (v := nI 1) hx hb d_Law_law_434 rfl ?_
    refine xn_iadd hx hb d_Law_law_435 ?_
    refine lw_sld hx hb hX hbl hbA hS (i := i + 1) (by omega) hL d_Law_law_436 ?_
    refine lv_if_eq (tgt := 444) hx hb d_Law_law_437 (by decide) (fun hb1 => ?_) (fun hb1 => ?_)
    rotate_left
    · exact absurd hb0 hb1
    refine lv_iconst (v := nI 0) hx hb d_Law_law_444 rfl ?_
    have hPr := xz_rotP hP
    have hDr := xz_rotD hD
    have hPc := xz_P hPr
    have hDc := (xz_D hDr).weaken (B := fun _ => True) (fun _ _ _ _ => trivial)
    have hFc := xz_F hDr hS hA
    refine va_calli (va_runV (As := [.int (nI 0)]) (rest := [.int rr]) ⟨hx, hb, hml, hown, hts⟩ (c_Model_bits l dC dI H.size m0 ma mS mt mo mb mg mh mr cA cJ M (nI 0) hR.2.1) (cwV 1 hts (gw_V k_ml_Law_79 k_im_Model_bits k_sel_Model_bits k_ini_Model k_code_Model_bits) rfl rfl rfl (by decide +kernel) ⟨(Nat.le_of_ble_eq_true rfl), (Nat.le_of_ble_eq_true rfl)⟩) ⟨xc_W_blind, va_recv hK hP (ci := 3) (q0 := 0) rfl rfl, fun U hU hW => ⟨rfl, by rw [hU], by rw [hU]; exact hPc, va_K.moved hW.alike (hK.sub (tys' := [(cA, .int), (cJ, .long)]) [0, 1] rfl), hDc⟩⟩ rfl rfl hl.1 rfl (lv_room (Nat.le_of_ble_eq_true rfl)) d_Law_law_445 ⟨hcl, hsl⟩) hS (fun q _ h => hFc q h) hFc (fun r2 w t_ H locs ht_ hvm_ hv hB hz1 hk1 hS => ?_)
    obtain ⟨hP1, hD1⟩ := hB
    rw [ht_] at hP1
    obtain ⟨hP, hD⟩ := xz_1 hPr hDr hk1 hFc hP1 hD1
    have hP := xz_rotP hP
    have hD := xz_rotD hD
    refine W.widen (k := kc) (n := ks) (Nat.le_refl _) (Nat.le_refl _) ?_
    have hP : va_P (dC, dI) classes (mv m0 ma mS mt mo mb mg mh mr cA cJ w ++ (ob ou cJ o1 ++ dv x0 gv cl d0 h0d q0d h0u q0u h0e q0e h0p q0p h0q q0q h0o q0o h0r q0r cA cJ cW D)) H := hP
    have hD : va_D A (mv m0 ma mS mt mo mb mg mh mr cA cJ w ++ (ob ou cJ o1 ++ dv x0 gv cl d0 h0d q0d h0u q0u h0e q0e h0p q0p h0q q0q h0o q0o h0r q0r cA cJ cW D)) := hD
    have hr9 := lr_bits hR hw hv
    refine lv_icmp_eq (tgt := 537) hx hb d_Law_law_448 (by decide) (fun hne => ?_) (fun hne => ?_)
    rotate_left
    · exact absurd hr9.1 hne
    exact kk D w o1 hr9.2 H locs hP hD hS ls (lv_sub hl [0, 1, 2, 3, 4] rfl)
  refine lv_iconst (v := nI 1) hx hb d_Law_law_422 rfl ?_
  refine lv_goto (tgt := 427) hx hb d_Law_law_423 (by decide) ?_
  have hPa : va_P (dC, dI) classes ((mv m0 ma mS mt mo mb mg mh mr cA cJ M ++ ob ou cJ o1) ++ dv x0 gv cl d0 h0d q0d h0u q0u h0e q0e h0p q0p h0q q0q h0o q0o h0r q0r cA cJ cW D) H := by rw [List.append_assoc]; exact hP
  have hPc := xz_P hPa
  refine vp_callSi (W.runV (As := [.int (nI 1)]) (rest := []) ⟨hx, hb, hml, hown, hts⟩ (c_Desk_bits l dC dI x0 gv cl d0 h0d q0d h0u q0u h0e q0e h0p q0p h0q q0q h0o q0o h0r q0r cA cJ cW D (nI 1) hR.1) (cwV 1 hts (gw_V k_ml_Law_75 k_im_Desk_bits k_sel_Desk_bits k_ini_Desk k_code_Desk_bits) rfl rfl rfl (by decide +kernel) ⟨(Nat.le_of_ble_eq_true rfl), (Nat.le_of_ble_eq_true rfl)⟩) ⟨xc_R_blind, va_recv hK hPc (ci := 0) (q0 := 0) rfl rfl, fun U hU hW => ⟨rfl, by rw [hU]; exact hPc, va_K.moved hW.alike hK⟩⟩ rfl rfl hl.1 rfl (lv_room (Nat.le_of_ble_eq_true rfl)) d_Law_law_427 ⟨hcl, hsl⟩) (fun rr hw => ?_)
  refine lv_aload_n hx hb d_Law_law_430 rfl (lv_at hl 2 rfl) ?_
  refine lv_aload_n hx hb d_Law_law_431 rfl (lv_at hl 4 rfl) ?_
  refine lv_iload hx hb d_Law_law_432 (lv_at hl 0 rfl) ?_
  refine lv_iconst (v := nI 1) hx hb d_Law_law_434 rfl ?_
  refine xn_iadd hx hb d_Law_law_435 ?_
  refine lw_sld hx hb hX hbl hbA hS (i := i + 1) (by omega) hL d_Law_law_436 ?_
  refine lv_if_eq (tgt := 444) hx hb d_Law_law_437 (by decide) (fun hb1 => ?_) (fun hb1 => ?_)
  · exact absurd hb1 hb0
  refine lv_iconst (v := nI 1) hx hb d_Law_law_440 rfl ?_
  refine lv_goto (tgt := 445) hx hb d_Law_law_441 (by decide) ?_
  have hPr := xz_rotP hP
  have hDr := xz_rotD hD
  have hPc := xz_P hPr
  have hDc := (xz_D hDr).weaken (B := fun _ => True) (fun _ _ _ _ => trivial)
  have hFc := xz_F hDr hS hA
  refine va_calli (va_runV (As := [.int (nI 1)]) (rest := [.int rr]) ⟨hx, hb, hml, hown, hts⟩ (c_Model_bits l dC dI H.size m0 ma mS mt mo mb mg mh mr cA cJ M (nI 1) hR.2.1) (cwV 1 hts (gw_V k_ml_Law_79 k_im_Model_bits k_sel_Model_bits k_ini_Model k_code_Model_bits) rfl rfl rfl (by decide +kernel) ⟨(Nat.le_of_ble_eq_true rfl), (Nat.le_of_ble_eq_true rfl)⟩) ⟨xc_W_blind, va_recv hK hP (ci := 3) (q0 := 0) rfl rfl, fun U hU hW => ⟨rfl, by rw [hU], by rw [hU]; exact hPc, va_K.moved hW.alike (hK.sub (tys' := [(cA, .int), (cJ, .long)]) [0, 1] rfl), hDc⟩⟩ rfl rfl hl.1 rfl (lv_room (Nat.le_of_ble_eq_true rfl)) d_Law_law_445 ⟨hcl, hsl⟩) hS (fun q _ h => hFc q h) hFc (fun r2 w t_ H locs ht_ hvm_ hv hB hz1 hk1 hS => ?_)
  obtain ⟨hP1, hD1⟩ := hB
  rw [ht_] at hP1
  obtain ⟨hP, hD⟩ := xz_1 hPr hDr hk1 hFc hP1 hD1
  have hP := xz_rotP hP
  have hD := xz_rotD hD
  refine W.widen (k := kc) (n := ks) (Nat.le_refl _) (Nat.le_refl _) ?_
  have hP : va_P (dC, dI) classes (mv m0 ma mS mt mo mb mg mh mr cA cJ w ++ (ob ou cJ o1 ++ dv x0 gv cl d0 h0d q0d h0u q0u h0e q0e h0p q0p h0q q0q h0o q0o h0r q0r cA cJ cW D)) H := hP
  have hD : va_D A (mv m0 ma mS mt mo mb mg mh mr cA cJ w ++ (ob ou cJ o1 ++ dv x0 gv cl d0 h0d q0d h0u q0u h0e q0e h0p q0p h0q q0q h0o q0o h0r q0r cA cJ cW D)) := hD
  have hr9 := lr_bits hR hw hv
  refine lv_icmp_eq (tgt := 537) hx hb d_Law_law_448 (by decide) (fun hne => ?_) (fun hne => ?_)
  rotate_left
  · exact absurd hr9.1 hne
  exact kk D w o1 hr9.2 H locs hP hD hS ls (lv_sub hl [0, 1, 2, 3, 4] rfl)
set_option maxHeartbeats 8000000 in
set_option maxRecDepth 100000 in
/-- the law's case 7 -/
theorem lw_c7 {p : Program} {e : Env} {s : State} {m : MethodId} {below : List Frame} {meth : Method} {c : Code} {Q : State → Prop} (l : Launch) (hlt : l.stackTraces = false) {b L : Nat} {xs : Nat → Int32} (hL : L ≤ 2560) (hx : p.tables.exec = Jvm.exec) (hb : c.code = code) (hml : c.maxLocals = 8) (hown : s.vm.findClass R_Law = some m.cls) (hts : ∀ w ∈ gw_tbl, w.before #[Value.ref b] s = true) (hX : va_X b L xs s s.heap) (hbl : b < s.heap.size) {A : Nat → Prop} (hA : ∀ q : Nat, s.heap.size ≤ q → A q) (hbA : ¬ A b) (hE : xt_E A s s.heap)
    (dC : Nat → ClassId) (dI : Nat → Nat → Nat) (x0 gv cl d0 h0d q0d h0u q0u h0e q0e h0p q0p h0q q0q h0o q0o h0r q0r : Nat) (cA cJ cW : ClassId) (m0 ma mS mt mo mb mg mh mr ou : Nat) (hK : va_K (dC, dI) classes [(cA, .int), (cJ, .long), (cW, .object "EquationDesk$Whole")] s) {ka sa kc ks : Nat} (hka : ka + 1 ≤ kc) (hsa : sa + 6 ≤ ks) (hcl : kc ≤ room_1.cells) (hsl : ks ≤ room_1.slots) {i : Nat} (hi : i + 5 ≤ L)
    (kk : ∀ (D : dS) (M : mT) (o1 : Nat → Int64), lw_R D M → ∀ (H : Heap) (locs : List Loc), va_P (dC, dI) classes (mv m0 ma mS mt mo mb mg mh mr cA cJ M ++ (ob ou cJ o1 ++ dv x0 gv cl d0 h0d q0d h0u q0u h0e q0e h0p q0p h0q q0q h0o q0o h0r q0r cA cJ cW D)) H → va_D A (mv m0 ma mS mt mo mb mg mh mr cA cJ M ++ (ob ou cJ o1 ++ dv x0 gv cl d0 h0d q0d h0u q0u h0e q0e h0p q0p h0q q0q h0o q0o h0r q0r cA cJ cW D)) → va_S A s.heap H locs → ∀ ls : Array Slot, lv_has ls 8 [(4, .int (nI i)), (3, .ref ou), (2, .ref m0), (1, .ref x0), (0, .ref b)] → W p l e room_1 s m #[Value.ref b] below meth c H locs kc ks Q (F0 m 537 ls []))
    (D : dS) (M : mT) (o1 : Nat → Int64) (hR : lw_R D M) (H : Heap) (locs : List Loc) (hP : va_P (dC, dI) classes (mv m0 ma mS mt mo mb mg mh mr cA cJ M ++ (ob ou cJ o1 ++ dv x0 gv cl d0 h0d q0d h0u q0u h0e q0e h0p q0p h0q q0q h0o q0o h0r q0r cA cJ cW D)) H) (hD : va_D A (mv m0 ma mS mt mo mb mg mh mr cA cJ M ++ (ob ou cJ o1 ++ dv x0 gv cl d0 h0d q0d h0u q0u h0e q0e h0p q0p h0q q0q h0o q0o h0r q0r cA cJ cW D))) (hS : va_S A s.heap H locs) (ls : Array Slot) (hl : lv_has ls 8 [(4, .int (nI i)), (3, .ref ou), (2, .ref m0), (1, .ref x0), (0, .ref b)]) : W p l e room_1 s m #[Value.ref b] below meth c H locs ka sa Q (F0 m 453 ls []) := by
  refine lv_aload_n hx hb d_Law_law_453 rfl (lv_at hl 3 rfl) ?_
  refine lv_aload_n hx hb d_Law_law_454 rfl (lv_at hl 4 rfl) ?_
  refine lv_iload hx hb d_Law_law_455 (lv_at hl 0 rfl) ?_
  refine lv_iconst (v := nI 1) hx hb d_Law_law_457 rfl ?_
  refine xn_iadd hx hb d_Law_law_458 ?_
  refine lw_sld hx hb hX hbl hbA hS (i := i + 1) (by omega) hL d_Law_law_459 ?_
  refine lv_if_eq (tgt := 467) hx hb d_Law_law_460 (by decide) (fun hb0 => ?_) (fun hb0 => ?_)
  · refine lv_iconst (v := nI 0) hx hb d_Law_law_467 rfl ?_
    refine lv_aload_n hx hb d_Law_law_468 rfl (lv_at hl 4 rfl) ?_
    refine lv_iload hx hb d_Law_law_469 (lv_at hl 0 rfl) ?_
    refine lv_iconst (v := nI 2) hx hb d_Law_law_471 rfl ?_
    refine xn_iadd hx hb d_Law_law_472 ?_
    refine lw_sld hx hb hX hbl hbA hS (i := i + 2) (by omega) hL d_Law_law_473 ?_
    refine lv_aload_n hx hb d_Law_law_474 rfl (lv_at hl 1 rfl) ?_
    have hPc := xz_P hP
    have hDc := (xz_D hD).weaken (B := fun _ => True) (fun _ _ _ _ => trivial)
    have hFc := xz_F hD hS hA
    refine vx_calli (vx_runSX (As := [.ref x0, .int (nI 0), .int (xs (i + 2)), .ref ou]) (rest := []) ⟨hx, hb, hml, hown, hts⟩ (c_Law_part l hlt dC dI H.size x0 gv cl d0 h0d q0d h0u q0u h0e q0e h0p q0p h0q q0q h0o q0o h0r q0r cA cJ cW ou D o1 (nI 0) (xs (i + 2)) hR.1) (vx_cwSW 4 hts (gw_SW k_ml_Law_80 k_st_Law_part k_ini_Law k_code_Law_part) rfl rfl rfl (by decide +kernel) ⟨(Nat.le_of_ble_eq_true rfl), (Nat.le_of_ble_eq_true rfl)⟩) ⟨xc_X_blind, fun U hU hW => ⟨⟨rfl, by rw [hU], by rw [hU]; exact hPc, va_K.moved hW.alike hK, hDc⟩, by rw [hU]; exact ((hE.kept hS.2.1).narrow hFc).moved hW.alike⟩⟩ rfl rfl hl.1 rfl (lv_room (Nat.le_of_ble_eq_true rfl)) d_Law_law_475 ⟨Nat.le_trans hka hcl, Nat.le_trans hsa hsl⟩) hS (fun q _ h => hFc q h) hFc (fun q _ h => hFc q h) (fun E ce q9 u t_ H locs ht_ hvm_ hpx hBX hz1 hk1 hS hce hcv hcl => False.elim hpx) (fun rr u t_ H locs ht_ hvm_ hw hB hz1 hk1 hS => ?_)
    obtain ⟨hP1, hD1⟩ := hB
    rw [ht_] at hP1
    obtain ⟨hP, hD⟩ := xz_1 hP hD hk1 hFc hP1 hD1
    refine W.widen hka hsa ?_
    have hP : va_P (dC, dI) classes (mv m0 ma mS mt mo mb mg mh mr cA cJ M ++ (ob ou cJ u.2 ++ dv x0 gv cl d0 h0d q0d h0u q0u h0e q0e h0p q0p h0q q0q h0o q0o h0r q0r cA cJ cW u.1)) H := hP
    have hD : va_D A (mv m0 ma mS mt mo mb mg mh mr cA cJ M ++ (ob ou cJ u.2 ++ dv x0 gv cl d0 h0d q0d h0u q0u h0e q0e h0p q0p h0q q0q h0o q0o h0r q0r cA cJ cW u.1)) := hD
    refine lv_istore (lv' := [(5, .int rr), (4, .int (nI i)), (3, .ref ou), (2, .ref m0), (1, .ref x0), (0, .ref b)]) hx hb d_Law_law_478 hl (by decide) rfl (fun ls hl => ?_)
    refine lv_aload_n hx hb d_Law_law_480 rfl (lv_at hl 3 rfl) ?_
    refine lv_aload_n hx hb d_Law_law_481 rfl (lv_at hl 5 rfl) ?_
    refine lv_iload hx hb d_Law_law_482 (lv_at hl 1 rfl) ?_
    refine lv_iconst (v := nI 1) hx hb d_Law_law_484 rfl ?_
    refine xn_iadd hx hb d_Law_law_485 ?_
    refine lw_sld hx hb hX hbl hbA hS (i := i + 1) (by omega) hL d_Law_law_486 ?_
    refine lv_if_eq (tgt := 494) hx hb d_Law_law_487 (by decide) (fun hb1 => ?_) (fun hb1 => ?_)
    rotate_left
    · exact absurd hb0 hb1
    refine lv_iconst (v := nI 0) hx hb d_Law_law_494 rfl ?_
    refine lv_aload_n hx hb d_Law_law_495 rfl (lv_at hl 5 rfl) ?_
    refine lv_iload hx hb d_Law_law_496 (lv_at hl 1 rfl) ?_
    refine lv_iconst (v := nI 2) hx hb d_Law_law_498 rfl ?_
    refine xn_iadd hx hb d_Law_law_499 ?_
    refine lw_sld hx hb hX hbl hbA hS (i := i + 2) (by omega) hL d_Law_law_500 ?_
    have hPr := xz_rotP hP
    have hDr := xz_rotD hD
    have hPc := xz_P hPr
    have hDc := (xz_D hDr).weaken (B := fun _ => True) (fun _ _ _ _ => trivial)
    have hFc := xz_F hDr hS hA
    refine va_calli (va_runV (As := [.int (nI 0), .int (xs (i + 2))]) (rest := []) ⟨hx, hb, hml, hown, hts⟩ (c_Model_part l dC dI H.size m0 ma mS mt mo mb mg mh mr cA cJ M (nI 0) (xs (i + 2)) hR.2.1) (cwV 2 hts (gw_V k_ml_Law_83 k_im_Model_part k_sel_Model_part k_ini_Model k_code_Model_part) rfl rfl rfl (by decide +kernel) ⟨(Nat.le_of_ble_eq_true rfl), (Nat.le_of_ble_eq_true rfl)⟩) ⟨xc_W_blind, va_recv hK hP (ci := 3) (q0 := 0) rfl rfl, fun U hU hW => ⟨rfl, by rw [hU], by rw [hU]; exact hPc, va_K.moved hW.alike (hK.sub (tys' := [(cA, .int), (cJ, .long)]) [0, 1] rfl), hDc⟩⟩ rfl rfl hl.1 rfl (lv_room (Nat.le_of_ble_eq_true rfl)) d_Law_law_501 ⟨hcl, hsl⟩) hS (fun q _ h => hFc q h) hFc (fun r2 w t_ H locs ht_ hvm_ hv hB hz1 hk1 hS => ?_)
    obtain ⟨hP1, hD1⟩ := hB
    rw [ht_] at hP1
    obtain ⟨hP, hD⟩ := xz_1 hPr hDr hk1 hFc hP1 hD1
    have hP := xz_rotP hP
    have hD := xz_rotD hD
    refine W.widen (k := kc) (n := ks) (Nat.le_refl _) (Nat.le_refl _) ?_
    have hP : va_P (dC, dI) classes (mv m0 ma mS mt mo mb mg mh mr cA cJ w ++ (ob ou cJ u.2 ++ dv x0 gv cl d0 h0d q0d h0u q0u h0e q0e h0p q0p h0q q0q h0o q0o h0r q0r cA cJ cW u.1)) H := hP
    have hD : va_D A (mv m0 ma mS mt mo mb mg mh mr cA cJ w ++ (ob ou cJ u.2 ++ dv x0 gv cl d0 h0d q0d h0u q0u h0e q0e h0p q0p h0q q0q h0o q0o h0r q0r cA cJ cW u.1)) := hD
    refine lv_istore (lv' := [(6, .int r2), (5, .int rr), (4, .int (nI i)), (3, .ref ou), (2, .ref m0), (1, .ref x0), (0, .ref b)]) hx hb d_Law_law_504 hl (by decide) rfl (fun ls hl => ?_)
    refine lv_aload_n hx hb d_Law_law_506 rfl (lv_at hl 4 rfl) ?_
    have hPc := xp_P (wc := [(m0, .inr (3, [.int w.er, .int (nI w.n), .int w.sv, .ref ma, .ref mS, .ref mt, .ref mo, .ref mb, .ref mg, .ref mh, .ref mr]))]) hP [0] rfl
    refine vp_callSi (W.runV (As := []) (rest := []) ⟨hx, hb, hml, hown, hts⟩ (c_Model_thrown l dC dI m0 ma mS mt mo mb mg mh mr w.er w.n w.sv) (cwV 0 hts (gw_V k_ml_Law_49 k_im_Model_thrown k_sel_Model_thrown k_ini_Model k_code_Model_thrown) rfl rfl rfl (by decide +kernel) ⟨(Nat.le_of_ble_eq_true rfl), (Nat.le_of_ble_eq_true rfl)⟩) ⟨xc_R_blind, va_recv hK hP (ci := 3) (q0 := 0) rfl rfl, fun U hU hW => ⟨rfl, by rw [hU]; exact hPc, va_K.moved hW.alike (hK.sub (tys' := []) [] rfl)⟩⟩ rfl rfl hl.1 rfl (lv_room (Nat.le_of_ble_eq_true rfl)) d_Law_law_507 ⟨hcl, hsl⟩) (fun r_ e_r => ?_)
    subst e_r
    have hr9 := lr_part hR hw hv
    refine lv_iload hx hb d_Law_law_510 (lv_at hl 1 rfl) ?_
    refine lv_icmp_eq (tgt := 517) hx hb d_Law_law_512 (by decide) (fun hne => ?_) (fun hne => ?_)
    rotate_left
    · exact absurd hr9.1 hne
    refine lv_iload hx hb d_Law_law_517 (lv_at hl 1 rfl) ?_
    refine lv_if_ne (tgt := 534) hx hb d_Law_law_519 (by decide) (fun hk0 => ?_) (fun hk0 => ?_)
    · refine lv_goto (tgt := 537) hx hb d_Law_law_534 (by decide) ?_
      exact kk u.1 w u.2 hr9.2.2 H locs hP hD hS ls (lv_sub hl [2, 3, 4, 5, 6] rfl)
    refine lv_aload_n hx hb d_Law_law_522 rfl (lv_at hl 3 rfl) ?_
    refine lv_iconst (v := nI 0) hx hb d_Law_law_523 rfl ?_
    refine xn_lald hx hb hK hP 9 1 rfl rfl (i := 0) (by decide) (by decide) d_Law_law_524 ?_
    refine lv_iload hx hb d_Law_law_525 (lv_at hl 0 rfl) ?_
    refine lv_i2l (v := r2.toInt64) hx hb d_Law_law_527 rfl ?_
    refine W.lcmp hx hb d_Law_law_528 ?_
    refine lv_if_eq (tgt := 534) hx hb d_Law_law_529 (by decide) (fun hq0 => ?_) (fun hq0 => ?_)
    rotate_left
    · exact absurd ((lg_cmp_eq _ _).mpr (hr9.2.1 hk0)) hq0
    refine lv_goto (tgt := 537) hx hb d_Law_law_534 (by decide) ?_
    exact kk u.1 w u.2 hr9.2.2 H locs hP hD hS ls (lv_sub hl [2, 3, 4, 5, 6] rfl)
  refine lv_iconst (v := nI 1) hx hb d_Law_law_463 rfl ?_
  refine lv_goto (tgt := 468) hx hb d_Law_law_464 (by decide) ?_
  refine lv_aload_n hx hb d_Law_law_468 rfl (lv_at hl 4 rfl) ?_
  refine lv_iload hx hb d_Law_law_469 (lv_at hl 0 rfl) ?_
  refine lv_iconst (v := nI 2) hx hb d_Law_law_471 rfl ?_
  refine xn_iadd hx hb d_Law_law_472 ?_
  refine lw_sld hx hb hX hbl hbA hS (i := i + 2) (by omega) hL d_Law_law_473 ?_
  refine lv_aload_n hx hb d_Law_law_474 rfl (lv_at hl 1 rfl) ?_
  have hPc := xz_P hP
  have hDc := (xz_D hD).weaken (B := fun _ => True) (fun _ _ _ _ => trivial)
  have hFc := xz_F hD hS hA
  refine vx_calli (vx_runSX (As := [.ref x0, .int (nI 1), .int (xs (i + 2)), .ref ou]) (rest := []) ⟨hx, hb, hml, hown, hts⟩ (c_Law_part l hlt dC dI H.size x0 gv cl d0 h0d q0d h0u q0u h0e q0e h0p q0p h0q q0q h0o q0o h0r q0r cA cJ cW ou D o1 (nI 1) (xs (i + 2)) hR.1) (vx_cwSW 4 hts (gw_SW k_ml_Law_80 k_st_Law_part k_ini_Law k_code_Law_part) rfl rfl rfl (by decide +kernel) ⟨(Nat.le_of_ble_eq_true rfl), (Nat.le_of_ble_eq_true rfl)⟩) ⟨xc_X_blind, fun U hU hW => ⟨⟨rfl, by rw [hU], by rw [hU]; exact hPc, va_K.moved hW.alike hK, hDc⟩, by rw [hU]; exact ((hE.kept hS.2.1).narrow hFc).moved hW.alike⟩⟩ rfl rfl hl.1 rfl (lv_room (Nat.le_of_ble_eq_true rfl)) d_Law_law_475 ⟨Nat.le_trans hka hcl, Nat.le_trans hsa hsl⟩) hS (fun q _ h => hFc q h) hFc (fun q _ h => hFc q h) (fun E ce q9 u t_ H locs ht_ hvm_ hpx hBX hz1 hk1 hS hce hcv hcl => False.elim hpx) (fun rr u t_ H locs ht_ hvm_ hw hB hz1 hk1 hS => ?_)
  obtain ⟨hP1, hD1⟩ := hB
  rw [ht_] at hP1
  obtain ⟨hP, hD⟩ := xz_1 hP hD hk1 hFc hP1 hD1
  refine W.widen hka hsa ?_
  have hP : va_P (dC, dI) classes (mv m0 ma mS mt mo mb mg mh mr cA cJ M ++ (ob ou cJ u.2 ++ dv x0 gv cl d0 h0d q0d h0u q0u h0e q0e h0p q0p h0q q0q h0o q0o h0r q0r cA cJ cW u.1)) H := hP
  have hD : va_D A (mv m0 ma mS mt mo mb mg mh mr cA cJ M ++ (ob ou cJ u.2 ++ dv x0 gv cl d0 h0d q0d h0u q0u h0e q0e h0p q0p h0q q0q h0o q0o h0r q0r cA cJ cW u.1)) := hD
  refine lv_istore (lv' := [(5, .int rr), (4, .int (nI i)), (3, .ref ou), (2, .ref m0), (1, .ref x0), (0, .ref b)]) hx hb d_Law_law_478 hl (by decide) rfl (fun ls hl => ?_)
  refine lv_aload_n hx hb d_Law_law_480 rfl (lv_at hl 3 rfl) ?_
  refine lv_aload_n hx hb d_Law_law_481 rfl (lv_at hl 5 rfl) ?_
  refine lv_iload hx hb d_Law_law_482 (lv_at hl 1 rfl) ?_
  refine lv_iconst (v := nI 1) hx hb d_Law_law_484 rfl ?_
  refine xn_iadd hx hb d_Law_law_485 ?_
  refine lw_sld hx hb hX hbl hbA hS (i := i + 1) (by omega) hL d_Law_law_486 ?_
  refine lv_if_eq (tgt := 494) hx hb d_Law_law_487 (by decide) (fun hb1 => ?_) (fun hb1 => ?_)
  · exact absurd hb1 hb0
  refine lv_iconst (v := nI 1) hx hb d_Law_law_490 rfl ?_
  refine lv_goto (tgt := 495) hx hb d_Law_law_491 (by decide) ?_
  refine lv_aload_n hx hb d_Law_law_495 rfl (lv_at hl 5 rfl) ?_
  refine lv_iload hx hb d_Law_law_496 (lv_at hl 1 rfl) ?_
  refine lv_iconst (v := nI 2) hx hb d_Law_law_498 rfl ?_
  refine xn_iadd hx hb d_Law_law_499 ?_
  refine lw_sld hx hb hX hbl hbA hS (i := i + 2) (by omega) hL d_Law_law_500 ?_
  have hPr := xz_rotP hP
  have hDr := xz_rotD hD
  have hPc := xz_P hPr
  have hDc := (xz_D hDr).weaken (B := fun _ => True) (fun _ _ _ _ => trivial)
  have hFc := xz_F hDr hS hA
  refine va_calli (va_runV (As := [.int (nI 1), .int (xs (i + 2))]) (rest := []) ⟨hx, hb, hml, hown, hts⟩ (c_Model_part l dC dI H.size m0 ma mS mt mo mb mg mh mr cA cJ M (nI 1) (xs (i + 2)) hR.2.1) (cwV 2 hts (gw_V k_ml_Law_83 k_im_Model_part k_sel_Model_part k_ini_Model k_code_Model_part) rfl rfl rfl (by decide +kernel) ⟨(Nat.le_of_ble_eq_true rfl), (Nat.le_of_ble_eq_true rfl)⟩) ⟨xc_W_blind, va_recv hK hP (ci := 3) (q0 := 0) rfl rfl, fun U hU hW => ⟨rfl, by rw [hU], by rw [hU]; exact hPc, va_K.moved hW.alike (hK.sub (tys' := [(cA, .int), (cJ, .long)]) [0, 1] rfl), hDc⟩⟩ rfl rfl hl.1 rfl (lv_room (Nat.le_of_ble_eq_true rfl)) d_Law_law_501 ⟨hcl, hsl⟩) hS (fun q _ h => hFc q h) hFc (fun r2 w t_ H locs ht_ hvm_ hv hB hz1 hk1 hS => ?_)
  obtain ⟨hP1, hD1⟩ := hB
  rw [ht_] at hP1
  obtain ⟨hP, hD⟩ := xz_1 hPr hDr hk1 hFc hP1 hD1
  have hP := xz_rotP hP
  have hD := xz_rotD hD
  refine W.widen (k := kc) (n := ks) (Nat.le_refl _) (Nat.le_refl _) ?_
  have hP : va_P (dC, dI) classes (mv m0 ma mS mt mo mb mg mh mr cA cJ w ++ (ob ou cJ u.2 ++ dv x0 gv cl d0 h0d q0d h0u q0u h0e q0e h0p q0p h0q q0q h0o q0o h0r q0r cA cJ cW u.1)) H := hP
  have hD : va_D A (mv m0 ma mS mt mo mb mg mh mr cA cJ w ++ (ob ou cJ u.2 ++ dv x0 gv cl d0 h0d q0d h0u q0u h0e q0e h0p q0p h0q q0q h0o q0o h0r q0r cA cJ cW u.1)) := hD
  refine lv_istore (lv' := [(6, .int r2), (5, .int rr), (4, .int (nI i)), (3, .ref ou), (2, .ref m0), (1, .ref x0), (0, .ref b)]) hx hb d_Law_law_504 hl (by decide) rfl (fun ls hl => ?_)
  refine lv_aload_n hx hb d_Law_law_506 rfl (lv_at hl 4 rfl) ?_
  have hPc := xp_P (wc := [(m0, .inr (3, [.int w.er, .int (nI w.n), .int w.sv, .ref ma, .ref mS, .ref mt, .ref mo, .ref mb, .ref mg, .ref mh, .ref mr]))]) hP [0] rfl
  refine vp_callSi (W.runV (As := []) (rest := []) ⟨hx, hb, hml, hown, hts⟩ (c_Model_thrown l dC dI m0 ma mS mt mo mb mg mh mr w.er w.n w.sv) (cwV 0 hts (gw_V k_ml_Law_49 k_im_Model_thrown k_sel_Model_thrown k_ini_Model k_code_Model_thrown) rfl rfl rfl (by decide +kernel) ⟨(Nat.le_of_ble_eq_true rfl), (Nat.le_of_ble_eq_true rfl)⟩) ⟨xc_R_blind, va_recv hK hP (ci := 3) (q0 := 0) rfl rfl, fun U hU hW => ⟨rfl, by rw [hU]; exact hPc, va_K.moved hW.alike (hK.sub (tys' := []) [] rfl)⟩⟩ rfl rfl hl.1 rfl (lv_room (Nat.le_of_ble_eq_true rfl)) d_Law_law_507 ⟨hcl, hsl⟩) (fun r_ e_r => ?_)
  subst e_r
  have hr9 := lr_part hR hw hv
  refine lv_iload hx hb d_Law_law_510 (lv_at hl 1 rfl) ?_
  refine lv_icmp_eq (tgt := 517) hx hb d_Law_law_512 (by decide) (fun hne => ?_) (fun hne => ?_)
  rotate_left
  · exact absurd hr9.1 hne
  refine lv_iload hx hb d_Law_law_517 (lv_at hl 1 rfl) ?_
  refine lv_if_ne (tgt := 534) hx hb d_Law_law_519 (by decide) (fun hk0 => ?_) (fun hk0 => ?_)
  · refine lv_goto (tgt := 537) hx hb d_Law_law_534 (by decide) ?_
    exact kk u.1 w u.2 hr9.2.2 H locs hP hD hS ls (lv_sub hl [2, 3, 4, 5, 6] rfl)
  refine lv_aload_n hx hb d_Law_law_522 rfl (lv_at hl 3 rfl) ?_
  refine lv_iconst (v := nI 0) hx hb d_Law_law_523 rfl ?_
  refine xn_lald hx hb hK hP 9 1 rfl rfl (i := 0) (by decide) (by decide) d_Law_law_524 ?_
  refine lv_iload hx hb d_Law_law_525 (lv_at hl 0 rfl) ?_
  refine lv_i2l (v := r2.toInt64) hx hb d_Law_law_527 rfl ?_
  refine W.lcmp hx hb d_Law_law_528 ?_
  refine lv_if_eq (tgt := 534) hx hb d_Law_law_529 (by decide) (fun hq0 => ?_) (fun hq0 => ?_)
  rotate_left
  · exact absurd ((lg_cmp_eq _ _).mpr (hr9.2.1 hk0)) hq0
  refine lv_goto (tgt := 537) hx hb d_Law_law_534 (by decide) ?_
  exact kk u.1 w u.2 hr9.2.2 H locs hP hD hS ls (lv_sub hl [2, 3, 4, 5, 6] rfl)
/-! THE CLAIM OUT OF ONE WALK OF THE LAW'S BODY. Your part is whole_start (and what it stands on); all else here is the same for every law, but numbers. -/
def R_law : String := "EquationDeskLaw"
def lw_P (b : Addr) (xs : List Int32) (args : Array Value) (s : State) : Prop := args = #[.ref b] ∧ s.IntsAt b xs ∧ xs.length ≤ 2560 ∧ (Jvm.Cond.and given_1 narrow_1).before args s = true
def lw_Q (_ : Array Value) (s : State) (o : Outcome) (t : State) : Prop := o = .returned (some (.int 1)) ∧ Framed s o t [] 601024 7293034
def lw_Z (below : List Frame) (a : Array Value) (s : State) : State → Prop := fun t => ∃ o, t.status = .running ∧ Ended t below o ∧ lw_Q a s o t
/-- the law's own end, with 1 on the stack, nothing written that was there before, its room as the claim has it -/
theorem lw_ret {p : Program} {l : Launch} {e : Env} {s : State} {m : MethodId} {below : List Frame} {meth : Method} {c : Code} {b : Nat} (hx : p.tables.exec = Jvm.exec) (hb : c.code = code) (hr : meth.sig.returnType = ret) (hlocks : meth.locks = false) {pc : Nat} {H : Heap} {ls : Array Slot} (hdg : decode code pc = .ok (.ireturn, 1)) : W p l e room_1 s m #[Value.ref b] below meth c H [] 601024 7293034 (lw_Z below #[Value.ref b] s) (F0 m pc ls [.int 1]) := by
  intro T hT X
  obtain ⟨fs, hret, hrun, hended, hW, hframe⟩ := X.leave (v := some (.int 1)) (hlocks := hlocks) (fun h => by rw [hr] at h; cases h)
  have hmeth' : T.vm.method? m = some meth := X.method'
  refine ⟨T.setFrames fs, ?_, .returned (some (.int 1)), hrun, hended, rfl, ⟨_, rfl⟩, hW, hframe⟩
  jvm_step X.here [X.here.top, hx, hb, hdg, hmeth', hr, ret, narrow_b1]
  (try refine ⟨rfl, ?_⟩); (try refine ⟨rfl, ?_⟩)
  first | (intro acts; rw [hret _ acts rfl rfl rfl]) | rw [hret _ _ rfl rfl rfl]
  exact Steps.refl _
/-- what holds at the law's entry: the machine, the code, the tables' words (any of lw_tbl by 'hts w (by decide +kernel)'), the script of L ints xs at the cell b, what the Statement gives of the start (any of its parts by flat_of_before) -/
def lw_At (p : Program) (s : State) (m : MethodId) (meth : Method) (c : Code) (b L : Nat) (xs : Nat → Int32) : Prop :=
  p.tables.exec = Jvm.exec ∧ c.code = code ∧ meth.sig.returnType = ret ∧ c.maxLocals = 8 ∧ s.vm.findClass R_law = some m.cls ∧ (∀ w ∈ lw_tbl, w.before #[Value.ref b] s = true) ∧ va_X b L xs s s.heap ∧ b < s.heap.size ∧ meth.locks = false ∧ (Jvm.Cond.and given_1 narrow_1).before #[Value.ref b] s = true
-- THE LAW'S START AND ITS LOOP
theorem xt_N_in : ∀ w ∈ xt_N, w ∈ lw_tbl := by decide +kernel
theorem lw_t1 : Cond.laysStatic Bundle.tN "UNASSIGNED_STACK" Bundle.steD ∈ lw_tbl := by decide +kernel
theorem lw_t2 : Cond.laysStatic Bundle.tN "SUPPRESSED_SENTINEL" Bundle.listD ∈ lw_tbl := by decide +kernel
theorem lw_t3 : Cond.initialized Bundle.tN ∈ lw_tbl := by decide +kernel
theorem lw_t4 : Cond.methodLinkNest R_Desk 48 y_Divisor_init R_Desk ∈ lw_tbl := by decide +kernel
theorem lw_t5 : Cond.arrayOver (.object R_Whole) ∈ lw_tbl := by decide +kernel
theorem lw_blind {ws : List Value} {dC : Nat → ClassId} {dI : Nat → Nat → Nat} {wo : va_W} {tys : List (ClassId × FieldType)} {sz : Nat} : FrameBlind (fun v U => xc_W ws dC dI wo tys sz v U ∧ va_Nw (.methodLinkNest R_Desk 48 y_Divisor_init R_Desk) U ∧ va_AO R_Whole U) := fun a U g mk q => ⟨xc_W_blind a U g mk q.1, va_Nw.same (u := U) (U := U.calling g mk a) rfl rfl q.2.1, va_AO.moved (u := U) (U := U.calling g mk a) (Vm.Alike.refl U.vm) q.2.2⟩
theorem lw_K {s : State} {args : Array Value} (hts : ∀ w ∈ gw_tbl, w.before args s = true) : ∃ (dC : Nat → ClassId) (dI : Nat → Nat → Nat) (cA cJ : ClassId), va_K (dC, dI) classes [(cA, .int), (cJ, .long)] s := by
  obtain ⟨c0, i0, k0⟩ := u_known hts i_Desk (hts _ k_inst_Desk)
  obtain ⟨c1, i1, k1⟩ := u_known hts i_Whole (hts _ k_inst_Whole)
  obtain ⟨c2, i2, k2⟩ := u_known hts i_Divisor (hts _ k_inst_Divisor)
  obtain ⟨c3, i3, k3⟩ := u_known hts i_Model (hts _ k_inst_Model)
  obtain ⟨cA, hcA⟩ := xn_arrI (hts _ k_arr_int)
  obtain ⟨cJ, hcJ⟩ := xn_arrJ (hts _ k_arr_long)
  refine ⟨fun k => if k = 0 then c0 else if k = 1 then c1 else if k = 2 then c2 else c3, fun k => if k = 0 then i0 else if k = 1 then i1 else if k = 2 then i2 else i3, cA, cJ, fun k q hk => ?_, fun k q hk => ?_⟩
  · have hk4 : k < 4 := (List.getElem?_eq_some_iff.mp hk).1
    rcases (show k = 0 ∨ k = 1 ∨ k = 2 ∨ k = 3 by omega) with rfl | rfl | rfl | rfl <;> cases hk
    · exact k0
    · exact k1
    · exact k2
    · exact k3
  · have hk2 : k < 2 := (List.getElem?_eq_some_iff.mp hk).1
    rcases (show k = 0 ∨ k = 1 by omega) with rfl | rfl <;> cases hk
    · exact hcA
    · exact hcJ
set_option maxHeartbeats 8000000 in
set_option maxRecDepth 100000 in
/-- the law's loop -/
theorem lw_loop {p : Program} {e : Env} {s : State} {m : MethodId} {below : List Frame} {meth : Method} {c : Code} (l : Launch) (hlt : l.stackTraces = false) {b L : Nat} {xs : Nat → Int32} (hL : L ≤ 2560) (hx : p.tables.exec = Jvm.exec) (hb : c.code = code) (hml : c.maxLocals = 8) (hown : s.vm.findClass R_Law = some m.cls) (hts : ∀ w ∈ gw_tbl, w.before #[Value.ref b] s = true) (hX : va_X b L xs s s.heap) (hbl : b < s.heap.size) {A : Nat → Prop} (hA : ∀ q : Nat, s.heap.size ≤ q → A q) (hbA : ¬ A b) (hE : xt_E A s s.heap)
    (dC : Nat → ClassId) (dI : Nat → Nat → Nat) (x0 gv cl d0 h0d q0d h0u q0u h0e q0e h0p q0p h0q q0q h0o q0o h0r q0r : Nat) (cA cJ cW : ClassId) (m0 ma mS mt mo mb mg mh mr ou : Nat) (hK : va_K (dC, dI) classes [(cA, .int), (cJ, .long), (cW, .object "EquationDesk$Whole")] s) 
    (hr : meth.sig.returnType = ret) (hlocks : meth.locks = false) (hAe : ∀ q, A q → s.heap.size ≤ q) : ∀ (n0 i : Nat) (D : dS) (M : mT) (o1 : Nat → Int64), lw_R D M → i ≤ L → L + 1 ≤ i + n0 → ∀ (H : Heap) (locs : List Loc), va_P (dC, dI) classes (mv m0 ma mS mt mo mb mg mh mr cA cJ M ++ (ob ou cJ o1 ++ dv x0 gv cl d0 h0d q0d h0u q0u h0e q0e h0p q0p h0q q0q h0o q0o h0r q0r cA cJ cW D)) H → va_D A (mv m0 ma mS mt mo mb mg mh mr cA cJ M ++ (ob ou cJ o1 ++ dv x0 gv cl d0 h0d q0d h0u q0u h0e q0e h0p q0p h0q q0q h0o q0o h0r q0r cA cJ cW D)) → va_S A s.heap H locs → ∀ ls : Array Slot, lv_has ls 8 [(4, .int (nI i)), (3, .ref ou), (2, .ref m0), (1, .ref x0), (0, .ref b)] → W p l e room_1 s m #[Value.ref b] below meth c H locs (340 + i) (468547 + 6 * i) (lw_Z below #[Value.ref b] s) (F0 m 23 ls []) := by
  intro n0
  induction n0 with
  | zero => intro i D M o1 hR hi hn_; exact absurd hn_ (by omega)
  | succ n0 ih =>
    intro i D M o1 hR hi hn_ H locs hP hD hS ls hl
    refine lv_iload hx hb d_Law_law_23 (lv_at hl 0 rfl) ?_
    refine lv_aload_n hx hb d_Law_law_25 rfl (lv_at hl 4 rfl) ?_
    refine lw_slen hx hb hX hbl hbA hS d_Law_law_26 ?_
    refine lv_iconst (v := nI 5) hx hb d_Law_law_27 rfl ?_
    refine lv_isub hx hb d_Law_law_28 ?_
    refine lv_icmp_gt (tgt := 543) hx hb d_Law_law_29 (by decide) (fun hge => ?_) (fun hge => ?_)
    · refine lv_iconst (v := 1) hx hb d_Law_law_543 (by decide) ?_
      refine va_forget (fun q hq => hAe _ (hS.2.2 q hq)) (W.widen (k := 601024) (n := 7293034) (by omega) (by omega) ?_)
      exact lw_ret hx hb hr hlocks d_Law_law_544
    have hi5 : i + 5 ≤ L := lr_turn hL hi hge
    refine lv_aload_n hx hb d_Law_law_32 rfl (lv_at hl 4 rfl) ?_
    refine lv_iload hx hb d_Law_law_33 (lv_at hl 0 rfl) ?_
    refine lw_sld hx hb hX hbl hbA hS (i := i) (by omega) hL d_Law_law_35 ?_
    refine lv_bipush (v := nI 7) hx hb d_Law_law_36 rfl ?_
    obtain ⟨k7, hk7, e7⟩ := lr_and7 (xs i)
    refine xe_iand (v := nI k7) hx hb d_Law_law_38 e7 ?_
    have kk : ∀ (D : dS) (M : mT) (o1 : Nat → Int64), lw_R D M → ∀ (H : Heap) (locs : List Loc), va_P (dC, dI) classes (mv m0 ma mS mt mo mb mg mh mr cA cJ M ++ (ob ou cJ o1 ++ dv x0 gv cl d0 h0d q0d h0u q0u h0e q0e h0p q0p h0q q0q h0o q0o h0r q0r cA cJ cW D)) H → va_D A (mv m0 ma mS mt mo mb mg mh mr cA cJ M ++ (ob ou cJ o1 ++ dv x0 gv cl d0 h0d q0d h0u q0u h0e q0e h0p q0p h0q q0q h0o q0o h0r q0r cA cJ cW D)) → va_S A s.heap H locs → ∀ ls : Array Slot, lv_has ls 8 [(4, .int (nI i)), (3, .ref ou), (2, .ref m0), (1, .ref x0), (0, .ref b)] → W p l e room_1 s m #[Value.ref b] below meth c H locs (340 + (i + 5)) (468547 + 6 * (i + 5)) (lw_Z below #[Value.ref b] s) (F0 m 537 ls []) := by
      intro D M o1 hR H locs hP hD hS ls hl
      refine lv_iinc (v := nI (i + 5)) (lv' := [(4, .int (nI (i + 5))), (3, .ref ou), (2, .ref m0), (1, .ref x0), (0, .ref b)]) hx hb d_Law_law_537 hl (k := 0) rfl (nI_add _ 5) (by decide) rfl (fun ls hl => ?_)
      refine lv_goto (tgt := 23) hx hb d_Law_law_540 (by decide) ?_
      exact ih (i + 5) D M o1 hR hi5 (by omega) H locs hP hD hS ls hl
    have hcl : 340 + (i + 5) ≤ room_1.cells := by show _ ≤ 601024; omega
    have hsl : 468547 + 6 * (i + 5) ≤ room_1.slots := by show _ ≤ 7293034; omega
    rcases (show k7 = 0 ∨ k7 = 1 ∨ k7 = 2 ∨ k7 = 3 ∨ k7 = 4 ∨ k7 = 5 ∨ k7 = 6 ∨ k7 = 7 by omega) with rfl | rfl | rfl | rfl | rfl | rfl | rfl | rfl
    · refine lv_tableIn (off := 45) (tgt := 84) hx hb d_Law_law_39 (by decide +kernel) (by decide +kernel) (by decide +kernel) (by decide) ?_
      exact lw_c0 l hlt hL hx hb hml hown hts hX hbl hA hbA hE dC dI x0 gv cl d0 h0d q0d h0u q0u h0e q0e h0p q0p h0q q0q h0o q0o h0r q0r cA cJ cW m0 ma mS mt mo mb mg mh mr ou hK (by omega) (by omega) hcl hsl hi5 kk D M o1 hR H locs hP hD hS ls hl
    · refine lv_tableIn (off := 81) (tgt := 120) hx hb d_Law_law_39 (by decide +kernel) (by decide +kernel) (by decide +kernel) (by decide) ?_
      exact lw_c1 l hlt hL hx hb hml hown hts hX hbl hA hbA hE dC dI x0 gv cl d0 h0d q0d h0u q0u h0e q0e h0p q0p h0q q0q h0o q0o h0r q0r cA cJ cW m0 ma mS mt mo mb mg mh mr ou hK (by omega) (by omega) hcl hsl hi5 kk D M o1 hR H locs hP hD hS ls hl
    · refine lv_tableIn (off := 192) (tgt := 231) hx hb d_Law_law_39 (by decide +kernel) (by decide +kernel) (by decide +kernel) (by decide) ?_
      exact lw_c2 l hlt hL hx hb hml hown hts hX hbl hA hbA hE dC dI x0 gv cl d0 h0d q0d h0u q0u h0e q0e h0p q0p h0q q0q h0o q0o h0r q0r cA cJ cW m0 ma mS mt mo mb mg mh mr ou hK (by omega) (by omega) hcl hsl hi5 kk D M o1 hR H locs hP hD hS ls hl
    · refine lv_tableIn (off := 205) (tgt := 244) hx hb d_Law_law_39 (by decide +kernel) (by decide +kernel) (by decide +kernel) (by decide) ?_
      exact lw_c3 l hlt hL hx hb hml hown hts hX hbl hA hbA hE dC dI x0 gv cl d0 h0d q0d h0u q0u h0e q0e h0p q0p h0q q0q h0o q0o h0r q0r cA cJ cW m0 ma mS mt mo mb mg mh mr ou hK (by omega) (by omega) hcl hsl hi5 kk D M o1 hR H locs hP hD hS ls hl
    · refine lv_tableIn (off := 261) (tgt := 300) hx hb d_Law_law_39 (by decide +kernel) (by decide +kernel) (by decide +kernel) (by decide) ?_
      exact lw_c4 l hlt hL hx hb hml hown hts hX hbl hA hbA hE dC dI x0 gv cl d0 h0d q0d h0u q0u h0e q0e h0p q0p h0q q0q h0o q0o h0r q0r cA cJ cW m0 ma mS mt mo mb mg mh mr ou hK (by omega) (by omega) hcl hsl hi5 kk D M o1 hR H locs hP hD hS ls hl
    · refine lv_tableIn (off := 305) (tgt := 344) hx hb d_Law_law_39 (by decide +kernel) (by decide +kernel) (by decide +kernel) (by decide) ?_
      exact lw_c5 l hlt hL hx hb hml hown hts hX hbl hA hbA hE dC dI x0 gv cl d0 h0d q0d h0u q0u h0e q0e h0p q0p h0q q0q h0o q0o h0r q0r cA cJ cW m0 ma mS mt mo mb mg mh mr ou hK (by omega) (by omega) hcl hsl hi5 kk D M o1 hR H locs hP hD hS ls hl
    · refine lv_tableIn (off := 373) (tgt := 412) hx hb d_Law_law_39 (by decide +kernel) (by decide +kernel) (by decide +kernel) (by decide) ?_
      exact lw_c6 l hlt hL hx hb hml hown hts hX hbl hA hbA hE dC dI x0 gv cl d0 h0d q0d h0u q0u h0e q0e h0p q0p h0q q0q h0o q0o h0r q0r cA cJ cW m0 ma mS mt mo mb mg mh mr ou hK (by omega) (by omega) hcl hsl hi5 kk D M o1 hR H locs hP hD hS ls hl
    · refine lv_tableIn (off := 414) (tgt := 453) hx hb d_Law_law_39 (by decide +kernel) (by decide +kernel) (by decide +kernel) (by decide) ?_
      exact lw_c7 l hlt hL hx hb hml hown hts hX hbl hA hbA hE dC dI x0 gv cl d0 h0d q0d h0u q0u h0e q0e h0p q0p h0q q0q h0o q0o h0r q0r cA cJ cW m0 ma mS mt mo mb mg mh mr ou hK (by omega) (by omega) hcl hsl hi5 kk D M o1 hR H locs hP hD hS ls hl
set_option maxHeartbeats 8000000 in
set_option maxRecDepth 100000 in
/-- from the entry, for every script of at most 2560 ints, the law comes to its end with true -/
theorem whole_start {p : Program} {e : Env} {s : State} {m : MethodId} {below : List Frame} {meth : Method} {c : Code} (l : Launch) (hlt : l.stackTraces = false) {b L : Nat} {xs : Nat → Int32} (hL : L ≤ 2560) (C0 : lw_At p s m meth c b L xs) : W p l e room_1 s m #[Value.ref b] below meth c s.heap [] 0 0 (lw_Z below #[Value.ref b] s) (entryFrame m ([Value.ref b] : List Value).toArray 8) := by
  obtain ⟨hx, hb, hr, hml, hown0, htl, hX, hbl, hlocks, hgv⟩ := C0
  have hown : s.vm.findClass R_Law = some m.cls := hown0
  have hts : ∀ w ∈ gw_tbl, w.before #[Value.ref b] s = true := fun w h => htl w (List.mem_filter.mp h).1
  have hfl := flat_of_before _ hgv
  obtain ⟨A, hA, hAe⟩ : ∃ A : Nat → Prop, (∀ q : Nat, s.heap.size ≤ q → A q) ∧ ∀ q : Nat, A q → s.heap.size ≤ q := ⟨fun q => s.heap.size ≤ q, fun _ h => h, fun _ h => h⟩
  have hAn : ∀ q : Nat, q < s.heap.size → ¬ A q := fun q h z => absurd (hAe q z) (Nat.not_le.mpr h)
  have hbA : ¬ A b := hAn b hbl
  have hS : va_S A s.heap s.heap [] := va_S.rf
  have hE : xt_E A s s.heap := ⟨vx_Zqof (htl _ lw_t1) (htl _ lw_t3) (hfl _ (by decide +kernel)) hAn, vx_Zqof (htl _ lw_t2) (htl _ lw_t3) (hfl _ (by decide +kernel)) hAn, fun w hw => va_Nw.of (xt_N_tab w hw) (htl w (xt_N_in w hw)), va_Nc.of (hfl _ (by decide +kernel))⟩
  have hNw : va_Nw (.methodLinkNest R_Desk 48 y_Divisor_init R_Desk) s := va_Nw.of rfl (htl _ lw_t4)
  have hAO : va_AO R_Whole s := va_AO.of (htl _ lw_t5)
  obtain ⟨dC, dI, cA, cJ, hK⟩ := lw_K hts
  have hP : va_P (dC, dI) classes [] s.heap := fun k q h => by simp at h
  have hD : va_D A [] := ⟨fun i j a b ha => by simp at ha, fun k q h => by simp at h⟩
  have hl := lv_entry ([.ref b]) (n := 8) (Nat.le_of_ble_eq_true rfl)
  rw [lg_entry_eq]
  generalize (lg_sl ([.ref b]) ++ List.replicate (8 - (lg_sl ([.ref b])).length) Slot.unset).toArray = ls at hl ⊢
  have hl : lv_has ls 8 [(0, .ref b)] := hl
  refine va_new (ci := 0) (fs := [.null, .int 0, .int 0, .null, .null, .null, .null, .null, .null, .null]) (C := R_Desk) (T := F_Desk) (N := 10) hx hb hts i_Desk t_Desk t_Desk_ok hown (hts _ k_cl_Law_8) (hts _ k_inst_Desk) (hts _ k_ini_Desk) hK hP hD hS hA rfl (fun j hj => by rcases (show j = 0 ∨ j = 1 ∨ j = 2 ∨ j = 3 ∨ j = 4 ∨ j = 5 ∨ j = 6 ∨ j = 7 ∨ j = 8 ∨ j = 9 by omega) with rfl | rfl | rfl | rfl | rfl | rfl | rfl | rfl | rfl | rfl <;> rfl) (Nat.le_of_ble_eq_true rfl) (Nat.le_of_ble_eq_true rfl) d_Law_law_0 (fun x0 H hP hD hS => ?_)
  refine lv_dup hx hb d_Law_law_3 rfl ?_
  have hPc := xg_P hP
  have hDc := (xg_D hD).weaken (B := fun _ => True) (fun _ _ _ _ => trivial)
  have hFc := xg_F hD hS hA
  refine va_callv (va_runI (As := []) (rest := [.ref x0]) ⟨hx, hb, hml, hown, hts⟩ (c_Desk_init l dC dI H.size cA cJ x0) (cwI 0 hts (gw_I k_code_Desk_init) rfl rfl rfl (hts _ k_ini_Desk) (hts _ k_ml_Law_39) (hts _ k_im_Desk_init) rfl (by decide +kernel) ⟨(Nat.le_of_ble_eq_true rfl), (Nat.le_of_ble_eq_true rfl)⟩) ⟨lw_blind, fun U hU hW => ⟨⟨rfl, by rw [hU], by rw [hU]; exact hPc, va_K.moved hW.alike hK, hDc⟩, va_Nw.warmM hW hNw, va_AO.moved hW.alike hAO⟩⟩ rfl rfl hl.1 rfl (lv_room (Nat.le_of_ble_eq_true rfl)) d_Law_law_4 ⟨(Nat.le_of_ble_eq_true rfl), (Nat.le_of_ble_eq_true rfl)⟩) hS (fun q _ h => hFc q h) hFc (fun D t_ H locs ht_ hvm_ hw hB hz1 hk1 hS => ?_)
  obtain ⟨gv, cl, d0, h0d, q0d, h0u, q0u, h0e, q0e, h0p, q0p, h0q, q0q, h0o, q0o, h0r, q0r, cW, hP1, hD1, hK1⟩ := hB
  rw [ht_] at hP1
  obtain ⟨hP, hD⟩ := xg_1 hP hD hk1 hFc hP1 hD1
  have hK : va_K (dC, dI) classes [(cA, .int), (cJ, .long), (cW, .object "EquationDesk$Whole")] s := va_K.moved hvm_.symm hK1
  have hP : va_P (dC, dI) classes (dv x0 gv cl d0 h0d q0d h0u q0u h0e q0e h0p q0p h0q q0q h0o q0o h0r q0r cA cJ cW D) H := hP
  have hD : va_D A (dv x0 gv cl d0 h0d q0d h0u q0u h0e q0e h0p q0p h0q q0q h0o q0o h0r q0r cA cJ cW D) := hD
  refine lv_astore_n (lv' := [(1, .ref x0), (0, .ref b)]) hx hb d_Law_law_7 rfl hl (by decide) rfl (fun ls hl => ?_)
  refine va_new (ci := 3) (fs := [.int 0, .int 0, .int 0, .null, .null, .null, .null, .null, .null, .null, .null]) (C := R_Model) (T := F_Model) (N := 11) hx hb hts i_Model t_Model t_Model_ok hown (hts _ k_cl_Law_40) (hts _ k_inst_Model) (hts _ k_ini_Model) hK hP hD hS hA rfl (fun j hj => by rcases (show j = 0 ∨ j = 1 ∨ j = 2 ∨ j = 3 ∨ j = 4 ∨ j = 5 ∨ j = 6 ∨ j = 7 ∨ j = 8 ∨ j = 9 ∨ j = 10 by omega) with rfl | rfl | rfl | rfl | rfl | rfl | rfl | rfl | rfl | rfl | rfl <;> rfl) (Nat.le_of_ble_eq_true rfl) (Nat.le_of_ble_eq_true rfl) d_Law_law_8 (fun m0 H hP hD hS => ?_)
  refine lv_dup hx hb d_Law_law_11 rfl ?_
  have hPc := xg_P hP
  have hDc := (xg_D hD).weaken (B := fun _ => True) (fun _ _ _ _ => trivial)
  have hFc := xg_F hD hS hA
  refine va_callv (va_runI (As := []) (rest := [.ref m0]) ⟨hx, hb, hml, hown, hts⟩ (c_Model_init l dC dI H.size cA cJ m0) (cwI 0 hts (gw_I k_code_Model_init) rfl rfl rfl (hts _ k_ini_Model) (hts _ k_ml_Law_42) (hts _ k_im_Model_init) rfl (by decide +kernel) ⟨(Nat.le_of_ble_eq_true rfl), (Nat.le_of_ble_eq_true rfl)⟩) ⟨xc_W_blind, fun U hU hW => ⟨rfl, by rw [hU], by rw [hU]; exact hPc, va_K.moved hW.alike (hK.sub (tys' := [(cA, .int), (cJ, .long)]) [0, 1] rfl), hDc⟩⟩ rfl rfl hl.1 rfl (lv_room (Nat.le_of_ble_eq_true rfl)) d_Law_law_12 ⟨(Nat.le_of_ble_eq_true rfl), (Nat.le_of_ble_eq_true rfl)⟩) hS (fun q _ h => hFc q h) hFc (fun M t_ H locs ht_ hvm_ hv hB hz1 hk1 hS => ?_)
  obtain ⟨ma, mS, mt, mo, mb, mg, mh, mr, hP1, hD1⟩ := hB
  rw [ht_] at hP1
  obtain ⟨hP, hD⟩ := xg_1 hP hD hk1 hFc hP1 hD1
  have hP : va_P (dC, dI) classes (dv x0 gv cl d0 h0d q0d h0u q0u h0e q0e h0p q0p h0q q0q h0o q0o h0r q0r cA cJ cW D ++ mv m0 ma mS mt mo mb mg mh mr cA cJ M) H := hP
  have hD : va_D A (dv x0 gv cl d0 h0d q0d h0u q0u h0e q0e h0p q0p h0q q0q h0o q0o h0r q0r cA cJ cW D ++ mv m0 ma mS mt mo mb mg mh mr cA cJ M) := hD
  refine lv_astore_n (lv' := [(2, .ref m0), (1, .ref x0), (0, .ref b)]) hx hb d_Law_law_15 rfl hl (by decide) rfl (fun ls hl => ?_)
  refine lv_iconst (v := nI 1) hx hb d_Law_law_16 rfl ?_
  refine xn_newJ hx hb (hts _ k_arr_long) hK hP hD hS hA 1 rfl (N := 1) (by omega) (Nat.le_of_ble_eq_true rfl) (Nat.le_of_ble_eq_true rfl) d_Law_law_17 (fun ou H hP hD hS => ?_)
  have hP : va_P (dC, dI) classes (mv m0 ma mS mt mo mb mg mh mr cA cJ M ++ (ob ou cJ (fun _ => 0) ++ dv x0 gv cl d0 h0d q0d h0u q0u h0e q0e h0p q0p h0q q0q h0o q0o h0r q0r cA cJ cW D)) H := by
    have h9 : va_P (dC, dI) classes (dv x0 gv cl d0 h0d q0d h0u q0u h0e q0e h0p q0p h0q q0q h0o q0o h0r q0r cA cJ cW D ++ (mv m0 ma mS mt mo mb mg mh mr cA cJ M ++ ob ou cJ (fun _ => 0))) H := by rw [← List.append_assoc]; exact hP
    have h8 := xz_rotP h9
    rw [List.append_assoc] at h8
    exact h8
  have hD : va_D A (mv m0 ma mS mt mo mb mg mh mr cA cJ M ++ (ob ou cJ (fun _ => 0) ++ dv x0 gv cl d0 h0d q0d h0u q0u h0e q0e h0p q0p h0q q0q h0o q0o h0r q0r cA cJ cW D)) := by
    have h9 : va_D A (dv x0 gv cl d0 h0d q0d h0u q0u h0e q0e h0p q0p h0q q0q h0o q0o h0r q0r cA cJ cW D ++ (mv m0 ma mS mt mo mb mg mh mr cA cJ M ++ ob ou cJ (fun _ => 0))) := by rw [← List.append_assoc]; exact hD
    have h8 := xz_rotD h9
    rw [List.append_assoc] at h8
    exact h8
  refine lv_astore_n (lv' := [(3, .ref ou), (2, .ref m0), (1, .ref x0), (0, .ref b)]) hx hb d_Law_law_19 rfl hl (by decide) rfl (fun ls hl => ?_)
  refine lv_iconst (v := nI 0) hx hb d_Law_law_20 rfl ?_
  refine lv_istore (lv' := [(4, .int (nI 0)), (3, .ref ou), (2, .ref m0), (1, .ref x0), (0, .ref b)]) hx hb d_Law_law_21 hl (by decide) rfl (fun ls hl => ?_)
  have hR : lw_R D M := ⟨hw.1, hv.1, by rw [hw.2.1, hv.2.1], by rw [hw.2.2.1, hv.2.2.1], by rw [hw.2.2.2.1, hv.2.2.2.1], by rw [hw.2.2.2.2.1, hv.2.2.2.2.1], by rw [hw.2.2.2.2.2, hv.2.2.2.2.2]⟩
  refine W.widen (k := 340 + 0) (n := 468547 + 6 * 0) (by omega) (by omega) ?_
  exact lw_loop l hlt hL hx hb hml hown hts hX hbl hA hbA hE dC dI x0 gv cl d0 h0d q0d h0u q0u h0e q0e h0p q0p h0q q0q h0o q0o h0r q0r cA cJ cW m0 ma mS mt mo mb mg mh mr ou hK hr hlocks hAe (L + 1) 0 D M (fun _ => 0) hR (Nat.zero_le _) (by omega) H locs hP hD hS ls (lv_sub hl [0, 1, 2, 3, 4] rfl)
set_option maxHeartbeats 4000000 in
theorem lw_walk (l : Launch) (hlt : l.stackTraces = false) (b : Addr) (xs : List Int32) : MetFree l x (headSpec (Jvm.Cond.code x code maxLocals ret :: tables_1) room_1) (lw_P b xs) (fun _ _ _ _ _ => True) lw_Q := by
  refine MetFree.of_bodyS (code := code) (maxLocals := maxLocals) (ret := ret) (by decide) ?_ ?_
  · intro args s m h hn
    obtain ⟨meth, c, h1, h2, h3, h4, h5, h6, -, -⟩ := Cond.code_spec hn (atoms_spec (ws := Jvm.Cond.code x code maxLocals ret :: tables_1) h _ List.mem_cons_self)
    exact ⟨meth, c, h1, h2, h3, h4, h5, h6⟩
  · intro p e s m args below meth c s₁ B hml0 hP _
    obtain ⟨rfl, hx, hbd, hgv⟩ := hP
    obtain ⟨scr, harrAt, hlist, hof, hsmall⟩ := hx
    obtain ⟨hcb, hkn, -, -⟩ := State.arrayAt?_spec harrAt
    have hown : s.vm.findClass R_law = some m.cls := findClass_of_methodNamed B.named
    have hts0 : ∀ c ∈ (Jvm.Cond.code x code maxLocals ret :: tables_1), c.before #[Value.ref b] s = true := atoms_spec (ws := Jvm.Cond.code x code maxLocals ret :: tables_1) B.pre
    have hts : ∀ w ∈ lw_tbl, w.before #[Value.ref b] s = true := k2_hts_sels lw_privs (fun w hw => hts0 w (List.mem_cons_of_mem _ hw)) lw_privs_ok
    have hml : c.maxLocals = 8 := B.maxLocals_eq (hts0 _ List.mem_cons_self)
    have X₀ : Stand p l e room_1 s m #[Value.ref b] below meth c s₁ [] 0 0 := Stand.of_body B
    have hh0 : s₁.heap = s.heap := by rw [B.state]; rfl
    have hsz : scr.slots.size = xs.length := by rw [← Array.length_toList, hlist, List.length_map]
    have hval : ∀ j : Nat, j < xs.length → scr.slots[j]? = some (.int (xs.getD j 0)) := fun j hj => by
      rw [← Array.getElem?_toList, hlist]
      simp [hj]
    have hbl : b < s.heap.size := (Array.getElem?_eq_some_iff.mp hcb).1
    have hX : va_X b xs.length (fun j => xs.getD j 0) s s.heap := ⟨scr, hcb, hof, hkn, hsz, hval⟩
    have K : W p l e room_1 s m #[Value.ref b] below meth c s₁.heap [] 0 0 (lw_Z below #[Value.ref b] s) (entryFrame m ([Value.ref b] : List Value).toArray 8) := by
      rw [hh0]
      exact whole_start l hlt hbd ⟨B.exec, B.bytes, B.returns, hml, hown, hts, hX, hbl, B.notSynchronized, hgv⟩
    obtain ⟨t, a1, o, b1, b2, b3⟩ := K s₁ rfl X₀
    exact ⟨t, o, a1, b1, b2, b3⟩
theorem lw_pre_spec {args : Array Value} {s : State} (h : (Jvm.Cond.and given_1 narrow_1).before args s = true) (hr : rest_1_c.before args s = true) : ∃ (b : Addr) (xs : List Int32), lw_P b xs args s := by
  have hs := flat_of_before _ h
  have hq := flat_of_before _ hr
  have hc : (Cond.count 1).before args s = true := hs _ (by decide +kernel)
  have harr : (Cond.arrayOf (.arg 0) .int).before args s = true := hs _ (by decide +kernel)
  have hle : (Cond.le (.length (.arg 0)) (.int 2560)).before args s = true := hs _ (by decide +kernel)
  have hlen : (Cond.isInt (.length (.arg 0))).before args s = true := hq _ (by decide +kernel)
  have hall : (Cond.all (.arg 0) (.isInt (.elem (.arg 0) (.index 0)))).before args s = true := hq _ (by decide +kernel)
  obtain ⟨b, xs, hb, hx⟩ := State.ints_of_pre rfl harr hlen hall
  have hsm : xs.length < 2 ^ 31 := hx.choose_spec.2.2.2
  have hev : (Term.length (.arg 0)).eval args s none [] s = some (.int xs.length.toInt32) := hx.length_eval hb
  have hv := Cond.le_ints hev (show (Term.int 2560).eval args s none [] s = some (.int 2560) from rfl)
  have hd : xs.length.toInt32 ≤ 2560 := by
    simpa [Cond.before, Cond.holds, hv] using hle
  have hN : xs.length ≤ 2560 := (Int32.ofNat_le_ofNat hsm (by decide)).mp (show Int32.ofNat xs.length ≤ Int32.ofNat 2560 from hd)
  exact ⟨b, xs, Cond.one_arg hc (show args[0]? = some (.ref b) from hb), hx, hN, h⟩
theorem lw_comes (l : Launch) (hlt : l.stackTraces = false) : Comes l x (Jvm.Cond.code x code maxLocals ret :: tables_1) room_1 (fun tb e args s => Calls_1 tb e args s ∧ rest_1 tb e args s ∧ Pre_1 tb e args s)
    (fun _ _ args s o t => lw_Q args s o t) := by
  intro p e ha hc hk s m args below hf hfit hheap happ hpre
  obtain ⟨b, xs, hP⟩ := lw_pre_spec hpre.2.2 hpre.2.1
  obtain ⟨k, o, h1, h2, h3, hQ⟩ := lw_walk l hlt b xs p e ha hc hk s m args below hf ((Spec.applies_iff_loose hf).mp happ).1 hP trivial
  exact ⟨k, o, h1, h2, h3, hQ⟩
theorem lw_frame {s t : State} {o : Outcome} {args : Array Value} (h : Framed s o t [] 601024 7293034) :
    Framed s o t (fieldLocs frame_1_writes args s ++ arrayLocs frame_1_arrays args s ++ staticLocs frame_1_statics s) 601024 7293034 := h
theorem lw_limb (L : Cond) (hL : ∀ (args : Array Value) (s t : State), L.after args s (.returned (some (.int 1))) t = true) :
    ArmFor flags0 classFile x code maxLocals ret World_1 tables_1 room_1 Calls_1 rest_1 Pre_1
      (fun tb e a s o t => postC L tb e a s o t ∧ Framed s o t (fieldLocs frame_1_writes a s ++ arrayLocs frame_1_arrays a s ++ staticLocs frame_1_statics s) 601024 7293034) := by
  intro l hfg _ _ p e ha hc hk s m args below hf hfit hheap happ hpre
  have hlt : l.stackTraces = false := by
    show (!l.flags.contains noTraceFlag) = false
    rw [hfg]
    decide +kernel
  obtain ⟨k, o, h1, h2, h3, rfl, hF⟩ := lw_comes l hlt p e ha hc hk s m args below hf hfit hheap happ hpre
  exact ⟨k, _, h1, h2, h3, hL args s _, lw_frame hF⟩
theorem i_vc : Claimed_1_1 ∧ Claimed_1_2 := ⟨lw_limb limb_1_1 (fun args s t => by simp [limb_1_1, Cond.after, Cond.holds, Cond.value]), lw_limb limb_1_2 (fun args s t => Cond.after_iff.mpr (by
  first | (rw [show limb_1_2 = Cond.eq .result (.int 1) from rfl, Cond.eq_ints (x := 1) (y := 1) rfl rfl]; simp; done) | (simp [limb_1_2, Cond.value, Term.eval]; done)))⟩
