set_option maxHeartbeats 8000000 in
set_option maxRecDepth 100000 in
/-- the law's Law_size -/
theorem c_Law_size (l : Launch) (hlt : l.stackTraces = false) (dC : Nat → ClassId) (dI : Nat → Nat → Nat) (sz : Nat) (x0 gv cl d0 h0d q0d h0u q0u h0e q0e h0p q0p h0q q0q h0o q0o h0r q0r : Nat) (cA cJ cW : ClassId) (ou : Nat) (D : dS) (o1 : Nat → Int64)  (k : Int32) (hG : dG D) : vx_Met l y_Law_size w_Law_size ({ frames := 7, cells := 1, slots := 6, locals := 103 }) (xc_X [.ref x0, .int k] dC dI ([(ou, .inl (cJ, 1, .inr (.inl o1)))] ++ dw x0 gv cl d0 h0d q0d h0u q0u h0e q0e h0p q0p h0q q0q h0o q0o h0r q0r cA cJ cW D.n D.sv D.a D.lend D.fd D.sgd D.lenu D.fu D.sgu D.lene D.fe D.sge D.lenp D.fp D.sgp D.lenq D.fq D.sgq D.leno D.fo D.sgo D.lenr D.fr D.sgr D.tw D.iv D.hw D.qw D.gg D.ln D.sn) [(cA, .int), (cJ, .long), (cW, .object "EquationDesk$Whole")] sz) (va_Qi (S := dS × (Nat → Int64)) (fun rr u => (rr = 0 ∧ (fun u => dG u ∧ (u.n : Int) = k.toInt ∧ 0 ≤ k.toInt ∧ k.toInt ≤ 12 ∧ u.sv = 0 ∧ u.a = (fun _ => 0) ∧ dN u = dN D ∧ dE u = dE D) u.1) ∨ (rr = 1 ∧ (¬ (0 ≤ k.toInt ∧ k.toInt ≤ 12)) ∧ u.1 = D)) (fun u t => va_P (dC, dI) classes ([(ou, .inl (cJ, 1, .inr (.inl u.2)))] ++ dw x0 gv cl d0 h0d q0d h0u q0u h0e q0e h0p q0p h0q q0q h0o q0o h0r q0r cA cJ cW u.1.n u.1.sv u.1.a u.1.lend u.1.fd u.1.sgd u.1.lenu u.1.fu u.1.sgu u.1.lene u.1.fe u.1.sge u.1.lenp u.1.fp u.1.sgp u.1.lenq u.1.fq u.1.sgq u.1.leno u.1.fo u.1.sgo u.1.lenr u.1.fr u.1.sgr u.1.tw u.1.iv u.1.hw u.1.qw u.1.gg u.1.ln u.1.sn) t.heap ∧ va_D (va_A ([(ou, .inl (cJ, 1, .inr (.inl o1)))] ++ dw x0 gv cl d0 h0d q0d h0u q0u h0e q0e h0p q0p h0q q0q h0o q0o h0r q0r cA cJ cW D.n D.sv D.a D.lend D.fd D.sgd D.lenu D.fu D.sgu D.lene D.fe D.sge D.lenp D.fp D.sgp D.lenq D.fq D.sgq D.leno D.fo D.sgo D.lenr D.fr D.sgr D.tw D.iv D.hw D.qw D.gg D.ln D.sn) sz) ([(ou, .inl (cJ, 1, .inr (.inl u.2)))] ++ dw x0 gv cl d0 h0d q0d h0u q0u h0e q0e h0p q0p h0q q0q h0o q0o h0r q0r cA cJ cW u.1.n u.1.sv u.1.a u.1.lend u.1.fd u.1.sgd u.1.lenu u.1.fu u.1.sgu u.1.lene u.1.fe u.1.sge u.1.lenp u.1.fp u.1.sgp u.1.lenq u.1.fq u.1.sgq u.1.leno u.1.fo u.1.sgo u.1.lenr u.1.fr u.1.sgr u.1.tw u.1.iv u.1.hw u.1.qw u.1.gg u.1.ln u.1.sn)) (va_A ([(ou, .inl (cJ, 1, .inr (.inl o1)))] ++ dw x0 gv cl d0 h0d q0d h0u q0u h0e q0e h0p q0p h0q q0q h0o q0o h0r q0r cA cJ cW D.n D.sv D.a D.lend D.fd D.sgd D.lenu D.fu D.sgu D.lene D.fe D.sge D.lenp D.fp D.sgp D.lenq D.fq D.sgq D.leno D.fo D.sgo D.lenr D.fr D.sgr D.tw D.iv D.hw D.qw D.gg D.ln D.sn) sz)) (vx_X (S := Unit) (fun _ => False) (fun _ _ _ => True) (va_A ([(ou, .inl (cJ, 1, .inr (.inl o1)))] ++ dw x0 gv cl d0 h0d q0d h0u q0u h0e q0e h0p q0p h0q q0q h0o q0o h0r q0r cA cJ cW D.n D.sv D.a D.lend D.fd D.sgd D.lenu D.fu D.sgu D.lene D.fe D.sge D.lenp D.fp D.sgp D.lenq D.fq D.sgq D.leno D.fo D.sgo D.lenr D.fr D.sgr D.tw D.iv D.hw D.qw D.gg D.ln D.sn) sz)) 1 6 (va_A ([(ou, .inl (cJ, 1, .inr (.inl o1)))] ++ dw x0 gv cl d0 h0d q0d h0u q0u h0e q0e h0p q0p h0q q0q h0o q0o h0r q0r cA cJ cW D.n D.sv D.a D.lend D.fd D.sgd D.lenu D.fu D.sgu D.lene D.fe D.sge D.lenp D.fp D.sgp D.lenq D.fq D.sgq D.leno D.fo D.sgo D.lenr D.fr D.sgr D.tw D.iv D.hw D.qw D.gg D.ln D.sn) sz) := by
  refine vx_ofWH (cc := b_Law_size) (maxL := 3) (ret := (some .int)) (hh := hh_Law_size) (by decide) rfl ?_
  intro p e s m args below meth c s₁ B hml hv
  obtain ⟨⟨rfl, hsz, hP, hK, hD0⟩, hE⟩ := hv
  have hx := B.exec
  have hb := B.bytes
  have hr := B.returns
  have hts : ∀ w ∈ gw_tbl, w.before ([.ref x0, .int k] : List Value).toArray s = true := fun w h => atoms_spec (ws := w_Law_size) B.pre w (List.mem_cons_of_mem _ h)
  have htab : c.exceptionTable.toList = tableOf hh_Law_size := vx_table (x := y_Law_size) B (atoms_spec (ws := w_Law_size) B.pre _ List.mem_cons_self)
  have hown : s.vm.findClass R_Law = some m.cls := findClass_of_methodNamed B.named
  have hlocks := B.notSynchronized
  subst hsz
  have hD := hD0.self (sz := s.heap.size)
  generalize hAe : va_A ([(ou, .inl (cJ, 1, .inr (.inl o1)))] ++ dw x0 gv cl d0 h0d q0d h0u q0u h0e q0e h0p q0p h0q q0q h0o q0o h0r q0r cA cJ cW D.n D.sv D.a D.lend D.fd D.sgd D.lenu D.fu D.sgu D.lene D.fe D.sge D.lenp D.fp D.sgp D.lenq D.fq D.sgq D.leno D.fo D.sgo D.lenr D.fr D.sgr D.tw D.iv D.hw D.qw D.gg D.ln D.sn) s.heap.size = A at hD hE ⊢
  have hA : ∀ q : Nat, s.heap.size ≤ q → A q := fun q h => by rw [← hAe]; exact Or.inr h
  have hS : va_S A s.heap s.heap [] := va_S.rf
  have hl := lv_entry ([.ref x0, .int k]) (n := 3) (Nat.le_of_ble_eq_true rfl)
  rw [lg_entry_eq]
  generalize (lg_sl ([.ref x0, .int k]) ++ List.replicate (3 - (lg_sl ([.ref x0, .int k])).length) Slot.unset).toArray = ls at hl ⊢
  have hl : lv_has ls 3 [(0, .ref x0), (1, .int k)] := hl
  refine lv_aload_n hx hb d_Law_size_0 rfl (lv_at hl 0 rfl) ?_
  refine lv_iload_n hx hb d_Law_size_1 rfl (lv_at hl 1 rfl) ?_
  have hPc := xz_P hP
  have hDc := (xz_D hD).weaken (B := fun _ => True) (fun _ _ _ _ => trivial)
  have hFc := xz_F hD hS hA
  refine vx_callv (vx_runV (As := [.int k]) (rest := []) ⟨hx, hb, hml, hown, hts⟩ (c_Desk_size l hlt dC dI s.heap.size x0 gv cl d0 h0d q0d h0u q0u h0e q0e h0p q0p h0q q0q h0o q0o h0r q0r cA cJ cW D k hG) (cwV 1 hts (gw_V k_ml_Law_7 k_im_Desk_size k_sel_Desk_size k_ini_Desk k_code_Desk_size) rfl rfl rfl (by decide +kernel) ⟨(Nat.le_of_ble_eq_true rfl), (Nat.le_of_ble_eq_true rfl)⟩) ⟨xc_X_blind, va_recv hK hPc (ci := 0) (q0 := 0) rfl rfl, fun U hU hW => ⟨⟨rfl, by rw [hU], by rw [hU]; exact hPc, va_K.moved hW.alike hK, hDc⟩, by rw [hU]; exact (hE.narrow hFc).moved hW.alike⟩⟩ rfl rfl hl.1 rfl (lv_room (Nat.le_of_ble_eq_true rfl)) d_Law_size_2 ⟨(Nat.le_of_ble_eq_true rfl), (Nat.le_of_ble_eq_true rfl)⟩) hS (fun q _ h => hFc q h) hFc (fun q _ h => hFc q h) (fun E ce q9 u t_ H locs ht_ hvm_ hpx hBX hz1 hk1 hS hce hcv hcl => ?_) (fun u t_ H locs ht_ hvm_ hw hB hz1 hk1 hS => ?_)
  · obtain ⟨hc, hP1, hD1⟩ := hBX
    rw [ht_] at hP1
    obtain ⟨hP, hD⟩ := xz_1 hP hD hk1 hFc hP1 hD1
    obtain ⟨hcE, hc⟩ := hc
    subst hcE
    refine vx_catch (pc := 2) hown [] (⟨0, 5, 8, 13⟩ : ExceptionTableEntry) [] htab (fun z hz => by cases hz) (by decide) (by decide) (hts _ k_cl_Law_13) (va_Nw.use rfl (hE.2.2.1 _ (List.mem_of_getElem? (i := 0) rfl))) hce hcv hcl ?_
    refine W.eq (g2 := F0 m 8 ls [.ref q9]) rfl ?_
    refine lv_astore_n (lv' := [(2, .ref q9), (0, .ref x0), (1, .int k)]) hx hb d_Law_size_8 rfl hl (by decide) rfl (fun ls hl => ?_)
    refine lv_iconst (v := nI 1) hx hb d_Law_size_9 rfl ?_
    refine vx_ret (W.widen (k := 1) (n := 6) (by omega) (by omega) ?_)
    exact W.iret (v := nI 1) hx hb hr (fun T_ ht_ hW_ => ⟨⟨_, (D, o1), rfl, Or.inr ⟨rfl, hc, rfl⟩, by show va_P (dC, dI) classes _ T_.heap; rw [ht_]; exact hP, hD⟩, hS.F ht_⟩) hS.2.2 d_Law_size_10
  · obtain ⟨hP1, hD1⟩ := hB
    rw [ht_] at hP1
    obtain ⟨hP, hD⟩ := xz_1 hP hD hk1 hFc hP1 hD1
    have hP : va_P (dC, dI) classes ([(ou, .inl (cJ, 1, .inr (.inl o1)))] ++ dw x0 gv cl d0 h0d q0d h0u q0u h0e q0e h0p q0p h0q q0q h0o q0o h0r q0r cA cJ cW u.n u.sv u.a u.lend u.fd u.sgd u.lenu u.fu u.sgu u.lene u.fe u.sge u.lenp u.fp u.sgp u.lenq u.fq u.sgq u.leno u.fo u.sgo u.lenr u.fr u.sgr u.tw u.iv u.hw u.qw u.gg u.ln u.sn) H := hP
    have hD : va_D A ([(ou, .inl (cJ, 1, .inr (.inl o1)))] ++ dw x0 gv cl d0 h0d q0d h0u q0u h0e q0e h0p q0p h0q q0q h0o q0o h0r q0r cA cJ cW u.n u.sv u.a u.lend u.fd u.sgd u.lenu u.fu u.sgu u.lene u.fe u.sge u.lenp u.fp u.sgp u.lenq u.fq u.sgq u.leno u.fo u.sgo u.lenr u.fr u.sgr u.tw u.iv u.hw u.qw u.gg u.ln u.sn) := hD
    refine lv_goto (tgt := 11) hx hb d_Law_size_5 (by decide) ?_
    refine lv_iconst (v := nI 0) hx hb d_Law_size_11 rfl ?_
    refine vx_ret (W.widen (k := 1) (n := 6) (by omega) (by omega) ?_)
    exact W.iret (v := nI 0) hx hb hr (fun T_ ht_ hW_ => ⟨⟨_, (u, o1), rfl, Or.inl ⟨rfl, hw⟩, by show va_P (dC, dI) classes _ T_.heap; rw [ht_]; exact hP, hD⟩, hS.F ht_⟩) hS.2.2 d_Law_size_12
set_option maxHeartbeats 8000000 in
set_option maxRecDepth 100000 in
/-- the law's Law_put -/
theorem c_Law_put (l : Launch) (hlt : l.stackTraces = false) (dC : Nat → ClassId) (dI : Nat → Nat → Nat) (sz : Nat) (x0 gv cl d0 h0d q0d h0u q0u h0e q0e h0p q0p h0q q0q h0o q0o h0r q0r : Nat) (cA cJ cW : ClassId) (ou : Nat) (D : dS) (o1 : Nat → Int64)  (i j : Int32) (v : Int64) (hG : dG D) : vx_Met l y_Law_put w_Law_put ({ frames := 7, cells := 1, slots := 6, locals := 108 }) (xc_X [.ref x0, .int i, .int j, .long v, .ref ou] dC dI ([(ou, .inl (cJ, 1, .inr (.inl o1)))] ++ dw x0 gv cl d0 h0d q0d h0u q0u h0e q0e h0p q0p h0q q0q h0o q0o h0r q0r cA cJ cW D.n D.sv D.a D.lend D.fd D.sgd D.lenu D.fu D.sgu D.lene D.fe D.sge D.lenp D.fp D.sgp D.lenq D.fq D.sgq D.leno D.fo D.sgo D.lenr D.fr D.sgr D.tw D.iv D.hw D.qw D.gg D.ln D.sn) [(cA, .int), (cJ, .long), (cW, .object "EquationDesk$Whole")] sz) (va_Qi (S := dS × (Nat → Int64)) (fun rr u => (rr = 0 ∧ ∃ r : Int64, (fun r u => dG u ∧ (∃ i2 j2 : Nat, i = nI i2 ∧ j = nI j2 ∧ i2 < D.n ∧ j2 ≤ D.n ∧ r = D.a (i2 * 13 + j2) ∧ u.a = va_up D.a (i2 * 13 + j2) v) ∧ u.n = D.n ∧ u.sv = 0 ∧ dN u = dN D ∧ dE u = dE D) r u.1 ∧ u.2 0 = r) ∨ (rr = 1 ∧ (¬ (0 ≤ i.toInt ∧ i.toInt < D.n ∧ 0 ≤ j.toInt ∧ j.toInt ≤ D.n)) ∧ u.1 = D)) (fun u t => va_P (dC, dI) classes ([(ou, .inl (cJ, 1, .inr (.inl u.2)))] ++ dw x0 gv cl d0 h0d q0d h0u q0u h0e q0e h0p q0p h0q q0q h0o q0o h0r q0r cA cJ cW u.1.n u.1.sv u.1.a u.1.lend u.1.fd u.1.sgd u.1.lenu u.1.fu u.1.sgu u.1.lene u.1.fe u.1.sge u.1.lenp u.1.fp u.1.sgp u.1.lenq u.1.fq u.1.sgq u.1.leno u.1.fo u.1.sgo u.1.lenr u.1.fr u.1.sgr u.1.tw u.1.iv u.1.hw u.1.qw u.1.gg u.1.ln u.1.sn) t.heap ∧ va_D (va_A ([(ou, .inl (cJ, 1, .inr (.inl o1)))] ++ dw x0 gv cl d0 h0d q0d h0u q0u h0e q0e h0p q0p h0q q0q h0o q0o h0r q0r cA cJ cW D.n D.sv D.a D.lend D.fd D.sgd D.lenu D.fu D.sgu D.lene D.fe D.sge D.lenp D.fp D.sgp D.lenq D.fq D.sgq D.leno D.fo D.sgo D.lenr D.fr D.sgr D.tw D.iv D.hw D.qw D.gg D.ln D.sn) sz) ([(ou, .inl (cJ, 1, .inr (.inl u.2)))] ++ dw x0 gv cl d0 h0d q0d h0u q0u h0e q0e h0p q0p h0q q0q h0o q0o h0r q0r cA cJ cW u.1.n u.1.sv u.1.a u.1.lend u.1.fd u.1.sgd u.1.lenu u.1.fu u.1.sgu u.1.lene u.1.fe u.1.sge u.1.lenp u.1.fp u.1.sgp u.1.lenq u.1.fq u.1.sgq u.1.leno u.1.fo u.1.sgo u.1.lenr u.1.fr u.1.sgr u.1.tw u.1.iv u.1.hw u.1.qw u.1.gg u.1.ln u.1.sn)) (va_A ([(ou, .inl (cJ, 1, .inr (.inl o1)))] ++ dw x0 gv cl d0 h0d q0d h0u q0u h0e q0e h0p q0p h0q q0q h0o q0o h0r q0r cA cJ cW D.n D.sv D.a D.lend D.fd D.sgd D.lenu D.fu D.sgu D.lene D.fe D.sge D.lenp D.fp D.sgp D.lenq D.fq D.sgq D.leno D.fo D.sgo D.lenr D.fr D.sgr D.tw D.iv D.hw D.qw D.gg D.ln D.sn) sz)) (vx_X (S := Unit) (fun _ => False) (fun _ _ _ => True) (va_A ([(ou, .inl (cJ, 1, .inr (.inl o1)))] ++ dw x0 gv cl d0 h0d q0d h0u q0u h0e q0e h0p q0p h0q q0q h0o q0o h0r q0r cA cJ cW D.n D.sv D.a D.lend D.fd D.sgd D.lenu D.fu D.sgu D.lene D.fe D.sge D.lenp D.fp D.sgp D.lenq D.fq D.sgq D.leno D.fo D.sgo D.lenr D.fr D.sgr D.tw D.iv D.hw D.qw D.gg D.ln D.sn) sz)) 1 6 (va_A ([(ou, .inl (cJ, 1, .inr (.inl o1)))] ++ dw x0 gv cl d0 h0d q0d h0u q0u h0e q0e h0p q0p h0q q0q h0o q0o h0r q0r cA cJ cW D.n D.sv D.a D.lend D.fd D.sgd D.lenu D.fu D.sgu D.lene D.fe D.sge D.lenp D.fp D.sgp D.lenq D.fq D.sgq D.leno D.fo D.sgo D.lenr D.fr D.sgr D.tw D.iv D.hw D.qw D.gg D.ln D.sn) sz) := by
  refine vx_ofWH (cc := b_Law_put) (maxL := 7) (ret := (some .int)) (hh := hh_Law_put) (by decide) rfl ?_
  intro p e s m args below meth c s₁ B hml hv
  obtain ⟨⟨rfl, hsz, hP, hK, hD0⟩, hE⟩ := hv
  have hx := B.exec
  have hb := B.bytes
  have hr := B.returns
  have hts : ∀ w ∈ gw_tbl, w.before ([.ref x0, .int i, .int j, .long v, .ref ou] : List Value).toArray s = true := fun w h => atoms_spec (ws := w_Law_put) B.pre w (List.mem_cons_of_mem _ h)
  have htab : c.exceptionTable.toList = tableOf hh_Law_put := vx_table (x := y_Law_put) B (atoms_spec (ws := w_Law_put) B.pre _ List.mem_cons_self)
  have hown : s.vm.findClass R_Law = some m.cls := findClass_of_methodNamed B.named
  have hlocks := B.notSynchronized
  subst hsz
  have hD := hD0.self (sz := s.heap.size)
  generalize hAe : va_A ([(ou, .inl (cJ, 1, .inr (.inl o1)))] ++ dw x0 gv cl d0 h0d q0d h0u q0u h0e q0e h0p q0p h0q q0q h0o q0o h0r q0r cA cJ cW D.n D.sv D.a D.lend D.fd D.sgd D.lenu D.fu D.sgu D.lene D.fe D.sge D.lenp D.fp D.sgp D.lenq D.fq D.sgq D.leno D.fo D.sgo D.lenr D.fr D.sgr D.tw D.iv D.hw D.qw D.gg D.ln D.sn) s.heap.size = A at hD hE ⊢
  have hA : ∀ q : Nat, s.heap.size ≤ q → A q := fun q h => by rw [← hAe]; exact Or.inr h
  have hS : va_S A s.heap s.heap [] := va_S.rf
  have hl := lv_entry ([.ref x0, .int i, .int j, .long v, .ref ou]) (n := 7) (Nat.le_of_ble_eq_true rfl)
  rw [lg_entry_eq]
  generalize (lg_sl ([.ref x0, .int i, .int j, .long v, .ref ou]) ++ List.replicate (7 - (lg_sl ([.ref x0, .int i, .int j, .long v, .ref ou])).length) Slot.unset).toArray = ls at hl ⊢
  have hl : lv_has ls 7 [(0, .ref x0), (1, .int i), (2, .int j), (3, .long v), (5, .ref ou)] := hl
  refine lv_aload hx hb d_Law_put_0 (lv_at hl 4 rfl) ?_
  refine lv_iconst (v := nI 0) hx hb d_Law_put_2 rfl ?_
  refine lv_aload_n hx hb d_Law_put_3 rfl (lv_at hl 0 rfl) ?_
  refine lv_iload_n hx hb d_Law_put_4 rfl (lv_at hl 1 rfl) ?_
  refine lv_iload_n hx hb d_Law_put_5 rfl (lv_at hl 2 rfl) ?_
  refine lv_lload_n hx hb d_Law_put_6 rfl (lv_at hl 3 rfl) ?_
  have hPc := xz_P hP
  have hDc := (xz_D hD).weaken (B := fun _ => True) (fun _ _ _ _ => trivial)
  have hFc := xz_F hD hS hA
  refine vx_calll (vx_runV (As := [.int i, .int j, .long v]) (rest := [.int (nI 0), .ref ou]) ⟨hx, hb, hml, hown, hts⟩ (c_Desk_put l hlt dC dI s.heap.size x0 gv cl d0 h0d q0d h0u q0u h0e q0e h0p q0p h0q q0q h0o q0o h0r q0r cA cJ cW D i j v hG) (cwV 3 hts (gw_V k_ml_Law_15 k_im_Desk_put k_sel_Desk_put k_ini_Desk k_code_Desk_put) rfl rfl rfl (by decide +kernel) ⟨(Nat.le_of_ble_eq_true rfl), (Nat.le_of_ble_eq_true rfl)⟩) ⟨xc_X_blind, va_recv hK hPc (ci := 0) (q0 := 0) rfl rfl, fun U hU hW => ⟨⟨rfl, by rw [hU], by rw [hU]; exact hPc, va_K.moved hW.alike hK, hDc⟩, by rw [hU]; exact (hE.narrow hFc).moved hW.alike⟩⟩ rfl rfl hl.1 rfl (lv_room (Nat.le_of_ble_eq_true rfl)) d_Law_put_7 ⟨(Nat.le_of_ble_eq_true rfl), (Nat.le_of_ble_eq_true rfl)⟩) hS (fun q _ h => hFc q h) hFc (fun q _ h => hFc q h) (fun E ce q9 u t_ H locs ht_ hvm_ hpx hBX hz1 hk1 hS hce hcv hcl => ?_) (fun r_ u t_ H locs ht_ hvm_ hw hB hz1 hk1 hS => ?_)
  · obtain ⟨hc, hP1, hD1⟩ := hBX
    rw [ht_] at hP1
    obtain ⟨hP, hD⟩ := xz_1 hP hD hk1 hFc hP1 hD1
    obtain ⟨hcE, hc⟩ := hc
    subst hcE
    refine vx_catch (pc := 7) hown [] (⟨0, 11, 14, 19⟩ : ExceptionTableEntry) [] htab (fun z hz => by cases hz) (by decide) (by decide) (hts _ k_cl_Law_19) (va_Nw.use rfl (hE.2.2.1 _ (List.mem_of_getElem? (i := 1) rfl))) hce hcv hcl ?_
    refine W.eq (g2 := F0 m 14 ls [.ref q9]) rfl ?_
    refine lv_astore (lv' := [(6, .ref q9), (0, .ref x0), (1, .int i), (2, .int j), (3, .long v), (5, .ref ou)]) hx hb d_Law_put_14 hl (by decide) rfl (fun ls hl => ?_)
    refine lv_iconst (v := nI 1) hx hb d_Law_put_16 rfl ?_
    refine vx_ret (W.widen (k := 1) (n := 6) (by omega) (by omega) ?_)
    exact W.iret (v := nI 1) hx hb hr (fun T_ ht_ hW_ => ⟨⟨_, (D, o1), rfl, Or.inr ⟨rfl, hc, rfl⟩, by show va_P (dC, dI) classes _ T_.heap; rw [ht_]; exact hP, hD⟩, hS.F ht_⟩) hS.2.2 d_Law_put_17
  · obtain ⟨hP1, hD1⟩ := hB
    rw [ht_] at hP1
    obtain ⟨hP, hD⟩ := xz_1 hP hD hk1 hFc hP1 hD1
    have hP : va_P (dC, dI) classes ([(ou, .inl (cJ, 1, .inr (.inl o1)))] ++ dw x0 gv cl d0 h0d q0d h0u q0u h0e q0e h0p q0p h0q q0q h0o q0o h0r q0r cA cJ cW u.n u.sv u.a u.lend u.fd u.sgd u.lenu u.fu u.sgu u.lene u.fe u.sge u.lenp u.fp u.sgp u.lenq u.fq u.sgq u.leno u.fo u.sgo u.lenr u.fr u.sgr u.tw u.iv u.hw u.qw u.gg u.ln u.sn) H := hP
    have hD : va_D A ([(ou, .inl (cJ, 1, .inr (.inl o1)))] ++ dw x0 gv cl d0 h0d q0d h0u q0u h0e q0e h0p q0p h0q q0q h0o q0o h0r q0r cA cJ cW u.n u.sv u.a u.lend u.fd u.sgd u.lenu u.fu u.sgu u.lene u.fe u.sge u.lenp u.fp u.sgp u.lenq u.fq u.sgq u.leno u.fo u.sgo u.lenr u.fr u.sgr u.tw u.iv u.hw u.qw u.gg u.ln u.sn) := hD
    refine xn_last hx hb hK hP hD hS 0 1 rfl rfl (i := 0) (x := r_) (by omega) (by omega) d_Law_put_10 (fun H locs hP hD hS => ?_)
    have hP : va_P (dC, dI) classes ([(ou, .inl (cJ, 1, .inr (.inl (va_up o1 0 r_))))] ++ dw x0 gv cl d0 h0d q0d h0u q0u h0e q0e h0p q0p h0q q0q h0o q0o h0r q0r cA cJ cW u.n u.sv u.a u.lend u.fd u.sgd u.lenu u.fu u.sgu u.lene u.fe u.sge u.lenp u.fp u.sgp u.lenq u.fq u.sgq u.leno u.fo u.sgo u.lenr u.fr u.sgr u.tw u.iv u.hw u.qw u.gg u.ln u.sn) H := hP
    have hD : va_D A ([(ou, .inl (cJ, 1, .inr (.inl (va_up o1 0 r_))))] ++ dw x0 gv cl d0 h0d q0d h0u q0u h0e q0e h0p q0p h0q q0q h0o q0o h0r q0r cA cJ cW u.n u.sv u.a u.lend u.fd u.sgd u.lenu u.fu u.sgu u.lene u.fe u.sge u.lenp u.fp u.sgp u.lenq u.fq u.sgq u.leno u.fo u.sgo u.lenr u.fr u.sgr u.tw u.iv u.hw u.qw u.gg u.ln u.sn) := hD
    refine lv_goto (tgt := 18) hx hb d_Law_put_11 (by decide) ?_
    refine lv_iconst (v := nI 0) hx hb d_Law_put_18 rfl ?_
    refine vx_ret (W.widen (k := 1) (n := 6) (by omega) (by omega) ?_)
    exact W.iret (v := nI 0) hx hb hr (fun T_ ht_ hW_ => ⟨⟨_, (u, va_up o1 0 r_), rfl, Or.inl ⟨rfl, r_, hw, (show va_up o1 0 r_ 0 = r_ from va_up_self ..)⟩, by show va_P (dC, dI) classes _ T_.heap; rw [ht_]; exact hP, hD⟩, hS.F ht_⟩) hS.2.2 d_Law_put_19
set_option maxHeartbeats 8000000 in
set_option maxRecDepth 100000 in
/-- the law's Law_unknown -/
theorem c_Law_unknown (l : Launch) (hlt : l.stackTraces = false) (dC : Nat → ClassId) (dI : Nat → Nat → Nat) (sz : Nat) (x0 gv cl d0 h0d q0d h0u q0u h0e q0e h0p q0p h0q q0q h0o q0o h0r q0r : Nat) (cA cJ cW : ClassId) (ou : Nat) (D : dS) (o1 : Nat → Int64)  (k : Int32) (hG : dG D) : vx_Met l y_Law_unknown w_Law_unknown ({ frames := 7, cells := 1, slots := 6, locals := 160 }) (xc_X [.ref x0, .int k, .ref ou] dC dI ([(ou, .inl (cJ, 1, .inr (.inl o1)))] ++ dw x0 gv cl d0 h0d q0d h0u q0u h0e q0e h0p q0p h0q q0q h0o q0o h0r q0r cA cJ cW D.n D.sv D.a D.lend D.fd D.sgd D.lenu D.fu D.sgu D.lene D.fe D.sge D.lenp D.fp D.sgp D.lenq D.fq D.sgq D.leno D.fo D.sgo D.lenr D.fr D.sgr D.tw D.iv D.hw D.qw D.gg D.ln D.sn) [(cA, .int), (cJ, .long), (cW, .object "EquationDesk$Whole")] sz) (va_Qi (S := dS × (Nat → Int64)) (fun rr u => (rr = 0 ∧ ∃ r : Int32, (fun r u => dG u ∧ (∃ k2 : Nat, k = nI k2 ∧ k2 < D.n ∧ D.sv = 1 ∧ r.toInt = (dt_y (dA D.a) k2 (D.n - 1 - k2) D.n).sign * (dt_d (dA D.a) D.n).sign ∧ dN u = (dt_y (dA D.a) k2 (D.n - 1 - k2) D.n).natAbs / (Nat.gcd (dt_y (dA D.a) k2 (D.n - 1 - k2) D.n).natAbs (dt_d (dA D.a) D.n).natAbs) ∧ dE u = (dt_d (dA D.a) D.n).natAbs / (Nat.gcd (dt_y (dA D.a) k2 (D.n - 1 - k2) D.n).natAbs (dt_d (dA D.a) D.n).natAbs)) ∧ u.n = D.n ∧ u.sv = D.sv ∧ u.a = D.a) r u.1 ∧ u.2 0 = r.toInt64) ∨ (rr = 1 ∧ (D.sv = 0) ∧ u.1 = D) ∨ (rr = 2 ∧ (D.sv = 1 ∧ ¬ (0 ≤ k.toInt ∧ k.toInt < D.n)) ∧ u.1 = D)) (fun u t => va_P (dC, dI) classes ([(ou, .inl (cJ, 1, .inr (.inl u.2)))] ++ dw x0 gv cl d0 h0d q0d h0u q0u h0e q0e h0p q0p h0q q0q h0o q0o h0r q0r cA cJ cW u.1.n u.1.sv u.1.a u.1.lend u.1.fd u.1.sgd u.1.lenu u.1.fu u.1.sgu u.1.lene u.1.fe u.1.sge u.1.lenp u.1.fp u.1.sgp u.1.lenq u.1.fq u.1.sgq u.1.leno u.1.fo u.1.sgo u.1.lenr u.1.fr u.1.sgr u.1.tw u.1.iv u.1.hw u.1.qw u.1.gg u.1.ln u.1.sn) t.heap ∧ va_D (va_A ([(ou, .inl (cJ, 1, .inr (.inl o1)))] ++ dw x0 gv cl d0 h0d q0d h0u q0u h0e q0e h0p q0p h0q q0q h0o q0o h0r q0r cA cJ cW D.n D.sv D.a D.lend D.fd D.sgd D.lenu D.fu D.sgu D.lene D.fe D.sge D.lenp D.fp D.sgp D.lenq D.fq D.sgq D.leno D.fo D.sgo D.lenr D.fr D.sgr D.tw D.iv D.hw D.qw D.gg D.ln D.sn) sz) ([(ou, .inl (cJ, 1, .inr (.inl u.2)))] ++ dw x0 gv cl d0 h0d q0d h0u q0u h0e q0e h0p q0p h0q q0q h0o q0o h0r q0r cA cJ cW u.1.n u.1.sv u.1.a u.1.lend u.1.fd u.1.sgd u.1.lenu u.1.fu u.1.sgu u.1.lene u.1.fe u.1.sge u.1.lenp u.1.fp u.1.sgp u.1.lenq u.1.fq u.1.sgq u.1.leno u.1.fo u.1.sgo u.1.lenr u.1.fr u.1.sgr u.1.tw u.1.iv u.1.hw u.1.qw u.1.gg u.1.ln u.1.sn)) (va_A ([(ou, .inl (cJ, 1, .inr (.inl o1)))] ++ dw x0 gv cl d0 h0d q0d h0u q0u h0e q0e h0p q0p h0q q0q h0o q0o h0r q0r cA cJ cW D.n D.sv D.a D.lend D.fd D.sgd D.lenu D.fu D.sgu D.lene D.fe D.sge D.lenp D.fp D.sgp D.lenq D.fq D.sgq D.leno D.fo D.sgo D.lenr D.fr D.sgr D.tw D.iv D.hw D.qw D.gg D.ln D.sn) sz)) (vx_X (S := Unit) (fun _ => False) (fun _ _ _ => True) (va_A ([(ou, .inl (cJ, 1, .inr (.inl o1)))] ++ dw x0 gv cl d0 h0d q0d h0u q0u h0e q0e h0p q0p h0q q0q h0o q0o h0r q0r cA cJ cW D.n D.sv D.a D.lend D.fd D.sgd D.lenu D.fu D.sgu D.lene D.fe D.sge D.lenp D.fp D.sgp D.lenq D.fq D.sgq D.leno D.fo D.sgo D.lenr D.fr D.sgr D.tw D.iv D.hw D.qw D.gg D.ln D.sn) sz)) 1 6 (va_A ([(ou, .inl (cJ, 1, .inr (.inl o1)))] ++ dw x0 gv cl d0 h0d q0d h0u q0u h0e q0e h0p q0p h0q q0q h0o q0o h0r q0r cA cJ cW D.n D.sv D.a D.lend D.fd D.sgd D.lenu D.fu D.sgu D.lene D.fe D.sge D.lenp D.fp D.sgp D.lenq D.fq D.sgq D.leno D.fo D.sgo D.lenr D.fr D.sgr D.tw D.iv D.hw D.qw D.gg D.ln D.sn) sz) := by
  refine vx_ofWH (cc := b_Law_unknown) (maxL := 4) (ret := (some .int)) (hh := hh_Law_unknown) (by decide) rfl ?_
  intro p e s m args below meth c s₁ B hml hv
  obtain ⟨⟨rfl, hsz, hP, hK, hD0⟩, hE⟩ := hv
  have hx := B.exec
  have hb := B.bytes
  have hr := B.returns
  have hts : ∀ w ∈ gw_tbl, w.before ([.ref x0, .int k, .ref ou] : List Value).toArray s = true := fun w h => atoms_spec (ws := w_Law_unknown) B.pre w (List.mem_cons_of_mem _ h)
  have htab : c.exceptionTable.toList = tableOf hh_Law_unknown := vx_table (x := y_Law_unknown) B (atoms_spec (ws := w_Law_unknown) B.pre _ List.mem_cons_self)
  have hown : s.vm.findClass R_Law = some m.cls := findClass_of_methodNamed B.named
  have hlocks := B.notSynchronized
  subst hsz
  have hD := hD0.self (sz := s.heap.size)
  generalize hAe : va_A ([(ou, .inl (cJ, 1, .inr (.inl o1)))] ++ dw x0 gv cl d0 h0d q0d h0u q0u h0e q0e h0p q0p h0q q0q h0o q0o h0r q0r cA cJ cW D.n D.sv D.a D.lend D.fd D.sgd D.lenu D.fu D.sgu D.lene D.fe D.sge D.lenp D.fp D.sgp D.lenq D.fq D.sgq D.leno D.fo D.sgo D.lenr D.fr D.sgr D.tw D.iv D.hw D.qw D.gg D.ln D.sn) s.heap.size = A at hD hE ⊢
  have hA : ∀ q : Nat, s.heap.size ≤ q → A q := fun q h => by rw [← hAe]; exact Or.inr h
  have hS : va_S A s.heap s.heap [] := va_S.rf
  have hl := lv_entry ([.ref x0, .int k, .ref ou]) (n := 4) (Nat.le_of_ble_eq_true rfl)
  rw [lg_entry_eq]
  generalize (lg_sl ([.ref x0, .int k, .ref ou]) ++ List.replicate (4 - (lg_sl ([.ref x0, .int k, .ref ou])).length) Slot.unset).toArray = ls at hl ⊢
  have hl : lv_has ls 4 [(0, .ref x0), (1, .int k), (2, .ref ou)] := hl
  refine lv_aload_n hx hb d_Law_unknown_0 rfl (lv_at hl 2 rfl) ?_
  refine lv_iconst (v := nI 0) hx hb d_Law_unknown_1 rfl ?_
  refine lv_aload_n hx hb d_Law_unknown_2 rfl (lv_at hl 0 rfl) ?_
  refine lv_iload_n hx hb d_Law_unknown_3 rfl (lv_at hl 1 rfl) ?_
  have hPc := xz_P hP
  have hDc := (xz_D hD).weaken (B := fun _ => True) (fun _ _ _ _ => trivial)
  have hFc := xz_F hD hS hA
  refine vx_calli (vx_runV (As := [.int k]) (rest := [.int (nI 0), .ref ou]) ⟨hx, hb, hml, hown, hts⟩ (c_Desk_unknown l hlt dC dI s.heap.size x0 gv cl d0 h0d q0d h0u q0u h0e q0e h0p q0p h0q q0q h0o q0o h0r q0r cA cJ cW D k hG) (cwV 1 hts (gw_V k_ml_Law_21 k_im_Desk_unknown k_sel_Desk_unknown k_ini_Desk k_code_Desk_unknown) rfl rfl rfl (by decide +kernel) ⟨(Nat.le_of_ble_eq_true rfl), (Nat.le_of_ble_eq_true rfl)⟩) ⟨xc_X_blind, va_recv hK hPc (ci := 0) (q0 := 0) rfl rfl, fun U hU hW => ⟨⟨rfl, by rw [hU], by rw [hU]; exact hPc, va_K.moved hW.alike hK, hDc⟩, by rw [hU]; exact (hE.narrow hFc).moved hW.alike⟩⟩ rfl rfl hl.1 rfl (lv_room (Nat.le_of_ble_eq_true rfl)) d_Law_unknown_4 ⟨(Nat.le_of_ble_eq_true rfl), (Nat.le_of_ble_eq_true rfl)⟩) hS (fun q _ h => hFc q h) hFc (fun q _ h => hFc q h) (fun E ce q9 u t_ H locs ht_ hvm_ hpx hBX hz1 hk1 hS hce hcv hcl => ?_) (fun r_ u t_ H locs ht_ hvm_ hw hB hz1 hk1 hS => ?_)
  · obtain ⟨hc, hP1, hD1⟩ := hBX
    rw [ht_] at hP1
    obtain ⟨hP, hD⟩ := xz_1 hP hD hk1 hFc hP1 hD1
    rcases hc with ⟨hcE, hc⟩ | ⟨hcE, hc⟩
    · subst hcE
      refine vx_catch (pc := 4) hown [] (⟨0, 9, 12, 25⟩ : ExceptionTableEntry) [(⟨0, 9, 15, 19⟩ : ExceptionTableEntry)] htab (fun z hz => by cases hz) (by decide) (by decide) (hts _ k_cl_Law_25) (va_Nw.use rfl (hE.2.2.1 _ (List.mem_of_getElem? (i := 2) rfl))) hce hcv hcl ?_
      refine W.eq (g2 := F0 m 12 ls [.ref q9]) rfl ?_
      refine lv_astore_n (lv' := [(3, .ref q9), (0, .ref x0), (1, .int k), (2, .ref ou)]) hx hb d_Law_unknown_12 rfl hl (by decide) rfl (fun ls hl => ?_)
      refine lv_iconst (v := nI 1) hx hb d_Law_unknown_13 rfl ?_
      refine vx_ret (W.widen (k := 1) (n := 6) (by omega) (by omega) ?_)
      exact W.iret (v := nI 1) hx hb hr (fun T_ ht_ hW_ => ⟨⟨_, (D, o1), rfl, Or.inr (Or.inl ⟨rfl, hc, rfl⟩), by show va_P (dC, dI) classes _ T_.heap; rw [ht_]; exact hP, hD⟩, hS.F ht_⟩) hS.2.2 d_Law_unknown_14
    · subst hcE
      refine vx_catch (pc := 4) hown [(⟨0, 9, 12, 25⟩ : ExceptionTableEntry)] (⟨0, 9, 15, 19⟩ : ExceptionTableEntry) [] htab (fun z hz => by
                have e9 : z = (⟨0, 9, 12, 25⟩ : ExceptionTableEntry) := by simpa using hz
                subst e9
                exact Or.inr ⟨by decide, "java/lang/IllegalStateException", hts _ k_cl_Law_25, hE.2.2.2⟩) (by decide) (by decide) (hts _ k_cl_Law_19) (va_Nw.use rfl (hE.2.2.1 _ (List.mem_of_getElem? (i := 1) rfl))) hce hcv hcl ?_
      refine W.eq (g2 := F0 m 15 ls [.ref q9]) rfl ?_
      refine lv_astore_n (lv' := [(3, .ref q9), (0, .ref x0), (1, .int k), (2, .ref ou)]) hx hb d_Law_unknown_15 rfl hl (by decide) rfl (fun ls hl => ?_)
      refine lv_iconst (v := nI 2) hx hb d_Law_unknown_16 rfl ?_
      refine vx_ret (W.widen (k := 1) (n := 6) (by omega) (by omega) ?_)
      exact W.iret (v := nI 2) hx hb hr (fun T_ ht_ hW_ => ⟨⟨_, (D, o1), rfl, Or.inr (Or.inr ⟨rfl, hc, rfl⟩), by show va_P (dC, dI) classes _ T_.heap; rw [ht_]; exact hP, hD⟩, hS.F ht_⟩) hS.2.2 d_Law_unknown_17
  · obtain ⟨hP1, hD1⟩ := hB
    rw [ht_] at hP1
    obtain ⟨hP, hD⟩ := xz_1 hP hD hk1 hFc hP1 hD1
    have hP : va_P (dC, dI) classes ([(ou, .inl (cJ, 1, .inr (.inl o1)))] ++ dw x0 gv cl d0 h0d q0d h0u q0u h0e q0e h0p q0p h0q q0q h0o q0o h0r q0r cA cJ cW u.n u.sv u.a u.lend u.fd u.sgd u.lenu u.fu u.sgu u.lene u.fe u.sge u.lenp u.fp u.sgp u.lenq u.fq u.sgq u.leno u.fo u.sgo u.lenr u.fr u.sgr u.tw u.iv u.hw u.qw u.gg u.ln u.sn) H := hP
    have hD : va_D A ([(ou, .inl (cJ, 1, .inr (.inl o1)))] ++ dw x0 gv cl d0 h0d q0d h0u q0u h0e q0e h0p q0p h0q q0q h0o q0o h0r q0r cA cJ cW u.n u.sv u.a u.lend u.fd u.sgd u.lenu u.fu u.sgu u.lene u.fe u.sge u.lenp u.fp u.sgp u.lenq u.fq u.sgq u.leno u.fo u.sgo u.lenr u.fr u.sgr u.tw u.iv u.hw u.qw u.gg u.ln u.sn) := hD
    refine lv_i2l (v := r_.toInt64) hx hb d_Law_unknown_7 rfl ?_
    refine xn_last hx hb hK hP hD hS 0 1 rfl rfl (i := 0) (x := r_.toInt64) (by omega) (by omega) d_Law_unknown_8 (fun H locs hP hD hS => ?_)
    have hP : va_P (dC, dI) classes ([(ou, .inl (cJ, 1, .inr (.inl (va_up o1 0 r_.toInt64))))] ++ dw x0 gv cl d0 h0d q0d h0u q0u h0e q0e h0p q0p h0q q0q h0o q0o h0r q0r cA cJ cW u.n u.sv u.a u.lend u.fd u.sgd u.lenu u.fu u.sgu u.lene u.fe u.sge u.lenp u.fp u.sgp u.lenq u.fq u.sgq u.leno u.fo u.sgo u.lenr u.fr u.sgr u.tw u.iv u.hw u.qw u.gg u.ln u.sn) H := hP
    have hD : va_D A ([(ou, .inl (cJ, 1, .inr (.inl (va_up o1 0 r_.toInt64))))] ++ dw x0 gv cl d0 h0d q0d h0u q0u h0e q0e h0p q0p h0q q0q h0o q0o h0r q0r cA cJ cW u.n u.sv u.a u.lend u.fd u.sgd u.lenu u.fu u.sgu u.lene u.fe u.sge u.lenp u.fp u.sgp u.lenq u.fq u.sgq u.leno u.fo u.sgo u.lenr u.fr u.sgr u.tw u.iv u.hw u.qw u.gg u.ln u.sn) := hD
    refine lv_goto (tgt := 18) hx hb d_Law_unknown_9 (by decide) ?_
    refine lv_iconst (v := nI 0) hx hb d_Law_unknown_18 rfl ?_
    refine vx_ret (W.widen (k := 1) (n := 6) (by omega) (by omega) ?_)
    exact W.iret (v := nI 0) hx hb hr (fun T_ ht_ hW_ => ⟨⟨_, (u, va_up o1 0 r_.toInt64), rfl, Or.inl ⟨rfl, r_, hw, (show va_up o1 0 r_.toInt64 0 = r_.toInt64 from va_up_self ..)⟩, by show va_P (dC, dI) classes _ T_.heap; rw [ht_]; exact hP, hD⟩, hS.F ht_⟩) hS.2.2 d_Law_unknown_19
set_option maxHeartbeats 8000000 in
set_option maxRecDepth 100000 in
/-- the law's Law_determinant -/
theorem c_Law_determinant (l : Launch) (hlt : l.stackTraces = false) (dC : Nat → ClassId) (dI : Nat → Nat → Nat) (sz : Nat) (x0 gv cl d0 h0d q0d h0u q0u h0e q0e h0p q0p h0q q0q h0o q0o h0r q0r : Nat) (cA cJ cW : ClassId) (ou : Nat) (D : dS) (o1 : Nat → Int64)   (hG : dG D) : vx_Met l y_Law_determinant w_Law_determinant ({ frames := 7, cells := 1, slots := 6, locals := 101 }) (xc_X [.ref x0, .ref ou] dC dI ([(ou, .inl (cJ, 1, .inr (.inl o1)))] ++ dw x0 gv cl d0 h0d q0d h0u q0u h0e q0e h0p q0p h0q q0q h0o q0o h0r q0r cA cJ cW D.n D.sv D.a D.lend D.fd D.sgd D.lenu D.fu D.sgu D.lene D.fe D.sge D.lenp D.fp D.sgp D.lenq D.fq D.sgq D.leno D.fo D.sgo D.lenr D.fr D.sgr D.tw D.iv D.hw D.qw D.gg D.ln D.sn) [(cA, .int), (cJ, .long), (cW, .object "EquationDesk$Whole")] sz) (va_Qi (S := dS × (Nat → Int64)) (fun rr u => (rr = 0 ∧ ∃ r : Int32, (fun r u => dG u ∧ (D.sv = 1 ∧ r.toInt = (dt_d (dA D.a) D.n).sign ∧ dN u = (dt_d (dA D.a) D.n).natAbs ∧ dE u = 1) ∧ u.n = D.n ∧ u.sv = D.sv ∧ u.a = D.a) r u.1 ∧ u.2 0 = r.toInt64) ∨ (rr = 1 ∧ (D.sv = 0) ∧ u.1 = D)) (fun u t => va_P (dC, dI) classes ([(ou, .inl (cJ, 1, .inr (.inl u.2)))] ++ dw x0 gv cl d0 h0d q0d h0u q0u h0e q0e h0p q0p h0q q0q h0o q0o h0r q0r cA cJ cW u.1.n u.1.sv u.1.a u.1.lend u.1.fd u.1.sgd u.1.lenu u.1.fu u.1.sgu u.1.lene u.1.fe u.1.sge u.1.lenp u.1.fp u.1.sgp u.1.lenq u.1.fq u.1.sgq u.1.leno u.1.fo u.1.sgo u.1.lenr u.1.fr u.1.sgr u.1.tw u.1.iv u.1.hw u.1.qw u.1.gg u.1.ln u.1.sn) t.heap ∧ va_D (va_A ([(ou, .inl (cJ, 1, .inr (.inl o1)))] ++ dw x0 gv cl d0 h0d q0d h0u q0u h0e q0e h0p q0p h0q q0q h0o q0o h0r q0r cA cJ cW D.n D.sv D.a D.lend D.fd D.sgd D.lenu D.fu D.sgu D.lene D.fe D.sge D.lenp D.fp D.sgp D.lenq D.fq D.sgq D.leno D.fo D.sgo D.lenr D.fr D.sgr D.tw D.iv D.hw D.qw D.gg D.ln D.sn) sz) ([(ou, .inl (cJ, 1, .inr (.inl u.2)))] ++ dw x0 gv cl d0 h0d q0d h0u q0u h0e q0e h0p q0p h0q q0q h0o q0o h0r q0r cA cJ cW u.1.n u.1.sv u.1.a u.1.lend u.1.fd u.1.sgd u.1.lenu u.1.fu u.1.sgu u.1.lene u.1.fe u.1.sge u.1.lenp u.1.fp u.1.sgp u.1.lenq u.1.fq u.1.sgq u.1.leno u.1.fo u.1.sgo u.1.lenr u.1.fr u.1.sgr u.1.tw u.1.iv u.1.hw u.1.qw u.1.gg u.1.ln u.1.sn)) (va_A ([(ou, .inl (cJ, 1, .inr (.inl o1)))] ++ dw x0 gv cl d0 h0d q0d h0u q0u h0e q0e h0p q0p h0q q0q h0o q0o h0r q0r cA cJ cW D.n D.sv D.a D.lend D.fd D.sgd D.lenu D.fu D.sgu D.lene D.fe D.sge D.lenp D.fp D.sgp D.lenq D.fq D.sgq D.leno D.fo D.sgo D.lenr D.fr D.sgr D.tw D.iv D.hw D.qw D.gg D.ln D.sn) sz)) (vx_X (S := Unit) (fun _ => False) (fun _ _ _ => True) (va_A ([(ou, .inl (cJ, 1, .inr (.inl o1)))] ++ dw x0 gv cl d0 h0d q0d h0u q0u h0e q0e h0p q0p h0q q0q h0o q0o h0r q0r cA cJ cW D.n D.sv D.a D.lend D.fd D.sgd D.lenu D.fu D.sgu D.lene D.fe D.sge D.lenp D.fp D.sgp D.lenq D.fq D.sgq D.leno D.fo D.sgo D.lenr D.fr D.sgr D.tw D.iv D.hw D.qw D.gg D.ln D.sn) sz)) 1 6 (va_A ([(ou, .inl (cJ, 1, .inr (.inl o1)))] ++ dw x0 gv cl d0 h0d q0d h0u q0u h0e q0e h0p q0p h0q q0q h0o q0o h0r q0r cA cJ cW D.n D.sv D.a D.lend D.fd D.sgd D.lenu D.fu D.sgu D.lene D.fe D.sge D.lenp D.fp D.sgp D.lenq D.fq D.sgq D.leno D.fo D.sgo D.lenr D.fr D.sgr D.tw D.iv D.hw D.qw D.gg D.ln D.sn) sz) := by
  refine vx_ofWH (cc := b_Law_determinant) (maxL := 3) (ret := (some .int)) (hh := hh_Law_determinant) (by decide) rfl ?_
  intro p e s m args below meth c s₁ B hml hv
  obtain ⟨⟨rfl, hsz, hP, hK, hD0⟩, hE⟩ := hv
  have hx := B.exec
  have hb := B.bytes
  have hr := B.returns
  have hts : ∀ w ∈ gw_tbl, w.before ([.ref x0, .ref ou] : List Value).toArray s = true := fun w h => atoms_spec (ws := w_Law_determinant) B.pre w (List.mem_cons_of_mem _ h)
  have htab : c.exceptionTable.toList = tableOf hh_Law_determinant := vx_table (x := y_Law_determinant) B (atoms_spec (ws := w_Law_determinant) B.pre _ List.mem_cons_self)
  have hown : s.vm.findClass R_Law = some m.cls := findClass_of_methodNamed B.named
  have hlocks := B.notSynchronized
  subst hsz
  have hD := hD0.self (sz := s.heap.size)
  generalize hAe : va_A ([(ou, .inl (cJ, 1, .inr (.inl o1)))] ++ dw x0 gv cl d0 h0d q0d h0u q0u h0e q0e h0p q0p h0q q0q h0o q0o h0r q0r cA cJ cW D.n D.sv D.a D.lend D.fd D.sgd D.lenu D.fu D.sgu D.lene D.fe D.sge D.lenp D.fp D.sgp D.lenq D.fq D.sgq D.leno D.fo D.sgo D.lenr D.fr D.sgr D.tw D.iv D.hw D.qw D.gg D.ln D.sn) s.heap.size = A at hD hE ⊢
  have hA : ∀ q : Nat, s.heap.size ≤ q → A q := fun q h => by rw [← hAe]; exact Or.inr h
  have hS : va_S A s.heap s.heap [] := va_S.rf
  have hl := lv_entry ([.ref x0, .ref ou]) (n := 3) (Nat.le_of_ble_eq_true rfl)
  rw [lg_entry_eq]
  generalize (lg_sl ([.ref x0, .ref ou]) ++ List.replicate (3 - (lg_sl ([.ref x0, .ref ou])).length) Slot.unset).toArray = ls at hl ⊢
  have hl : lv_has ls 3 [(0, .ref x0), (1, .ref ou)] := hl
  refine lv_aload_n hx hb d_Law_determinant_0 rfl (lv_at hl 1 rfl) ?_
  refine lv_iconst (v := nI 0) hx hb d_Law_determinant_1 rfl ?_
  refine lv_aload_n hx hb d_Law_determinant_2 rfl (lv_at hl 0 rfl) ?_
  have hPc := xz_P hP
  have hDc := (xz_D hD).weaken (B := fun _ => True) (fun _ _ _ _ => trivial)
  have hFc := xz_F hD hS hA
  refine vx_calli (vx_runV (As := []) (rest := [.int (nI 0), .ref ou]) ⟨hx, hb, hml, hown, hts⟩ (c_Desk_determinant l hlt dC dI s.heap.size x0 gv cl d0 h0d q0d h0u q0u h0e q0e h0p q0p h0q q0q h0o q0o h0r q0r cA cJ cW D  hG) (cwV 0 hts (gw_V k_ml_Law_27 k_im_Desk_determinant k_sel_Desk_determinant k_ini_Desk k_code_Desk_determinant) rfl rfl rfl (by decide +kernel) ⟨(Nat.le_of_ble_eq_true rfl), (Nat.le_of_ble_eq_true rfl)⟩) ⟨xc_X_blind, va_recv hK hPc (ci := 0) (q0 := 0) rfl rfl, fun U hU hW => ⟨⟨rfl, by rw [hU], by rw [hU]; exact hPc, va_K.moved hW.alike hK, hDc⟩, by rw [hU]; exact (hE.narrow hFc).moved hW.alike⟩⟩ rfl rfl hl.1 rfl (lv_room (Nat.le_of_ble_eq_true rfl)) d_Law_determinant_3 ⟨(Nat.le_of_ble_eq_true rfl), (Nat.le_of_ble_eq_true rfl)⟩) hS (fun q _ h => hFc q h) hFc (fun q _ h => hFc q h) (fun E ce q9 u t_ H locs ht_ hvm_ hpx hBX hz1 hk1 hS hce hcv hcl => ?_) (fun r_ u t_ H locs ht_ hvm_ hw hB hz1 hk1 hS => ?_)
  · obtain ⟨hc, hP1, hD1⟩ := hBX
    rw [ht_] at hP1
    obtain ⟨hP, hD⟩ := xz_1 hP hD hk1 hFc hP1 hD1
    obtain ⟨hcE, hc⟩ := hc
    subst hcE
    refine vx_catch (pc := 3) hown [] (⟨0, 8, 11, 25⟩ : ExceptionTableEntry) [] htab (fun z hz => by cases hz) (by decide) (by decide) (hts _ k_cl_Law_25) (va_Nw.use rfl (hE.2.2.1 _ (List.mem_of_getElem? (i := 2) rfl))) hce hcv hcl ?_
    refine W.eq (g2 := F0 m 11 ls [.ref q9]) rfl ?_
    refine lv_astore_n (lv' := [(2, .ref q9), (0, .ref x0), (1, .ref ou)]) hx hb d_Law_determinant_11 rfl hl (by decide) rfl (fun ls hl => ?_)
    refine lv_iconst (v := nI 1) hx hb d_Law_determinant_12 rfl ?_
    refine vx_ret (W.widen (k := 1) (n := 6) (by omega) (by omega) ?_)
    exact W.iret (v := nI 1) hx hb hr (fun T_ ht_ hW_ => ⟨⟨_, (D, o1), rfl, Or.inr ⟨rfl, hc, rfl⟩, by show va_P (dC, dI) classes _ T_.heap; rw [ht_]; exact hP, hD⟩, hS.F ht_⟩) hS.2.2 d_Law_determinant_13
  · obtain ⟨hP1, hD1⟩ := hB
    rw [ht_] at hP1
    obtain ⟨hP, hD⟩ := xz_1 hP hD hk1 hFc hP1 hD1
    have hP : va_P (dC, dI) classes ([(ou, .inl (cJ, 1, .inr (.inl o1)))] ++ dw x0 gv cl d0 h0d q0d h0u q0u h0e q0e h0p q0p h0q q0q h0o q0o h0r q0r cA cJ cW u.n u.sv u.a u.lend u.fd u.sgd u.lenu u.fu u.sgu u.lene u.fe u.sge u.lenp u.fp u.sgp u.lenq u.fq u.sgq u.leno u.fo u.sgo u.lenr u.fr u.sgr u.tw u.iv u.hw u.qw u.gg u.ln u.sn) H := hP
    have hD : va_D A ([(ou, .inl (cJ, 1, .inr (.inl o1)))] ++ dw x0 gv cl d0 h0d q0d h0u q0u h0e q0e h0p q0p h0q q0q h0o q0o h0r q0r cA cJ cW u.n u.sv u.a u.lend u.fd u.sgd u.lenu u.fu u.sgu u.lene u.fe u.sge u.lenp u.fp u.sgp u.lenq u.fq u.sgq u.leno u.fo u.sgo u.lenr u.fr u.sgr u.tw u.iv u.hw u.qw u.gg u.ln u.sn) := hD
    refine lv_i2l (v := r_.toInt64) hx hb d_Law_determinant_6 rfl ?_
    refine xn_last hx hb hK hP hD hS 0 1 rfl rfl (i := 0) (x := r_.toInt64) (by omega) (by omega) d_Law_determinant_7 (fun H locs hP hD hS => ?_)
    have hP : va_P (dC, dI) classes ([(ou, .inl (cJ, 1, .inr (.inl (va_up o1 0 r_.toInt64))))] ++ dw x0 gv cl d0 h0d q0d h0u q0u h0e q0e h0p q0p h0q q0q h0o q0o h0r q0r cA cJ cW u.n u.sv u.a u.lend u.fd u.sgd u.lenu u.fu u.sgu u.lene u.fe u.sge u.lenp u.fp u.sgp u.lenq u.fq u.sgq u.leno u.fo u.sgo u.lenr u.fr u.sgr u.tw u.iv u.hw u.qw u.gg u.ln u.sn) H := hP
    have hD : va_D A ([(ou, .inl (cJ, 1, .inr (.inl (va_up o1 0 r_.toInt64))))] ++ dw x0 gv cl d0 h0d q0d h0u q0u h0e q0e h0p q0p h0q q0q h0o q0o h0r q0r cA cJ cW u.n u.sv u.a u.lend u.fd u.sgd u.lenu u.fu u.sgu u.lene u.fe u.sge u.lenp u.fp u.sgp u.lenq u.fq u.sgq u.leno u.fo u.sgo u.lenr u.fr u.sgr u.tw u.iv u.hw u.qw u.gg u.ln u.sn) := hD
    refine lv_goto (tgt := 14) hx hb d_Law_determinant_8 (by decide) ?_
    refine lv_iconst (v := nI 0) hx hb d_Law_determinant_14 rfl ?_
    refine vx_ret (W.widen (k := 1) (n := 6) (by omega) (by omega) ?_)
    exact W.iret (v := nI 0) hx hb hr (fun T_ ht_ hW_ => ⟨⟨_, (u, va_up o1 0 r_.toInt64), rfl, Or.inl ⟨rfl, r_, hw, (show va_up o1 0 r_.toInt64 0 = r_.toInt64 from va_up_self ..)⟩, by show va_P (dC, dI) classes _ T_.heap; rw [ht_]; exact hP, hD⟩, hS.F ht_⟩) hS.2.2 d_Law_determinant_15
set_option maxHeartbeats 8000000 in
set_option maxRecDepth 100000 in
/-- the law's Law_compare -/
theorem c_Law_compare (l : Launch) (hlt : l.stackTraces = false) (dC : Nat → ClassId) (dI : Nat → Nat → Nat) (sz : Nat) (x0 gv cl d0 h0d q0d h0u q0u h0e q0e h0p q0p h0q q0q h0o q0o h0r q0r : Nat) (cA cJ cW : ClassId) (ou : Nat) (D : dS) (o1 : Nat → Int64)  (j k : Int32) (hG : dG D) : vx_Met l y_Law_compare w_Law_compare ({ frames := 7, cells := 1, slots := 6, locals := 105 }) (xc_X [.ref x0, .int j, .int k, .ref ou] dC dI ([(ou, .inl (cJ, 1, .inr (.inl o1)))] ++ dw x0 gv cl d0 h0d q0d h0u q0u h0e q0e h0p q0p h0q q0q h0o q0o h0r q0r cA cJ cW D.n D.sv D.a D.lend D.fd D.sgd D.lenu D.fu D.sgu D.lene D.fe D.sge D.lenp D.fp D.sgp D.lenq D.fq D.sgq D.leno D.fo D.sgo D.lenr D.fr D.sgr D.tw D.iv D.hw D.qw D.gg D.ln D.sn) [(cA, .int), (cJ, .long), (cW, .object "EquationDesk$Whole")] sz) (va_Qi (S := dS × (Nat → Int64)) (fun rr u => (rr = 0 ∧ ∃ r : Int32, (u.1 = D ∧ (fun r u => ∃ (j2 k2 : Nat) (sg : Int32), j = nI j2 ∧ k = nI k2 ∧ j2 < D.n ∧ k2 < D.n ∧ D.sv = 1 ∧ sg.toInt = (dt_d (dA D.a) D.n).sign ∧ r = wh_c (dt_y (dA D.a) j2 (D.n - 1 - j2) D.n) (dt_y (dA D.a) k2 (D.n - 1 - k2) D.n) * sg) r ()) ∧ u.2 0 = r.toInt64) ∨ (rr = 1 ∧ (D.sv = 0) ∧ u.1 = D) ∨ (rr = 2 ∧ (D.sv = 1 ∧ ¬ (0 ≤ j.toInt ∧ j.toInt < D.n ∧ 0 ≤ k.toInt ∧ k.toInt < D.n)) ∧ u.1 = D)) (fun u t => va_P (dC, dI) classes ([(ou, .inl (cJ, 1, .inr (.inl u.2)))] ++ dw x0 gv cl d0 h0d q0d h0u q0u h0e q0e h0p q0p h0q q0q h0o q0o h0r q0r cA cJ cW u.1.n u.1.sv u.1.a u.1.lend u.1.fd u.1.sgd u.1.lenu u.1.fu u.1.sgu u.1.lene u.1.fe u.1.sge u.1.lenp u.1.fp u.1.sgp u.1.lenq u.1.fq u.1.sgq u.1.leno u.1.fo u.1.sgo u.1.lenr u.1.fr u.1.sgr u.1.tw u.1.iv u.1.hw u.1.qw u.1.gg u.1.ln u.1.sn) t.heap ∧ va_D (va_A ([(ou, .inl (cJ, 1, .inr (.inl o1)))] ++ dw x0 gv cl d0 h0d q0d h0u q0u h0e q0e h0p q0p h0q q0q h0o q0o h0r q0r cA cJ cW D.n D.sv D.a D.lend D.fd D.sgd D.lenu D.fu D.sgu D.lene D.fe D.sge D.lenp D.fp D.sgp D.lenq D.fq D.sgq D.leno D.fo D.sgo D.lenr D.fr D.sgr D.tw D.iv D.hw D.qw D.gg D.ln D.sn) sz) ([(ou, .inl (cJ, 1, .inr (.inl u.2)))] ++ dw x0 gv cl d0 h0d q0d h0u q0u h0e q0e h0p q0p h0q q0q h0o q0o h0r q0r cA cJ cW u.1.n u.1.sv u.1.a u.1.lend u.1.fd u.1.sgd u.1.lenu u.1.fu u.1.sgu u.1.lene u.1.fe u.1.sge u.1.lenp u.1.fp u.1.sgp u.1.lenq u.1.fq u.1.sgq u.1.leno u.1.fo u.1.sgo u.1.lenr u.1.fr u.1.sgr u.1.tw u.1.iv u.1.hw u.1.qw u.1.gg u.1.ln u.1.sn)) (va_A ([(ou, .inl (cJ, 1, .inr (.inl o1)))] ++ dw x0 gv cl d0 h0d q0d h0u q0u h0e q0e h0p q0p h0q q0q h0o q0o h0r q0r cA cJ cW D.n D.sv D.a D.lend D.fd D.sgd D.lenu D.fu D.sgu D.lene D.fe D.sge D.lenp D.fp D.sgp D.lenq D.fq D.sgq D.leno D.fo D.sgo D.lenr D.fr D.sgr D.tw D.iv D.hw D.qw D.gg D.ln D.sn) sz)) (vx_X (S := Unit) (fun _ => False) (fun _ _ _ => True) (va_A ([(ou, .inl (cJ, 1, .inr (.inl o1)))] ++ dw x0 gv cl d0 h0d q0d h0u q0u h0e q0e h0p q0p h0q q0q h0o q0o h0r q0r cA cJ cW D.n D.sv D.a D.lend D.fd D.sgd D.lenu D.fu D.sgu D.lene D.fe D.sge D.lenp D.fp D.sgp D.lenq D.fq D.sgq D.leno D.fo D.sgo D.lenr D.fr D.sgr D.tw D.iv D.hw D.qw D.gg D.ln D.sn) sz)) 1 6 (va_A ([(ou, .inl (cJ, 1, .inr (.inl o1)))] ++ dw x0 gv cl d0 h0d q0d h0u q0u h0e q0e h0p q0p h0q q0q h0o q0o h0r q0r cA cJ cW D.n D.sv D.a D.lend D.fd D.sgd D.lenu D.fu D.sgu D.lene D.fe D.sge D.lenp D.fp D.sgp D.lenq D.fq D.sgq D.leno D.fo D.sgo D.lenr D.fr D.sgr D.tw D.iv D.hw D.qw D.gg D.ln D.sn) sz) := by
  refine vx_ofWH (cc := b_Law_compare) (maxL := 5) (ret := (some .int)) (hh := hh_Law_compare) (by decide) rfl ?_
  intro p e s m args below meth c s₁ B hml hv
  obtain ⟨⟨rfl, hsz, hP, hK, hD0⟩, hE⟩ := hv
  have hx := B.exec
  have hb := B.bytes
  have hr := B.returns
  have hts : ∀ w ∈ gw_tbl, w.before ([.ref x0, .int j, .int k, .ref ou] : List Value).toArray s = true := fun w h => atoms_spec (ws := w_Law_compare) B.pre w (List.mem_cons_of_mem _ h)
  have htab : c.exceptionTable.toList = tableOf hh_Law_compare := vx_table (x := y_Law_compare) B (atoms_spec (ws := w_Law_compare) B.pre _ List.mem_cons_self)
  have hown : s.vm.findClass R_Law = some m.cls := findClass_of_methodNamed B.named
  have hlocks := B.notSynchronized
  subst hsz
  have hD := hD0.self (sz := s.heap.size)
  generalize hAe : va_A ([(ou, .inl (cJ, 1, .inr (.inl o1)))] ++ dw x0 gv cl d0 h0d q0d h0u q0u h0e q0e h0p q0p h0q q0q h0o q0o h0r q0r cA cJ cW D.n D.sv D.a D.lend D.fd D.sgd D.lenu D.fu D.sgu D.lene D.fe D.sge D.lenp D.fp D.sgp D.lenq D.fq D.sgq D.leno D.fo D.sgo D.lenr D.fr D.sgr D.tw D.iv D.hw D.qw D.gg D.ln D.sn) s.heap.size = A at hD hE ⊢
  have hA : ∀ q : Nat, s.heap.size ≤ q → A q := fun q h => by rw [← hAe]; exact Or.inr h
  have hS : va_S A s.heap s.heap [] := va_S.rf
  have hl := lv_entry ([.ref x0, .int j, .int k, .ref ou]) (n := 5) (Nat.le_of_ble_eq_true rfl)
  rw [lg_entry_eq]
  generalize (lg_sl ([.ref x0, .int j, .int k, .ref ou]) ++ List.replicate (5 - (lg_sl ([.ref x0, .int j, .int k, .ref ou])).length) Slot.unset).toArray = ls at hl ⊢
  have hl : lv_has ls 5 [(0, .ref x0), (1, .int j), (2, .int k), (3, .ref ou)] := hl
  refine lv_aload_n hx hb d_Law_compare_0 rfl (lv_at hl 3 rfl) ?_
  refine lv_iconst (v := nI 0) hx hb d_Law_compare_1 rfl ?_
  refine lv_aload_n hx hb d_Law_compare_2 rfl (lv_at hl 0 rfl) ?_
  refine lv_iload_n hx hb d_Law_compare_3 rfl (lv_at hl 1 rfl) ?_
  refine lv_iload_n hx hb d_Law_compare_4 rfl (lv_at hl 2 rfl) ?_
  have hPc := xz_P hP
  have hDc := (xz_D hD).weaken (B := fun _ => True) (fun _ _ _ _ => trivial)
  have hFc := xz_F hD hS hA
  refine vx_calli (vx_runV (As := [.int j, .int k]) (rest := [.int (nI 0), .ref ou]) ⟨hx, hb, hml, hown, hts⟩ (c_Desk_compare l hlt dC dI s.heap.size x0 gv cl d0 h0d q0d h0u q0u h0e q0e h0p q0p h0q q0q h0o q0o h0r q0r cA cJ cW D j k hG) (cwV 2 hts (gw_V k_ml_Law_31 k_im_Desk_compare k_sel_Desk_compare k_ini_Desk k_code_Desk_compare) rfl rfl rfl (by decide +kernel) ⟨(Nat.le_of_ble_eq_true rfl), (Nat.le_of_ble_eq_true rfl)⟩) ⟨xc_X_blind, va_recv hK hPc (ci := 0) (q0 := 0) rfl rfl, fun U hU hW => ⟨⟨rfl, by rw [hU], by rw [hU]; exact hPc, va_K.moved hW.alike hK, hDc⟩, by rw [hU]; exact (hE.narrow hFc).moved hW.alike⟩⟩ rfl rfl hl.1 rfl (lv_room (Nat.le_of_ble_eq_true rfl)) d_Law_compare_5 ⟨(Nat.le_of_ble_eq_true rfl), (Nat.le_of_ble_eq_true rfl)⟩) hS (fun q _ h => hFc q h) hFc (fun q _ h => hFc q h) (fun E ce q9 u t_ H locs ht_ hvm_ hpx hBX hz1 hk1 hS hce hcv hcl => ?_) (fun r_ u t_ H locs ht_ hvm_ hw hB hz1 hk1 hS => ?_)
  · obtain ⟨hc, hP1, hD1⟩ := hBX
    rw [ht_] at hP1
    obtain ⟨hP, hD⟩ := xz_1 hP hD hk1 hFc hP1 hD1
    rcases hc with ⟨hcE, hc⟩ | ⟨hcE, hc⟩
    · subst hcE
      refine vx_catch (pc := 5) hown [] (⟨0, 10, 13, 25⟩ : ExceptionTableEntry) [(⟨0, 10, 17, 19⟩ : ExceptionTableEntry)] htab (fun z hz => by cases hz) (by decide) (by decide) (hts _ k_cl_Law_25) (va_Nw.use rfl (hE.2.2.1 _ (List.mem_of_getElem? (i := 2) rfl))) hce hcv hcl ?_
      refine W.eq (g2 := F0 m 13 ls [.ref q9]) rfl ?_
      refine lv_astore (lv' := [(4, .ref q9), (0, .ref x0), (1, .int j), (2, .int k), (3, .ref ou)]) hx hb d_Law_compare_13 hl (by decide) rfl (fun ls hl => ?_)
      refine lv_iconst (v := nI 1) hx hb d_Law_compare_15 rfl ?_
      refine vx_ret (W.widen (k := 1) (n := 6) (by omega) (by omega) ?_)
      exact W.iret (v := nI 1) hx hb hr (fun T_ ht_ hW_ => ⟨⟨_, (D, o1), rfl, Or.inr (Or.inl ⟨rfl, hc, rfl⟩), by show va_P (dC, dI) classes _ T_.heap; rw [ht_]; exact hP, hD⟩, hS.F ht_⟩) hS.2.2 d_Law_compare_16
    · subst hcE
      refine vx_catch (pc := 5) hown [(⟨0, 10, 13, 25⟩ : ExceptionTableEntry)] (⟨0, 10, 17, 19⟩ : ExceptionTableEntry) [] htab (fun z hz => by
                have e9 : z = (⟨0, 10, 13, 25⟩ : ExceptionTableEntry) := by simpa using hz
                subst e9
                exact Or.inr ⟨by decide, "java/lang/IllegalStateException", hts _ k_cl_Law_25, hE.2.2.2⟩) (by decide) (by decide) (hts _ k_cl_Law_19) (va_Nw.use rfl (hE.2.2.1 _ (List.mem_of_getElem? (i := 1) rfl))) hce hcv hcl ?_
      refine W.eq (g2 := F0 m 17 ls [.ref q9]) rfl ?_
      refine lv_astore (lv' := [(4, .ref q9), (0, .ref x0), (1, .int j), (2, .int k), (3, .ref ou)]) hx hb d_Law_compare_17 hl (by decide) rfl (fun ls hl => ?_)
      refine lv_iconst (v := nI 2) hx hb d_Law_compare_19 rfl ?_
      refine vx_ret (W.widen (k := 1) (n := 6) (by omega) (by omega) ?_)
      exact W.iret (v := nI 2) hx hb hr (fun T_ ht_ hW_ => ⟨⟨_, (D, o1), rfl, Or.inr (Or.inr ⟨rfl, hc, rfl⟩), by show va_P (dC, dI) classes _ T_.heap; rw [ht_]; exact hP, hD⟩, hS.F ht_⟩) hS.2.2 d_Law_compare_20
  · obtain ⟨hP1, hD1⟩ := hB
    rw [ht_] at hP1
    obtain ⟨hP, hD⟩ := xz_1 hP hD hk1 hFc hP1 hD1
    have hP : va_P (dC, dI) classes ([(ou, .inl (cJ, 1, .inr (.inl o1)))] ++ dw x0 gv cl d0 h0d q0d h0u q0u h0e q0e h0p q0p h0q q0q h0o q0o h0r q0r cA cJ cW D.n D.sv D.a D.lend D.fd D.sgd D.lenu D.fu D.sgu D.lene D.fe D.sge D.lenp D.fp D.sgp D.lenq D.fq D.sgq D.leno D.fo D.sgo D.lenr D.fr D.sgr D.tw D.iv D.hw D.qw D.gg D.ln D.sn) H := hP
    have hD : va_D A ([(ou, .inl (cJ, 1, .inr (.inl o1)))] ++ dw x0 gv cl d0 h0d q0d h0u q0u h0e q0e h0p q0p h0q q0q h0o q0o h0r q0r cA cJ cW D.n D.sv D.a D.lend D.fd D.sgd D.lenu D.fu D.sgu D.lene D.fe D.sge D.lenp D.fp D.sgp D.lenq D.fq D.sgq D.leno D.fo D.sgo D.lenr D.fr D.sgr D.tw D.iv D.hw D.qw D.gg D.ln D.sn) := hD
    refine lv_i2l (v := r_.toInt64) hx hb d_Law_compare_8 rfl ?_
    refine xn_last hx hb hK hP hD hS 0 1 rfl rfl (i := 0) (x := r_.toInt64) (by omega) (by omega) d_Law_compare_9 (fun H locs hP hD hS => ?_)
    have hP : va_P (dC, dI) classes ([(ou, .inl (cJ, 1, .inr (.inl (va_up o1 0 r_.toInt64))))] ++ dw x0 gv cl d0 h0d q0d h0u q0u h0e q0e h0p q0p h0q q0q h0o q0o h0r q0r cA cJ cW D.n D.sv D.a D.lend D.fd D.sgd D.lenu D.fu D.sgu D.lene D.fe D.sge D.lenp D.fp D.sgp D.lenq D.fq D.sgq D.leno D.fo D.sgo D.lenr D.fr D.sgr D.tw D.iv D.hw D.qw D.gg D.ln D.sn) H := hP
    have hD : va_D A ([(ou, .inl (cJ, 1, .inr (.inl (va_up o1 0 r_.toInt64))))] ++ dw x0 gv cl d0 h0d q0d h0u q0u h0e q0e h0p q0p h0q q0q h0o q0o h0r q0r cA cJ cW D.n D.sv D.a D.lend D.fd D.sgd D.lenu D.fu D.sgu D.lene D.fe D.sge D.lenp D.fp D.sgp D.lenq D.fq D.sgq D.leno D.fo D.sgo D.lenr D.fr D.sgr D.tw D.iv D.hw D.qw D.gg D.ln D.sn) := hD
    refine lv_goto (tgt := 21) hx hb d_Law_compare_10 (by decide) ?_
    refine lv_iconst (v := nI 0) hx hb d_Law_compare_21 rfl ?_
    refine vx_ret (W.widen (k := 1) (n := 6) (by omega) (by omega) ?_)
    exact W.iret (v := nI 0) hx hb hr (fun T_ ht_ hW_ => ⟨⟨_, (D, va_up o1 0 r_.toInt64), rfl, Or.inl ⟨rfl, r_, ⟨rfl, hw⟩, (show va_up o1 0 r_.toInt64 0 = r_.toInt64 from va_up_self ..)⟩, by show va_P (dC, dI) classes _ T_.heap; rw [ht_]; exact hP, hD⟩, hS.F ht_⟩) hS.2.2 d_Law_compare_22
set_option maxHeartbeats 8000000 in
set_option maxRecDepth 100000 in
/-- the law's Law_part -/
theorem c_Law_part (l : Launch) (hlt : l.stackTraces = false) (dC : Nat → ClassId) (dI : Nat → Nat → Nat) (sz : Nat) (x0 gv cl d0 h0d q0d h0u q0u h0e q0e h0p q0p h0q q0q h0o q0o h0r q0r : Nat) (cA cJ cW : ClassId) (ou : Nat) (D : dS) (o1 : Nat → Int64)  (b k : Int32) (hG : dG D) : vx_Met l y_Law_part w_Law_part ({ frames := 7, cells := 1, slots := 6, locals := 103 }) (xc_X [.ref x0, .int b, .int k, .ref ou] dC dI ([(ou, .inl (cJ, 1, .inr (.inl o1)))] ++ dw x0 gv cl d0 h0d q0d h0u q0u h0e q0e h0p q0p h0q q0q h0o q0o h0r q0r cA cJ cW D.n D.sv D.a D.lend D.fd D.sgd D.lenu D.fu D.sgu D.lene D.fe D.sge D.lenp D.fp D.sgp D.lenq D.fq D.sgq D.leno D.fo D.sgo D.lenr D.fr D.sgr D.tw D.iv D.hw D.qw D.gg D.ln D.sn) [(cA, .int), (cJ, .long), (cW, .object "EquationDesk$Whole")] sz) (va_Qi (S := dS × (Nat → Int64)) (fun rr u => (rr = 0 ∧ ∃ r : Int32, (u.1 = D ∧ (fun r u => ∃ k2 : Nat, k = nI k2 ∧ k2 < 2 ^ 31 ∧ r = nI ((if b = 0 then dN D else dE D) / 2 ^ (31 * k2) % 2147483648)) r ()) ∧ u.2 0 = r.toInt64) ∨ (rr = 1 ∧ (k < 0) ∧ u.1 = D)) (fun u t => va_P (dC, dI) classes ([(ou, .inl (cJ, 1, .inr (.inl u.2)))] ++ dw x0 gv cl d0 h0d q0d h0u q0u h0e q0e h0p q0p h0q q0q h0o q0o h0r q0r cA cJ cW u.1.n u.1.sv u.1.a u.1.lend u.1.fd u.1.sgd u.1.lenu u.1.fu u.1.sgu u.1.lene u.1.fe u.1.sge u.1.lenp u.1.fp u.1.sgp u.1.lenq u.1.fq u.1.sgq u.1.leno u.1.fo u.1.sgo u.1.lenr u.1.fr u.1.sgr u.1.tw u.1.iv u.1.hw u.1.qw u.1.gg u.1.ln u.1.sn) t.heap ∧ va_D (va_A ([(ou, .inl (cJ, 1, .inr (.inl o1)))] ++ dw x0 gv cl d0 h0d q0d h0u q0u h0e q0e h0p q0p h0q q0q h0o q0o h0r q0r cA cJ cW D.n D.sv D.a D.lend D.fd D.sgd D.lenu D.fu D.sgu D.lene D.fe D.sge D.lenp D.fp D.sgp D.lenq D.fq D.sgq D.leno D.fo D.sgo D.lenr D.fr D.sgr D.tw D.iv D.hw D.qw D.gg D.ln D.sn) sz) ([(ou, .inl (cJ, 1, .inr (.inl u.2)))] ++ dw x0 gv cl d0 h0d q0d h0u q0u h0e q0e h0p q0p h0q q0q h0o q0o h0r q0r cA cJ cW u.1.n u.1.sv u.1.a u.1.lend u.1.fd u.1.sgd u.1.lenu u.1.fu u.1.sgu u.1.lene u.1.fe u.1.sge u.1.lenp u.1.fp u.1.sgp u.1.lenq u.1.fq u.1.sgq u.1.leno u.1.fo u.1.sgo u.1.lenr u.1.fr u.1.sgr u.1.tw u.1.iv u.1.hw u.1.qw u.1.gg u.1.ln u.1.sn)) (va_A ([(ou, .inl (cJ, 1, .inr (.inl o1)))] ++ dw x0 gv cl d0 h0d q0d h0u q0u h0e q0e h0p q0p h0q q0q h0o q0o h0r q0r cA cJ cW D.n D.sv D.a D.lend D.fd D.sgd D.lenu D.fu D.sgu D.lene D.fe D.sge D.lenp D.fp D.sgp D.lenq D.fq D.sgq D.leno D.fo D.sgo D.lenr D.fr D.sgr D.tw D.iv D.hw D.qw D.gg D.ln D.sn) sz)) (vx_X (S := Unit) (fun _ => False) (fun _ _ _ => True) (va_A ([(ou, .inl (cJ, 1, .inr (.inl o1)))] ++ dw x0 gv cl d0 h0d q0d h0u q0u h0e q0e h0p q0p h0q q0q h0o q0o h0r q0r cA cJ cW D.n D.sv D.a D.lend D.fd D.sgd D.lenu D.fu D.sgu D.lene D.fe D.sge D.lenp D.fp D.sgp D.lenq D.fq D.sgq D.leno D.fo D.sgo D.lenr D.fr D.sgr D.tw D.iv D.hw D.qw D.gg D.ln D.sn) sz)) 1 6 (va_A ([(ou, .inl (cJ, 1, .inr (.inl o1)))] ++ dw x0 gv cl d0 h0d q0d h0u q0u h0e q0e h0p q0p h0q q0q h0o q0o h0r q0r cA cJ cW D.n D.sv D.a D.lend D.fd D.sgd D.lenu D.fu D.sgu D.lene D.fe D.sge D.lenp D.fp D.sgp D.lenq D.fq D.sgq D.leno D.fo D.sgo D.lenr D.fr D.sgr D.tw D.iv D.hw D.qw D.gg D.ln D.sn) sz) := by
  refine vx_ofWH (cc := b_Law_part) (maxL := 5) (ret := (some .int)) (hh := hh_Law_part) (by decide) rfl ?_
  intro p e s m args below meth c s₁ B hml hv
  obtain ⟨⟨rfl, hsz, hP, hK, hD0⟩, hE⟩ := hv
  have hx := B.exec
  have hb := B.bytes
  have hr := B.returns
  have hts : ∀ w ∈ gw_tbl, w.before ([.ref x0, .int b, .int k, .ref ou] : List Value).toArray s = true := fun w h => atoms_spec (ws := w_Law_part) B.pre w (List.mem_cons_of_mem _ h)
  have htab : c.exceptionTable.toList = tableOf hh_Law_part := vx_table (x := y_Law_part) B (atoms_spec (ws := w_Law_part) B.pre _ List.mem_cons_self)
  have hown : s.vm.findClass R_Law = some m.cls := findClass_of_methodNamed B.named
  have hlocks := B.notSynchronized
  subst hsz
  have hD := hD0.self (sz := s.heap.size)
  generalize hAe : va_A ([(ou, .inl (cJ, 1, .inr (.inl o1)))] ++ dw x0 gv cl d0 h0d q0d h0u q0u h0e q0e h0p q0p h0q q0q h0o q0o h0r q0r cA cJ cW D.n D.sv D.a D.lend D.fd D.sgd D.lenu D.fu D.sgu D.lene D.fe D.sge D.lenp D.fp D.sgp D.lenq D.fq D.sgq D.leno D.fo D.sgo D.lenr D.fr D.sgr D.tw D.iv D.hw D.qw D.gg D.ln D.sn) s.heap.size = A at hD hE ⊢
  have hA : ∀ q : Nat, s.heap.size ≤ q → A q := fun q h => by rw [← hAe]; exact Or.inr h
  have hS : va_S A s.heap s.heap [] := va_S.rf
  have hl := lv_entry ([.ref x0, .int b, .int k, .ref ou]) (n := 5) (Nat.le_of_ble_eq_true rfl)
  rw [lg_entry_eq]
  generalize (lg_sl ([.ref x0, .int b, .int k, .ref ou]) ++ List.replicate (5 - (lg_sl ([.ref x0, .int b, .int k, .ref ou])).length) Slot.unset).toArray = ls at hl ⊢
  have hl : lv_has ls 5 [(0, .ref x0), (1, .int b), (2, .int k), (3, .ref ou)] := hl
  refine lv_aload_n hx hb d_Law_part_0 rfl (lv_at hl 3 rfl) ?_
  refine lv_iconst (v := nI 0) hx hb d_Law_part_1 rfl ?_
  refine lv_aload_n hx hb d_Law_part_2 rfl (lv_at hl 0 rfl) ?_
  refine lv_iload_n hx hb d_Law_part_3 rfl (lv_at hl 1 rfl) ?_
  refine lv_iload_n hx hb d_Law_part_4 rfl (lv_at hl 2 rfl) ?_
  have hPc := xz_P hP
  have hDc := (xz_D hD).weaken (B := fun _ => True) (fun _ _ _ _ => trivial)
  have hFc := xz_F hD hS hA
  refine vx_calli (vx_runV (As := [.int b, .int k]) (rest := [.int (nI 0), .ref ou]) ⟨hx, hb, hml, hown, hts⟩ (c_Desk_part l hlt dC dI s.heap.size x0 gv cl d0 h0d q0d h0u q0u h0e q0e h0p q0p h0q q0q h0o q0o h0r q0r cA cJ cW D b k hG) (cwV 2 hts (gw_V k_ml_Law_35 k_im_Desk_part k_sel_Desk_part k_ini_Desk k_code_Desk_part) rfl rfl rfl (by decide +kernel) ⟨(Nat.le_of_ble_eq_true rfl), (Nat.le_of_ble_eq_true rfl)⟩) ⟨xc_X_blind, va_recv hK hPc (ci := 0) (q0 := 0) rfl rfl, fun U hU hW => ⟨⟨rfl, by rw [hU], by rw [hU]; exact hPc, va_K.moved hW.alike hK, hDc⟩, by rw [hU]; exact (hE.narrow hFc).moved hW.alike⟩⟩ rfl rfl hl.1 rfl (lv_room (Nat.le_of_ble_eq_true rfl)) d_Law_part_5 ⟨(Nat.le_of_ble_eq_true rfl), (Nat.le_of_ble_eq_true rfl)⟩) hS (fun q _ h => hFc q h) hFc (fun q _ h => hFc q h) (fun E ce q9 u t_ H locs ht_ hvm_ hpx hBX hz1 hk1 hS hce hcv hcl => ?_) (fun r_ u t_ H locs ht_ hvm_ hw hB hz1 hk1 hS => ?_)
  · obtain ⟨hc, hP1, hD1⟩ := hBX
    rw [ht_] at hP1
    obtain ⟨hP, hD⟩ := xz_1 hP hD hk1 hFc hP1 hD1
    obtain ⟨hcE, hc⟩ := hc
    subst hcE
    refine vx_catch (pc := 5) hown [] (⟨0, 10, 13, 19⟩ : ExceptionTableEntry) [] htab (fun z hz => by cases hz) (by decide) (by decide) (hts _ k_cl_Law_19) (va_Nw.use rfl (hE.2.2.1 _ (List.mem_of_getElem? (i := 1) rfl))) hce hcv hcl ?_
    refine W.eq (g2 := F0 m 13 ls [.ref q9]) rfl ?_
    refine lv_astore (lv' := [(4, .ref q9), (0, .ref x0), (1, .int b), (2, .int k), (3, .ref ou)]) hx hb d_Law_part_13 hl (by decide) rfl (fun ls hl => ?_)
    refine lv_iconst (v := nI 1) hx hb d_Law_part_15 rfl ?_
    refine vx_ret (W.widen (k := 1) (n := 6) (by omega) (by omega) ?_)
    exact W.iret (v := nI 1) hx hb hr (fun T_ ht_ hW_ => ⟨⟨_, (D, o1), rfl, Or.inr ⟨rfl, hc, rfl⟩, by show va_P (dC, dI) classes _ T_.heap; rw [ht_]; exact hP, hD⟩, hS.F ht_⟩) hS.2.2 d_Law_part_16
  · obtain ⟨hP1, hD1⟩ := hB
    rw [ht_] at hP1
    obtain ⟨hP, hD⟩ := xz_1 hP hD hk1 hFc hP1 hD1
    have hP : va_P (dC, dI) classes ([(ou, .inl (cJ, 1, .inr (.inl o1)))] ++ dw x0 gv cl d0 h0d q0d h0u q0u h0e q0e h0p q0p h0q q0q h0o q0o h0r q0r cA cJ cW D.n D.sv D.a D.lend D.fd D.sgd D.lenu D.fu D.sgu D.lene D.fe D.sge D.lenp D.fp D.sgp D.lenq D.fq D.sgq D.leno D.fo D.sgo D.lenr D.fr D.sgr D.tw D.iv D.hw D.qw D.gg D.ln D.sn) H := hP
    have hD : va_D A ([(ou, .inl (cJ, 1, .inr (.inl o1)))] ++ dw x0 gv cl d0 h0d q0d h0u q0u h0e q0e h0p q0p h0q q0q h0o q0o h0r q0r cA cJ cW D.n D.sv D.a D.lend D.fd D.sgd D.lenu D.fu D.sgu D.lene D.fe D.sge D.lenp D.fp D.sgp D.lenq D.fq D.sgq D.leno D.fo D.sgo D.lenr D.fr D.sgr D.tw D.iv D.hw D.qw D.gg D.ln D.sn) := hD
    refine lv_i2l (v := r_.toInt64) hx hb d_Law_part_8 rfl ?_
    refine xn_last hx hb hK hP hD hS 0 1 rfl rfl (i := 0) (x := r_.toInt64) (by omega) (by omega) d_Law_part_9 (fun H locs hP hD hS => ?_)
    have hP : va_P (dC, dI) classes ([(ou, .inl (cJ, 1, .inr (.inl (va_up o1 0 r_.toInt64))))] ++ dw x0 gv cl d0 h0d q0d h0u q0u h0e q0e h0p q0p h0q q0q h0o q0o h0r q0r cA cJ cW D.n D.sv D.a D.lend D.fd D.sgd D.lenu D.fu D.sgu D.lene D.fe D.sge D.lenp D.fp D.sgp D.lenq D.fq D.sgq D.leno D.fo D.sgo D.lenr D.fr D.sgr D.tw D.iv D.hw D.qw D.gg D.ln D.sn) H := hP
    have hD : va_D A ([(ou, .inl (cJ, 1, .inr (.inl (va_up o1 0 r_.toInt64))))] ++ dw x0 gv cl d0 h0d q0d h0u q0u h0e q0e h0p q0p h0q q0q h0o q0o h0r q0r cA cJ cW D.n D.sv D.a D.lend D.fd D.sgd D.lenu D.fu D.sgu D.lene D.fe D.sge D.lenp D.fp D.sgp D.lenq D.fq D.sgq D.leno D.fo D.sgo D.lenr D.fr D.sgr D.tw D.iv D.hw D.qw D.gg D.ln D.sn) := hD
    refine lv_goto (tgt := 17) hx hb d_Law_part_10 (by decide) ?_
    refine lv_iconst (v := nI 0) hx hb d_Law_part_17 rfl ?_
    refine vx_ret (W.widen (k := 1) (n := 6) (by omega) (by omega) ?_)
    exact W.iret (v := nI 0) hx hb hr (fun T_ ht_ hW_ => ⟨⟨_, (D, va_up o1 0 r_.toInt64), rfl, Or.inl ⟨rfl, r_, ⟨rfl, hw⟩, (show va_up o1 0 r_.toInt64 0 = r_.toInt64 from va_up_self ..)⟩, by show va_P (dC, dI) classes _ T_.heap; rw [ht_]; exact hP, hD⟩, hS.F ht_⟩) hS.2.2 d_Law_part_18
