/-- what changes in a desk -/
abbrev dS : Type := Nat × Int32 × (Nat → Int64) × Nat × (Nat → Nat) × Int32 × Nat × (Nat → Nat) × Int32 × Nat × (Nat → Nat) × Int32 × Nat × (Nat → Nat) × Int32 × Nat × (Nat → Nat) × Int32 × Nat × (Nat → Nat) × Int32 × Nat × (Nat → Nat) × Int32 × Nat × Nat × (Nat → Nat) × (Nat → Nat) × (Nat → Nat → Nat) × (Nat → Nat) × (Nat → Int32)
abbrev dS.n (u : dS) : Nat := u.1
abbrev dS.sv (u : dS) : Int32 := u.2.1
abbrev dS.a (u : dS) : (Nat → Int64) := u.2.2.1
abbrev dS.lend (u : dS) : Nat := u.2.2.2.1
abbrev dS.fd (u : dS) : (Nat → Nat) := u.2.2.2.2.1
abbrev dS.sgd (u : dS) : Int32 := u.2.2.2.2.2.1
abbrev dS.lenu (u : dS) : Nat := u.2.2.2.2.2.2.1
abbrev dS.fu (u : dS) : (Nat → Nat) := u.2.2.2.2.2.2.2.1
abbrev dS.sgu (u : dS) : Int32 := u.2.2.2.2.2.2.2.2.1
abbrev dS.lene (u : dS) : Nat := u.2.2.2.2.2.2.2.2.2.1
abbrev dS.fe (u : dS) : (Nat → Nat) := u.2.2.2.2.2.2.2.2.2.2.1
abbrev dS.sge (u : dS) : Int32 := u.2.2.2.2.2.2.2.2.2.2.2.1
abbrev dS.lenp (u : dS) : Nat := u.2.2.2.2.2.2.2.2.2.2.2.2.1
abbrev dS.fp (u : dS) : (Nat → Nat) := u.2.2.2.2.2.2.2.2.2.2.2.2.2.1
abbrev dS.sgp (u : dS) : Int32 := u.2.2.2.2.2.2.2.2.2.2.2.2.2.2.1
abbrev dS.lenq (u : dS) : Nat := u.2.2.2.2.2.2.2.2.2.2.2.2.2.2.2.1
abbrev dS.fq (u : dS) : (Nat → Nat) := u.2.2.2.2.2.2.2.2.2.2.2.2.2.2.2.2.1
abbrev dS.sgq (u : dS) : Int32 := u.2.2.2.2.2.2.2.2.2.2.2.2.2.2.2.2.2.1
abbrev dS.leno (u : dS) : Nat := u.2.2.2.2.2.2.2.2.2.2.2.2.2.2.2.2.2.2.1
abbrev dS.fo (u : dS) : (Nat → Nat) := u.2.2.2.2.2.2.2.2.2.2.2.2.2.2.2.2.2.2.2.1
abbrev dS.sgo (u : dS) : Int32 := u.2.2.2.2.2.2.2.2.2.2.2.2.2.2.2.2.2.2.2.2.1
abbrev dS.lenr (u : dS) : Nat := u.2.2.2.2.2.2.2.2.2.2.2.2.2.2.2.2.2.2.2.2.2.1
abbrev dS.fr (u : dS) : (Nat → Nat) := u.2.2.2.2.2.2.2.2.2.2.2.2.2.2.2.2.2.2.2.2.2.2.1
abbrev dS.sgr (u : dS) : Int32 := u.2.2.2.2.2.2.2.2.2.2.2.2.2.2.2.2.2.2.2.2.2.2.2.1
abbrev dS.tw (u : dS) : Nat := u.2.2.2.2.2.2.2.2.2.2.2.2.2.2.2.2.2.2.2.2.2.2.2.2.1
abbrev dS.iv (u : dS) : Nat := u.2.2.2.2.2.2.2.2.2.2.2.2.2.2.2.2.2.2.2.2.2.2.2.2.2.1
abbrev dS.hw (u : dS) : (Nat → Nat) := u.2.2.2.2.2.2.2.2.2.2.2.2.2.2.2.2.2.2.2.2.2.2.2.2.2.2.1
abbrev dS.qw (u : dS) : (Nat → Nat) := u.2.2.2.2.2.2.2.2.2.2.2.2.2.2.2.2.2.2.2.2.2.2.2.2.2.2.2.1
abbrev dS.gg (u : dS) : (Nat → Nat → Nat) := u.2.2.2.2.2.2.2.2.2.2.2.2.2.2.2.2.2.2.2.2.2.2.2.2.2.2.2.2.1
abbrev dS.ln (u : dS) : (Nat → Nat) := u.2.2.2.2.2.2.2.2.2.2.2.2.2.2.2.2.2.2.2.2.2.2.2.2.2.2.2.2.2.1
abbrev dS.sn (u : dS) : (Nat → Int32) := u.2.2.2.2.2.2.2.2.2.2.2.2.2.2.2.2.2.2.2.2.2.2.2.2.2.2.2.2.2.2
set_option maxHeartbeats 8000000 in
set_option maxRecDepth 100000 in
/-- eliminateAll -/
theorem c_Desk_eliminateAll (l : Launch) (dC : Nat → ClassId) (dI : Nat → Nat → Nat) (sz : Nat) (x0 gv cl d0 h0d q0d h0u q0u h0e q0e h0p q0p h0q q0q h0o q0o h0r q0r : Nat) (cA cJ cW : ClassId) (n : Nat) (sv : Int32) (a : Nat → Int64) (lend : Nat) (fd : Nat → Nat) (sgd : Int32) (lenu : Nat) (fu : Nat → Nat) (sgu : Int32) (lene : Nat) (fe : Nat → Nat) (sge : Int32) (lenp : Nat) (fp : Nat → Nat) (sgp : Int32) (lenq : Nat) (fq : Nat → Nat) (sgq : Int32) (leno : Nat) (fo : Nat → Nat) (sgo : Int32) (lenr : Nat) (fr : Nat → Nat) (sgr : Int32) (tw iv : Nat) (hw qw : Nat → Nat) (gg : Nat → Nat → Nat) (ln : Nat → Nat) (sn : Nat → Int32) (A0 : Nat → Nat → Int) (hn : n ≤ 12) (hok : wk gg ln sn) (hfd : ∀ x, fd x < 2147483648) (hfp : ∀ x, fp x < 2147483648) (hfq : ∀ x, fq x < 2147483648) (hfo : ∀ x, fo x < 2147483648) (hA0 : ∀ i j, i < n → j ≤ n → wz gg ln sn (i * 13 + j) = A0 i j) (hAB : ∀ i j, i < n → j ≤ n → (A0 i j).natAbs ≤ 2 ^ 63) : Met l y_Desk_eliminateAll w_Desk_eliminateAll ({ frames := 4, cells := 0, slots := 0, locals := 109 }) (xc_W [.ref x0] dC dI (dw x0 gv cl d0 h0d q0d h0u q0u h0e q0e h0p q0p h0q q0q h0o q0o h0r q0r cA cJ cW n sv a lend fd sgd lenu fu sgu lene fe sge lenp fp sgp lenq fq sgq leno fo sgo lenr fr sgr tw iv hw qw gg ln sn) [(cA, .int), (cJ, .long), (cW, .object "EquationDesk$Whole")] sz) (va_Qi (S := dS) (fun r u => wk u.gg u.ln u.sn ∧ wh_ok 26 u.fd u.lend u.sgd ∧ (∀ x, u.fp x < 2147483648) ∧ (∀ x, u.fq x < 2147483648) ∧ (∀ x, u.fo x < 2147483648) ∧ ((r = 1 ∧ dt_d A0 n ≠ 0 ∧ wh_z u.fd u.lend u.sgd = dt_d A0 n ∧ ∀ i, i < n → wz u.gg u.ln u.sn (i * 13 + n) = dt_y A0 i (n - 1 - i) n) ∨ (r = 0 ∧ dt_d A0 n = 0))) (fun u t => va_P (dC, dI) classes (dw x0 gv cl d0 h0d q0d h0u q0u h0e q0e h0p q0p h0q q0q h0o q0o h0r q0r cA cJ cW n sv a u.lend u.fd u.sgd lenu fu sgu lene fe sge u.lenp u.fp u.sgp u.lenq u.fq u.sgq u.leno u.fo u.sgo lenr fr sgr u.tw u.iv u.hw u.qw u.gg u.ln u.sn) t.heap ∧ va_D (va_A (dw x0 gv cl d0 h0d q0d h0u q0u h0e q0e h0p q0p h0q q0q h0o q0o h0r q0r cA cJ cW n sv a lend fd sgd lenu fu sgu lene fe sge lenp fp sgp lenq fq sgq leno fo sgo lenr fr sgr tw iv hw qw gg ln sn) sz) (dw x0 gv cl d0 h0d q0d h0u q0u h0e q0e h0p q0p h0q q0q h0o q0o h0r q0r cA cJ cW n sv a u.lend u.fd u.sgd lenu fu sgu lene fe sge u.lenp u.fp u.sgp u.lenq u.fq u.sgq u.leno u.fo u.sgo lenr fr sgr u.tw u.iv u.hw u.qw u.gg u.ln u.sn)) (va_A (dw x0 gv cl d0 h0d q0d h0u q0u h0e q0e h0p q0p h0q q0q h0o q0o h0r q0r cA cJ cW n sv a lend fd sgd lenu fu sgu lene fe sge lenp fp sgp lenq fq sgq leno fo sgo lenr fr sgr tw iv hw qw gg ln sn) sz)) 0 0 (va_A (dw x0 gv cl d0 h0d q0d h0u q0u h0e q0e h0p q0p h0q q0q h0o q0o h0r q0r cA cJ cW n sv a lend fd sgd lenu fu sgu lene fe sge lenp fp sgp lenq fq sgq leno fo sgo lenr fr sgr tw iv hw qw gg ln sn) sz) := by
  refine Met.ofW (cc := b_Desk_eliminateAll) (maxL := 4) (ret := (some .boolean)) (by decide) rfl ?_
  intro p e s m args below meth c s₁ B hml hv
  obtain ⟨rfl, hsz, hP, hK, hD0⟩ := hv
  have hx := B.exec
  have hb := B.bytes
  have hr := B.returns
  have hts : ∀ w ∈ gw_tbl, w.before ([.ref x0] : List Value).toArray s = true := fun w h => atoms_spec (ws := w_Desk_eliminateAll) B.pre w (List.mem_cons_of_mem _ h)
  have hown : s.vm.findClass R_Desk = some m.cls := findClass_of_methodNamed B.named
  have hlocks := B.notSynchronized
  subst hsz
  have hD := hD0.self (sz := s.heap.size)
  generalize hAe : va_A (dw x0 gv cl d0 h0d q0d h0u q0u h0e q0e h0p q0p h0q q0q h0o q0o h0r q0r cA cJ cW n sv a lend fd sgd lenu fu sgu lene fe sge lenp fp sgp lenq fq sgq leno fo sgo lenr fr sgr tw iv hw qw gg ln sn) s.heap.size = A at hD ⊢
  have hA : ∀ q : Nat, s.heap.size ≤ q → A q := fun q h => by rw [← hAe]; exact Or.inr h
  have hS : va_S A s.heap s.heap [] := va_S.rf
  have hl := lv_entry ([.ref x0]) (n := 4) (Nat.le_of_ble_eq_true rfl)
  rw [lg_entry_eq]
  generalize (lg_sl ([.ref x0]) ++ List.replicate (4 - (lg_sl ([.ref x0])).length) Slot.unset).toArray = ls at hl ⊢
  have hl : lv_has ls 4 [(0, .ref x0)] := hl
  refine lv_aload_n hx hb d_Desk_eliminateAll_0 rfl (lv_at hl 0 rfl) ?_
  refine va_get (D := (dC, dI)) (ci := 0) (v := .ref h0d) (C := R_Desk) (T := F_Desk) (N := 10) hx hb hts i_Desk hown hK hP 0 rfl rfl 4 (by decide) (hts _ k_fl_Desk_30) (fun _ h9 => h9) rfl d_Desk_eliminateAll_1 ?_
  refine lv_lconst (v := lN 1) hx hb d_Desk_eliminateAll_4 rfl ?_
  have hs_ : ([3, 4] : List Nat).map (fun i => (dw x0 gv cl d0 h0d q0d h0u q0u h0e q0e h0p q0p h0q q0q h0o q0o h0r q0r cA cJ cW n sv a lend fd sgd lenu fu sgu lene fe sge lenp fp sgp lenq fq sgq leno fo sgo lenr fr sgr tw iv hw qw gg ln sn)[i]?) = ([(h0d, .inr (1, [.ref q0d, .int (nI lend), .int sgd])), (q0d, .inl (cA, 26, .inl (xn_f fd)))]).map some := rfl
  have hPc := xp_P hP [3, 4] hs_
  have hDc := (hD.sub [3, 4] (by decide) hs_).weaken (B := fun _ => True) (fun _ _ _ _ => trivial)
  have hFc := va_free hD hS hA [3, 4] hs_
  refine va_callv (va_runV (As := [.long (lN 1)]) (rest := []) ⟨hx, hb, hml, hown, hts⟩ (c_Whole_setLong l dC dI s.heap.size cA h0d q0d 26 lend fd sgd (lN 1) (by decide) (by decide) hfd) (cwV 1 hts (gw_V k_ml_Desk_53 k_im_Whole_setLong k_sel_Whole_setLong k_ini_Whole k_code_Whole_setLong) rfl rfl rfl (by decide +kernel) ⟨Nat.le_of_ble_eq_true rfl, Nat.le_of_ble_eq_true rfl⟩) ⟨xc_W_blind, va_recv hK hP (ci := 1) (q0 := 3) rfl rfl, fun U hU hW => ⟨rfl, by rw [hU], by rw [hU]; exact hPc, va_K.moved hW.alike (hK.sub (tys' := [(cA, .int)]) [0] rfl), hDc⟩⟩ rfl rfl hl.1 rfl (lv_room (Nat.le_of_ble_eq_true rfl)) d_Desk_eliminateAll_5 ⟨Nat.zero_le _, Nat.zero_le _⟩) hS (fun q _ h => hFc q h) hFc (fun u t_ H locs ht_ hvm_ w0 hB hz1 hk1 hS => ?_)
  obtain ⟨D0, ld0, sd0⟩ := u
  try dsimp only at w0
  rw [ht_] at hB
  obtain ⟨hP, hD⟩ := xj_2 3 4 hP hD rfl rfl hk1 hB
  have h8 : va_P (dC, dI) classes (dx x0 gv cl d0 h0d q0d h0u q0u h0e q0e h0p q0p h0q q0q h0o q0o h0r q0r cA cJ cW n sv a ld0 D0 sd0 lenu fu sgu lene fe sge lenp fp sgp lenq fq sgq leno fo sgo lenr fr sgr tw iv (fun j => some (hw j)) ++ cw (cf cA hw qw gg ln sn)) H := hP
  have h9 : va_D A (dx x0 gv cl d0 h0d q0d h0u q0u h0e q0e h0p q0p h0q q0q h0o q0o h0r q0r cA cJ cW n sv a ld0 D0 sd0 lenu fu sgu lene fe sge lenp fp sgp lenq fq sgq leno fo sgo lenr fr sgr tw iv (fun j => some (hw j)) ++ cw (cf cA hw qw gg ln sn)) := hD
  have hP : va_P (dC, dI) classes (dw x0 gv cl d0 h0d q0d h0u q0u h0e q0e h0p q0p h0q q0q h0o q0o h0r q0r cA cJ cW n sv a ld0 D0 sd0 lenu fu sgu lene fe sge lenp fp sgp lenq fq sgq leno fo sgo lenr fr sgr tw iv hw qw gg ln sn) H := h8
  have hD : va_D A (dw x0 gv cl d0 h0d q0d h0u q0u h0e q0e h0p q0p h0q q0q h0o q0o h0r q0r cA cJ cW n sv a ld0 D0 sd0 lenu fu sgu lene fe sge lenp fp sgp lenq fq sgq leno fo sgo lenr fr sgr tw iv hw qw gg ln sn) := h9
  have w0v : wh_z D0 ld0 sd0 = 1 := w0.2
  refine lv_iconst (v := nI 0) hx hb d_Desk_eliminateAll_8 rfl ?_
  refine lv_istore_n (lv' := [(1, .int (nI 0)), (0, .ref x0)]) hx hb d_Desk_eliminateAll_9 rfl hl (by decide) rfl (fun ls hl => ?_)
  have loop : ∀ (n0 : Nat) (k : Nat) (M : Nat → Nat → Int) (D1 : Nat → Nat) (ld1 : Nat) (sd1 : Int32) (P1 : Nat → Nat) (lp1 : Nat) (sp1 : Int32) (Q1 : Nat → Nat) (lq1 : Nat) (sq1 : Int32) (O1 : Nat → Nat) (lo1 : Nat) (so1 : Int32) (tw1 iv1 : Nat) (hw1 qw1 : Nat → Nat) (g1 : Nat → Nat → Nat) (l1 : Nat → Nat) (s1 : Nat → Int32), (k ≤ n) → (∀ i j, i < n → j ≤ n → (M i j).natAbs ≤ 2 ^ 63) → (∀ js : List Nat, dt_E n (js.map (dt_col M)) = dt_E n (js.map (dt_col A0))) → (dt_d M k ≠ 0) → (wh_ok 26 D1 ld1 sd1) → (wh_z D1 ld1 sd1 = dt_d M k) → (∀ x, P1 x < 2147483648) → (∀ x, Q1 x < 2147483648) → (∀ x, O1 x < 2147483648) → (wk g1 l1 s1) → (∀ i j, i < n → k ≤ j → j ≤ n → wz g1 l1 s1 (i * 13 + j) = bz M k i j) → (n + 1 ≤ k + n0) → ∀ (H : Heap) (locs : List Loc), va_P (dC, dI) classes (dw x0 gv cl d0 h0d q0d h0u q0u h0e q0e h0p q0p h0q q0q h0o q0o h0r q0r cA cJ cW n sv a ld1 D1 sd1 lenu fu sgu lene fe sge lp1 P1 sp1 lq1 Q1 sq1 lo1 O1 so1 lenr fr sgr tw1 iv1 hw1 qw1 g1 l1 s1) H → va_D A (dw x0 gv cl d0 h0d q0d h0u q0u h0e q0e h0p q0p h0q q0q h0o q0o h0r q0r cA cJ cW n sv a ld1 D1 sd1 lenu fu sgu lene fe sge lp1 P1 sp1 lq1 Q1 sq1 lo1 O1 so1 lenr fr sgr tw1 iv1 hw1 qw1 g1 l1 s1) → va_S A s.heap H locs → ∀ (ls : Array Slot), lv_has ls 4 [(1, .int (nI k)), (0, .ref x0)] → W p l e (headSpec w_Desk_eliminateAll ({ frames := 4, cells := 0, slots := 0, locals := 109 })).room s m ([.ref x0] : List Value).toArray below meth c H locs 0 0 (MQ below (va_Qi (S := dS) (fun r u => wk u.gg u.ln u.sn ∧ wh_ok 26 u.fd u.lend u.sgd ∧ (∀ x, u.fp x < 2147483648) ∧ (∀ x, u.fq x < 2147483648) ∧ (∀ x, u.fo x < 2147483648) ∧ ((r = 1 ∧ dt_d A0 n ≠ 0 ∧ wh_z u.fd u.lend u.sgd = dt_d A0 n ∧ ∀ i, i < n → wz u.gg u.ln u.sn (i * 13 + n) = dt_y A0 i (n - 1 - i) n) ∨ (r = 0 ∧ dt_d A0 n = 0))) (fun u t => va_P (dC, dI) classes (dw x0 gv cl d0 h0d q0d h0u q0u h0e q0e h0p q0p h0q q0q h0o q0o h0r q0r cA cJ cW n sv a u.lend u.fd u.sgd lenu fu sgu lene fe sge u.lenp u.fp u.sgp u.lenq u.fq u.sgq u.leno u.fo u.sgo lenr fr sgr u.tw u.iv u.hw u.qw u.gg u.ln u.sn) t.heap ∧ va_D A (dw x0 gv cl d0 h0d q0d h0u q0u h0e q0e h0p q0p h0q q0q h0o q0o h0r q0r cA cJ cW n sv a u.lend u.fd u.sgd lenu fu sgu lene fe sge u.lenp u.fp u.sgp u.lenq u.fq u.sgq u.leno u.fo u.sgo lenr fr sgr u.tw u.iv u.hw u.qw u.gg u.ln u.sn)) A) ([.ref x0] : List Value).toArray s 0 0 A) (F0 m 10 ls []) := by
    intro n0
    induction n0 with
    | zero => intro k M D1 ld1 sd1 P1 lp1 sp1 Q1 lq1 sq1 O1 lo1 so1 tw1 iv1 hw1 qw1 g1 l1 s1 hk hMB hME hd0 hoD hzD hP1 hQ1 hO1 ho1 hzM hn_; exact absurd hn_ (by omega)
    | succ n0 ih =>
      intro k M D1 ld1 sd1 P1 lp1 sp1 Q1 lq1 sq1 O1 lo1 so1 tw1 iv1 hw1 qw1 g1 l1 s1 hk hMB hME hd0 hoD hzD hP1 hQ1 hO1 ho1 hzM hn_ H locs hP hD hS ls hl
      refine lv_iload_n hx hb d_Desk_eliminateAll_10 rfl (lv_at hl 0 rfl) ?_
      refine lv_aload_n hx hb d_Desk_eliminateAll_11 rfl (lv_at hl 1 rfl) ?_
      refine va_get (D := (dC, dI)) (ci := 0) (v := .int (nI n)) (C := R_Desk) (T := F_Desk) (N := 10) hx hb hts i_Desk hown hK hP 0 rfl rfl 1 (by decide) (hts _ k_fl_Desk_13) (fun _ h9 => h9) rfl d_Desk_eliminateAll_12 ?_
      refine xn_icmp_ge (tgt := 102) hx hb (by omega) (by omega) d_Desk_eliminateAll_15 (by decide) (fun hge => ?_) (fun hge => ?_)
      · refine lv_iconst (v := nI 1) hx hb d_Desk_eliminateAll_102 rfl ?_
        have hkn : k = n := by omega
        subst hkn
        have hpost : wk g1 l1 s1 ∧ wh_ok 26 D1 ld1 sd1 ∧ (∀ x, P1 x < 2147483648) ∧ (∀ x, Q1 x < 2147483648) ∧ (∀ x, O1 x < 2147483648) ∧ (((nI 1 : Int32) = 1 ∧ dt_d A0 k ≠ 0 ∧ wh_z D1 ld1 sd1 = dt_d A0 k ∧ ∀ i, i < k → wz g1 l1 s1 (i * 13 + k) = dt_y A0 i (k - 1 - i) k) ∨ ((nI 1 : Int32) = 0 ∧ dt_d A0 k = 0)) := ⟨ho1, hoD, hP1, hQ1, hO1, Or.inl ⟨by decide, by rw [← sw_dn hME]; exact hd0, by rw [← sw_dn hME]; exact hzD, fun i hi => by rw [hzM i k hi (Nat.le_refl _) (Nat.le_refl _), sw_yn hi hME]⟩⟩
        exact W.zret (v := nI 1) hx hb hr (by rfl) (fun T_ ht_ hW_ => ⟨⟨_, (⟨k, sv, a, ld1, D1, sd1, lenu, fu, sgu, lene, fe, sge, lp1, P1, sp1, lq1, Q1, sq1, lo1, O1, so1, lenr, fr, sgr, tw1, iv1, hw1, qw1, g1, l1, s1⟩ : dS), rfl, hpost, by show va_P (dC, dI) classes _ T_.heap; rw [ht_]; exact hP, hD⟩, hS.F ht_⟩) hS.2.2 d_Desk_eliminateAll_103
      have hkl : k < n := by omega
      have mid : ∀ (M2 : Nat → Nat → Int) (hw2 qw2 : Nat → Nat) (g2 : Nat → Nat → Nat) (l2 : Nat → Nat) (s2 : Nat → Int32), (∀ i j, i < n → j ≤ n → (M2 i j).natAbs ≤ 2 ^ 63) → (∀ js : List Nat, dt_E n (js.map (dt_col M2)) = dt_E n (js.map (dt_col A0))) → (dt_d M k ≠ 0) → (wh_z D1 ld1 sd1 = dt_d M2 k) → (bz M2 k k k ≠ 0) → (wk g2 l2 s2) → (∀ i j, i < n → k ≤ j → j ≤ n → wz g2 l2 s2 (i * 13 + j) = bz M2 k i j) → ∀ (H : Heap) (locs : List Loc), va_P (dC, dI) classes (dw x0 gv cl d0 h0d q0d h0u q0u h0e q0e h0p q0p h0q q0q h0o q0o h0r q0r cA cJ cW n sv a ld1 D1 sd1 lenu fu sgu lene fe sge lp1 P1 sp1 lq1 Q1 sq1 lo1 O1 so1 lenr fr sgr tw1 iv1 hw2 qw2 g2 l2 s2) H → va_D A (dw x0 gv cl d0 h0d q0d h0u q0u h0e q0e h0p q0p h0q q0q h0o q0o h0r q0r cA cJ cW n sv a ld1 D1 sd1 lenu fu sgu lene fe sge lp1 P1 sp1 lq1 Q1 sq1 lo1 O1 so1 lenr fr sgr tw1 iv1 hw2 qw2 g2 l2 s2) → va_S A s.heap H locs → ∀ (ls : Array Slot), lv_has ls 4 [(1, .int (nI k)), (0, .ref x0)] → W p l e (headSpec w_Desk_eliminateAll ({ frames := 4, cells := 0, slots := 0, locals := 109 })).room s m ([.ref x0] : List Value).toArray below meth c H locs 0 0 (MQ below (va_Qi (S := dS) (fun r u => wk u.gg u.ln u.sn ∧ wh_ok 26 u.fd u.lend u.sgd ∧ (∀ x, u.fp x < 2147483648) ∧ (∀ x, u.fq x < 2147483648) ∧ (∀ x, u.fo x < 2147483648) ∧ ((r = 1 ∧ dt_d A0 n ≠ 0 ∧ wh_z u.fd u.lend u.sgd = dt_d A0 n ∧ ∀ i, i < n → wz u.gg u.ln u.sn (i * 13 + n) = dt_y A0 i (n - 1 - i) n) ∨ (r = 0 ∧ dt_d A0 n = 0))) (fun u t => va_P (dC, dI) classes (dw x0 gv cl d0 h0d q0d h0u q0u h0e q0e h0p q0p h0q q0q h0o q0o h0r q0r cA cJ cW n sv a u.lend u.fd u.sgd lenu fu sgu lene fe sge u.lenp u.fp u.sgp u.lenq u.fq u.sgq u.leno u.fo u.sgo lenr fr sgr u.tw u.iv u.hw u.qw u.gg u.ln u.sn) t.heap ∧ va_D A (dw x0 gv cl d0 h0d q0d h0u q0u h0e q0e h0p q0p h0q q0q h0o q0o h0r q0r cA cJ cW n sv a u.lend u.fd u.sgd lenu fu sgu lene fe sge u.lenp u.fp u.sgp u.lenq u.fq u.sgq u.leno u.fo u.sgo lenr fr sgr u.tw u.iv u.hw u.qw u.gg u.ln u.sn)) A) ([.ref x0] : List Value).toArray s 0 0 A) (F0 m 41 ls []) := by
        intro M2 hw2 qw2 g2 l2 s2 hMB2 hME2 hd2 hzD2 hpv2 ho2 hz2 H locs hP hD hS ls hl
        refine lv_aload_n hx hb d_Desk_eliminateAll_41 rfl (lv_at hl 1 rfl) ?_
        refine va_get (D := (dC, dI)) (ci := 0) (v := .ref d0) (C := R_Desk) (T := F_Desk) (N := 10) hx hb hts i_Desk hown hK hP 0 rfl rfl 9 (by decide) (hts _ k_fl_Desk_49) (fun _ h9 => h9) rfl d_Desk_eliminateAll_42 ?_
        refine lv_aload_n hx hb d_Desk_eliminateAll_45 rfl (lv_at hl 1 rfl) ?_
        refine va_get (D := (dC, dI)) (ci := 0) (v := .ref h0d) (C := R_Desk) (T := F_Desk) (N := 10) hx hb hts i_Desk hown hK hP 0 rfl rfl 4 (by decide) (hts _ k_fl_Desk_30) (fun _ h9 => h9) rfl d_Desk_eliminateAll_46 ?_
        have hneD : lb_v D1 ld1 ≠ 0 := by rw [← wh_abs hoD, hzD]; exact Int.natAbs_ne_zero.mpr hd0
        have hs_ : ([13, 14, 15, 3, 4] : List Nat).map (fun i => (dw x0 gv cl d0 h0d q0d h0u q0u h0e q0e h0p q0p h0q q0q h0o q0o h0r q0r cA cJ cW n sv a ld1 D1 sd1 lenu fu sgu lene fe sge lp1 P1 sp1 lq1 Q1 sq1 lo1 O1 so1 lenr fr sgr tw1 iv1 hw2 qw2 g2 l2 s2)[i]?) = ([(d0, .inr (2, [.ref h0o, .ref h0r, .int (nI tw1), .int (nI iv1)])), (h0o, .inr (1, [.ref q0o, .int (nI lo1), .int so1])), (q0o, .inl (cA, 26, .inl (xn_f O1))), (h0d, .inr (1, [.ref q0d, .int (nI ld1), .int sd1])), (q0d, .inl (cA, 26, .inl (xn_f D1)))]).map some := rfl
        have hPc := xp_P hP [13, 14, 15, 3, 4] hs_
        have hDc := (hD.sub [13, 14, 15, 3, 4] (by decide) hs_).weaken (B := fun _ => True) (fun _ _ _ _ => trivial)
        have hFc := va_free hD hS hA [13, 14, 15, 3, 4] hs_
        refine va_callv (va_runV (As := [.ref h0d]) (rest := []) ⟨hx, hb, hml, hown, hts⟩ (c_Divisor_setWhole l dC dI H.size cA d0 h0r tw1 iv1 h0o q0o 26 lo1 O1 so1 h0d q0d 26 ld1 D1 sd1 (by decide) (by decide) hO1 hoD hneD hoD.1) (cwV 1 hts (gw_V k_ml_Desk_115 k_im_Divisor_setWhole k_sel_Divisor_setWhole k_ini_Divisor k_code_Divisor_setWhole) rfl rfl rfl (by decide +kernel) ⟨Nat.le_of_ble_eq_true rfl, Nat.le_of_ble_eq_true rfl⟩) ⟨xc_W_blind, va_recv hK hP (ci := 2) (q0 := 13) rfl rfl, fun U hU hW => ⟨rfl, by rw [hU], by rw [hU]; exact hPc, va_K.moved hW.alike (hK.sub (tys' := [(cA, .int)]) [0] rfl), hDc⟩⟩ rfl rfl hl.1 rfl (lv_room (Nat.le_of_ble_eq_true rfl)) d_Desk_eliminateAll_49 ⟨Nat.zero_le _, Nat.zero_le _⟩) hS (fun q _ h => hFc q h) hFc (fun u t_ H locs ht_ hvm_ w1 hB hz1 hk1 hS => ?_)
        obtain ⟨tw2, iv2, O2, lo2⟩ := u
        try dsimp only at w1
        rw [ht_] at hB
        obtain ⟨hP, hD⟩ := xj_5 13 14 15 3 4 hP hD rfl rfl rfl rfl rfl hk1 hB
        have h8 : va_P (dC, dI) classes (dx x0 gv cl d0 h0d q0d h0u q0u h0e q0e h0p q0p h0q q0q h0o q0o h0r q0r cA cJ cW n sv a ld1 D1 sd1 lenu fu sgu lene fe sge lp1 P1 sp1 lq1 Q1 sq1 lo2 O2 sd1 lenr fr sgr tw2 iv2 (fun j => some (hw2 j)) ++ cw (cf cA hw2 qw2 g2 l2 s2)) H := hP
        have h9 : va_D A (dx x0 gv cl d0 h0d q0d h0u q0u h0e q0e h0p q0p h0q q0q h0o q0o h0r q0r cA cJ cW n sv a ld1 D1 sd1 lenu fu sgu lene fe sge lp1 P1 sp1 lq1 Q1 sq1 lo2 O2 sd1 lenr fr sgr tw2 iv2 (fun j => some (hw2 j)) ++ cw (cf cA hw2 qw2 g2 l2 s2)) := hD
        have hP : va_P (dC, dI) classes (dw x0 gv cl d0 h0d q0d h0u q0u h0e q0e h0p q0p h0q q0q h0o q0o h0r q0r cA cJ cW n sv a ld1 D1 sd1 lenu fu sgu lene fe sge lp1 P1 sp1 lq1 Q1 sq1 lo2 O2 sd1 lenr fr sgr tw2 iv2 hw2 qw2 g2 l2 s2) H := h8
        have hD : va_D A (dw x0 gv cl d0 h0d q0d h0u q0u h0e q0e h0p q0p h0q q0q h0o q0o h0r q0r cA cJ cW n sv a ld1 D1 sd1 lenu fu sgu lene fe sge lp1 P1 sp1 lq1 Q1 sq1 lo2 O2 sd1 lenr fr sgr tw2 iv2 hw2 qw2 g2 l2 s2) := h9
        obtain ⟨v1, v2, v3, v4, v5, v6⟩ := w1
        have hsd : sd1 = 1 ∨ sd1 = -1 := by
          rcases wh_sign hoD with ⟨e, h9⟩ | ⟨e, h9⟩ | ⟨e, h9⟩
          · rw [hzD] at h9; exact absurd h9 hd2
          · exact Or.inl e
          · exact Or.inr e
        have hDV : sd1.toInt * ((lb_v O2 lo2 * 2 ^ tw2 : Nat) : Int) = dt_d M2 k := by rw [v6]; exact hzD2
        refine lv_iconst (v := nI 0) hx hb d_Desk_eliminateAll_52 rfl ?_
        refine lv_istore_n (lv' := [(3, .int (nI 0)), (1, .int (nI k)), (0, .ref x0)]) hx hb d_Desk_eliminateAll_53 rfl hl (by decide) rfl (fun ls hl => ?_)
        have loop3 : ∀ (n3 : Nat) (i : Nat) (P3 : Nat → Nat) (lp3 : Nat) (sp3 : Int32) (Q3 : Nat → Nat) (lq3 : Nat) (sq3 : Int32) (g3 : Nat → Nat → Nat) (l3 : Nat → Nat) (s3 : Nat → Int32), (i ≤ n) → (∀ x, P3 x < 2147483648) → (∀ x, Q3 x < 2147483648) → (wk g3 l3 s3) → (∀ i2 j, i2 < n → k < j ∨ i2 = k ∧ k ≤ j → j ≤ n → i2 < i → wz g3 l3 s3 (i2 * 13 + j) = bz M2 (k + 1) i2 j) → (∀ i2 j, i2 < n → k ≤ j → j ≤ n → i ≤ i2 ∨ i2 = k → wz g3 l3 s3 (i2 * 13 + j) = bz M2 k i2 j) → (n + 1 ≤ i + n3) → ∀ (H : Heap) (locs : List Loc), va_P (dC, dI) classes (dw x0 gv cl d0 h0d q0d h0u q0u h0e q0e h0p q0p h0q q0q h0o q0o h0r q0r cA cJ cW n sv a ld1 D1 sd1 lenu fu sgu lene fe sge lp3 P3 sp3 lq3 Q3 sq3 lo2 O2 sd1 lenr fr sgr tw2 iv2 hw2 qw2 g3 l3 s3) H → va_D A (dw x0 gv cl d0 h0d q0d h0u q0u h0e q0e h0p q0p h0q q0q h0o q0o h0r q0r cA cJ cW n sv a ld1 D1 sd1 lenu fu sgu lene fe sge lp3 P3 sp3 lq3 Q3 sq3 lo2 O2 sd1 lenr fr sgr tw2 iv2 hw2 qw2 g3 l3 s3) → va_S A s.heap H locs → ∀ (ls : Array Slot), lv_has ls 4 [(3, .int (nI i)), (1, .int (nI k)), (0, .ref x0)] → W p l e (headSpec w_Desk_eliminateAll ({ frames := 4, cells := 0, slots := 0, locals := 109 })).room s m ([.ref x0] : List Value).toArray below meth c H locs 0 0 (MQ below (va_Qi (S := dS) (fun r u => wk u.gg u.ln u.sn ∧ wh_ok 26 u.fd u.lend u.sgd ∧ (∀ x, u.fp x < 2147483648) ∧ (∀ x, u.fq x < 2147483648) ∧ (∀ x, u.fo x < 2147483648) ∧ ((r = 1 ∧ dt_d A0 n ≠ 0 ∧ wh_z u.fd u.lend u.sgd = dt_d A0 n ∧ ∀ i, i < n → wz u.gg u.ln u.sn (i * 13 + n) = dt_y A0 i (n - 1 - i) n) ∨ (r = 0 ∧ dt_d A0 n = 0))) (fun u t => va_P (dC, dI) classes (dw x0 gv cl d0 h0d q0d h0u q0u h0e q0e h0p q0p h0q q0q h0o q0o h0r q0r cA cJ cW n sv a u.lend u.fd u.sgd lenu fu sgu lene fe sge u.lenp u.fp u.sgp u.lenq u.fq u.sgq u.leno u.fo u.sgo lenr fr sgr u.tw u.iv u.hw u.qw u.gg u.ln u.sn) t.heap ∧ va_D A (dw x0 gv cl d0 h0d q0d h0u q0u h0e q0e h0p q0p h0q q0q h0o q0o h0r q0r cA cJ cW n sv a u.lend u.fd u.sgd lenu fu sgu lene fe sge u.lenp u.fp u.sgp u.lenq u.fq u.sgq u.leno u.fo u.sgo lenr fr sgr u.tw u.iv u.hw u.qw u.gg u.ln u.sn)) A) ([.ref x0] : List Value).toArray s 0 0 A) (F0 m 54 ls []) := by
          intro n3
          induction n3 with
          | zero => intro i P3 lp3 sp3 Q3 lq3 sq3 g3 l3 s3 hi hP3 hQ3 ho3 hz3 hy3 hn_; exact absurd hn_ (by omega)
          | succ n3 ih3 =>
            intro i P3 lp3 sp3 Q3 lq3 sq3 g3 l3 s3 hi hP3 hQ3 ho3 hz3 hy3 hn_ H locs hP hD hS ls hl
            refine lv_iload_n hx hb d_Desk_eliminateAll_54 rfl (lv_at hl 0 rfl) ?_
            refine lv_aload_n hx hb d_Desk_eliminateAll_55 rfl (lv_at hl 2 rfl) ?_
            refine va_get (D := (dC, dI)) (ci := 0) (v := .int (nI n)) (C := R_Desk) (T := F_Desk) (N := 10) hx hb hts i_Desk hown hK hP 0 rfl rfl 1 (by decide) (hts _ k_fl_Desk_13) (fun _ h9 => h9) rfl d_Desk_eliminateAll_56 ?_
            refine xn_icmp_ge (tgt := 79) hx hb (by omega) (by omega) d_Desk_eliminateAll_59 (by decide) (fun hgi => ?_) (fun hgi => ?_)
            · have hkk : k * 13 + k < 156 := by omega
              have o3 := ho3 _ hkk
              refine lv_aload_n hx hb d_Desk_eliminateAll_79 rfl (lv_at hl 2 rfl) ?_
              refine va_get (D := (dC, dI)) (ci := 0) (v := .ref h0d) (C := R_Desk) (T := F_Desk) (N := 10) hx hb hts i_Desk hown hK hP 0 rfl rfl 4 (by decide) (hts _ k_fl_Desk_30) (fun _ h9 => h9) rfl d_Desk_eliminateAll_80 ?_
              refine lv_aload_n hx hb d_Desk_eliminateAll_83 rfl (lv_at hl 2 rfl) ?_
              refine va_get (D := (dC, dI)) (ci := 0) (v := .ref cl) (C := R_Desk) (T := F_Desk) (N := 10) hx hb hts i_Desk hown hK hP 0 rfl rfl 3 (by decide) (hts _ k_fl_Desk_23) (fun _ h9 => h9) rfl d_Desk_eliminateAll_84 ?_
              refine lv_iload_n hx hb d_Desk_eliminateAll_87 rfl (lv_at hl 1 rfl) ?_
              refine lv_iload_n hx hb d_Desk_eliminateAll_88 rfl (lv_at hl 1 rfl) ?_
              refine vp_callSi (W.runS (As := [.int (nI k), .int (nI k)]) (rest := [.ref cl, .ref h0d]) ⟨hx, hb, hml, hown, hts⟩ (c_Desk_cellIndex l dC dI k k) (cwS 2 hts (gw_S k_ml_Desk_63 k_st_Desk_cellIndex k_ini_Desk k_code_Desk_cellIndex) rfl rfl rfl (by decide +kernel) ⟨Nat.le_of_ble_eq_true rfl, Nat.le_of_ble_eq_true rfl⟩) ⟨xc_R_blind, fun U hU hW => ⟨rfl, by rw [hU]; exact hP.sub (ws' := []) [] rfl, va_K.moved hW.alike (hK.sub (tys' := []) [] rfl)⟩⟩ rfl rfl hl.1 rfl (lv_room (Nat.le_of_ble_eq_true rfl)) d_Desk_eliminateAll_89 ⟨Nat.zero_le _, Nat.zero_le _⟩) (fun r_ e_r => ?_)
              subst e_r
              refine xn_aald hx hb hK hP 2 2 rfl rfl (i := k * 13 + k) (b := hw2 (k * 13 + k)) rfl hkk (by decide) d_Desk_eliminateAll_92 ?_
              have hq_2 : (dw x0 gv cl d0 h0d q0d h0u q0u h0e q0e h0p q0p h0q q0q h0o q0o h0r q0r cA cJ cW n sv a ld1 D1 sd1 lenu fu sgu lene fe sge lp3 P3 sp3 lq3 Q3 sq3 lo2 O2 sd1 lenr fr sgr tw2 iv2 hw2 qw2 g3 l3 s3)[18 + 2 * (k * 13 + k)]? = some (hw2 (k * 13 + k), .inr (1, [.ref (qw2 (k * 13 + k)), .int (nI (l3 (k * 13 + k))), .int (s3 (k * 13 + k))])) := (cw_w rfl hkk)
              have hq_3 : (dw x0 gv cl d0 h0d q0d h0u q0u h0e q0e h0p q0p h0q q0q h0o q0o h0r q0r cA cJ cW n sv a ld1 D1 sd1 lenu fu sgu lene fe sge lp3 P3 sp3 lq3 Q3 sq3 lo2 O2 sd1 lenr fr sgr tw2 iv2 hw2 qw2 g3 l3 s3)[18 + 2 * (k * 13 + k) + 1]? = some (qw2 (k * 13 + k), .inl (cA, 26, .inl (xn_f (g3 (k * 13 + k))))) := (cw_q rfl hkk)
              have hs_ : ([3, 4, 18 + 2 * (k * 13 + k), 18 + 2 * (k * 13 + k) + 1] : List Nat).map (fun i => (dw x0 gv cl d0 h0d q0d h0u q0u h0e q0e h0p q0p h0q q0q h0o q0o h0r q0r cA cJ cW n sv a ld1 D1 sd1 lenu fu sgu lene fe sge lp3 P3 sp3 lq3 Q3 sq3 lo2 O2 sd1 lenr fr sgr tw2 iv2 hw2 qw2 g3 l3 s3)[i]?) = ([(h0d, .inr (1, [.ref q0d, .int (nI ld1), .int sd1])), (q0d, .inl (cA, 26, .inl (xn_f D1))), (hw2 (k * 13 + k), .inr (1, [.ref (qw2 (k * 13 + k)), .int (nI (l3 (k * 13 + k))), .int (s3 (k * 13 + k))])), (qw2 (k * 13 + k), .inl (cA, 26, .inl (xn_f (g3 (k * 13 + k)))))]).map some := by
                simp only [List.map_cons, List.map_nil]
                rw [hq_2, hq_3]
                rfl
              have hPc := xp_P hP [3, 4, 18 + 2 * (k * 13 + k), 18 + 2 * (k * 13 + k) + 1] hs_
              have hDc := (hD.sub [3, 4, 18 + 2 * (k * 13 + k), 18 + 2 * (k * 13 + k) + 1] (by simp only [va_nd, List.mem_cons, List.not_mem_nil, or_false, not_false_eq_true, decide_true, Bool.and_true, Bool.and_eq_true, decide_eq_true_eq, not_or]; omega) hs_).weaken (B := fun _ => True) (fun _ _ _ _ => trivial)
              have hFc := va_free hD hS hA [3, 4, 18 + 2 * (k * 13 + k), 18 + 2 * (k * 13 + k) + 1] hs_
              refine va_callv (va_runV (As := [.ref (hw2 (k * 13 + k))]) (rest := []) ⟨hx, hb, hml, hown, hts⟩ (c_Whole_setWhole l dC dI H.size cA h0d q0d 26 ld1 D1 sd1 (hw2 (k * 13 + k)) (qw2 (k * 13 + k)) 26 (l3 (k * 13 + k)) (g3 (k * 13 + k)) (s3 (k * 13 + k)) (by decide) (by decide) o3.1 o3.1) (cwV 1 hts (gw_V k_ml_Desk_88 k_im_Whole_setWhole k_sel_Whole_setWhole k_ini_Whole k_code_Whole_setWhole) rfl rfl rfl (by decide +kernel) ⟨Nat.le_of_ble_eq_true rfl, Nat.le_of_ble_eq_true rfl⟩) ⟨xc_W_blind, va_recv hK hP (ci := 1) (q0 := 3) rfl rfl, fun U hU hW => ⟨rfl, by rw [hU], by rw [hU]; exact hPc, va_K.moved hW.alike (hK.sub (tys' := [(cA, .int)]) [0] rfl), hDc⟩⟩ rfl rfl hl.1 rfl (lv_room (Nat.le_of_ble_eq_true rfl)) d_Desk_eliminateAll_93 ⟨Nat.zero_le _, Nat.zero_le _⟩) hS (fun q _ h => hFc q h) hFc (fun u t_ H locs ht_ hvm_ w5 hB hz1 hk1 hS => ?_)
              obtain ⟨D4, ld4, sd4⟩ := u
              try dsimp only at w5
              rw [ht_] at hB
              obtain ⟨hP, hD⟩ := xj_4 3 4 (18 + 2 * (k * 13 + k)) (18 + 2 * (k * 13 + k) + 1) hP hD rfl rfl (cw_w rfl hkk) (cw_q rfl hkk) hk1 hB
              have h8 : va_P (dC, dI) classes (((dx x0 gv cl d0 h0d q0d h0u q0u h0e q0e h0p q0p h0q q0q h0o q0o h0r q0r cA cJ cW n sv a ld4 D4 sd4 lenu fu sgu lene fe sge lp3 P3 sp3 lq3 Q3 sq3 lo2 O2 sd1 lenr fr sgr tw2 iv2 (fun j => some (hw2 j)) ++ cw (cf cA hw2 qw2 g3 l3 s3)).set (18 + 2 * (k * 13 + k)) (hw2 (k * 13 + k), .inr (1, [.ref (qw2 (k * 13 + k)), .int (nI (l3 (k * 13 + k))), .int (s3 (k * 13 + k))]))).set (18 + 2 * (k * 13 + k) + 1) (qw2 (k * 13 + k), .inl (cA, 26, .inl (xn_f (g3 (k * 13 + k)))))) H := hP
              have h9 : va_D A (((dx x0 gv cl d0 h0d q0d h0u q0u h0e q0e h0p q0p h0q q0q h0o q0o h0r q0r cA cJ cW n sv a ld4 D4 sd4 lenu fu sgu lene fe sge lp3 P3 sp3 lq3 Q3 sq3 lo2 O2 sd1 lenr fr sgr tw2 iv2 (fun j => some (hw2 j)) ++ cw (cf cA hw2 qw2 g3 l3 s3)).set (18 + 2 * (k * 13 + k)) (hw2 (k * 13 + k), .inr (1, [.ref (qw2 (k * 13 + k)), .int (nI (l3 (k * 13 + k))), .int (s3 (k * 13 + k))]))).set (18 + 2 * (k * 13 + k) + 1) (qw2 (k * 13 + k), .inl (cA, 26, .inl (xn_f (g3 (k * 13 + k)))))) := hD
              have e9 := cw_keep (X := dx x0 gv cl d0 h0d q0d h0u q0u h0e q0e h0p q0p h0q q0q h0o q0o h0r q0r cA cJ cW n sv a ld4 D4 sd4 lenu fu sgu lene fe sge lp3 P3 sp3 lq3 Q3 sq3 lo2 O2 sd1 lenr fr sgr tw2 iv2 (fun j => some (hw2 j))) (cA := cA) (hw := hw2) (qw := qw2) (gg := g3) (ln := l3) (sn := s3) (n := 18) (j := (k * 13 + k)) rfl
              rw [e9] at h8 h9
              have hP : va_P (dC, dI) classes (dw x0 gv cl d0 h0d q0d h0u q0u h0e q0e h0p q0p h0q q0q h0o q0o h0r q0r cA cJ cW n sv a ld4 D4 sd4 lenu fu sgu lene fe sge lp3 P3 sp3 lq3 Q3 sq3 lo2 O2 sd1 lenr fr sgr tw2 iv2 hw2 qw2 g3 l3 s3) H := h8
              have hD : va_D A (dw x0 gv cl d0 h0d q0d h0u q0u h0e q0e h0p q0p h0q q0q h0o q0o h0r q0r cA cJ cW n sv a ld4 D4 sd4 lenu fu sgu lene fe sge lp3 P3 sp3 lq3 Q3 sq3 lo2 O2 sd1 lenr fr sgr tw2 iv2 hw2 qw2 g3 l3 s3) := h9
              obtain ⟨e1, e2, e3⟩ := w5
              have e1 := e1.symm
              have e2 := e2.symm
              subst e1
              subst e2
              obtain ⟨-, c2, c3⟩ := cp_n o3 o3.1 hoD.2.1 e3
              have v7 : wh_z D4 (l3 (k * 13 + k)) (s3 (k * 13 + k)) = dt_d M2 (k + 1) := by
                rw [← bz_kk M2 k, ← bz_piv M2 k k, ← hz3 k k hkl (Or.inr ⟨rfl, Nat.le_refl _⟩) (by omega) (by omega)]; unfold wz wh_z; rw [c2]
              refine lv_iinc (v := nI (k + 1)) (lv' := [(1, .int (nI (k + 1))), (3, .int (nI i)), (0, .ref x0)]) hx hb d_Desk_eliminateAll_96 hl (k := 1) rfl (nI_1 _) (by decide) rfl (fun ls hl => ?_)
              refine lv_goto (tgt := 10) hx hb d_Desk_eliminateAll_99 (by decide) ?_
              exact ih (k + 1) M2 D4 (l3 (k * 13 + k)) (s3 (k * 13 + k)) P3 lp3 sp3 Q3 lq3 sq3 O2 lo2 sd1 tw2 iv2 hw2 qw2 g3 l3 s3 (by omega) hMB2 hME2 (by rw [← bz_kk]; exact hpv2) c3 v7 hP3 hQ3 v1.2.1 ho3 (fun i j h1 h2 h3 => hz3 i j h1 (by omega) h3 (by omega)) (by omega) H locs hP hD hS ls (lv_sub hl [0, 2] rfl)
            refine lv_iload_n hx hb d_Desk_eliminateAll_62 rfl (lv_at hl 0 rfl) ?_
            refine lv_iload_n hx hb d_Desk_eliminateAll_63 rfl (lv_at hl 1 rfl) ?_
            refine xn_icmp_eq (tgt := 73) hx hb (by omega) (by omega) d_Desk_eliminateAll_64 (by decide) (fun hik => ?_) (fun hik => ?_)
            · refine lv_iinc (v := nI (i + 1)) (lv' := [(3, .int (nI (i + 1))), (1, .int (nI k)), (0, .ref x0)]) hx hb d_Desk_eliminateAll_73 hl (k := 0) rfl (nI_1 _) (by decide) rfl (fun ls hl => ?_)
              refine lv_goto (tgt := 54) hx hb d_Desk_eliminateAll_76 (by decide) ?_
              have hik : i = k := by omega
              subst hik
              exact ih3 (i + 1) P3 lp3 sp3 Q3 lq3 sq3 g3 l3 s3 (by omega) hP3 hQ3 ho3 (fun i2 j h1 h2 h3 h4 => by
                                rcases Nat.lt_or_ge i2 i with z | z
                                · exact hz3 i2 j h1 h2 h3 z
                                · rw [show i2 = i by omega, bz_piv]; exact hy3 i j (by omega) (by omega) h3 (Or.inr rfl)) (fun i2 j h1 h2 h3 h4 => hy3 i2 j h1 h2 h3 (by omega)) (by omega) H locs hP hD hS ls (lv_sub hl [0, 1, 2] rfl)
            have hil : i < n := by omega
            refine lv_aload_n hx hb d_Desk_eliminateAll_67 rfl (lv_at hl 2 rfl) ?_
            refine lv_iload_n hx hb d_Desk_eliminateAll_68 rfl (lv_at hl 0 rfl) ?_
            refine lv_iload_n hx hb d_Desk_eliminateAll_69 rfl (lv_at hl 1 rfl) ?_
            have x1 : ∀ j, k ≤ j → j ≤ n → wz g3 l3 s3 (i * 13 + j) = bz M2 k i j := fun j h1 h2 => hy3 i j hil h1 h2 (Or.inl (Nat.le_refl _))
            have x2 : ∀ j, k ≤ j → j ≤ n → wz g3 l3 s3 (k * 13 + j) = bz M2 k k j := fun j h1 h2 => hy3 k j hkl h1 h2 (Or.inr rfl)
            have hPc := hP
            have hDc := hD.weaken (B := fun _ => True) (fun _ _ _ _ => trivial)
            have hFc := xp_all hD hS hA
            refine va_callv (va_runV (As := [.int (nI i), .int (nI k)]) (rest := []) ⟨hx, hb, hml, hown, hts⟩ (c_Desk_eliminateRow l dC dI H.size x0 gv cl d0 h0d q0d h0u q0u h0e q0e h0p q0p h0q q0q h0o q0o h0r q0r cA cJ cW n sv a ld1 D1 sd1 lenu fu sgu lene fe sge lp3 P3 sp3 lq3 Q3 sq3 lo2 O2 sd1 lenr fr sgr tw2 iv2 hw2 qw2 g3 l3 s3 i k (fun j => bz M2 (k + 1) i j) hn hil hkl hik ho3 hP3 hQ3 v1 v2 v3 v4 hsd v5 (fun j h1 h2 => by rw [x2 k (Nat.le_refl _) (by omega), x1 j (by omega) h2, x1 k (Nat.le_refl _) (by omega), x2 j (by omega) h2, hDV]; exact bz_step M2 j hik) (fun j h1 h2 => by rw [x1 j h1 h2, x2 j h1 h2]; exact ⟨bz_lt M2 (by omega) hn hil h2 hMB2 (Or.inl hkl), bz_lt M2 (by omega) hn hkl h2 hMB2 (Or.inl hkl)⟩) (fun j h1 h2 => bz_lt M2 (by omega) hn hil h2 hMB2 (by omega))) (cwV 2 hts (gw_V k_ml_Desk_116 k_im_Desk_eliminateRow k_sel_Desk_eliminateRow k_ini_Desk k_code_Desk_eliminateRow) rfl rfl rfl (by decide +kernel) ⟨Nat.le_of_ble_eq_true rfl, Nat.le_of_ble_eq_true rfl⟩) ⟨xc_W_blind, va_recv hK hP (ci := 0) (q0 := 0) rfl rfl, fun U hU hW => ⟨rfl, by rw [hU], by rw [hU]; exact hPc, va_K.moved hW.alike (hK.sub (tys' := [(cA, .int), (cJ, .long), (cW, .object "EquationDesk$Whole")]) [0, 1, 2] rfl), hDc⟩⟩ rfl rfl hl.1 rfl (lv_room (Nat.le_of_ble_eq_true rfl)) d_Desk_eliminateAll_70 ⟨Nat.zero_le _, Nat.zero_le _⟩) hS (fun q _ h => hFc q h) hFc (fun u t_ H locs ht_ hvm_ w6 hB hz1 hk1 hS => ?_)
            obtain ⟨P4, lp4, sp4, Q4, lq4, sq4, g4, l4, s4⟩ := u
            try dsimp only at w6
            obtain ⟨hP, hD1⟩ := hB
            rw [ht_] at hP
            have hP : va_P (dC, dI) classes (dw x0 gv cl d0 h0d q0d h0u q0u h0e q0e h0p q0p h0q q0q h0o q0o h0r q0r cA cJ cW n sv a ld1 D1 sd1 lenu fu sgu lene fe sge lp4 P4 sp4 lq4 Q4 sq4 lo2 O2 sd1 lenr fr sgr tw2 iv2 hw2 qw2 g4 l4 s4) H := hP
            have hD : va_D A (dw x0 gv cl d0 h0d q0d h0u q0u h0e q0e h0p q0p h0q q0q h0o q0o h0r q0r cA cJ cW n sv a ld1 D1 sd1 lenu fu sgu lene fe sge lp4 P4 sp4 lq4 Q4 sq4 lo2 O2 sd1 lenr fr sgr tw2 iv2 hw2 qw2 g4 l4 s4) := hD1.weaken (fun k q _ h => hFc q.1 h)
            obtain ⟨y1, y2, y3, y4, y5⟩ := w6
            refine lv_iinc (v := nI (i + 1)) (lv' := [(3, .int (nI (i + 1))), (1, .int (nI k)), (0, .ref x0)]) hx hb d_Desk_eliminateAll_73 hl (k := 0) rfl (nI_1 _) (by decide) rfl (fun ls hl => ?_)
            refine lv_goto (tgt := 54) hx hb d_Desk_eliminateAll_76 (by decide) ?_
            exact ih3 (i + 1) P4 lp4 sp4 Q4 lq4 sq4 g4 l4 s4 (by omega) y1 y2 y3 (fun i2 j h1 h2 h3 h4 => by
                            rcases Nat.lt_or_ge i2 i with z | z
                            · rw [y5 _ (fun j2 z1 z2 => by omega)]; exact hz3 i2 j h1 h2 h3 z
                            · rw [show i2 = i by omega]; exact y4 j (by omega) h3) (fun i2 j h1 h2 h3 h4 => by
                            rw [y5 _ (fun j2 z1 z2 => by omega)]; exact hy3 i2 j h1 h2 h3 (by omega)) (by omega) H locs hP hD hS ls (lv_sub hl [0, 1, 2] rfl)
        exact loop3 (n + 1) 0 P1 lp1 sp1 Q1 lq1 sq1 g2 l2 s2 (Nat.zero_le _) hP1 hQ1 ho2 (fun _ _ _ _ _ h4 => absurd h4 (Nat.not_lt_zero _)) (fun i2 j h1 h2 h3 _ => hz2 i2 j h1 h2 h3) (by omega) H locs hP hD hS ls (lv_sub hl [0, 1, 2] rfl)
      refine lv_aload_n hx hb d_Desk_eliminateAll_18 rfl (lv_at hl 1 rfl) ?_
      refine lv_iload_n hx hb d_Desk_eliminateAll_19 rfl (lv_at hl 0 rfl) ?_
      have hPc := hP
      refine vp_callSi (W.runV (As := [.int (nI k)]) (rest := []) ⟨hx, hb, hml, hown, hts⟩ (c_Desk_pivotRow l dC dI x0 gv cl d0 h0d q0d h0u q0u h0e q0e h0p q0p h0q q0q h0o q0o h0r q0r cA cJ cW n sv a ld1 D1 sd1 lenu fu sgu lene fe sge lp1 P1 sp1 lq1 Q1 sq1 lo1 O1 so1 lenr fr sgr tw1 iv1 hw1 qw1 g1 l1 s1 k hn hk) (cwV 1 hts (gw_V k_ml_Desk_108 k_im_Desk_pivotRow k_sel_Desk_pivotRow k_ini_Desk k_code_Desk_pivotRow) rfl rfl rfl (by decide +kernel) ⟨Nat.le_of_ble_eq_true rfl, Nat.le_of_ble_eq_true rfl⟩) ⟨xc_R_blind, va_recv hK hP (ci := 0) (q0 := 0) rfl rfl, fun U hU hW => ⟨rfl, by rw [hU]; exact hPc, va_K.moved hW.alike (hK.sub (tys' := [(cA, .int), (cJ, .long), (cW, .object "EquationDesk$Whole")]) [0, 1, 2] rfl)⟩⟩ rfl rfl hl.1 rfl (lv_room (Nat.le_of_ble_eq_true rfl)) d_Desk_eliminateAll_20 ⟨Nat.zero_le _, Nat.zero_le _⟩) (fun row hpv => ?_)
      rcases hpv with ⟨i0, e0, hki, hin, hs0⟩ | ⟨e0, hs0⟩
      · subst e0
        have hic : i0 * 13 + k < 156 := by omega
        have hpz : wz g1 l1 s1 (i0 * 13 + k) ≠ 0 := fun z => hs0 ((wh_z0 (ho1 _ hic)).mp z)
        refine lv_istore_n (lv' := [(2, .int (nI i0)), (1, .int (nI k)), (0, .ref x0)]) hx hb d_Desk_eliminateAll_23 rfl hl (by decide) rfl (fun ls hl => ?_)
        refine lv_iload_n hx hb d_Desk_eliminateAll_24 rfl (lv_at hl 0 rfl) ?_
        refine lv_if_ge (tgt := 30) hx hb d_Desk_eliminateAll_25 (by decide) (fun hg => ?_) (fun hg => absurd (nI_pos' (show i0 < 2 ^ 31 by omega)) hg)
        refine lv_iload_n hx hb d_Desk_eliminateAll_30 rfl (lv_at hl 0 rfl) ?_
        refine lv_iload_n hx hb d_Desk_eliminateAll_31 rfl (lv_at hl 1 rfl) ?_
        refine xn_icmp_eq (tgt := 41) hx hb (by omega) (by omega) d_Desk_eliminateAll_32 (by decide) (fun hik => ?_) (fun hik => ?_)
        · have hik : i0 = k := by omega
          subst hik
          exact mid M hw1 qw1 g1 l1 s1 hMB hME hd0 hzD (by rw [← hzM _ _ hkl (Nat.le_refl _) (by omega)]; exact hpz) ho1 hzM H locs hP hD hS ls (lv_sub hl [1, 2] rfl)
        have hlt : k < i0 := by omega
        refine lv_aload_n hx hb d_Desk_eliminateAll_35 rfl (lv_at hl 2 rfl) ?_
        refine lv_iload_n hx hb d_Desk_eliminateAll_36 rfl (lv_at hl 0 rfl) ?_
        refine lv_iload_n hx hb d_Desk_eliminateAll_37 rfl (lv_at hl 1 rfl) ?_
        have hPc := hP
        have hDc := hD.weaken (B := fun _ => True) (fun _ _ _ _ => trivial)
        have hFc := xp_all hD hS hA
        refine va_callv (va_runV (As := [.int (nI i0), .int (nI k)]) (rest := []) ⟨hx, hb, hml, hown, hts⟩ (c_Desk_swapRows l dC dI H.size x0 gv cl d0 h0d q0d h0u q0u h0e q0e h0p q0p h0q q0q h0o q0o h0r q0r cA cJ cW n sv a ld1 D1 sd1 lenu fu sgu lene fe sge lp1 P1 sp1 lq1 Q1 sq1 lo1 O1 so1 lenr fr sgr tw1 iv1 hw1 qw1 g1 l1 s1 i0 k hn hkl hin hlt ho1) (cwV 2 hts (gw_V k_ml_Desk_111 k_im_Desk_swapRows k_sel_Desk_swapRows k_ini_Desk k_code_Desk_swapRows) rfl rfl rfl (by decide +kernel) ⟨Nat.le_of_ble_eq_true rfl, Nat.le_of_ble_eq_true rfl⟩) ⟨xc_W_blind, va_recv hK hP (ci := 0) (q0 := 0) rfl rfl, fun U hU hW => ⟨rfl, by rw [hU], by rw [hU]; exact hPc, va_K.moved hW.alike (hK.sub (tys' := [(cA, .int), (cJ, .long), (cW, .object "EquationDesk$Whole")]) [0, 1, 2] rfl), hDc⟩⟩ rfl rfl hl.1 rfl (lv_room (Nat.le_of_ble_eq_true rfl)) d_Desk_eliminateAll_38 ⟨Nat.zero_le _, Nat.zero_le _⟩) hS (fun q _ h => hFc q h) hFc (fun u t_ H locs ht_ hvm_ w3 hB hz1 hk1 hS => ?_)
        obtain ⟨hw2, qw2, g2, l2, s2⟩ := u
        try dsimp only at w3
        obtain ⟨hP, hD1⟩ := hB
        rw [ht_] at hP
        have hP : va_P (dC, dI) classes (dw x0 gv cl d0 h0d q0d h0u q0u h0e q0e h0p q0p h0q q0q h0o q0o h0r q0r cA cJ cW n sv a ld1 D1 sd1 lenu fu sgu lene fe sge lp1 P1 sp1 lq1 Q1 sq1 lo1 O1 so1 lenr fr sgr tw1 iv1 hw2 qw2 g2 l2 s2) H := hP
        have hD : va_D A (dw x0 gv cl d0 h0d q0d h0u q0u h0e q0e h0p q0p h0q q0q h0o q0o h0r q0r cA cJ cW n sv a ld1 D1 sd1 lenu fu sgu lene fe sge lp1 P1 sp1 lq1 Q1 sq1 lo1 O1 so1 lenr fr sgr tw1 iv1 hw2 qw2 g2 l2 s2) := hD1.weaken (fun k q _ h => hFc q.1 h)
        obtain ⟨y1, y2, y3⟩ := w3
        exact mid (sw_M k i0 M) hw2 qw2 g2 l2 s2 (sw_bd hkl hin hMB) (sw_all hlt hin hME) hd0 (by rw [sw_d (Nat.le_refl _) (by omega)]; exact hzD) (by rw [sw_bz (Nat.le_refl _) (by omega), if_pos rfl, ← hzM i0 k hin (Nat.le_refl _) (by omega)]; exact hpz) y1 (fun i j h1 h2 h3 => by
                    rw [sw_bz (Nat.le_refl _) (by omega)]
                    by_cases z1 : i = k
                    · rw [if_pos z1, z1, (y2 j h2 h3).1, hzM i0 j hin h2 h3]
                    · rw [if_neg z1]
                      by_cases z2 : i = i0
                      · rw [if_pos z2, z2, (y2 j h2 h3).2, hzM k j hkl h2 h3]
                      · rw [if_neg z2, y3 i j z1 z2 h3, hzM i j h1 h2 h3]) H locs hP hD hS ls (lv_sub hl [1, 2] rfl)
      · subst e0
        refine lv_istore_n (lv' := [(2, .int ((-1))), (1, .int (nI k)), (0, .ref x0)]) hx hb d_Desk_eliminateAll_23 rfl hl (by decide) rfl (fun ls hl => ?_)
        refine lv_iload_n hx hb d_Desk_eliminateAll_24 rfl (lv_at hl 0 rfl) ?_
        refine lv_if_ge (tgt := 30) hx hb d_Desk_eliminateAll_25 (by decide) (fun hg => absurd hg (by decide)) (fun hg => ?_)
        have hsing : dt_d A0 n = 0 := by
          rw [← sw_dn hME]
          refine dt_sing M n k hkl hd0 (fun i h1 h2 => ?_)
          rw [← bz_lo h1, ← hzM i k h2 (Nat.le_refl _) (by omega)]
          exact (wh_z0 (ho1 _ (by omega))).mpr (hs0 i h1 h2)
        refine lv_iconst (v := nI 0) hx hb d_Desk_eliminateAll_28 rfl ?_
        have hpost : wk g1 l1 s1 ∧ wh_ok 26 D1 ld1 sd1 ∧ (∀ x, P1 x < 2147483648) ∧ (∀ x, Q1 x < 2147483648) ∧ (∀ x, O1 x < 2147483648) ∧ (((nI 0 : Int32) = 1 ∧ dt_d A0 n ≠ 0 ∧ wh_z D1 ld1 sd1 = dt_d A0 n ∧ ∀ i, i < n → wz g1 l1 s1 (i * 13 + n) = dt_y A0 i (n - 1 - i) n) ∨ ((nI 0 : Int32) = 0 ∧ dt_d A0 n = 0)) := ⟨ho1, hoD, hP1, hQ1, hO1, Or.inr ⟨by decide, hsing⟩⟩
        exact W.zret (v := nI 0) hx hb hr (by rfl) (fun T_ ht_ hW_ => ⟨⟨_, (⟨n, sv, a, ld1, D1, sd1, lenu, fu, sgu, lene, fe, sge, lp1, P1, sp1, lq1, Q1, sq1, lo1, O1, so1, lenr, fr, sgr, tw1, iv1, hw1, qw1, g1, l1, s1⟩ : dS), rfl, hpost, by show va_P (dC, dI) classes _ T_.heap; rw [ht_]; exact hP, hD⟩, hS.F ht_⟩) hS.2.2 d_Desk_eliminateAll_29
  exact loop (n + 1) 0 A0 D0 ld0 sd0 fp lenp sgp fq lenq sgq fo leno sgo tw iv hw qw gg ln sn (Nat.zero_le _) hAB (fun _ => rfl) (by show (1 : Int) ≠ 0; decide) w0.1 w0v hfp hfq hfo hok (fun i j h1 h2 h3 => by rw [bz_0]; exact hA0 i j h1 h3) (by omega) H locs hP hD hS ls (lv_sub hl [0, 1] rfl)
