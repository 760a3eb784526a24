/-- the desk: its fixed cells, then all of it -/
abbrev dx (x0 gv cl d0 h0d q0d h0u q0u h0e q0e h0p q0p h0q q0q h0o q0o h0r q0r : Nat) (cA cJ cW : ClassId) (n : Nat) (sv : Int32) (a : Nat → Int64) (lend : Nat) (fd : Nat → Nat) (sgd : Int32) (lenu : Nat) (fu : Nat → Nat) (sgu : Int32) (lene : Nat) (fe : Nat → Nat) (sge : Int32) (lenp : Nat) (fp : Nat → Nat) (sgp : Int32) (lenq : Nat) (fq : Nat → Nat) (sgq : Int32) (leno : Nat) (fo : Nat → Nat) (sgo : Int32) (lenr : Nat) (fr : Nat → Nat) (sgr : Int32) (tw iv : Nat) (ar : Nat → Option Nat) : va_W := [(x0, .inr (0, [.ref gv, .int (nI n), .int sv, .ref cl, .ref h0d, .ref h0u, .ref h0e, .ref h0p, .ref h0q, .ref d0])), (gv, .inl (cJ, 156, .inr (.inl a))), (cl, .inl (cW, 156, .inr (.inr (.inr (.inr ar))))), (h0d, .inr (1, [.ref q0d, .int (nI lend), .int sgd])), (q0d, .inl (cA, 26, .inl (xn_f fd))), (h0u, .inr (1, [.ref q0u, .int (nI lenu), .int sgu])), (q0u, .inl (cA, 26, .inl (xn_f fu))), (h0e, .inr (1, [.ref q0e, .int (nI lene), .int sge])), (q0e, .inl (cA, 26, .inl (xn_f fe))), (h0p, .inr (1, [.ref q0p, .int (nI lenp), .int sgp])), (q0p, .inl (cA, 52, .inl (xn_f fp))), (h0q, .inr (1, [.ref q0q, .int (nI lenq), .int sgq])), (q0q, .inl (cA, 52, .inl (xn_f fq))), (d0, .inr (2, [.ref h0o, .ref h0r, .int (nI tw), .int (nI iv)])), (h0o, .inr (1, [.ref q0o, .int (nI leno), .int sgo])), (q0o, .inl (cA, 26, .inl (xn_f fo))), (h0r, .inr (1, [.ref q0r, .int (nI lenr), .int sgr])), (q0r, .inl (cA, 26, .inl (xn_f fr)))]
abbrev dw (x0 gv cl d0 h0d q0d h0u q0u h0e q0e h0p q0p h0q q0q h0o q0o h0r q0r : Nat) (cA cJ cW : ClassId) (n : Nat) (sv : Int32) (a : Nat → Int64) (lend : Nat) (fd : Nat → Nat) (sgd : Int32) (lenu : Nat) (fu : Nat → Nat) (sgu : Int32) (lene : Nat) (fe : Nat → Nat) (sge : Int32) (lenp : Nat) (fp : Nat → Nat) (sgp : Int32) (lenq : Nat) (fq : Nat → Nat) (sgq : Int32) (leno : Nat) (fo : Nat → Nat) (sgo : Int32) (lenr : Nat) (fr : Nat → Nat) (sgr : Int32) (tw iv : Nat) (hw qw : Nat → Nat) (gg : Nat → Nat → Nat) (ln : Nat → Nat) (sn : Nat → Int32) : va_W := dx x0 gv cl d0 h0d q0d h0u q0u h0e q0e h0p q0p h0q q0q h0o q0o h0r q0r cA cJ cW n sv a lend fd sgd lenu fu sgu lene fe sge lenp fp sgp lenq fq sgq leno fo sgo lenr fr sgr tw iv (fun j => some (hw j)) ++ cw (cf cA hw qw gg ln sn)
set_option maxHeartbeats 8000000 in
set_option maxRecDepth 100000 in
/-- cellIndex -/
theorem c_Desk_cellIndex (l : Launch) (dC : Nat → ClassId) (dI : Nat → Nat → Nat) (i j : Nat)  : Met l y_Desk_cellIndex w_Desk_cellIndex ({ frames := 0, cells := 0, slots := 0, locals := 0 }) (xc_R [.int (nI i), .int (nI j)] dC dI ([]) []) (vp_Si (fun r => r = nI (i * 13 + j))) 0 0 (fun _ => False) := by
  refine Met.ofW (cc := b_Desk_cellIndex) (maxL := 2) (ret := (some .int)) (by decide) rfl ?_
  intro p e s m args below meth c s₁ B hml hv
  obtain ⟨rfl, hP, hK⟩ := hv
  have hx := B.exec
  have hb := B.bytes
  have hr := B.returns
  have hts : ∀ w ∈ gw_tbl, w.before ([.int (nI i), .int (nI j)] : List Value).toArray s = true := fun w h => atoms_spec (ws := w_Desk_cellIndex) B.pre w (List.mem_cons_of_mem _ h)
  have hown : s.vm.findClass R_Desk = some m.cls := findClass_of_methodNamed B.named
  have hlocks := B.notSynchronized
  have hl := lv_entry ([.int (nI i), .int (nI j)]) (n := 2) (Nat.le_of_ble_eq_true rfl)
  rw [lg_entry_eq]
  generalize (lg_sl ([.int (nI i), .int (nI j)]) ++ List.replicate (2 - (lg_sl ([.int (nI i), .int (nI j)])).length) Slot.unset).toArray = ls at hl ⊢
  have hl : lv_has ls 2 [(0, .int (nI i)), (1, .int (nI j))] := hl
  refine lv_iload_n hx hb d_Desk_cellIndex_0 rfl (lv_at hl 0 rfl) ?_
  refine lv_bipush (v := nI 13) hx hb d_Desk_cellIndex_1 rfl ?_
  refine xn_imul hx hb d_Desk_cellIndex_3 ?_
  refine lv_iload_n hx hb d_Desk_cellIndex_4 rfl (lv_at hl 1 rfl) ?_
  refine xn_iadd hx hb d_Desk_cellIndex_5 ?_
  exact W.iret (v := nI (i * 13 + j)) hx hb hr (fun T_ ht_ hW_ => ⟨_, rfl, rfl, ht_⟩) (fun q hq => by cases hq) d_Desk_cellIndex_6
set_option maxHeartbeats 8000000 in
set_option maxRecDepth 100000 in
/-- pivotRow -/
theorem c_Desk_pivotRow (l : Launch) (dC : Nat → ClassId) (dI : Nat → Nat → Nat) (x0 gv cl d0 h0d q0d h0u q0u h0e q0e h0p q0p h0q q0q h0o q0o h0r q0r : Nat) (cA cJ cW : ClassId) (n : Nat) (sv : Int32) (a : Nat → Int64) (lend : Nat) (fd : Nat → Nat) (sgd : Int32) (lenu : Nat) (fu : Nat → Nat) (sgu : Int32) (lene : Nat) (fe : Nat → Nat) (sge : Int32) (lenp : Nat) (fp : Nat → Nat) (sgp : Int32) (lenq : Nat) (fq : Nat → Nat) (sgq : Int32) (leno : Nat) (fo : Nat → Nat) (sgo : Int32) (lenr : Nat) (fr : Nat → Nat) (sgr : Int32) (tw iv : Nat) (hw qw : Nat → Nat) (gg : Nat → Nat → Nat) (ln : Nat → Nat) (sn : Nat → Int32) (k : Nat) (hn : n ≤ 12) (hk : k ≤ n) : Met l y_Desk_pivotRow w_Desk_pivotRow ({ frames := 1, cells := 0, slots := 0, locals := 21 }) (xc_R [.ref x0, .int (nI k)] dC dI (dw x0 gv cl d0 h0d q0d h0u q0u h0e q0e h0p q0p h0q q0q h0o q0o h0r q0r cA cJ cW n sv a lend fd sgd lenu fu sgu lene fe sge lenp fp sgp lenq fq sgq leno fo sgo lenr fr sgr tw iv hw qw gg ln sn) [(cA, .int), (cJ, .long), (cW, .object "EquationDesk$Whole")]) (vp_Si (fun r => (∃ i, r = nI i ∧ k ≤ i ∧ i < n ∧ ¬ sn (i * 13 + k) = 0) ∨ (r = -1 ∧ ∀ i, k ≤ i → i < n → sn (i * 13 + k) = 0))) 0 0 (fun _ => False) := by
  refine Met.ofW (cc := b_Desk_pivotRow) (maxL := 3) (ret := (some .int)) (by decide) rfl ?_
  intro p e s m args below meth c s₁ B hml hv
  obtain ⟨rfl, hP, hK⟩ := hv
  have hx := B.exec
  have hb := B.bytes
  have hr := B.returns
  have hts : ∀ w ∈ gw_tbl, w.before ([.ref x0, .int (nI k)] : List Value).toArray s = true := fun w h => atoms_spec (ws := w_Desk_pivotRow) B.pre w (List.mem_cons_of_mem _ h)
  have hown : s.vm.findClass R_Desk = some m.cls := findClass_of_methodNamed B.named
  have hlocks := B.notSynchronized
  have hl := lv_entry ([.ref x0, .int (nI k)]) (n := 3) (Nat.le_of_ble_eq_true rfl)
  rw [lg_entry_eq]
  generalize (lg_sl ([.ref x0, .int (nI k)]) ++ List.replicate (3 - (lg_sl ([.ref x0, .int (nI k)])).length) Slot.unset).toArray = ls at hl ⊢
  have hl : lv_has ls 3 [(0, .ref x0), (1, .int (nI k))] := hl
  refine lv_iload_n hx hb d_Desk_pivotRow_0 rfl (lv_at hl 1 rfl) ?_
  refine lv_istore_n (lv' := [(2, .int (nI k)), (0, .ref x0), (1, .int (nI k))]) hx hb d_Desk_pivotRow_1 rfl hl (by decide) rfl (fun ls hl => ?_)
  have loop : ∀ (n0 : Nat) (i : Nat), (i ≤ n) → (k ≤ i) → (∀ j, k ≤ j → j < i → sn (j * 13 + k) = 0) → (n + 1 ≤ i + n0) → ∀ (ls : Array Slot), lv_has ls 3 [(2, .int (nI i)), (0, .ref x0), (1, .int (nI k))] → W p l e (headSpec w_Desk_pivotRow ({ frames := 1, cells := 0, slots := 0, locals := 21 })).room s m ([.ref x0, .int (nI k)] : List Value).toArray below meth c s.heap [] 0 0 (MQ below (vp_Si (fun r => (∃ i, r = nI i ∧ k ≤ i ∧ i < n ∧ ¬ sn (i * 13 + k) = 0) ∨ (r = -1 ∧ ∀ i, k ≤ i → i < n → sn (i * 13 + k) = 0))) ([.ref x0, .int (nI k)] : List Value).toArray s 0 0 (fun _ => False)) (F0 m 2 ls []) := by
    intro n0
    induction n0 with
    | zero => intro i hi hki hz hn_; exact absurd hn_ (by omega)
    | succ n0 ih =>
      intro i hi hki hz hn_ ls hl
      refine lv_iload_n hx hb d_Desk_pivotRow_2 rfl (lv_at hl 0 rfl) ?_
      refine lv_aload_n hx hb d_Desk_pivotRow_3 rfl (lv_at hl 1 rfl) ?_
      refine va_get (D := (dC, dI)) (ci := 0) (v := .int (nI n)) (C := R_Desk) (T := F_Desk) (N := 10) hx hb hts i_Desk hown hK hP 0 rfl rfl 1 (by decide) (hts _ k_fl_Desk_13) (fun _ h9 => h9) rfl d_Desk_pivotRow_4 ?_
      refine xn_icmp_ge (tgt := 34) hx hb (by omega) (by omega) d_Desk_pivotRow_7 (by decide) (fun hge => ?_) (fun hge => ?_)
      · refine lv_iconst (v := -1) hx hb d_Desk_pivotRow_34 (by decide) ?_
        exact W.iret (v := (-1)) hx hb hr (fun T_ ht_ hW_ => ⟨_, rfl, Or.inr ⟨rfl, fun j h1 h2 => hz j h1 (by omega)⟩, ht_⟩) (fun q hq => by cases hq) d_Desk_pivotRow_35
      refine lv_aload_n hx hb d_Desk_pivotRow_10 rfl (lv_at hl 1 rfl) ?_
      refine va_get (D := (dC, dI)) (ci := 0) (v := .ref cl) (C := R_Desk) (T := F_Desk) (N := 10) hx hb hts i_Desk hown hK hP 0 rfl rfl 3 (by decide) (hts _ k_fl_Desk_23) (fun _ h9 => h9) rfl d_Desk_pivotRow_11 ?_
      refine lv_iload_n hx hb d_Desk_pivotRow_14 rfl (lv_at hl 0 rfl) ?_
      refine lv_iload_n hx hb d_Desk_pivotRow_15 rfl (lv_at hl 2 rfl) ?_
      refine vp_callSi (W.runS (As := [.int (nI i), .int (nI k)]) (rest := [.ref cl]) ⟨hx, hb, hml, hown, hts⟩ (c_Desk_cellIndex l dC dI i k) (cwS 2 hts (gw_S k_ml_Desk_63 k_st_Desk_cellIndex k_ini_Desk k_code_Desk_cellIndex) rfl rfl rfl (by decide +kernel) ⟨Nat.le_of_ble_eq_true rfl, Nat.le_of_ble_eq_true rfl⟩) ⟨xc_R_blind, fun U hU hW => ⟨rfl, by rw [hU]; exact hP.sub (ws' := []) [] rfl, va_K.moved hW.alike (hK.sub (tys' := []) [] rfl)⟩⟩ rfl rfl hl.1 rfl (lv_room (Nat.le_of_ble_eq_true rfl)) d_Desk_pivotRow_16 ⟨Nat.zero_le _, Nat.zero_le _⟩) (fun r_ e_r => ?_)
      subst e_r
      have hc : i * 13 + k < 156 := by omega
      refine xn_aald hx hb hK hP 2 2 rfl rfl (i := i * 13 + k) (b := hw (i * 13 + k)) rfl hc (by decide) d_Desk_pivotRow_19 ?_
      refine va_get (D := (dC, dI)) (ci := 1) (v := .int (sn (i * 13 + k))) (C := R_Whole) (T := F_Whole) (N := 3) hx hb hts i_Whole hown hK hP (18 + 2 * (i * 13 + k)) (cw_w rfl hc) rfl 2 (by decide) (hts _ k_fl_Desk_85) (fun _ h9 => h9) rfl d_Desk_pivotRow_20 ?_
      refine lv_if_eq (tgt := 28) hx hb d_Desk_pivotRow_23 (by decide) (fun hs0 => ?_) (fun hs0 => ?_)
      · refine lv_iinc (v := nI (i + 1)) (lv' := [(2, .int (nI (i + 1))), (0, .ref x0), (1, .int (nI k))]) hx hb d_Desk_pivotRow_28 hl (k := 0) rfl (nI_1 _) (by decide) rfl (fun ls hl => ?_)
        refine lv_goto (tgt := 2) hx hb d_Desk_pivotRow_31 (by decide) ?_
        exact ih (i + 1) (by omega) (by omega) (fun j h1 h2 => by
            rcases Nat.lt_or_ge j i with q | q
            · exact hz j h1 q
            · rw [show j = i by omega]; exact hs0) (by omega) ls (lv_sub hl [0, 1, 2] rfl)
      refine lv_iload_n hx hb d_Desk_pivotRow_26 rfl (lv_at hl 0 rfl) ?_
      exact W.iret (v := nI i) hx hb hr (fun T_ ht_ hW_ => ⟨_, rfl, Or.inl ⟨i, rfl, hki, by omega, hs0⟩, ht_⟩) (fun q hq => by cases hq) d_Desk_pivotRow_27
  exact loop (n + 1) k hk (Nat.le_refl _) (fun j h1 h2 => by omega) (by omega) ls (lv_sub hl [0, 1, 2] rfl)
set_option maxHeartbeats 8000000 in
set_option maxRecDepth 100000 in
/-- loadCells -/
theorem c_Desk_loadCells (l : Launch) (dC : Nat → ClassId) (dI : Nat → Nat → Nat) (sz : Nat) (x0 gv cl d0 h0d q0d h0u q0u h0e q0e h0p q0p h0q q0q h0o q0o h0r q0r : Nat) (cA cJ cW : ClassId) (n : Nat) (sv : Int32) (a : Nat → Int64) (lend : Nat) (fd : Nat → Nat) (sgd : Int32) (lenu : Nat) (fu : Nat → Nat) (sgu : Int32) (lene : Nat) (fe : Nat → Nat) (sge : Int32) (lenp : Nat) (fp : Nat → Nat) (sgp : Int32) (lenq : Nat) (fq : Nat → Nat) (sgq : Int32) (leno : Nat) (fo : Nat → Nat) (sgo : Int32) (lenr : Nat) (fr : Nat → Nat) (sgr : Int32) (tw iv : Nat) (hw qw : Nat → Nat) (gg : Nat → Nat → Nat) (ln : Nat → Nat) (sn : Nat → Int32)  (hn : n ≤ 12) (hok : ∀ j, j < 156 → wh_ok 26 (gg j) (ln j) (sn j)) : Met l y_Desk_loadCells w_Desk_loadCells ({ frames := 2, cells := 0, slots := 0, locals := 47 }) (xc_W [.ref x0] dC dI (dw x0 gv cl d0 h0d q0d h0u q0u h0e q0e h0p q0p h0q q0q h0o q0o h0r q0r cA cJ cW n sv a lend fd sgd lenu fu sgu lene fe sge lenp fp sgp lenq fq sgq leno fo sgo lenr fr sgr tw iv hw qw gg ln sn) [(cA, .int), (cJ, .long), (cW, .object "EquationDesk$Whole")] sz) (va_Qv (S := (Nat → Nat → Nat) × (Nat → Nat) × (Nat → Int32)) (fun u => (∀ j, j < 156 → wh_ok 26 (u.1 j) (u.2.1 j) (u.2.2 j)) ∧ (∀ i j, i < n → j ≤ n → wh_z (u.1 (i * 13 + j)) (u.2.1 (i * 13 + j)) (u.2.2 (i * 13 + j)) = (a (i * 13 + j)).toInt)) (fun u t => va_P (dC, dI) classes (dw x0 gv cl d0 h0d q0d h0u q0u h0e q0e h0p q0p h0q q0q h0o q0o h0r q0r cA cJ cW n sv a lend fd sgd lenu fu sgu lene fe sge lenp fp sgp lenq fq sgq leno fo sgo lenr fr sgr tw iv hw qw u.1 u.2.1 u.2.2) t.heap ∧ va_D (va_A (dw x0 gv cl d0 h0d q0d h0u q0u h0e q0e h0p q0p h0q q0q h0o q0o h0r q0r cA cJ cW n sv a lend fd sgd lenu fu sgu lene fe sge lenp fp sgp lenq fq sgq leno fo sgo lenr fr sgr tw iv hw qw gg ln sn) sz) (dw x0 gv cl d0 h0d q0d h0u q0u h0e q0e h0p q0p h0q q0q h0o q0o h0r q0r cA cJ cW n sv a lend fd sgd lenu fu sgu lene fe sge lenp fp sgp lenq fq sgq leno fo sgo lenr fr sgr tw iv hw qw u.1 u.2.1 u.2.2)) (va_A (dw x0 gv cl d0 h0d q0d h0u q0u h0e q0e h0p q0p h0q q0q h0o q0o h0r q0r cA cJ cW n sv a lend fd sgd lenu fu sgu lene fe sge lenp fp sgp lenq fq sgq leno fo sgo lenr fr sgr tw iv hw qw gg ln sn) sz)) 0 0 (va_A (dw x0 gv cl d0 h0d q0d h0u q0u h0e q0e h0p q0p h0q q0q h0o q0o h0r q0r cA cJ cW n sv a lend fd sgd lenu fu sgu lene fe sge lenp fp sgp lenq fq sgq leno fo sgo lenr fr sgr tw iv hw qw gg ln sn) sz) := by
  refine Met.ofW (cc := b_Desk_loadCells) (maxL := 4) (ret := none) (by decide) rfl ?_
  intro p e s m args below meth c s₁ B hml hv
  obtain ⟨rfl, hsz, hP, hK, hD0⟩ := hv
  have hx := B.exec
  have hb := B.bytes
  have hr := B.returns
  have hts : ∀ w ∈ gw_tbl, w.before ([.ref x0] : List Value).toArray s = true := fun w h => atoms_spec (ws := w_Desk_loadCells) B.pre w (List.mem_cons_of_mem _ h)
  have hown : s.vm.findClass R_Desk = some m.cls := findClass_of_methodNamed B.named
  have hlocks := B.notSynchronized
  subst hsz
  have hD := hD0.self (sz := s.heap.size)
  generalize hAe : va_A (dw x0 gv cl d0 h0d q0d h0u q0u h0e q0e h0p q0p h0q q0q h0o q0o h0r q0r cA cJ cW n sv a lend fd sgd lenu fu sgu lene fe sge lenp fp sgp lenq fq sgq leno fo sgo lenr fr sgr tw iv hw qw gg ln sn) s.heap.size = A at hD ⊢
  have hA : ∀ q : Nat, s.heap.size ≤ q → A q := fun q h => by rw [← hAe]; exact Or.inr h
  have hS : va_S A s.heap s.heap [] := va_S.rf
  have hl := lv_entry ([.ref x0]) (n := 4) (Nat.le_of_ble_eq_true rfl)
  rw [lg_entry_eq]
  generalize (lg_sl ([.ref x0]) ++ List.replicate (4 - (lg_sl ([.ref x0])).length) Slot.unset).toArray = ls at hl ⊢
  have hl : lv_has ls 4 [(0, .ref x0)] := hl
  refine lv_iconst (v := nI 0) hx hb d_Desk_loadCells_0 rfl ?_
  refine lv_istore_n (lv' := [(1, .int (nI 0)), (0, .ref x0)]) hx hb d_Desk_loadCells_1 rfl hl (by decide) rfl (fun ls hl => ?_)
  have loop : ∀ (n0 : Nat) (i : Nat) (g1 : Nat → Nat → Nat) (l1 : Nat → Nat) (s1 : Nat → Int32), (i ≤ n) → ((∀ j, j < 156 → wh_ok 26 (g1 j) (l1 j) (s1 j))) → (∀ i2 j2, i2 < i → j2 ≤ n → wh_z (g1 (i2 * 13 + j2)) (l1 (i2 * 13 + j2)) (s1 (i2 * 13 + j2)) = (a (i2 * 13 + j2)).toInt) → (n + 1 ≤ i + n0) → ∀ (H : Heap) (locs : List Loc), va_P (dC, dI) classes (dw x0 gv cl d0 h0d q0d h0u q0u h0e q0e h0p q0p h0q q0q h0o q0o h0r q0r cA cJ cW n sv a lend fd sgd lenu fu sgu lene fe sge lenp fp sgp lenq fq sgq leno fo sgo lenr fr sgr tw iv hw qw g1 l1 s1) H → va_D A (dw x0 gv cl d0 h0d q0d h0u q0u h0e q0e h0p q0p h0q q0q h0o q0o h0r q0r cA cJ cW n sv a lend fd sgd lenu fu sgu lene fe sge lenp fp sgp lenq fq sgq leno fo sgo lenr fr sgr tw iv hw qw g1 l1 s1) → va_S A s.heap H locs → ∀ (ls : Array Slot), lv_has ls 4 [(1, .int (nI i)), (0, .ref x0)] → W p l e (headSpec w_Desk_loadCells ({ frames := 2, cells := 0, slots := 0, locals := 47 })).room s m ([.ref x0] : List Value).toArray below meth c H locs 0 0 (MQ below (va_Qv (S := (Nat → Nat → Nat) × (Nat → Nat) × (Nat → Int32)) (fun u => (∀ j, j < 156 → wh_ok 26 (u.1 j) (u.2.1 j) (u.2.2 j)) ∧ (∀ i j, i < n → j ≤ n → wh_z (u.1 (i * 13 + j)) (u.2.1 (i * 13 + j)) (u.2.2 (i * 13 + j)) = (a (i * 13 + j)).toInt)) (fun u t => va_P (dC, dI) classes (dw x0 gv cl d0 h0d q0d h0u q0u h0e q0e h0p q0p h0q q0q h0o q0o h0r q0r cA cJ cW n sv a lend fd sgd lenu fu sgu lene fe sge lenp fp sgp lenq fq sgq leno fo sgo lenr fr sgr tw iv hw qw u.1 u.2.1 u.2.2) t.heap ∧ va_D A (dw x0 gv cl d0 h0d q0d h0u q0u h0e q0e h0p q0p h0q q0q h0o q0o h0r q0r cA cJ cW n sv a lend fd sgd lenu fu sgu lene fe sge lenp fp sgp lenq fq sgq leno fo sgo lenr fr sgr tw iv hw qw u.1 u.2.1 u.2.2)) A) ([.ref x0] : List Value).toArray s 0 0 A) (F0 m 2 ls []) := by
    intro n0
    induction n0 with
    | zero => intro i g1 l1 s1 hi ho1 hz hn_; exact absurd hn_ (by omega)
    | succ n0 ih =>
      intro i g1 l1 s1 hi ho1 hz hn_ H locs hP hD hS ls hl
      refine lv_iload_n hx hb d_Desk_loadCells_2 rfl (lv_at hl 0 rfl) ?_
      refine lv_aload_n hx hb d_Desk_loadCells_3 rfl (lv_at hl 1 rfl) ?_
      refine va_get (D := (dC, dI)) (ci := 0) (v := .int (nI n)) (C := R_Desk) (T := F_Desk) (N := 10) hx hb hts i_Desk hown hK hP 0 rfl rfl 1 (by decide) (hts _ k_fl_Desk_13) (fun _ h9 => h9) rfl d_Desk_loadCells_4 ?_
      refine xn_icmp_ge (tgt := 53) hx hb (by omega) (by omega) d_Desk_loadCells_7 (by decide) (fun hge => ?_) (fun hge => ?_)
      · exact W.vret hx hb hr (fun T_ ht_ hW_ => ⟨⟨(g1, l1, s1), rfl, ⟨ho1, fun i2 j2 h1 h2 => hz i2 j2 (by omega) h2⟩, by show va_P (dC, dI) classes _ T_.heap; rw [ht_]; exact hP, hD⟩, hS.F ht_⟩) hS.2.2 d_Desk_loadCells_53
      refine lv_iconst (v := nI 0) hx hb d_Desk_loadCells_10 rfl ?_
      refine lv_istore_n (lv' := [(2, .int (nI 0)), (1, .int (nI i)), (0, .ref x0)]) hx hb d_Desk_loadCells_11 rfl hl (by decide) rfl (fun ls hl => ?_)
      have loop2 : ∀ (n2 : Nat) (jj : Nat) (g2 : Nat → Nat → Nat) (l2 : Nat → Nat) (s2 : Nat → Int32), (jj ≤ n + 1) → (∀ j, j < 156 → wh_ok 26 (g2 j) (l2 j) (s2 j)) → (∀ i2 j2, i2 < i → j2 ≤ n → wh_z (g2 (i2 * 13 + j2)) (l2 (i2 * 13 + j2)) (s2 (i2 * 13 + j2)) = (a (i2 * 13 + j2)).toInt) → (∀ j2, j2 < jj → wh_z (g2 (i * 13 + j2)) (l2 (i * 13 + j2)) (s2 (i * 13 + j2)) = (a (i * 13 + j2)).toInt) → (n + 2 ≤ jj + n2) → ∀ (H : Heap) (locs : List Loc), va_P (dC, dI) classes (dw x0 gv cl d0 h0d q0d h0u q0u h0e q0e h0p q0p h0q q0q h0o q0o h0r q0r cA cJ cW n sv a lend fd sgd lenu fu sgu lene fe sge lenp fp sgp lenq fq sgq leno fo sgo lenr fr sgr tw iv hw qw g2 l2 s2) H → va_D A (dw x0 gv cl d0 h0d q0d h0u q0u h0e q0e h0p q0p h0q q0q h0o q0o h0r q0r cA cJ cW n sv a lend fd sgd lenu fu sgu lene fe sge lenp fp sgp lenq fq sgq leno fo sgo lenr fr sgr tw iv hw qw g2 l2 s2) → va_S A s.heap H locs → ∀ (ls : Array Slot), lv_has ls 4 [(2, .int (nI jj)), (1, .int (nI i)), (0, .ref x0)] → W p l e (headSpec w_Desk_loadCells ({ frames := 2, cells := 0, slots := 0, locals := 47 })).room s m ([.ref x0] : List Value).toArray below meth c H locs 0 0 (MQ below (va_Qv (S := (Nat → Nat → Nat) × (Nat → Nat) × (Nat → Int32)) (fun u => (∀ j, j < 156 → wh_ok 26 (u.1 j) (u.2.1 j) (u.2.2 j)) ∧ (∀ i j, i < n → j ≤ n → wh_z (u.1 (i * 13 + j)) (u.2.1 (i * 13 + j)) (u.2.2 (i * 13 + j)) = (a (i * 13 + j)).toInt)) (fun u t => va_P (dC, dI) classes (dw x0 gv cl d0 h0d q0d h0u q0u h0e q0e h0p q0p h0q q0q h0o q0o h0r q0r cA cJ cW n sv a lend fd sgd lenu fu sgu lene fe sge lenp fp sgp lenq fq sgq leno fo sgo lenr fr sgr tw iv hw qw u.1 u.2.1 u.2.2) t.heap ∧ va_D A (dw x0 gv cl d0 h0d q0d h0u q0u h0e q0e h0p q0p h0q q0q h0o q0o h0r q0r cA cJ cW n sv a lend fd sgd lenu fu sgu lene fe sge lenp fp sgp lenq fq sgq leno fo sgo lenr fr sgr tw iv hw qw u.1 u.2.1 u.2.2)) A) ([.ref x0] : List Value).toArray s 0 0 A) (F0 m 12 ls []) := by
        intro n2
        induction n2 with
        | zero => intro jj g2 l2 s2 hj ho2 hz2 hy2 hn_; exact absurd hn_ (by omega)
        | succ n2 ih2 =>
          intro jj g2 l2 s2 hj ho2 hz2 hy2 hn_ H locs hP hD hS ls hl
          refine lv_iload_n hx hb d_Desk_loadCells_12 rfl (lv_at hl 0 rfl) ?_
          refine lv_aload_n hx hb d_Desk_loadCells_13 rfl (lv_at hl 2 rfl) ?_
          refine va_get (D := (dC, dI)) (ci := 0) (v := .int (nI n)) (C := R_Desk) (T := F_Desk) (N := 10) hx hb hts i_Desk hown hK hP 0 rfl rfl 1 (by decide) (hts _ k_fl_Desk_13) (fun _ h9 => h9) rfl d_Desk_loadCells_14 ?_
          refine xn_icmp_gt (tgt := 47) hx hb (by omega) (by omega) d_Desk_loadCells_17 (by decide) (fun hgt => ?_) (fun hgt => ?_)
          · refine lv_iinc (v := nI (i + 1)) (lv' := [(1, .int (nI (i + 1))), (2, .int (nI jj)), (0, .ref x0)]) hx hb d_Desk_loadCells_47 hl (k := 1) rfl (nI_1 _) (by decide) rfl (fun ls hl => ?_)
            refine lv_goto (tgt := 2) hx hb d_Desk_loadCells_50 (by decide) ?_
            exact ih (i + 1) g2 l2 s2 (by omega) ho2 (fun i2 j2 h1 h2 => by
                            rcases Nat.lt_or_ge i2 i with q | q
                            · exact hz2 i2 j2 q h2
                            · rw [show i2 = i by omega]; exact hy2 j2 (by omega)) (by omega) H locs hP hD hS ls (lv_sub hl [0, 2] rfl)
          refine lv_iload_n hx hb d_Desk_loadCells_20 rfl (lv_at hl 1 rfl) ?_
          refine lv_iload_n hx hb d_Desk_loadCells_21 rfl (lv_at hl 0 rfl) ?_
          refine vp_callSi (W.runS (As := [.int (nI i), .int (nI jj)]) (rest := []) ⟨hx, hb, hml, hown, hts⟩ (c_Desk_cellIndex l dC dI i jj) (cwS 2 hts (gw_S k_ml_Desk_63 k_st_Desk_cellIndex k_ini_Desk k_code_Desk_cellIndex) rfl rfl rfl (by decide +kernel) ⟨Nat.le_of_ble_eq_true rfl, Nat.le_of_ble_eq_true rfl⟩) ⟨xc_R_blind, fun U hU hW => ⟨rfl, by rw [hU]; exact hP.sub (ws' := []) [] rfl, va_K.moved hW.alike (hK.sub (tys' := []) [] rfl)⟩⟩ rfl rfl hl.1 rfl (lv_room (Nat.le_of_ble_eq_true rfl)) d_Desk_loadCells_22 ⟨Nat.zero_le _, Nat.zero_le _⟩) (fun r_ e_r => ?_)
          subst e_r
          have hc : i * 13 + jj < 156 := by omega
          refine lv_istore_n (lv' := [(3, .int (nI (i * 13 + jj))), (2, .int (nI jj)), (1, .int (nI i)), (0, .ref x0)]) hx hb d_Desk_loadCells_25 rfl hl (by decide) rfl (fun ls hl => ?_)
          refine lv_aload_n hx hb d_Desk_loadCells_26 rfl (lv_at hl 3 rfl) ?_
          refine va_get (D := (dC, dI)) (ci := 0) (v := .ref cl) (C := R_Desk) (T := F_Desk) (N := 10) hx hb hts i_Desk hown hK hP 0 rfl rfl 3 (by decide) (hts _ k_fl_Desk_23) (fun _ h9 => h9) rfl d_Desk_loadCells_27 ?_
          refine lv_iload_n hx hb d_Desk_loadCells_30 rfl (lv_at hl 0 rfl) ?_
          refine xn_aald hx hb hK hP 2 2 rfl rfl (i := i * 13 + jj) (b := hw (i * 13 + jj)) rfl hc (by decide) d_Desk_loadCells_31 ?_
          refine lv_aload_n hx hb d_Desk_loadCells_32 rfl (lv_at hl 3 rfl) ?_
          refine va_get (D := (dC, dI)) (ci := 0) (v := .ref gv) (C := R_Desk) (T := F_Desk) (N := 10) hx hb hts i_Desk hown hK hP 0 rfl rfl 0 (by decide) (hts _ k_fl_Desk_9) (fun _ h9 => h9) rfl d_Desk_loadCells_33 ?_
          refine lv_iload_n hx hb d_Desk_loadCells_36 rfl (lv_at hl 0 rfl) ?_
          refine xn_lald hx hb hK hP 1 1 rfl rfl (i := i * 13 + jj) (by omega) (by omega) d_Desk_loadCells_37 ?_
          have hq_0 : (dw x0 gv cl d0 h0d q0d h0u q0u h0e q0e h0p q0p h0q q0q h0o q0o h0r q0r cA cJ cW n sv a lend fd sgd lenu fu sgu lene fe sge lenp fp sgp lenq fq sgq leno fo sgo lenr fr sgr tw iv hw qw g2 l2 s2)[18 + 2 * (i * 13 + jj)]? = some (hw (i * 13 + jj), .inr (1, [.ref (qw (i * 13 + jj)), .int (nI (l2 (i * 13 + jj))), .int (s2 (i * 13 + jj))])) := (cw_w rfl hc)
          have hq_1 : (dw x0 gv cl d0 h0d q0d h0u q0u h0e q0e h0p q0p h0q q0q h0o q0o h0r q0r cA cJ cW n sv a lend fd sgd lenu fu sgu lene fe sge lenp fp sgp lenq fq sgq leno fo sgo lenr fr sgr tw iv hw qw g2 l2 s2)[18 + 2 * (i * 13 + jj) + 1]? = some (qw (i * 13 + jj), .inl (cA, 26, .inl (xn_f (g2 (i * 13 + jj))))) := (cw_q rfl hc)
          have hs_ : ([18 + 2 * (i * 13 + jj), 18 + 2 * (i * 13 + jj) + 1] : List Nat).map (fun i => (dw x0 gv cl d0 h0d q0d h0u q0u h0e q0e h0p q0p h0q q0q h0o q0o h0r q0r cA cJ cW n sv a lend fd sgd lenu fu sgu lene fe sge lenp fp sgp lenq fq sgq leno fo sgo lenr fr sgr tw iv hw qw g2 l2 s2)[i]?) = ([(hw (i * 13 + jj), .inr (1, [.ref (qw (i * 13 + jj)), .int (nI (l2 (i * 13 + jj))), .int (s2 (i * 13 + jj))])), (qw (i * 13 + jj), .inl (cA, 26, .inl (xn_f (g2 (i * 13 + jj)))))]).map some := by
            simp only [List.map_cons, List.map_nil]
            rw [hq_0, hq_1]
          have hPc := xp_P hP [18 + 2 * (i * 13 + jj), 18 + 2 * (i * 13 + jj) + 1] hs_
          have hDc := (hD.sub [18 + 2 * (i * 13 + jj), 18 + 2 * (i * 13 + jj) + 1] (by simp only [va_nd, List.mem_cons, List.not_mem_nil, or_false, not_false_eq_true, decide_true, Bool.and_true, Bool.and_eq_true, decide_eq_true_eq, not_or]; omega) hs_).weaken (B := fun _ => True) (fun _ _ _ _ => trivial)
          have hFc := va_free hD hS hA [18 + 2 * (i * 13 + jj), 18 + 2 * (i * 13 + jj) + 1] hs_
          refine va_callv (va_runV (As := [.long (a (i * 13 + jj))]) (rest := []) ⟨hx, hb, hml, hown, hts⟩ (c_Whole_setLong l dC dI H.size cA (hw (i * 13 + jj)) (qw (i * 13 + jj)) 26 (l2 (i * 13 + jj)) (g2 (i * 13 + jj)) (s2 (i * 13 + jj)) (a (i * 13 + jj)) (by decide) (by decide) (ho2 _ hc).2.1) (cwV 1 hts (gw_V k_ml_Desk_53 k_im_Whole_setLong k_sel_Whole_setLong k_ini_Whole k_code_Whole_setLong) rfl rfl rfl (by decide +kernel) ⟨Nat.le_of_ble_eq_true rfl, Nat.le_of_ble_eq_true rfl⟩) ⟨xc_W_blind, va_recv hK hP (ci := 1) (q0 := 18 + 2 * (i * 13 + jj)) rfl (cw_w rfl hc), fun U hU hW => ⟨rfl, by rw [hU], by rw [hU]; exact hPc, va_K.moved hW.alike (hK.sub (tys' := [(cA, .int)]) [0] rfl), hDc⟩⟩ rfl rfl hl.1 rfl (lv_room (Nat.le_of_ble_eq_true rfl)) d_Desk_loadCells_38 ⟨Nat.zero_le _, Nat.zero_le _⟩) hS (fun q _ h => hFc q h) hFc (fun u t_ H locs ht_ hvm_ hw0 hB hz1 hk1 hS => ?_)
          obtain ⟨G, L, S⟩ := u
          try dsimp only at hw0
          rw [ht_] at hB
          obtain ⟨hP, hD⟩ := xj_2 (18 + 2 * (i * 13 + jj)) (18 + 2 * (i * 13 + jj) + 1) hP hD (cw_w rfl hc) (cw_q rfl hc) hk1 hB
          have h8 : va_P (dC, dI) classes (((dx x0 gv cl d0 h0d q0d h0u q0u h0e q0e h0p q0p h0q q0q h0o q0o h0r q0r cA cJ cW n sv a lend fd sgd lenu fu sgu lene fe sge lenp fp sgp lenq fq sgq leno fo sgo lenr fr sgr tw iv (fun j => some (hw j)) ++ cw (cf cA hw qw g2 l2 s2)).set (18 + 2 * (i * 13 + jj)) (hw (i * 13 + jj), .inr (1, [.ref (qw (i * 13 + jj)), .int (nI L), .int S]))).set (18 + 2 * (i * 13 + jj) + 1) (qw (i * 13 + jj), .inl (cA, 26, .inl (xn_f G)))) H := hP
          have h9 : va_D A (((dx x0 gv cl d0 h0d q0d h0u q0u h0e q0e h0p q0p h0q q0q h0o q0o h0r q0r cA cJ cW n sv a lend fd sgd lenu fu sgu lene fe sge lenp fp sgp lenq fq sgq leno fo sgo lenr fr sgr tw iv (fun j => some (hw j)) ++ cw (cf cA hw qw g2 l2 s2)).set (18 + 2 * (i * 13 + jj)) (hw (i * 13 + jj), .inr (1, [.ref (qw (i * 13 + jj)), .int (nI L), .int S]))).set (18 + 2 * (i * 13 + jj) + 1) (qw (i * 13 + jj), .inl (cA, 26, .inl (xn_f G)))) := hD
          have e9 := cw_pair (X := dx x0 gv cl d0 h0d q0d h0u q0u h0e q0e h0p q0p h0q q0q h0o q0o h0r q0r cA cJ cW n sv a lend fd sgd lenu fu sgu lene fe sge lenp fp sgp lenq fq sgq leno fo sgo lenr fr sgr tw iv (fun j => some (hw j))) (cA := cA) (hw := hw) (qw := qw) (gg := g2) (ln := l2) (sn := s2) (n := 18) (j := (i * 13 + jj)) (L := L) (S := S) (G := G) rfl
          rw [e9] at h8 h9
          have hP : va_P (dC, dI) classes (dw x0 gv cl d0 h0d q0d h0u q0u h0e q0e h0p q0p h0q q0q h0o q0o h0r q0r cA cJ cW n sv a lend fd sgd lenu fu sgu lene fe sge lenp fp sgp lenq fq sgq leno fo sgo lenr fr sgr tw iv hw qw (va_up g2 (i * 13 + jj) G) (va_up l2 (i * 13 + jj) L) (va_up s2 (i * 13 + jj) S)) H := h8
          have hD : va_D A (dw x0 gv cl d0 h0d q0d h0u q0u h0e q0e h0p q0p h0q q0q h0o q0o h0r q0r cA cJ cW n sv a lend fd sgd lenu fu sgu lene fe sge lenp fp sgp lenq fq sgq leno fo sgo lenr fr sgr tw iv hw qw (va_up g2 (i * 13 + jj) G) (va_up l2 (i * 13 + jj) L) (va_up s2 (i * 13 + jj) S)) := h9
          refine lv_iinc (v := nI (jj + 1)) (lv' := [(2, .int (nI (jj + 1))), (3, .int (nI (i * 13 + jj))), (1, .int (nI i)), (0, .ref x0)]) hx hb d_Desk_loadCells_41 hl (k := 1) rfl (nI_1 _) (by decide) rfl (fun ls hl => ?_)
          refine lv_goto (tgt := 12) hx hb d_Desk_loadCells_44 (by decide) ?_
          exact ih2 (jj + 1) (va_up g2 (i * 13 + jj) G) (va_up l2 (i * 13 + jj) L) (va_up s2 (i * 13 + jj) S) (by omega) (fun j hj => by
                        by_cases q : j = i * 13 + jj
                        · subst q; rw [va_up_self, va_up_self, va_up_self]; exact hw0.1
                        · rw [va_up_ne _ _ q, va_up_ne _ _ q, va_up_ne _ _ q]; exact ho2 j hj) (fun i2 j2 h1 h2 => by
                        have q : i2 * 13 + j2 ≠ i * 13 + jj := by omega
                        rw [va_up_ne _ _ q, va_up_ne _ _ q, va_up_ne _ _ q]; exact hz2 i2 j2 h1 h2) (fun j2 h1 => by
                        by_cases q : j2 = jj
                        · subst q; rw [va_up_self, va_up_self, va_up_self]; exact hw0.2
                        · have q2 : i * 13 + j2 ≠ i * 13 + jj := by omega
                          rw [va_up_ne _ _ q2, va_up_ne _ _ q2, va_up_ne _ _ q2]; exact hy2 j2 (by omega)) (by omega) H locs hP hD hS ls (lv_sub hl [0, 2, 3] rfl)
      exact loop2 (n + 2) 0 g1 l1 s1 (Nat.zero_le _) ho1 (fun i2 j2 h1 h2 => hz i2 j2 h1 h2) (fun j2 h1 => by omega) (by omega) H locs hP hD hS ls (lv_sub hl [0, 1, 2] rfl)
  exact loop (n + 1) 0 gg ln sn (Nat.zero_le _) hok (fun i2 j2 h1 h2 => by omega) (by omega) s.heap [] hP hD hS ls (lv_sub hl [0, 1] rfl)
