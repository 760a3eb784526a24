-- THE LAW'S EIGHT CASES
set_option maxHeartbeats 8000000 in
set_option maxRecDepth 100000 in
/-- the law's case 0 -/
theorem lw_c0 {p : Program} {e : Env} {s : State} {m : MethodId} {below : List Frame} {meth : Method} {c : Code} {Q : State → Prop} (l : Launch) (hlt : l.stackTraces = false) {b L : Nat} {xs : Nat → Int32} (hL : L ≤ 2560) (hx : p.tables.exec = Jvm.exec) (hb : c.code = code) (hml : c.maxLocals = 8) (hown : s.vm.findClass R_Law = some m.cls) (hts : ∀ w ∈ gw_tbl, w.before #[Value.ref b] s = true) (hX : va_X b L xs s s.heap) (hbl : b < s.heap.size) {A : Nat → Prop} (hA : ∀ q : Nat, s.heap.size ≤ q → A q) (hbA : ¬ A b) (hE : xt_E A s s.heap)
    (dC : Nat → ClassId) (dI : Nat → Nat → Nat) (x0 gv cl d0 h0d q0d h0u q0u h0e q0e h0p q0p h0q q0q h0o q0o h0r q0r : Nat) (cA cJ cW : ClassId) (m0 ma mS mt mo mb mg mh mr ou : Nat) (hK : va_K (dC, dI) classes [(cA, .int), (cJ, .long), (cW, .object "EquationDesk$Whole")] s) {ka sa kc ks : Nat} (hka : ka + 1 ≤ kc) (hsa : sa + 6 ≤ ks) (hcl : kc ≤ room_1.cells) (hsl : ks ≤ room_1.slots) {i : Nat} (hi : i + 5 ≤ L)
    (kk : ∀ (D : dS) (M : mT) (o1 : Nat → Int64), lw_R D M → ∀ (H : Heap) (locs : List Loc), va_P (dC, dI) classes (mv m0 ma mS mt mo mb mg mh mr cA cJ M ++ (ob ou cJ o1 ++ dv x0 gv cl d0 h0d q0d h0u q0u h0e q0e h0p q0p h0q q0q h0o q0o h0r q0r cA cJ cW D)) H → va_D A (mv m0 ma mS mt mo mb mg mh mr cA cJ M ++ (ob ou cJ o1 ++ dv x0 gv cl d0 h0d q0d h0u q0u h0e q0e h0p q0p h0q q0q h0o q0o h0r q0r cA cJ cW D)) → va_S A s.heap H locs → ∀ ls : Array Slot, lv_has ls 8 [(4, .int (nI i)), (3, .ref ou), (2, .ref m0), (1, .ref x0), (0, .ref b)] → W p l e room_1 s m #[Value.ref b] below meth c H locs kc ks Q (F0 m 537 ls []))
    (D : dS) (M : mT) (o1 : Nat → Int64) (hR : lw_R D M) (H : Heap) (locs : List Loc) (hP : va_P (dC, dI) classes (mv m0 ma mS mt mo mb mg mh mr cA cJ M ++ (ob ou cJ o1 ++ dv x0 gv cl d0 h0d q0d h0u q0u h0e q0e h0p q0p h0q q0q h0o q0o h0r q0r cA cJ cW D)) H) (hD : va_D A (mv m0 ma mS mt mo mb mg mh mr cA cJ M ++ (ob ou cJ o1 ++ dv x0 gv cl d0 h0d q0d h0u q0u h0e q0e h0p q0p h0q q0q h0o q0o h0r q0r cA cJ cW D))) (hS : va_S A s.heap H locs) (ls : Array Slot) (hl : lv_has ls 8 [(4, .int (nI i)), (3, .ref ou), (2, .ref m0), (1, .ref x0), (0, .ref b)]) : W p l e room_1 s m #[Value.ref b] below meth c H locs ka sa Q (F0 m 84 ls []) := by
  refine lv_aload_n hx hb d_Law_law_84 rfl (lv_at hl 3 rfl) ?_
  refine lv_aload_n hx hb d_Law_law_85 rfl (lv_at hl 4 rfl) ?_
  refine lv_iload hx hb d_Law_law_86 (lv_at hl 0 rfl) ?_
  refine lv_iconst (v := nI 1) hx hb d_Law_law_88 rfl ?_
  refine xn_iadd hx hb d_Law_law_89 ?_
  refine lw_sld hx hb hX hbl hbA hS (i := i + 1) (by omega) hL d_Law_law_90 ?_
  have hPc := xz_P hP
  have hDc := (xz_D hD).weaken (B := fun _ => True) (fun _ _ _ _ => trivial)
  have hFc := xz_F hD hS hA
  refine vx_calli (vx_runSX (As := [.ref x0, .int (xs (i + 1))]) (rest := []) ⟨hx, hb, hml, hown, hts⟩ (c_Law_size l hlt dC dI H.size x0 gv cl d0 h0d q0d h0u q0u h0e q0e h0p q0p h0q q0q h0o q0o h0r q0r cA cJ cW ou D o1 (xs (i + 1)) hR.1) (vx_cwSW 2 hts (gw_SW k_ml_Law_43 k_st_Law_size k_ini_Law k_code_Law_size) rfl rfl rfl (by decide +kernel) ⟨(Nat.le_of_ble_eq_true rfl), (Nat.le_of_ble_eq_true rfl)⟩) ⟨xc_X_blind, fun U hU hW => ⟨⟨rfl, by rw [hU], by rw [hU]; exact hPc, va_K.moved hW.alike hK, hDc⟩, by rw [hU]; exact ((hE.kept hS.2.1).narrow hFc).moved hW.alike⟩⟩ rfl rfl hl.1 rfl (lv_room (Nat.le_of_ble_eq_true rfl)) d_Law_law_91 ⟨Nat.le_trans hka hcl, Nat.le_trans hsa hsl⟩) hS (fun q _ h => hFc q h) hFc (fun q _ h => hFc q h) (fun E ce q9 u t_ H locs ht_ hvm_ hpx hBX hz1 hk1 hS hce hcv hcl => False.elim hpx) (fun rr u t_ H locs ht_ hvm_ hw hB hz1 hk1 hS => ?_)
  obtain ⟨hP1, hD1⟩ := hB
  rw [ht_] at hP1
  obtain ⟨hP, hD⟩ := xz_1 hP hD hk1 hFc hP1 hD1
  refine W.widen hka hsa ?_
  have hP : va_P (dC, dI) classes (mv m0 ma mS mt mo mb mg mh mr cA cJ M ++ (ob ou cJ u.2 ++ dv x0 gv cl d0 h0d q0d h0u q0u h0e q0e h0p q0p h0q q0q h0o q0o h0r q0r cA cJ cW u.1)) H := hP
  have hD : va_D A (mv m0 ma mS mt mo mb mg mh mr cA cJ M ++ (ob ou cJ u.2 ++ dv x0 gv cl d0 h0d q0d h0u q0u h0e q0e h0p q0p h0q q0q h0o q0o h0r q0r cA cJ cW u.1)) := hD
  refine lv_istore (lv' := [(5, .int rr), (4, .int (nI i)), (3, .ref ou), (2, .ref m0), (1, .ref x0), (0, .ref b)]) hx hb d_Law_law_94 hl (by decide) rfl (fun ls hl => ?_)
  refine lv_aload_n hx hb d_Law_law_96 rfl (lv_at hl 3 rfl) ?_
  refine lv_aload_n hx hb d_Law_law_97 rfl (lv_at hl 5 rfl) ?_
  refine lv_iload hx hb d_Law_law_98 (lv_at hl 1 rfl) ?_
  refine lv_iconst (v := nI 1) hx hb d_Law_law_100 rfl ?_
  refine xn_iadd hx hb d_Law_law_101 ?_
  refine lw_sld hx hb hX hbl hbA hS (i := i + 1) (by omega) hL d_Law_law_102 ?_
  have hPr := xz_rotP hP
  have hDr := xz_rotD hD
  have hPc := xz_P hPr
  have hDc := (xz_D hDr).weaken (B := fun _ => True) (fun _ _ _ _ => trivial)
  have hFc := xz_F hDr hS hA
  refine va_callv (va_runV (As := [.int (xs (i + 1))]) (rest := []) ⟨hx, hb, hml, hown, hts⟩ (c_Model_size l dC dI H.size m0 ma mS mt mo mb mg mh mr cA cJ M (xs (i + 1)) hR.2.1) (cwV 1 hts (gw_V k_ml_Law_48 k_im_Model_size k_sel_Model_size k_ini_Model k_code_Model_size) rfl rfl rfl (by decide +kernel) ⟨(Nat.le_of_ble_eq_true rfl), (Nat.le_of_ble_eq_true rfl)⟩) ⟨xc_W_blind, va_recv hK hP (ci := 3) (q0 := 0) rfl rfl, fun U hU hW => ⟨rfl, by rw [hU], by rw [hU]; exact hPc, va_K.moved hW.alike (hK.sub (tys' := [(cA, .int), (cJ, .long)]) [0, 1] rfl), hDc⟩⟩ rfl rfl hl.1 rfl (lv_room (Nat.le_of_ble_eq_true rfl)) d_Law_law_103 ⟨hcl, hsl⟩) hS (fun q _ h => hFc q h) hFc (fun w t_ H locs ht_ hvm_ hv hB hz1 hk1 hS => ?_)
  obtain ⟨hP1, hD1⟩ := hB
  rw [ht_] at hP1
  obtain ⟨hP, hD⟩ := xz_1 hPr hDr hk1 hFc hP1 hD1
  have hP := xz_rotP hP
  have hD := xz_rotD hD
  refine W.widen (k := kc) (n := ks) (Nat.le_refl _) (Nat.le_refl _) ?_
  have hP : va_P (dC, dI) classes (mv m0 ma mS mt mo mb mg mh mr cA cJ w ++ (ob ou cJ u.2 ++ dv x0 gv cl d0 h0d q0d h0u q0u h0e q0e h0p q0p h0q q0q h0o q0o h0r q0r cA cJ cW u.1)) H := hP
  have hD : va_D A (mv m0 ma mS mt mo mb mg mh mr cA cJ w ++ (ob ou cJ u.2 ++ dv x0 gv cl d0 h0d q0d h0u q0u h0e q0e h0p q0p h0q q0q h0o q0o h0r q0r cA cJ cW u.1)) := hD
  refine lv_aload_n hx hb d_Law_law_106 rfl (lv_at hl 3 rfl) ?_
  have hPc := xp_P (wc := [(m0, .inr (3, [.int w.er, .int (nI w.n), .int w.sv, .ref ma, .ref mS, .ref mt, .ref mo, .ref mb, .ref mg, .ref mh, .ref mr]))]) hP [0] rfl
  refine vp_callSi (W.runV (As := []) (rest := []) ⟨hx, hb, hml, hown, hts⟩ (c_Model_thrown l dC dI m0 ma mS mt mo mb mg mh mr w.er w.n w.sv) (cwV 0 hts (gw_V k_ml_Law_49 k_im_Model_thrown k_sel_Model_thrown k_ini_Model k_code_Model_thrown) rfl rfl rfl (by decide +kernel) ⟨(Nat.le_of_ble_eq_true rfl), (Nat.le_of_ble_eq_true rfl)⟩) ⟨xc_R_blind, va_recv hK hP (ci := 3) (q0 := 0) rfl rfl, fun U hU hW => ⟨rfl, by rw [hU]; exact hPc, va_K.moved hW.alike (hK.sub (tys' := []) [] rfl)⟩⟩ rfl rfl hl.1 rfl (lv_room (Nat.le_of_ble_eq_true rfl)) d_Law_law_107 ⟨hcl, hsl⟩) (fun r_ e_r => ?_)
  subst e_r
  have hr9 := lr_size hR hw hv
  refine lv_iload hx hb d_Law_law_110 (lv_at hl 0 rfl) ?_
  refine lv_icmp_eq (tgt := 117) hx hb d_Law_law_112 (by decide) (fun hne => ?_) (fun hne => ?_)
  rotate_left
  · exact absurd hr9.1 hne
  refine lv_goto (tgt := 537) hx hb d_Law_law_117 (by decide) ?_
  exact kk u.1 w u.2 hr9.2 H locs hP hD hS ls (lv_sub hl [1, 2, 3, 4, 5] rfl)
set_option maxHeartbeats 8000000 in
set_option maxRecDepth 100000 in
/-- the law's case 1 -/
theorem lw_c1 {p : Program} {e : Env} {s : State} {m : MethodId} {below : List Frame} {meth : Method} {c : Code} {Q : State → Prop} (l : Launch) (hlt : l.stackTraces = false) {b L : Nat} {xs : Nat → Int32} (hL : L ≤ 2560) (hx : p.tables.exec = Jvm.exec) (hb : c.code = code) (hml : c.maxLocals = 8) (hown : s.vm.findClass R_Law = some m.cls) (hts : ∀ w ∈ gw_tbl, w.before #[Value.ref b] s = true) (hX : va_X b L xs s s.heap) (hbl : b < s.heap.size) {A : Nat → Prop} (hA : ∀ q : Nat, s.heap.size ≤ q → A q) (hbA : ¬ A b) (hE : xt_E A s s.heap)
    (dC : Nat → ClassId) (dI : Nat → Nat → Nat) (x0 gv cl d0 h0d q0d h0u q0u h0e q0e h0p q0p h0q q0q h0o q0o h0r q0r : Nat) (cA cJ cW : ClassId) (m0 ma mS mt mo mb mg mh mr ou : Nat) (hK : va_K (dC, dI) classes [(cA, .int), (cJ, .long), (cW, .object "EquationDesk$Whole")] s) {ka sa kc ks : Nat} (hka : ka + 1 ≤ kc) (hsa : sa + 6 ≤ ks) (hcl : kc ≤ room_1.cells) (hsl : ks ≤ room_1.slots) {i : Nat} (hi : i + 5 ≤ L)
    (kk : ∀ (D : dS) (M : mT) (o1 : Nat → Int64), lw_R D M → ∀ (H : Heap) (locs : List Loc), va_P (dC, dI) classes (mv m0 ma mS mt mo mb mg mh mr cA cJ M ++ (ob ou cJ o1 ++ dv x0 gv cl d0 h0d q0d h0u q0u h0e q0e h0p q0p h0q q0q h0o q0o h0r q0r cA cJ cW D)) H → va_D A (mv m0 ma mS mt mo mb mg mh mr cA cJ M ++ (ob ou cJ o1 ++ dv x0 gv cl d0 h0d q0d h0u q0u h0e q0e h0p q0p h0q q0q h0o q0o h0r q0r cA cJ cW D)) → va_S A s.heap H locs → ∀ ls : Array Slot, lv_has ls 8 [(4, .int (nI i)), (3, .ref ou), (2, .ref m0), (1, .ref x0), (0, .ref b)] → W p l e room_1 s m #[Value.ref b] below meth c H locs kc ks Q (F0 m 537 ls []))
    (D : dS) (M : mT) (o1 : Nat → Int64) (hR : lw_R D M) (H : Heap) (locs : List Loc) (hP : va_P (dC, dI) classes (mv m0 ma mS mt mo mb mg mh mr cA cJ M ++ (ob ou cJ o1 ++ dv x0 gv cl d0 h0d q0d h0u q0u h0e q0e h0p q0p h0q q0q h0o q0o h0r q0r cA cJ cW D)) H) (hD : va_D A (mv m0 ma mS mt mo mb mg mh mr cA cJ M ++ (ob ou cJ o1 ++ dv x0 gv cl d0 h0d q0d h0u q0u h0e q0e h0p q0p h0q q0q h0o q0o h0r q0r cA cJ cW D))) (hS : va_S A s.heap H locs) (ls : Array Slot) (hl : lv_has ls 8 [(4, .int (nI i)), (3, .ref ou), (2, .ref m0), (1, .ref x0), (0, .ref b)]) : W p l e room_1 s m #[Value.ref b] below meth c H locs ka sa Q (F0 m 120 ls []) := by
  refine lv_aload_n hx hb d_Law_law_120 rfl (lv_at hl 3 rfl) ?_
  refine lv_aload_n hx hb d_Law_law_121 rfl (lv_at hl 4 rfl) ?_
  refine lv_iload hx hb d_Law_law_122 (lv_at hl 0 rfl) ?_
  refine lv_iconst (v := nI 1) hx hb d_Law_law_124 rfl ?_
  refine xn_iadd hx hb d_Law_law_125 ?_
  refine lw_sld hx hb hX hbl hbA hS (i := i + 1) (by omega) hL d_Law_law_126 ?_
  refine lv_aload_n hx hb d_Law_law_127 rfl (lv_at hl 4 rfl) ?_
  refine lv_iload hx hb d_Law_law_128 (lv_at hl 0 rfl) ?_
  refine lv_iconst (v := nI 2) hx hb d_Law_law_130 rfl ?_
  refine xn_iadd hx hb d_Law_law_131 ?_
  refine lw_sld hx hb hX hbl hbA hS (i := i + 2) (by omega) hL d_Law_law_132 ?_
  refine lv_aload_n hx hb d_Law_law_133 rfl (lv_at hl 4 rfl) ?_
  refine lv_iload hx hb d_Law_law_134 (lv_at hl 0 rfl) ?_
  refine lv_iconst (v := nI 3) hx hb d_Law_law_136 rfl ?_
  refine xn_iadd hx hb d_Law_law_137 ?_
  refine lw_sld hx hb hX hbl hbA hS (i := i + 3) (by omega) hL d_Law_law_138 ?_
  refine lv_i2l (v := (xs (i + 3)).toInt64) hx hb d_Law_law_139 rfl ?_
  refine lv_bipush (v := nI 32) hx hb d_Law_law_140 rfl ?_
  refine lv_lshl (v := ((xs (i + 3)).toInt64) <<< ((nI 32).toInt64 &&& 63)) hx hb d_Law_law_142 rfl ?_
  refine lv_aload_n hx hb d_Law_law_143 rfl (lv_at hl 4 rfl) ?_
  refine lv_iload hx hb d_Law_law_144 (lv_at hl 0 rfl) ?_
  refine lv_iconst (v := nI 4) hx hb d_Law_law_146 rfl ?_
  refine xn_iadd hx hb d_Law_law_147 ?_
  refine lw_sld hx hb hX hbl hbA hS (i := i + 4) (by omega) hL d_Law_law_148 ?_
  refine lv_i2l (v := (xs (i + 4)).toInt64) hx hb d_Law_law_149 rfl ?_
  refine lv_ldc2 (v := lN 4294967295) hx hb hown (hts _ k_ldc_Law_52) d_Law_law_150 ?_
  refine xe_land (v := ((xs (i + 4)).toInt64) &&& (lN 4294967295)) hx hb d_Law_law_153 rfl ?_
  refine xe_lor (v := (((xs (i + 3)).toInt64) <<< ((nI 32).toInt64 &&& 63)) ||| (((xs (i + 4)).toInt64) &&& (lN 4294967295))) hx hb d_Law_law_154 rfl ?_
  refine lv_aload_n hx hb d_Law_law_155 rfl (lv_at hl 1 rfl) ?_
  have hPc := xz_P hP
  have hDc := (xz_D hD).weaken (B := fun _ => True) (fun _ _ _ _ => trivial)
  have hFc := xz_F hD hS hA
  refine vx_calli (vx_runSX (As := [.ref x0, .int (xs (i + 1)), .int (xs (i + 2)), .long ((((xs (i + 3)).toInt64) <<< ((nI 32).toInt64 &&& 63)) ||| (((xs (i + 4)).toInt64) &&& (lN 4294967295))), .ref ou]) (rest := []) ⟨hx, hb, hml, hown, hts⟩ (c_Law_put l hlt dC dI H.size x0 gv cl d0 h0d q0d h0u q0u h0e q0e h0p q0p h0q q0q h0o q0o h0r q0r cA cJ cW ou D o1 (xs (i + 1)) (xs (i + 2)) ((((xs (i + 3)).toInt64) <<< ((nI 32).toInt64 &&& 63)) ||| (((xs (i + 4)).toInt64) &&& (lN 4294967295))) hR.1) (vx_cwSW 5 hts (gw_SW k_ml_Law_54 k_st_Law_put k_ini_Law k_code_Law_put) rfl rfl rfl (by decide +kernel) ⟨(Nat.le_of_ble_eq_true rfl), (Nat.le_of_ble_eq_true rfl)⟩) ⟨xc_X_blind, fun U hU hW => ⟨⟨rfl, by rw [hU], by rw [hU]; exact hPc, va_K.moved hW.alike hK, hDc⟩, by rw [hU]; exact ((hE.kept hS.2.1).narrow hFc).moved hW.alike⟩⟩ rfl rfl hl.1 rfl (lv_room (Nat.le_of_ble_eq_true rfl)) d_Law_law_156 ⟨Nat.le_trans hka hcl, Nat.le_trans hsa hsl⟩) hS (fun q _ h => hFc q h) hFc (fun q _ h => hFc q h) (fun E ce q9 u t_ H locs ht_ hvm_ hpx hBX hz1 hk1 hS hce hcv hcl => False.elim hpx) (fun rr u t_ H locs ht_ hvm_ hw hB hz1 hk1 hS => ?_)
  obtain ⟨hP1, hD1⟩ := hB
  rw [ht_] at hP1
  obtain ⟨hP, hD⟩ := xz_1 hP hD hk1 hFc hP1 hD1
  refine W.widen hka hsa ?_
  have hP : va_P (dC, dI) classes (mv m0 ma mS mt mo mb mg mh mr cA cJ M ++ (ob ou cJ u.2 ++ dv x0 gv cl d0 h0d q0d h0u q0u h0e q0e h0p q0p h0q q0q h0o q0o h0r q0r cA cJ cW u.1)) H := hP
  have hD : va_D A (mv m0 ma mS mt mo mb mg mh mr cA cJ M ++ (ob ou cJ u.2 ++ dv x0 gv cl d0 h0d q0d h0u q0u h0e q0e h0p q0p h0q q0q h0o q0o h0r q0r cA cJ cW u.1)) := hD
  refine lv_istore (lv' := [(5, .int rr), (4, .int (nI i)), (3, .ref ou), (2, .ref m0), (1, .ref x0), (0, .ref b)]) hx hb d_Law_law_159 hl (by decide) rfl (fun ls hl => ?_)
  refine lv_aload_n hx hb d_Law_law_161 rfl (lv_at hl 3 rfl) ?_
  refine lv_aload_n hx hb d_Law_law_162 rfl (lv_at hl 5 rfl) ?_
  refine lv_iload hx hb d_Law_law_163 (lv_at hl 1 rfl) ?_
  refine lv_iconst (v := nI 1) hx hb d_Law_law_165 rfl ?_
  refine xn_iadd hx hb d_Law_law_166 ?_
  refine lw_sld hx hb hX hbl hbA hS (i := i + 1) (by omega) hL d_Law_law_167 ?_
  refine lv_aload_n hx hb d_Law_law_168 rfl (lv_at hl 5 rfl) ?_
  refine lv_iload hx hb d_Law_law_169 (lv_at hl 1 rfl) ?_
  refine lv_iconst (v := nI 2) hx hb d_Law_law_171 rfl ?_
  refine xn_iadd hx hb d_Law_law_172 ?_
  refine lw_sld hx hb hX hbl hbA hS (i := i + 2) (by omega) hL d_Law_law_173 ?_
  refine lv_aload_n hx hb d_Law_law_174 rfl (lv_at hl 5 rfl) ?_
  refine lv_iload hx hb d_Law_law_175 (lv_at hl 1 rfl) ?_
  refine lv_iconst (v := nI 3) hx hb d_Law_law_177 rfl ?_
  refine xn_iadd hx hb d_Law_law_178 ?_
  refine lw_sld hx hb hX hbl hbA hS (i := i + 3) (by omega) hL d_Law_law_179 ?_
  refine lv_i2l (v := (xs (i + 3)).toInt64) hx hb d_Law_law_180 rfl ?_
  refine lv_bipush (v := nI 32) hx hb d_Law_law_181 rfl ?_
  refine lv_lshl (v := ((xs (i + 3)).toInt64) <<< ((nI 32).toInt64 &&& 63)) hx hb d_Law_law_183 rfl ?_
  refine lv_aload_n hx hb d_Law_law_184 rfl (lv_at hl 5 rfl) ?_
  refine lv_iload hx hb d_Law_law_185 (lv_at hl 1 rfl) ?_
  refine lv_iconst (v := nI 4) hx hb d_Law_law_187 rfl ?_
  refine xn_iadd hx hb d_Law_law_188 ?_
  refine lw_sld hx hb hX hbl hbA hS (i := i + 4) (by omega) hL d_Law_law_189 ?_
  refine lv_i2l (v := (xs (i + 4)).toInt64) hx hb d_Law_law_190 rfl ?_
  refine lv_ldc2 (v := lN 4294967295) hx hb hown (hts _ k_ldc_Law_52) d_Law_law_191 ?_
  refine xe_land (v := ((xs (i + 4)).toInt64) &&& (lN 4294967295)) hx hb d_Law_law_194 rfl ?_
  refine xe_lor (v := (((xs (i + 3)).toInt64) <<< ((nI 32).toInt64 &&& 63)) ||| (((xs (i + 4)).toInt64) &&& (lN 4294967295))) hx hb d_Law_law_195 rfl ?_
  have hPr := xz_rotP hP
  have hDr := xz_rotD hD
  have hPc := xz_P hPr
  have hDc := (xz_D hDr).weaken (B := fun _ => True) (fun _ _ _ _ => trivial)
  have hFc := xz_F hDr hS hA
  refine va_calll (va_runV (As := [.int (xs (i + 1)), .int (xs (i + 2)), .long ((((xs (i + 3)).toInt64) <<< ((nI 32).toInt64 &&& 63)) ||| (((xs (i + 4)).toInt64) &&& (lN 4294967295)))]) (rest := []) ⟨hx, hb, hml, hown, hts⟩ (c_Model_put l dC dI H.size m0 ma mS mt mo mb mg mh mr cA cJ M (xs (i + 1)) (xs (i + 2)) ((((xs (i + 3)).toInt64) <<< ((nI 32).toInt64 &&& 63)) ||| (((xs (i + 4)).toInt64) &&& (lN 4294967295))) hR.2.1) (cwV 3 hts (gw_V k_ml_Law_57 k_im_Model_put k_sel_Model_put k_ini_Model k_code_Model_put) rfl rfl rfl (by decide +kernel) ⟨(Nat.le_of_ble_eq_true rfl), (Nat.le_of_ble_eq_true rfl)⟩) ⟨xc_W_blind, va_recv hK hP (ci := 3) (q0 := 0) rfl rfl, fun U hU hW => ⟨rfl, by rw [hU], by rw [hU]; exact hPc, va_K.moved hW.alike (hK.sub (tys' := [(cA, .int), (cJ, .long)]) [0, 1] rfl), hDc⟩⟩ rfl rfl hl.1 rfl (lv_room (Nat.le_of_ble_eq_true rfl)) d_Law_law_196 ⟨hcl, hsl⟩) hS (fun q _ h => hFc q h) hFc (fun r2 w t_ H locs ht_ hvm_ hv hB hz1 hk1 hS => ?_)
  obtain ⟨hP1, hD1⟩ := hB
  rw [ht_] at hP1
  obtain ⟨hP, hD⟩ := xz_1 hPr hDr hk1 hFc hP1 hD1
  have hP := xz_rotP hP
  have hD := xz_rotD hD
  refine W.widen (k := kc) (n := ks) (Nat.le_refl _) (Nat.le_refl _) ?_
  have hP : va_P (dC, dI) classes (mv m0 ma mS mt mo mb mg mh mr cA cJ w ++ (ob ou cJ u.2 ++ dv x0 gv cl d0 h0d q0d h0u q0u h0e q0e h0p q0p h0q q0q h0o q0o h0r q0r cA cJ cW u.1)) H := hP
  have hD : va_D A (mv m0 ma mS mt mo mb mg mh mr cA cJ w ++ (ob ou cJ u.2 ++ dv x0 gv cl d0 h0d q0d h0u q0u h0e q0e h0p q0p h0q q0q h0o q0o h0r q0r cA cJ cW u.1)) := hD
  refine lv_lstore (lv' := [(6, .long r2), (5, .int rr), (4, .int (nI i)), (3, .ref ou), (2, .ref m0), (1, .ref x0), (0, .ref b)]) hx hb d_Law_law_199 hl (by decide) rfl (fun ls hl => ?_)
  refine lv_aload_n hx hb d_Law_law_201 rfl (lv_at hl 4 rfl) ?_
  have hPc := xp_P (wc := [(m0, .inr (3, [.int w.er, .int (nI w.n), .int w.sv, .ref ma, .ref mS, .ref mt, .ref mo, .ref mb, .ref mg, .ref mh, .ref mr]))]) hP [0] rfl
  refine vp_callSi (W.runV (As := []) (rest := []) ⟨hx, hb, hml, hown, hts⟩ (c_Model_thrown l dC dI m0 ma mS mt mo mb mg mh mr w.er w.n w.sv) (cwV 0 hts (gw_V k_ml_Law_49 k_im_Model_thrown k_sel_Model_thrown k_ini_Model k_code_Model_thrown) rfl rfl rfl (by decide +kernel) ⟨(Nat.le_of_ble_eq_true rfl), (Nat.le_of_ble_eq_true rfl)⟩) ⟨xc_R_blind, va_recv hK hP (ci := 3) (q0 := 0) rfl rfl, fun U hU hW => ⟨rfl, by rw [hU]; exact hPc, va_K.moved hW.alike (hK.sub (tys' := []) [] rfl)⟩⟩ rfl rfl hl.1 rfl (lv_room (Nat.le_of_ble_eq_true rfl)) d_Law_law_202 ⟨hcl, hsl⟩) (fun r_ e_r => ?_)
  subst e_r
  have hr9 := lr_put hR hw hv
  refine lv_iload hx hb d_Law_law_205 (lv_at hl 1 rfl) ?_
  refine lv_icmp_eq (tgt := 212) hx hb d_Law_law_207 (by decide) (fun hne => ?_) (fun hne => ?_)
  rotate_left
  · exact absurd hr9.1 hne
  refine lv_iload hx hb d_Law_law_212 (lv_at hl 1 rfl) ?_
  refine lv_if_ne (tgt := 228) hx hb d_Law_law_214 (by decide) (fun hk0 => ?_) (fun hk0 => ?_)
  · refine lv_goto (tgt := 537) hx hb d_Law_law_228 (by decide) ?_
    exact kk u.1 w u.2 hr9.2.2 H locs hP hD hS ls (lv_sub hl [2, 3, 4, 5, 6] rfl)
  refine lv_aload_n hx hb d_Law_law_217 rfl (lv_at hl 3 rfl) ?_
  refine lv_iconst (v := nI 0) hx hb d_Law_law_218 rfl ?_
  refine xn_lald hx hb hK hP 9 1 rfl rfl (i := 0) (by decide) (by decide) d_Law_law_219 ?_
  refine lv_lload hx hb d_Law_law_220 (lv_at hl 0 rfl) ?_
  refine W.lcmp hx hb d_Law_law_222 ?_
  refine lv_if_eq (tgt := 228) hx hb d_Law_law_223 (by decide) (fun hq0 => ?_) (fun hq0 => ?_)
  rotate_left
  · exact absurd ((lg_cmp_eq _ _).mpr (hr9.2.1 hk0)) hq0
  refine lv_goto (tgt := 537) hx hb d_Law_law_228 (by decide) ?_
  exact kk u.1 w u.2 hr9.2.2 H locs hP hD hS ls (lv_sub hl [2, 3, 4, 5, 6] rfl)
set_option maxHeartbeats 8000000 in
set_option maxRecDepth 100000 in
/-- the law's case 2 -/
theorem lw_c2 {p : Program} {e : Env} {s : State} {m : MethodId} {below : List Frame} {meth : Method} {c : Code} {Q : State → Prop} (l : Launch) (hlt : l.stackTraces = false) {b L : Nat} {xs : Nat → Int32} (hL : L ≤ 2560) (hx : p.tables.exec = Jvm.exec) (hb : c.code = code) (hml : c.maxLocals = 8) (hown : s.vm.findClass R_Law = some m.cls) (hts : ∀ w ∈ gw_tbl, w.before #[Value.ref b] s = true) (hX : va_X b L xs s s.heap) (hbl : b < s.heap.size) {A : Nat → Prop} (hA : ∀ q : Nat, s.heap.size ≤ q → A q) (hbA : ¬ A b) (hE : xt_E A s s.heap)
    (dC : Nat → ClassId) (dI : Nat → Nat → Nat) (x0 gv cl d0 h0d q0d h0u q0u h0e q0e h0p q0p h0q q0q h0o q0o h0r q0r : Nat) (cA cJ cW : ClassId) (m0 ma mS mt mo mb mg mh mr ou : Nat) (hK : va_K (dC, dI) classes [(cA, .int), (cJ, .long), (cW, .object "EquationDesk$Whole")] s) {ka sa kc ks : Nat} (hka : ka + 1 ≤ kc) (hsa : sa + 6 ≤ ks) (hcl : kc ≤ room_1.cells) (hsl : ks ≤ room_1.slots) {i : Nat} (hi : i + 5 ≤ L)
    (kk : ∀ (D : dS) (M : mT) (o1 : Nat → Int64), lw_R D M → ∀ (H : Heap) (locs : List Loc), va_P (dC, dI) classes (mv m0 ma mS mt mo mb mg mh mr cA cJ M ++ (ob ou cJ o1 ++ dv x0 gv cl d0 h0d q0d h0u q0u h0e q0e h0p q0p h0q q0q h0o q0o h0r q0r cA cJ cW D)) H → va_D A (mv m0 ma mS mt mo mb mg mh mr cA cJ M ++ (ob ou cJ o1 ++ dv x0 gv cl d0 h0d q0d h0u q0u h0e q0e h0p q0p h0q q0q h0o q0o h0r q0r cA cJ cW D)) → va_S A s.heap H locs → ∀ ls : Array Slot, lv_has ls 8 [(4, .int (nI i)), (3, .ref ou), (2, .ref m0), (1, .ref x0), (0, .ref b)] → W p l e room_1 s m #[Value.ref b] below meth c H locs kc ks Q (F0 m 537 ls []))
    (D : dS) (M : mT) (o1 : Nat → Int64) (hR : lw_R D M) (H : Heap) (locs : List Loc) (hP : va_P (dC, dI) classes (mv m0 ma mS mt mo mb mg mh mr cA cJ M ++ (ob ou cJ o1 ++ dv x0 gv cl d0 h0d q0d h0u q0u h0e q0e h0p q0p h0q q0q h0o q0o h0r q0r cA cJ cW D)) H) (hD : va_D A (mv m0 ma mS mt mo mb mg mh mr cA cJ M ++ (ob ou cJ o1 ++ dv x0 gv cl d0 h0d q0d h0u q0u h0e q0e h0p q0p h0q q0q h0o q0o h0r q0r cA cJ cW D))) (hS : va_S A s.heap H locs) (ls : Array Slot) (hl : lv_has ls 8 [(4, .int (nI i)), (3, .ref ou), (2, .ref m0), (1, .ref x0), (0, .ref b)]) : W p l e room_1 s m #[Value.ref b] below meth c H locs ka sa Q (F0 m 231 ls []) := by
  refine lv_aload_n hx hb d_Law_law_231 rfl (lv_at hl 3 rfl) ?_
  have hPa : va_P (dC, dI) classes ((mv m0 ma mS mt mo mb mg mh mr cA cJ M ++ ob ou cJ o1) ++ dv x0 gv cl d0 h0d q0d h0u q0u h0e q0e h0p q0p h0q q0q h0o q0o h0r q0r cA cJ cW D) H := by rw [List.append_assoc]; exact hP
  have hDa : va_D A ((mv m0 ma mS mt mo mb mg mh mr cA cJ M ++ ob ou cJ o1) ++ dv x0 gv cl d0 h0d q0d h0u q0u h0e q0e h0p q0p h0q q0q h0o q0o h0r q0r cA cJ cW D) := by rw [List.append_assoc]; exact hD
  have hPc := xz_P hPa
  have hDc := (xz_D hDa).weaken (B := fun _ => True) (fun _ _ _ _ => trivial)
  have hFc := xz_F hDa hS hA
  refine va_calli (va_runV (As := []) (rest := []) ⟨hx, hb, hml, hown, hts⟩ (c_Desk_solve l dC dI H.size x0 gv cl d0 h0d q0d h0u q0u h0e q0e h0p q0p h0q q0q h0o q0o h0r q0r cA cJ cW D hR.1) (cwV 0 hts (gw_V k_ml_Law_58 k_im_Desk_solve k_sel_Desk_solve k_ini_Desk k_code_Desk_solve) rfl rfl rfl (by decide +kernel) ⟨(Nat.le_of_ble_eq_true rfl), (Nat.le_of_ble_eq_true rfl)⟩) ⟨xc_W_blind, va_recv hK hPc (ci := 0) (q0 := 0) rfl rfl, fun U hU hW => ⟨rfl, by rw [hU], by rw [hU]; exact hPc, va_K.moved hW.alike hK, hDc⟩⟩ rfl rfl hl.1 rfl (lv_room (Nat.le_of_ble_eq_true rfl)) d_Law_law_232 ⟨Nat.le_trans (Nat.le_of_succ_le hka) hcl, Nat.le_trans (Nat.le_trans (Nat.le_add_right _ 6) hsa) hsl⟩) hS (fun q _ h => hFc q h) hFc (fun rr u t_ H locs ht_ hvm_ hw hB hz1 hk1 hS => ?_)
  obtain ⟨hP1, hD1⟩ := hB
  rw [ht_] at hP1
  obtain ⟨hP, hD⟩ := xz_1 hPa hDa hk1 hFc hP1 hD1
  rw [List.append_assoc] at hP hD
  refine W.widen (k := kc) (n := ks) (Nat.le_of_succ_le hka) (Nat.le_trans (Nat.le_add_right _ 6) hsa) ?_
  have hP : va_P (dC, dI) classes (mv m0 ma mS mt mo mb mg mh mr cA cJ M ++ (ob ou cJ o1 ++ dv x0 gv cl d0 h0d q0d h0u q0u h0e q0e h0p q0p h0q q0q h0o q0o h0r q0r cA cJ cW u)) H := hP
  have hD : va_D A (mv m0 ma mS mt mo mb mg mh mr cA cJ M ++ (ob ou cJ o1 ++ dv x0 gv cl d0 h0d q0d h0u q0u h0e q0e h0p q0p h0q q0q h0o q0o h0r q0r cA cJ cW u)) := hD
  refine lv_aload_n hx hb d_Law_law_235 rfl (lv_at hl 2 rfl) ?_
  have hPr := xz_rotP hP
  have hDr := xz_rotD hD
  have hPc := xz_P hPr
  have hDc := (xz_D hDr).weaken (B := fun _ => True) (fun _ _ _ _ => trivial)
  have hFc := xz_F hDr hS hA
  refine va_calli (va_runV (As := []) (rest := [.int rr]) ⟨hx, hb, hml, hown, hts⟩ (c_Model_solve l dC dI H.size m0 ma mS mt mo mb mg mh mr cA cJ M  hR.2.1) (cwV 0 hts (gw_V k_ml_Law_62 k_im_Model_solve k_sel_Model_solve k_ini_Model k_code_Model_solve) rfl rfl rfl (by decide +kernel) ⟨(Nat.le_of_ble_eq_true rfl), (Nat.le_of_ble_eq_true rfl)⟩) ⟨xc_W_blind, va_recv hK hP (ci := 3) (q0 := 0) rfl rfl, fun U hU hW => ⟨rfl, by rw [hU], by rw [hU]; exact hPc, va_K.moved hW.alike (hK.sub (tys' := [(cA, .int), (cJ, .long)]) [0, 1] rfl), hDc⟩⟩ rfl rfl hl.1 rfl (lv_room (Nat.le_of_ble_eq_true rfl)) d_Law_law_236 ⟨hcl, hsl⟩) hS (fun q _ h => hFc q h) hFc (fun r2 w t_ H locs ht_ hvm_ hv hB hz1 hk1 hS => ?_)
  obtain ⟨hP1, hD1⟩ := hB
  rw [ht_] at hP1
  obtain ⟨hP, hD⟩ := xz_1 hPr hDr hk1 hFc hP1 hD1
  have hP := xz_rotP hP
  have hD := xz_rotD hD
  refine W.widen (k := kc) (n := ks) (Nat.le_refl _) (Nat.le_refl _) ?_
  have hP : va_P (dC, dI) classes (mv m0 ma mS mt mo mb mg mh mr cA cJ w ++ (ob ou cJ o1 ++ dv x0 gv cl d0 h0d q0d h0u q0u h0e q0e h0p q0p h0q q0q h0o q0o h0r q0r cA cJ cW u)) H := hP
  have hD : va_D A (mv m0 ma mS mt mo mb mg mh mr cA cJ w ++ (ob ou cJ o1 ++ dv x0 gv cl d0 h0d q0d h0u q0u h0e q0e h0p q0p h0q q0q h0o q0o h0r q0r cA cJ cW u)) := hD
  have hr9 := lr_solve hR hw hv
  refine lv_icmp_eq (tgt := 537) hx hb d_Law_law_239 (by decide) (fun hne => ?_) (fun hne => ?_)
  rotate_left
  · exact absurd hr9.1 hne
  exact kk u w o1 hr9.2 H locs hP hD hS ls (lv_sub hl [0, 1, 2, 3, 4] rfl)
set_option maxHeartbeats 8000000 in
set_option maxRecDepth 100000 in
/-- the law's case 3 -/
theorem lw_c3 {p : Program} {e : Env} {s : State} {m : MethodId} {below : List Frame} {meth : Method} {c : Code} {Q : State → Prop} (l : Launch) (hlt : l.stackTraces = false) {b L : Nat} {xs : Nat → Int32} (hL : L ≤ 2560) (hx : p.tables.exec = Jvm.exec) (hb : c.code = code) (hml : c.maxLocals = 8) (hown : s.vm.findClass R_Law = some m.cls) (hts : ∀ w ∈ gw_tbl, w.before #[Value.ref b] s = true) (hX : va_X b L xs s s.heap) (hbl : b < s.heap.size) {A : Nat → Prop} (hA : ∀ q : Nat, s.heap.size ≤ q → A q) (hbA : ¬ A b) (hE : xt_E A s s.heap)
    (dC : Nat → ClassId) (dI : Nat → Nat → Nat) (x0 gv cl d0 h0d q0d h0u q0u h0e q0e h0p q0p h0q q0q h0o q0o h0r q0r : Nat) (cA cJ cW : ClassId) (m0 ma mS mt mo mb mg mh mr ou : Nat) (hK : va_K (dC, dI) classes [(cA, .int), (cJ, .long), (cW, .object "EquationDesk$Whole")] s) {ka sa kc ks : Nat} (hka : ka + 1 ≤ kc) (hsa : sa + 6 ≤ ks) (hcl : kc ≤ room_1.cells) (hsl : ks ≤ room_1.slots) {i : Nat} (hi : i + 5 ≤ L)
    (kk : ∀ (D : dS) (M : mT) (o1 : Nat → Int64), lw_R D M → ∀ (H : Heap) (locs : List Loc), va_P (dC, dI) classes (mv m0 ma mS mt mo mb mg mh mr cA cJ M ++ (ob ou cJ o1 ++ dv x0 gv cl d0 h0d q0d h0u q0u h0e q0e h0p q0p h0q q0q h0o q0o h0r q0r cA cJ cW D)) H → va_D A (mv m0 ma mS mt mo mb mg mh mr cA cJ M ++ (ob ou cJ o1 ++ dv x0 gv cl d0 h0d q0d h0u q0u h0e q0e h0p q0p h0q q0q h0o q0o h0r q0r cA cJ cW D)) → va_S A s.heap H locs → ∀ ls : Array Slot, lv_has ls 8 [(4, .int (nI i)), (3, .ref ou), (2, .ref m0), (1, .ref x0), (0, .ref b)] → W p l e room_1 s m #[Value.ref b] below meth c H locs kc ks Q (F0 m 537 ls []))
    (D : dS) (M : mT) (o1 : Nat → Int64) (hR : lw_R D M) (H : Heap) (locs : List Loc) (hP : va_P (dC, dI) classes (mv m0 ma mS mt mo mb mg mh mr cA cJ M ++ (ob ou cJ o1 ++ dv x0 gv cl d0 h0d q0d h0u q0u h0e q0e h0p q0p h0q q0q h0o q0o h0r q0r cA cJ cW D)) H) (hD : va_D A (mv m0 ma mS mt mo mb mg mh mr cA cJ M ++ (ob ou cJ o1 ++ dv x0 gv cl d0 h0d q0d h0u q0u h0e q0e h0p q0p h0q q0q h0o q0o h0r q0r cA cJ cW D))) (hS : va_S A s.heap H locs) (ls : Array Slot) (hl : lv_has ls 8 [(4, .int (nI i)), (3, .ref ou), (2, .ref m0), (1, .ref x0), (0, .ref b)]) : W p l e room_1 s m #[Value.ref b] below meth c H locs ka sa Q (F0 m 244 ls []) := by
  refine lv_aload_n hx hb d_Law_law_244 rfl (lv_at hl 3 rfl) ?_
  refine lv_aload_n hx hb d_Law_law_245 rfl (lv_at hl 4 rfl) ?_
  refine lv_iload hx hb d_Law_law_246 (lv_at hl 0 rfl) ?_
  refine lv_iconst (v := nI 1) hx hb d_Law_law_248 rfl ?_
  refine xn_iadd hx hb d_Law_law_249 ?_
  refine lw_sld hx hb hX hbl hbA hS (i := i + 1) (by omega) hL d_Law_law_250 ?_
  refine lv_aload_n hx hb d_Law_law_251 rfl (lv_at hl 1 rfl) ?_
  have hPc := xz_P hP
  have hDc := (xz_D hD).weaken (B := fun _ => True) (fun _ _ _ _ => trivial)
  have hFc := xz_F hD hS hA
  refine vx_calli (vx_runSX (As := [.ref x0, .int (xs (i + 1)), .ref ou]) (rest := []) ⟨hx, hb, hml, hown, hts⟩ (c_Law_unknown l hlt dC dI H.size x0 gv cl d0 h0d q0d h0u q0u h0e q0e h0p q0p h0q q0q h0o q0o h0r q0r cA cJ cW ou D o1 (xs (i + 1)) hR.1) (vx_cwSW 3 hts (gw_SW k_ml_Law_63 k_st_Law_unknown k_ini_Law k_code_Law_unknown) rfl rfl rfl (by decide +kernel) ⟨(Nat.le_of_ble_eq_true rfl), (Nat.le_of_ble_eq_true rfl)⟩) ⟨xc_X_blind, fun U hU hW => ⟨⟨rfl, by rw [hU], by rw [hU]; exact hPc, va_K.moved hW.alike hK, hDc⟩, by rw [hU]; exact ((hE.kept hS.2.1).narrow hFc).moved hW.alike⟩⟩ rfl rfl hl.1 rfl (lv_room (Nat.le_of_ble_eq_true rfl)) d_Law_law_252 ⟨Nat.le_trans hka hcl, Nat.le_trans hsa hsl⟩) hS (fun q _ h => hFc q h) hFc (fun q _ h => hFc q h) (fun E ce q9 u t_ H locs ht_ hvm_ hpx hBX hz1 hk1 hS hce hcv hcl => False.elim hpx) (fun rr u t_ H locs ht_ hvm_ hw hB hz1 hk1 hS => ?_)
  obtain ⟨hP1, hD1⟩ := hB
  rw [ht_] at hP1
  obtain ⟨hP, hD⟩ := xz_1 hP hD hk1 hFc hP1 hD1
  refine W.widen hka hsa ?_
  have hP : va_P (dC, dI) classes (mv m0 ma mS mt mo mb mg mh mr cA cJ M ++ (ob ou cJ u.2 ++ dv x0 gv cl d0 h0d q0d h0u q0u h0e q0e h0p q0p h0q q0q h0o q0o h0r q0r cA cJ cW u.1)) H := hP
  have hD : va_D A (mv m0 ma mS mt mo mb mg mh mr cA cJ M ++ (ob ou cJ u.2 ++ dv x0 gv cl d0 h0d q0d h0u q0u h0e q0e h0p q0p h0q q0q h0o q0o h0r q0r cA cJ cW u.1)) := hD
  refine lv_istore (lv' := [(5, .int rr), (4, .int (nI i)), (3, .ref ou), (2, .ref m0), (1, .ref x0), (0, .ref b)]) hx hb d_Law_law_255 hl (by decide) rfl (fun ls hl => ?_)
  refine lv_aload_n hx hb d_Law_law_257 rfl (lv_at hl 3 rfl) ?_
  refine lv_aload_n hx hb d_Law_law_258 rfl (lv_at hl 5 rfl) ?_
  refine lv_iload hx hb d_Law_law_259 (lv_at hl 1 rfl) ?_
  refine lv_iconst (v := nI 1) hx hb d_Law_law_261 rfl ?_
  refine xn_iadd hx hb d_Law_law_262 ?_
  refine lw_sld hx hb hX hbl hbA hS (i := i + 1) (by omega) hL d_Law_law_263 ?_
  have hPr := xz_rotP hP
  have hDr := xz_rotD hD
  have hPc := xz_P hPr
  have hDc := (xz_D hDr).weaken (B := fun _ => True) (fun _ _ _ _ => trivial)
  have hFc := xz_F hDr hS hA
  refine va_calli (va_runV (As := [.int (xs (i + 1))]) (rest := []) ⟨hx, hb, hml, hown, hts⟩ (c_Model_unknown l dC dI H.size m0 ma mS mt mo mb mg mh mr cA cJ M (xs (i + 1)) hR.2.1) (cwV 1 hts (gw_V k_ml_Law_66 k_im_Model_unknown k_sel_Model_unknown k_ini_Model k_code_Model_unknown) rfl rfl rfl (by decide +kernel) ⟨(Nat.le_of_ble_eq_true rfl), (Nat.le_of_ble_eq_true rfl)⟩) ⟨xc_W_blind, va_recv hK hP (ci := 3) (q0 := 0) rfl rfl, fun U hU hW => ⟨rfl, by rw [hU], by rw [hU]; exact hPc, va_K.moved hW.alike (hK.sub (tys' := [(cA, .int), (cJ, .long)]) [0, 1] rfl), hDc⟩⟩ rfl rfl hl.1 rfl (lv_room (Nat.le_of_ble_eq_true rfl)) d_Law_law_264 ⟨hcl, hsl⟩) hS (fun q _ h => hFc q h) hFc (fun r2 w t_ H locs ht_ hvm_ hv hB hz1 hk1 hS => ?_)
  obtain ⟨hP1, hD1⟩ := hB
  rw [ht_] at hP1
  obtain ⟨hP, hD⟩ := xz_1 hPr hDr hk1 hFc hP1 hD1
  have hP := xz_rotP hP
  have hD := xz_rotD hD
  refine W.widen (k := kc) (n := ks) (Nat.le_refl _) (Nat.le_refl _) ?_
  have hP : va_P (dC, dI) classes (mv m0 ma mS mt mo mb mg mh mr cA cJ w ++ (ob ou cJ u.2 ++ dv x0 gv cl d0 h0d q0d h0u q0u h0e q0e h0p q0p h0q q0q h0o q0o h0r q0r cA cJ cW u.1)) H := hP
  have hD : va_D A (mv m0 ma mS mt mo mb mg mh mr cA cJ w ++ (ob ou cJ u.2 ++ dv x0 gv cl d0 h0d q0d h0u q0u h0e q0e h0p q0p h0q q0q h0o q0o h0r q0r cA cJ cW u.1)) := hD
  refine lv_istore (lv' := [(6, .int r2), (5, .int rr), (4, .int (nI i)), (3, .ref ou), (2, .ref m0), (1, .ref x0), (0, .ref b)]) hx hb d_Law_law_267 hl (by decide) rfl (fun ls hl => ?_)
  refine lv_aload_n hx hb d_Law_law_269 rfl (lv_at hl 4 rfl) ?_
  have hPc := xp_P (wc := [(m0, .inr (3, [.int w.er, .int (nI w.n), .int w.sv, .ref ma, .ref mS, .ref mt, .ref mo, .ref mb, .ref mg, .ref mh, .ref mr]))]) hP [0] rfl
  refine vp_callSi (W.runV (As := []) (rest := []) ⟨hx, hb, hml, hown, hts⟩ (c_Model_thrown l dC dI m0 ma mS mt mo mb mg mh mr w.er w.n w.sv) (cwV 0 hts (gw_V k_ml_Law_49 k_im_Model_thrown k_sel_Model_thrown k_ini_Model k_code_Model_thrown) rfl rfl rfl (by decide +kernel) ⟨(Nat.le_of_ble_eq_true rfl), (Nat.le_of_ble_eq_true rfl)⟩) ⟨xc_R_blind, va_recv hK hP (ci := 3) (q0 := 0) rfl rfl, fun U hU hW => ⟨rfl, by rw [hU]; exact hPc, va_K.moved hW.alike (hK.sub (tys' := []) [] rfl)⟩⟩ rfl rfl hl.1 rfl (lv_room (Nat.le_of_ble_eq_true rfl)) d_Law_law_270 ⟨hcl, hsl⟩) (fun r_ e_r => ?_)
  subst e_r
  have hr9 := lr_unknown hR hw hv
  refine lv_iload hx hb d_Law_law_273 (lv_at hl 1 rfl) ?_
  refine lv_icmp_eq (tgt := 280) hx hb d_Law_law_275 (by decide) (fun hne => ?_) (fun hne => ?_)
  rotate_left
  · exact absurd hr9.1 hne
  refine lv_iload hx hb d_Law_law_280 (lv_at hl 1 rfl) ?_
  refine lv_if_ne (tgt := 297) hx hb d_Law_law_282 (by decide) (fun hk0 => ?_) (fun hk0 => ?_)
  · refine lv_goto (tgt := 537) hx hb d_Law_law_297 (by decide) ?_
    exact kk u.1 w u.2 hr9.2.2 H locs hP hD hS ls (lv_sub hl [2, 3, 4, 5, 6] rfl)
  refine lv_aload_n hx hb d_Law_law_285 rfl (lv_at hl 3 rfl) ?_
  refine lv_iconst (v := nI 0) hx hb d_Law_law_286 rfl ?_
  refine xn_lald hx hb hK hP 9 1 rfl rfl (i := 0) (by decide) (by decide) d_Law_law_287 ?_
  refine lv_iload hx hb d_Law_law_288 (lv_at hl 0 rfl) ?_
  refine lv_i2l (v := r2.toInt64) hx hb d_Law_law_290 rfl ?_
  refine W.lcmp hx hb d_Law_law_291 ?_
  refine lv_if_eq (tgt := 297) hx hb d_Law_law_292 (by decide) (fun hq0 => ?_) (fun hq0 => ?_)
  rotate_left
  · exact absurd ((lg_cmp_eq _ _).mpr (hr9.2.1 hk0)) hq0
  refine lv_goto (tgt := 537) hx hb d_Law_law_297 (by decide) ?_
  exact kk u.1 w u.2 hr9.2.2 H locs hP hD hS ls (lv_sub hl [2, 3, 4, 5, 6] rfl)
set_option maxHeartbeats 8000000 in
set_option maxRecDepth 100000 in
/-- the law's case 4 -/
theorem lw_c4 {p : Program} {e : Env} {s : State} {m : MethodId} {below : List Frame} {meth : Method} {c : Code} {Q : State → Prop} (l : Launch) (hlt : l.stackTraces = false) {b L : Nat} {xs : Nat → Int32} (hL : L ≤ 2560) (hx : p.tables.exec = Jvm.exec) (hb : c.code = code) (hml : c.maxLocals = 8) (hown : s.vm.findClass R_Law = some m.cls) (hts : ∀ w ∈ gw_tbl, w.before #[Value.ref b] s = true) (hX : va_X b L xs s s.heap) (hbl : b < s.heap.size) {A : Nat → Prop} (hA : ∀ q : Nat, s.heap.size ≤ q → A q) (hbA : ¬ A b) (hE : xt_E A s s.heap)
    (dC : Nat → ClassId) (dI : Nat → Nat → Nat) (x0 gv cl d0 h0d q0d h0u q0u h0e q0e h0p q0p h0q q0q h0o q0o h0r q0r : Nat) (cA cJ cW : ClassId) (m0 ma mS mt mo mb mg mh mr ou : Nat) (hK : va_K (dC, dI) classes [(cA, .int), (cJ, .long), (cW, .object "EquationDesk$Whole")] s) {ka sa kc ks : Nat} (hka : ka + 1 ≤ kc) (hsa : sa + 6 ≤ ks) (hcl : kc ≤ room_1.cells) (hsl : ks ≤ room_1.slots) {i : Nat} (hi : i + 5 ≤ L)
    (kk : ∀ (D : dS) (M : mT) (o1 : Nat → Int64), lw_R D M → ∀ (H : Heap) (locs : List Loc), va_P (dC, dI) classes (mv m0 ma mS mt mo mb mg mh mr cA cJ M ++ (ob ou cJ o1 ++ dv x0 gv cl d0 h0d q0d h0u q0u h0e q0e h0p q0p h0q q0q h0o q0o h0r q0r cA cJ cW D)) H → va_D A (mv m0 ma mS mt mo mb mg mh mr cA cJ M ++ (ob ou cJ o1 ++ dv x0 gv cl d0 h0d q0d h0u q0u h0e q0e h0p q0p h0q q0q h0o q0o h0r q0r cA cJ cW D)) → va_S A s.heap H locs → ∀ ls : Array Slot, lv_has ls 8 [(4, .int (nI i)), (3, .ref ou), (2, .ref m0), (1, .ref x0), (0, .ref b)] → W p l e room_1 s m #[Value.ref b] below meth c H locs kc ks Q (F0 m 537 ls []))
    (D : dS) (M : mT) (o1 : Nat → Int64) (hR : lw_R D M) (H : Heap) (locs : List Loc) (hP : va_P (dC, dI) classes (mv m0 ma mS mt mo mb mg mh mr cA cJ M ++ (ob ou cJ o1 ++ dv x0 gv cl d0 h0d q0d h0u q0u h0e q0e h0p q0p h0q q0q h0o q0o h0r q0r cA cJ cW D)) H) (hD : va_D A (mv m0 ma mS mt mo mb mg mh mr cA cJ M ++ (ob ou cJ o1 ++ dv x0 gv cl d0 h0d q0d h0u q0u h0e q0e h0p q0p h0q q0q h0o q0o h0r q0r cA cJ cW D))) (hS : va_S A s.heap H locs) (ls : Array Slot) (hl : lv_has ls 8 [(4, .int (nI i)), (3, .ref ou), (2, .ref m0), (1, .ref x0), (0, .ref b)]) : W p l e room_1 s m #[Value.ref b] below meth c H locs ka sa Q (F0 m 300 ls []) := by
  refine lv_aload_n hx hb d_Law_law_300 rfl (lv_at hl 3 rfl) ?_
  refine lv_aload_n hx hb d_Law_law_301 rfl (lv_at hl 1 rfl) ?_
  have hPc := xz_P hP
  have hDc := (xz_D hD).weaken (B := fun _ => True) (fun _ _ _ _ => trivial)
  have hFc := xz_F hD hS hA
  refine vx_calli (vx_runSX (As := [.ref x0, .ref ou]) (rest := []) ⟨hx, hb, hml, hown, hts⟩ (c_Law_determinant l hlt dC dI H.size x0 gv cl d0 h0d q0d h0u q0u h0e q0e h0p q0p h0q q0q h0o q0o h0r q0r cA cJ cW ou D o1  hR.1) (vx_cwSW 2 hts (gw_SW k_ml_Law_67 k_st_Law_determinant k_ini_Law k_code_Law_determinant) rfl rfl rfl (by decide +kernel) ⟨(Nat.le_of_ble_eq_true rfl), (Nat.le_of_ble_eq_true rfl)⟩) ⟨xc_X_blind, fun U hU hW => ⟨⟨rfl, by rw [hU], by rw [hU]; exact hPc, va_K.moved hW.alike hK, hDc⟩, by rw [hU]; exact ((hE.kept hS.2.1).narrow hFc).moved hW.alike⟩⟩ rfl rfl hl.1 rfl (lv_room (Nat.le_of_ble_eq_true rfl)) d_Law_law_302 ⟨Nat.le_trans hka hcl, Nat.le_trans hsa hsl⟩) hS (fun q _ h => hFc q h) hFc (fun q _ h => hFc q h) (fun E ce q9 u t_ H locs ht_ hvm_ hpx hBX hz1 hk1 hS hce hcv hcl => False.elim hpx) (fun rr u t_ H locs ht_ hvm_ hw hB hz1 hk1 hS => ?_)
  obtain ⟨hP1, hD1⟩ := hB
  rw [ht_] at hP1
  obtain ⟨hP, hD⟩ := xz_1 hP hD hk1 hFc hP1 hD1
  refine W.widen hka hsa ?_
  have hP : va_P (dC, dI) classes (mv m0 ma mS mt mo mb mg mh mr cA cJ M ++ (ob ou cJ u.2 ++ dv x0 gv cl d0 h0d q0d h0u q0u h0e q0e h0p q0p h0q q0q h0o q0o h0r q0r cA cJ cW u.1)) H := hP
  have hD : va_D A (mv m0 ma mS mt mo mb mg mh mr cA cJ M ++ (ob ou cJ u.2 ++ dv x0 gv cl d0 h0d q0d h0u q0u h0e q0e h0p q0p h0q q0q h0o q0o h0r q0r cA cJ cW u.1)) := hD
  refine lv_istore (lv' := [(5, .int rr), (4, .int (nI i)), (3, .ref ou), (2, .ref m0), (1, .ref x0), (0, .ref b)]) hx hb d_Law_law_305 hl (by decide) rfl (fun ls hl => ?_)
  refine lv_aload_n hx hb d_Law_law_307 rfl (lv_at hl 3 rfl) ?_
  have hPr := xz_rotP hP
  have hDr := xz_rotD hD
  have hPc := xz_P hPr
  have hDc := (xz_D hDr).weaken (B := fun _ => True) (fun _ _ _ _ => trivial)
  have hFc := xz_F hDr hS hA
  refine va_calli (va_runV (As := []) (rest := []) ⟨hx, hb, hml, hown, hts⟩ (c_Model_determinant l dC dI H.size m0 ma mS mt mo mb mg mh mr cA cJ M  hR.2.1) (cwV 0 hts (gw_V k_ml_Law_70 k_im_Model_determinant k_sel_Model_determinant k_ini_Model k_code_Model_determinant) rfl rfl rfl (by decide +kernel) ⟨(Nat.le_of_ble_eq_true rfl), (Nat.le_of_ble_eq_true rfl)⟩) ⟨xc_W_blind, va_recv hK hP (ci := 3) (q0 := 0) rfl rfl, fun U hU hW => ⟨rfl, by rw [hU], by rw [hU]; exact hPc, va_K.moved hW.alike (hK.sub (tys' := [(cA, .int), (cJ, .long)]) [0, 1] rfl), hDc⟩⟩ rfl rfl hl.1 rfl (lv_room (Nat.le_of_ble_eq_true rfl)) d_Law_law_308 ⟨hcl, hsl⟩) hS (fun q _ h => hFc q h) hFc (fun r2 w t_ H locs ht_ hvm_ hv hB hz1 hk1 hS => ?_)
  obtain ⟨hP1, hD1⟩ := hB
  rw [ht_] at hP1
  obtain ⟨hP, hD⟩ := xz_1 hPr hDr hk1 hFc hP1 hD1
  have hP := xz_rotP hP
  have hD := xz_rotD hD
  refine W.widen (k := kc) (n := ks) (Nat.le_refl _) (Nat.le_refl _) ?_
  have hP : va_P (dC, dI) classes (mv m0 ma mS mt mo mb mg mh mr cA cJ w ++ (ob ou cJ u.2 ++ dv x0 gv cl d0 h0d q0d h0u q0u h0e q0e h0p q0p h0q q0q h0o q0o h0r q0r cA cJ cW u.1)) H := hP
  have hD : va_D A (mv m0 ma mS mt mo mb mg mh mr cA cJ w ++ (ob ou cJ u.2 ++ dv x0 gv cl d0 h0d q0d h0u q0u h0e q0e h0p q0p h0q q0q h0o q0o h0r q0r cA cJ cW u.1)) := hD
  refine lv_istore (lv' := [(6, .int r2), (5, .int rr), (4, .int (nI i)), (3, .ref ou), (2, .ref m0), (1, .ref x0), (0, .ref b)]) hx hb d_Law_law_311 hl (by decide) rfl (fun ls hl => ?_)
  refine lv_aload_n hx hb d_Law_law_313 rfl (lv_at hl 4 rfl) ?_
  have hPc := xp_P (wc := [(m0, .inr (3, [.int w.er, .int (nI w.n), .int w.sv, .ref ma, .ref mS, .ref mt, .ref mo, .ref mb, .ref mg, .ref mh, .ref mr]))]) hP [0] rfl
  refine vp_callSi (W.runV (As := []) (rest := []) ⟨hx, hb, hml, hown, hts⟩ (c_Model_thrown l dC dI m0 ma mS mt mo mb mg mh mr w.er w.n w.sv) (cwV 0 hts (gw_V k_ml_Law_49 k_im_Model_thrown k_sel_Model_thrown k_ini_Model k_code_Model_thrown) rfl rfl rfl (by decide +kernel) ⟨(Nat.le_of_ble_eq_true rfl), (Nat.le_of_ble_eq_true rfl)⟩) ⟨xc_R_blind, va_recv hK hP (ci := 3) (q0 := 0) rfl rfl, fun U hU hW => ⟨rfl, by rw [hU]; exact hPc, va_K.moved hW.alike (hK.sub (tys' := []) [] rfl)⟩⟩ rfl rfl hl.1 rfl (lv_room (Nat.le_of_ble_eq_true rfl)) d_Law_law_314 ⟨hcl, hsl⟩) (fun r_ e_r => ?_)
  subst e_r
  have hr9 := lr_determinant hR hw hv
  refine lv_iload hx hb d_Law_law_317 (lv_at hl 1 rfl) ?_
  refine lv_icmp_eq (tgt := 324) hx hb d_Law_law_319 (by decide) (fun hne => ?_) (fun hne => ?_)
  rotate_left
  · exact absurd hr9.1 hne
  refine lv_iload hx hb d_Law_law_324 (lv_at hl 1 rfl) ?_
  refine lv_if_ne (tgt := 341) hx hb d_Law_law_326 (by decide) (fun hk0 => ?_) (fun hk0 => ?_)
  · refine lv_goto (tgt := 537) hx hb d_Law_law_341 (by decide) ?_
    exact kk u.1 w u.2 hr9.2.2 H locs hP hD hS ls (lv_sub hl [2, 3, 4, 5, 6] rfl)
  refine lv_aload_n hx hb d_Law_law_329 rfl (lv_at hl 3 rfl) ?_
  refine lv_iconst (v := nI 0) hx hb d_Law_law_330 rfl ?_
  refine xn_lald hx hb hK hP 9 1 rfl rfl (i := 0) (by decide) (by decide) d_Law_law_331 ?_
  refine lv_iload hx hb d_Law_law_332 (lv_at hl 0 rfl) ?_
  refine lv_i2l (v := r2.toInt64) hx hb d_Law_law_334 rfl ?_
  refine W.lcmp hx hb d_Law_law_335 ?_
  refine lv_if_eq (tgt := 341) hx hb d_Law_law_336 (by decide) (fun hq0 => ?_) (fun hq0 => ?_)
  rotate_left
  · exact absurd ((lg_cmp_eq _ _).mpr (hr9.2.1 hk0)) hq0
  refine lv_goto (tgt := 537) hx hb d_Law_law_341 (by decide) ?_
  exact kk u.1 w u.2 hr9.2.2 H locs hP hD hS ls (lv_sub hl [2, 3, 4, 5, 6] rfl)
set_option maxHeartbeats 8000000 in
set_option maxRecDepth 100000 in
/-- the law's case 5 -/
theorem lw_c5 {p : Program} {e : Env} {s : State} {m : MethodId} {below : List Frame} {meth : Method} {c : Code} {Q : State → Prop} (l : Launch) (hlt : l.stackTraces = false) {b L : Nat} {xs : Nat → Int32} (hL : L ≤ 2560) (hx : p.tables.exec = Jvm.exec) (hb : c.code = code) (hml : c.maxLocals = 8) (hown : s.vm.findClass R_Law = some m.cls) (hts : ∀ w ∈ gw_tbl, w.before #[Value.ref b] s = true) (hX : va_X b L xs s s.heap) (hbl : b < s.heap.size) {A : Nat → Prop} (hA : ∀ q : Nat, s.heap.size ≤ q → A q) (hbA : ¬ A b) (hE : xt_E A s s.heap)
    (dC : Nat → ClassId) (dI : Nat → Nat → Nat) (x0 gv cl d0 h0d q0d h0u q0u h0e q0e h0p q0p h0q q0q h0o q0o h0r q0r : Nat) (cA cJ cW : ClassId) (m0 ma mS mt mo mb mg mh mr ou : Nat) (hK : va_K (dC, dI) classes [(cA, .int), (cJ, .long), (cW, .object "EquationDesk$Whole")] s) {ka sa kc ks : Nat} (hka : ka + 1 ≤ kc) (hsa : sa + 6 ≤ ks) (hcl : kc ≤ room_1.cells) (hsl : ks ≤ room_1.slots) {i : Nat} (hi : i + 5 ≤ L)
    (kk : ∀ (D : dS) (M : mT) (o1 : Nat → Int64), lw_R D M → ∀ (H : Heap) (locs : List Loc), va_P (dC, dI) classes (mv m0 ma mS mt mo mb mg mh mr cA cJ M ++ (ob ou cJ o1 ++ dv x0 gv cl d0 h0d q0d h0u q0u h0e q0e h0p q0p h0q q0q h0o q0o h0r q0r cA cJ cW D)) H → va_D A (mv m0 ma mS mt mo mb mg mh mr cA cJ M ++ (ob ou cJ o1 ++ dv x0 gv cl d0 h0d q0d h0u q0u h0e q0e h0p q0p h0q q0q h0o q0o h0r q0r cA cJ cW D)) → va_S A s.heap H locs → ∀ ls : Array Slot, lv_has ls 8 [(4, .int (nI i)), (3, .ref ou), (2, .ref m0), (1, .ref x0), (0, .ref b)] → W p l e room_1 s m #[Value.ref b] below meth c H locs kc ks Q (F0 m 537 ls []))
    (D : dS) (M : mT) (o1 : Nat → Int64) (hR : lw_R D M) (H : Heap) (locs : List Loc) (hP : va_P (dC, dI) classes (mv m0 ma mS mt mo mb mg mh mr cA cJ M ++ (ob ou cJ o1 ++ dv x0 gv cl d0 h0d q0d h0u q0u h0e q0e h0p q0p h0q q0q h0o q0o h0r q0r cA cJ cW D)) H) (hD : va_D A (mv m0 ma mS mt mo mb mg mh mr cA cJ M ++ (ob ou cJ o1 ++ dv x0 gv cl d0 h0d q0d h0u q0u h0e q0e h0p q0p h0q q0q h0o q0o h0r q0r cA cJ cW D))) (hS : va_S A s.heap H locs) (ls : Array Slot) (hl : lv_has ls 8 [(4, .int (nI i)), (3, .ref ou), (2, .ref m0), (1, .ref x0), (0, .ref b)]) : W p l e room_1 s m #[Value.ref b] below meth c H locs ka sa Q (F0 m 344 ls []) := by
  refine lv_aload_n hx hb d_Law_law_344 rfl (lv_at hl 3 rfl) ?_
  refine lv_aload_n hx hb d_Law_law_345 rfl (lv_at hl 4 rfl) ?_
  refine lv_iload hx hb d_Law_law_346 (lv_at hl 0 rfl) ?_
  refine lv_iconst (v := nI 1) hx hb d_Law_law_348 rfl ?_
  refine xn_iadd hx hb d_Law_law_349 ?_
  refine lw_sld hx hb hX hbl hbA hS (i := i + 1) (by omega) hL d_Law_law_350 ?_
  refine lv_aload_n hx hb d_Law_law_351 rfl (lv_at hl 4 rfl) ?_
  refine lv_iload hx hb d_Law_law_352 (lv_at hl 0 rfl) ?_
  refine lv_iconst (v := nI 2) hx hb d_Law_law_354 rfl ?_
  refine xn_iadd hx hb d_Law_law_355 ?_
  refine lw_sld hx hb hX hbl hbA hS (i := i + 2) (by omega) hL d_Law_law_356 ?_
  refine lv_aload_n hx hb d_Law_law_357 rfl (lv_at hl 1 rfl) ?_
  have hPc := xz_P hP
  have hDc := (xz_D hD).weaken (B := fun _ => True) (fun _ _ _ _ => trivial)
  have hFc := xz_F hD hS hA
  refine vx_calli (vx_runSX (As := [.ref x0, .int (xs (i + 1)), .int (xs (i + 2)), .ref ou]) (rest := []) ⟨hx, hb, hml, hown, hts⟩ (c_Law_compare l hlt dC dI H.size x0 gv cl d0 h0d q0d h0u q0u h0e q0e h0p q0p h0q q0q h0o q0o h0r q0r cA cJ cW ou D o1 (xs (i + 1)) (xs (i + 2)) hR.1) (vx_cwSW 4 hts (gw_SW k_ml_Law_71 k_st_Law_compare k_ini_Law k_code_Law_compare) rfl rfl rfl (by decide +kernel) ⟨(Nat.le_of_ble_eq_true rfl), (Nat.le_of_ble_eq_true rfl)⟩) ⟨xc_X_blind, fun U hU hW => ⟨⟨rfl, by rw [hU], by rw [hU]; exact hPc, va_K.moved hW.alike hK, hDc⟩, by rw [hU]; exact ((hE.kept hS.2.1).narrow hFc).moved hW.alike⟩⟩ rfl rfl hl.1 rfl (lv_room (Nat.le_of_ble_eq_true rfl)) d_Law_law_358 ⟨Nat.le_trans hka hcl, Nat.le_trans hsa hsl⟩) hS (fun q _ h => hFc q h) hFc (fun q _ h => hFc q h) (fun E ce q9 u t_ H locs ht_ hvm_ hpx hBX hz1 hk1 hS hce hcv hcl => False.elim hpx) (fun rr u t_ H locs ht_ hvm_ hw hB hz1 hk1 hS => ?_)
  obtain ⟨hP1, hD1⟩ := hB
  rw [ht_] at hP1
  obtain ⟨hP, hD⟩ := xz_1 hP hD hk1 hFc hP1 hD1
  refine W.widen hka hsa ?_
  have hP : va_P (dC, dI) classes (mv m0 ma mS mt mo mb mg mh mr cA cJ M ++ (ob ou cJ u.2 ++ dv x0 gv cl d0 h0d q0d h0u q0u h0e q0e h0p q0p h0q q0q h0o q0o h0r q0r cA cJ cW u.1)) H := hP
  have hD : va_D A (mv m0 ma mS mt mo mb mg mh mr cA cJ M ++ (ob ou cJ u.2 ++ dv x0 gv cl d0 h0d q0d h0u q0u h0e q0e h0p q0p h0q q0q h0o q0o h0r q0r cA cJ cW u.1)) := hD
  refine lv_istore (lv' := [(5, .int rr), (4, .int (nI i)), (3, .ref ou), (2, .ref m0), (1, .ref x0), (0, .ref b)]) hx hb d_Law_law_361 hl (by decide) rfl (fun ls hl => ?_)
  refine lv_aload_n hx hb d_Law_law_363 rfl (lv_at hl 3 rfl) ?_
  refine lv_aload_n hx hb d_Law_law_364 rfl (lv_at hl 5 rfl) ?_
  refine lv_iload hx hb d_Law_law_365 (lv_at hl 1 rfl) ?_
  refine lv_iconst (v := nI 1) hx hb d_Law_law_367 rfl ?_
  refine xn_iadd hx hb d_Law_law_368 ?_
  refine lw_sld hx hb hX hbl hbA hS (i := i + 1) (by omega) hL d_Law_law_369 ?_
  refine lv_aload_n hx hb d_Law_law_370 rfl (lv_at hl 5 rfl) ?_
  refine lv_iload hx hb d_Law_law_371 (lv_at hl 1 rfl) ?_
  refine lv_iconst (v := nI 2) hx hb d_Law_law_373 rfl ?_
  refine xn_iadd hx hb d_Law_law_374 ?_
  refine lw_sld hx hb hX hbl hbA hS (i := i + 2) (by omega) hL d_Law_law_375 ?_
  have hPr := xz_rotP hP
  have hDr := xz_rotD hD
  have hPc := xz_P hPr
  have hDc := (xz_D hDr).weaken (B := fun _ => True) (fun _ _ _ _ => trivial)
  have hFc := xz_F hDr hS hA
  refine va_calli (va_runV (As := [.int (xs (i + 1)), .int (xs (i + 2))]) (rest := []) ⟨hx, hb, hml, hown, hts⟩ (c_Model_compare l dC dI H.size m0 ma mS mt mo mb mg mh mr cA cJ M (xs (i + 1)) (xs (i + 2)) hR.2.1) (cwV 2 hts (gw_V k_ml_Law_74 k_im_Model_compare k_sel_Model_compare k_ini_Model k_code_Model_compare) rfl rfl rfl (by decide +kernel) ⟨(Nat.le_of_ble_eq_true rfl), (Nat.le_of_ble_eq_true rfl)⟩) ⟨xc_W_blind, va_recv hK hP (ci := 3) (q0 := 0) rfl rfl, fun U hU hW => ⟨rfl, by rw [hU], by rw [hU]; exact hPc, va_K.moved hW.alike (hK.sub (tys' := [(cA, .int), (cJ, .long)]) [0, 1] rfl), hDc⟩⟩ rfl rfl hl.1 rfl (lv_room (Nat.le_of_ble_eq_true rfl)) d_Law_law_376 ⟨hcl, hsl⟩) hS (fun q _ h => hFc q h) hFc (fun r2 w t_ H locs ht_ hvm_ hv hB hz1 hk1 hS => ?_)
  obtain ⟨hP1, hD1⟩ := hB
  rw [ht_] at hP1
  obtain ⟨hP, hD⟩ := xz_1 hPr hDr hk1 hFc hP1 hD1
  have hP := xz_rotP hP
  have hD := xz_rotD hD
  refine W.widen (k := kc) (n := ks) (Nat.le_refl _) (Nat.le_refl _) ?_
  have hP : va_P (dC, dI) classes (mv m0 ma mS mt mo mb mg mh mr cA cJ w ++ (ob ou cJ u.2 ++ dv x0 gv cl d0 h0d q0d h0u q0u h0e q0e h0p q0p h0q q0q h0o q0o h0r q0r cA cJ cW u.1)) H := hP
  have hD : va_D A (mv m0 ma mS mt mo mb mg mh mr cA cJ w ++ (ob ou cJ u.2 ++ dv x0 gv cl d0 h0d q0d h0u q0u h0e q0e h0p q0p h0q q0q h0o q0o h0r q0r cA cJ cW u.1)) := hD
  refine lv_istore (lv' := [(6, .int r2), (5, .int rr), (4, .int (nI i)), (3, .ref ou), (2, .ref m0), (1, .ref x0), (0, .ref b)]) hx hb d_Law_law_379 hl (by decide) rfl (fun ls hl => ?_)
  refine lv_aload_n hx hb d_Law_law_381 rfl (lv_at hl 4 rfl) ?_
  have hPc := xp_P (wc := [(m0, .inr (3, [.int w.er, .int (nI w.n), .int w.sv, .ref ma, .ref mS, .ref mt, .ref mo, .ref mb, .ref mg, .ref mh, .ref mr]))]) hP [0] rfl
  refine vp_callSi (W.runV (As := []) (rest := []) ⟨hx, hb, hml, hown, hts⟩ (c_Model_thrown l dC dI m0 ma mS mt mo mb mg mh mr w.er w.n w.sv) (cwV 0 hts (gw_V k_ml_Law_49 k_im_Model_thrown k_sel_Model_thrown k_ini_Model k_code_Model_thrown) rfl rfl rfl (by decide +kernel) ⟨(Nat.le_of_ble_eq_true rfl), (Nat.le_of_ble_eq_true rfl)⟩) ⟨xc_R_blind, va_recv hK hP (ci := 3) (q0 := 0) rfl rfl, fun U hU hW => ⟨rfl, by rw [hU]; exact hPc, va_K.moved hW.alike (hK.sub (tys' := []) [] rfl)⟩⟩ rfl rfl hl.1 rfl (lv_room (Nat.le_of_ble_eq_true rfl)) d_Law_law_382 ⟨hcl, hsl⟩) (fun r_ e_r => ?_)
  subst e_r
  have hr9 := lr_compare hR hw hv
  refine lv_iload hx hb d_Law_law_385 (lv_at hl 1 rfl) ?_
  refine lv_icmp_eq (tgt := 392) hx hb d_Law_law_387 (by decide) (fun hne => ?_) (fun hne => ?_)
  rotate_left
  · exact absurd hr9.1 hne
  refine lv_iload hx hb d_Law_law_392 (lv_at hl 1 rfl) ?_
  refine lv_if_ne (tgt := 409) hx hb d_Law_law_394 (by decide) (fun hk0 => ?_) (fun hk0 => ?_)
  · refine lv_goto (tgt := 537) hx hb d_Law_law_409 (by decide) ?_
    exact kk u.1 w u.2 hr9.2.2 H locs hP hD hS ls (lv_sub hl [2, 3, 4, 5, 6] rfl)
  refine lv_aload_n hx hb d_Law_law_397 rfl (lv_at hl 3 rfl) ?_
  refine lv_iconst (v := nI 0) hx hb d_Law_law_398 rfl ?_
  refine xn_lald hx hb hK hP 9 1 rfl rfl (i := 0) (by decide) (by decide) d_Law_law_399 ?_
  refine lv_iload hx hb d_Law_law_400 (lv_at hl 0 rfl) ?_
  refine lv_i2l (v := r2.toInt64) hx hb d_Law_law_402 rfl ?_
  refine W.lcmp hx hb d_Law_law_403 ?_
  refine lv_if_eq (tgt := 409) hx hb d_Law_law_404 (by decide) (fun hq0 => ?_) (fun hq0 => ?_)
  rotate_left
  · exact absurd ((lg_cmp_eq _ _).mpr (hr9.2.1 hk0)) hq0
  refine lv_goto (tgt := 537) hx hb d_Law_law_409 (by decide) ?_
  exact kk u.1 w u.2 hr9.2.2 H locs hP hD hS ls (lv_sub hl [2, 3, 4, 5, 6] rfl)
set_option maxHeartbeats 8000000 in
set_option maxRecDepth 100000 in
/-- the law's case 6 -/
theorem lw_c6 {p : Program} {e : Env} {s : State} {m : MethodId} {below : List Frame} {meth : Method} {c : Code} {Q : State → Prop} (l : Launch) (hlt : l.stackTraces = false) {b L : Nat} {xs : Nat → Int32} (hL : L ≤ 2560) (hx : p.tables.exec = Jvm.exec) (hb : c.code = code) (hml : c.maxLocals = 8) (hown : s.vm.findClass R_Law = some m.cls) (hts : ∀ w ∈ gw_tbl, w.before #[Value.ref b] s = true) (hX : va_X b L xs s s.heap) (hbl : b < s.heap.size) {A : Nat → Prop} (hA : ∀ q : Nat, s.heap.size ≤ q → A q) (hbA : ¬ A b) (hE : xt_E A s s.heap)
    (dC : Nat → ClassId) (dI : Nat → Nat → Nat) (x0 gv cl d0 h0d q0d h0u q0u h0e q0e h0p q0p h0q q0q h0o q0o h0r q0r : Nat) (cA cJ cW : ClassId) (m0 ma mS mt mo mb mg mh mr ou : Nat) (hK : va_K (dC, dI) classes [(cA, .int), (cJ, .long), (cW, .object "EquationDesk$Whole")] s) {ka sa kc ks : Nat} (hka : ka + 1 ≤ kc) (hsa : sa + 6 ≤ ks) (hcl : kc ≤ room_1.cells) (hsl : ks ≤ room_1.slots) {i : Nat} (hi : i + 5 ≤ L)
    (kk : ∀ (D : dS) (M : mT) (o1 : Nat → Int64), lw_R D M → ∀ (H : Heap) (locs : List Loc), va_P (dC, dI) classes (mv m0 ma mS mt mo mb mg mh mr cA cJ M ++ (ob ou cJ o1 ++ dv x0 gv cl d0 h0d q0d h0u q0u h0e q0e h0p q0p h0q q0q h0o q0o h0r q0r cA cJ cW D)) H → va_D A (mv m0 ma mS mt mo mb mg mh mr cA cJ M ++ (ob ou cJ o1 ++ dv x0 gv cl d0 h0d q0d h0u q0u h0e q0e h0p q0p h0q q0q h0o q0o h0r q0r cA cJ cW D)) → va_S A s.heap H locs → ∀ ls : Array Slot, lv_has ls 8 [(4, .int (nI i)), (3, .ref ou), (2, .ref m0), (1, .ref x0), (0, .ref b)] → W p l e room_1 s m #[Value.ref b] below meth c H locs kc ks Q (F0 m 537 ls []))
    (D : dS) (M : mT) (o1 : Nat → Int64) (hR : lw_R D M) (H : Heap) (locs : List Loc) (hP : va_P (dC, dI) classes (mv m0 ma mS mt mo mb mg mh mr cA cJ M ++ (ob ou cJ o1 ++ dv x0 gv cl d0 h0d q0d h0u q0u h0e q0e h0p q0p h0q q0q h0o q0o h0r q0r cA cJ cW D)) H) (hD : va_D A (mv m0 ma mS mt mo mb mg mh mr cA cJ M ++ (ob ou cJ o1 ++ dv x0 gv cl d0 h0d q0d h0u q0u h0e q0e h0p q0p h0q q0q h0o q0o h0r q0r cA cJ cW D))) (hS : va_S A s.heap H locs) (ls : Array Slot) (hl : lv_has ls 8 [(4, .int (nI i)), (3, .ref ou), (2, .ref m0), (1, .ref x0), (0, .ref b)]) : W p l e room_1 s m #[Value.ref b] below meth c H locs ka sa Q (F0 m 412 ls []) := by
  refine W.widen (k := kc) (n := ks) (Nat.le_of_succ_le hka) (Nat.le_trans (Nat.le_add_right _ 6) hsa) ?_
  refine lv_aload_n hx hb d_Law_law_412 rfl (lv_at hl 3 rfl) ?_
  refine lv_aload_n hx hb d_Law_law_413 rfl (lv_at hl 4 rfl) ?_
  refine lv_iload hx hb d_Law_law_414 (lv_at hl 0 rfl) ?_
  refine lv_iconst (v := nI 1) hx hb d_Law_law_416 rfl ?_
  refine xn_iadd hx hb d_Law_law_417 ?_
  refine lw_sld hx hb hX hbl hbA hS (i := i + 1) (by omega) hL d_Law_law_418 ?_
  refine lv_if_eq (tgt := 426) hx hb d_Law_law_419 (by decide) (fun hb0 => ?_) (fun hb0 => ?_)
  · refine lv_iconst (v := nI 0) hx hb d_Law_law_426 rfl ?_
    have hPa : va_P (dC, dI) classes ((mv m0 ma mS mt mo mb mg mh mr cA cJ M ++ ob ou cJ o1) ++ dv x0 gv cl d0 h0d q0d h0u q0u h0e q0e h0p q0p h0q q0q h0o q0o h0r q0r cA cJ cW D) H := by rw [List.append_assoc]; exact hP
    have hPc := xz_P hPa
    refine vp_callSi (W.runV (As := [.int (nI 0)]) (rest := []) ⟨hx, hb, hml, hown, hts⟩ (c_Desk_bits l dC dI x0 gv cl d0 h0d q0d h0u q0u h0e q0e h0p q0p h0q q0q h0o q0o h0r q0r cA cJ cW D (nI 0) hR.1) (cwV 1 hts (gw_V k_ml_Law_75 k_im_Desk_bits k_sel_Desk_bits k_ini_Desk k_code_Desk_bits) rfl rfl rfl (by decide +kernel) ⟨(Nat.le_of_ble_eq_true rfl), (Nat.le_of_ble_eq_true rfl)⟩) ⟨xc_R_blind, va_recv hK hPc (ci := 0) (q0 := 0) rfl rfl, fun U hU hW => ⟨rfl, by rw [hU]; exact hPc, va_K.moved hW.alike hK⟩⟩ rfl rfl hl.1 rfl (lv_room (Nat.le_of_ble_eq_true rfl)) d_Law_law_427 ⟨hcl, hsl⟩) (fun rr hw => ?_)
    refine lv_aload_n hx hb d_Law_law_430 rfl (lv_at hl 2 rfl) ?_
    refine lv_aload_n hx hb d_Law_law_431 rfl (lv_at hl 4 rfl) ?_
    refine lv_iload hx hb d_Law_law_432 (lv_at hl 0 rfl) ?_
    refine lv_iconst (v := nI 1) hx hb d_Law_law_434 rfl ?_
    refine xn_iadd hx hb d_Law_law_435 ?_
    refine lw_sld hx hb hX hbl hbA hS (i := i + 1) (by omega) hL d_Law_law_436 ?_
    refine lv_if_eq (tgt := 444) hx hb d_Law_law_437 (by decide) (fun hb1 => ?_) (fun hb1 => ?_)
    rotate_left
    · exact absurd hb0 hb1
    refine lv_iconst (v := nI 0) hx hb d_Law_law_444 rfl ?_
    have hPr := xz_rotP hP
    have hDr := xz_rotD hD
    have hPc := xz_P hPr
    have hDc := (xz_D hDr).weaken (B := fun _ => True) (fun _ _ _ _ => trivial)
    have hFc := xz_F hDr hS hA
    refine va_calli (va_runV (As := [.int (nI 0)]) (rest := [.int rr]) ⟨hx, hb, hml, hown, hts⟩ (c_Model_bits l dC dI H.size m0 ma mS mt mo mb mg mh mr cA cJ M (nI 0) hR.2.1) (cwV 1 hts (gw_V k_ml_Law_79 k_im_Model_bits k_sel_Model_bits k_ini_Model k_code_Model_bits) rfl rfl rfl (by decide +kernel) ⟨(Nat.le_of_ble_eq_true rfl), (Nat.le_of_ble_eq_true rfl)⟩) ⟨xc_W_blind, va_recv hK hP (ci := 3) (q0 := 0) rfl rfl, fun U hU hW => ⟨rfl, by rw [hU], by rw [hU]; exact hPc, va_K.moved hW.alike (hK.sub (tys' := [(cA, .int), (cJ, .long)]) [0, 1] rfl), hDc⟩⟩ rfl rfl hl.1 rfl (lv_room (Nat.le_of_ble_eq_true rfl)) d_Law_law_445 ⟨hcl, hsl⟩) hS (fun q _ h => hFc q h) hFc (fun r2 w t_ H locs ht_ hvm_ hv hB hz1 hk1 hS => ?_)
    obtain ⟨hP1, hD1⟩ := hB
    rw [ht_] at hP1
    obtain ⟨hP, hD⟩ := xz_1 hPr hDr hk1 hFc hP1 hD1
    have hP := xz_rotP hP
    have hD := xz_rotD hD
    refine W.widen (k := kc) (n := ks) (Nat.le_refl _) (Nat.le_refl _) ?_
    have hP : va_P (dC, dI) classes (mv m0 ma mS mt mo mb mg mh mr cA cJ w ++ (ob ou cJ o1 ++ dv x0 gv cl d0 h0d q0d h0u q0u h0e q0e h0p q0p h0q q0q h0o q0o h0r q0r cA cJ cW D)) H := hP
    have hD : va_D A (mv m0 ma mS mt mo mb mg mh mr cA cJ w ++ (ob ou cJ o1 ++ dv x0 gv cl d0 h0d q0d h0u q0u h0e q0e h0p q0p h0q q0q h0o q0o h0r q0r cA cJ cW D)) := hD
    have hr9 := lr_bits hR hw hv
    refine lv_icmp_eq (tgt := 537) hx hb d_Law_law_448 (by decide) (fun hne => ?_) (fun hne => ?_)
    rotate_left
    · exact absurd hr9.1 hne
    exact kk D w o1 hr9.2 H locs hP hD hS ls (lv_sub hl [0, 1, 2, 3, 4] rfl)
  refine lv_iconst (v := nI 1) hx hb d_Law_law_422 rfl ?_
  refine lv_goto (tgt := 427) hx hb d_Law_law_423 (by decide) ?_
  have hPa : va_P (dC, dI) classes ((mv m0 ma mS mt mo mb mg mh mr cA cJ M ++ ob ou cJ o1) ++ dv x0 gv cl d0 h0d q0d h0u q0u h0e q0e h0p q0p h0q q0q h0o q0o h0r q0r cA cJ cW D) H := by rw [List.append_assoc]; exact hP
  have hPc := xz_P hPa
  refine vp_callSi (W.runV (As := [.int (nI 1)]) (rest := []) ⟨hx, hb, hml, hown, hts⟩ (c_Desk_bits l dC dI x0 gv cl d0 h0d q0d h0u q0u h0e q0e h0p q0p h0q q0q h0o q0o h0r q0r cA cJ cW D (nI 1) hR.1) (cwV 1 hts (gw_V k_ml_Law_75 k_im_Desk_bits k_sel_Desk_bits k_ini_Desk k_code_Desk_bits) rfl rfl rfl (by decide +kernel) ⟨(Nat.le_of_ble_eq_true rfl), (Nat.le_of_ble_eq_true rfl)⟩) ⟨xc_R_blind, va_recv hK hPc (ci := 0) (q0 := 0) rfl rfl, fun U hU hW => ⟨rfl, by rw [hU]; exact hPc, va_K.moved hW.alike hK⟩⟩ rfl rfl hl.1 rfl (lv_room (Nat.le_of_ble_eq_true rfl)) d_Law_law_427 ⟨hcl, hsl⟩) (fun rr hw => ?_)
  refine lv_aload_n hx hb d_Law_law_430 rfl (lv_at hl 2 rfl) ?_
  refine lv_aload_n hx hb d_Law_law_431 rfl (lv_at hl 4 rfl) ?_
  refine lv_iload hx hb d_Law_law_432 (lv_at hl 0 rfl) ?_
  refine lv_iconst (v := nI 1) hx hb d_Law_law_434 rfl ?_
  refine xn_iadd hx hb d_Law_law_435 ?_
  refine lw_sld hx hb hX hbl hbA hS (i := i + 1) (by omega) hL d_Law_law_436 ?_
  refine lv_if_eq (tgt := 444) hx hb d_Law_law_437 (by decide) (fun hb1 => ?_) (fun hb1 => ?_)
  · exact absurd hb1 hb0
  refine lv_iconst (v := nI 1) hx hb d_Law_law_440 rfl ?_
  refine lv_goto (tgt := 445) hx hb d_Law_law_441 (by decide) ?_
  have hPr := xz_rotP hP
  have hDr := xz_rotD hD
  have hPc := xz_P hPr
  have hDc := (xz_D hDr).weaken (B := fun _ => True) (fun _ _ _ _ => trivial)
  have hFc := xz_F hDr hS hA
  refine va_calli (va_runV (As := [.int (nI 1)]) (rest := [.int rr]) ⟨hx, hb, hml, hown, hts⟩ (c_Model_bits l dC dI H.size m0 ma mS mt mo mb mg mh mr cA cJ M (nI 1) hR.2.1) (cwV 1 hts (gw_V k_ml_Law_79 k_im_Model_bits k_sel_Model_bits k_ini_Model k_code_Model_bits) rfl rfl rfl (by decide +kernel) ⟨(Nat.le_of_ble_eq_true rfl), (Nat.le_of_ble_eq_true rfl)⟩) ⟨xc_W_blind, va_recv hK hP (ci := 3) (q0 := 0) rfl rfl, fun U hU hW => ⟨rfl, by rw [hU], by rw [hU]; exact hPc, va_K.moved hW.alike (hK.sub (tys' := [(cA, .int), (cJ, .long)]) [0, 1] rfl), hDc⟩⟩ rfl rfl hl.1 rfl (lv_room (Nat.le_of_ble_eq_true rfl)) d_Law_law_445 ⟨hcl, hsl⟩) hS (fun q _ h => hFc q h) hFc (fun r2 w t_ H locs ht_ hvm_ hv hB hz1 hk1 hS => ?_)
  obtain ⟨hP1, hD1⟩ := hB
  rw [ht_] at hP1
  obtain ⟨hP, hD⟩ := xz_1 hPr hDr hk1 hFc hP1 hD1
  have hP := xz_rotP hP
  have hD := xz_rotD hD
  refine W.widen (k := kc) (n := ks) (Nat.le_refl _) (Nat.le_refl _) ?_
  have hP : va_P (dC, dI) classes (mv m0 ma mS mt mo mb mg mh mr cA cJ w ++ (ob ou cJ o1 ++ dv x0 gv cl d0 h0d q0d h0u q0u h0e q0e h0p q0p h0q q0q h0o q0o h0r q0r cA cJ cW D)) H := hP
  have hD : va_D A (mv m0 ma mS mt mo mb mg mh mr cA cJ w ++ (ob ou cJ o1 ++ dv x0 gv cl d0 h0d q0d h0u q0u h0e q0e h0p q0p h0q q0q h0o q0o h0r q0r cA cJ cW D)) := hD
  have hr9 := lr_bits hR hw hv
  refine lv_icmp_eq (tgt := 537) hx hb d_Law_law_448 (by decide) (fun hne => ?_) (fun hne => ?_)
  rotate_left
  · exact absurd hr9.1 hne
  exact kk D w o1 hr9.2 H locs hP hD hS ls (lv_sub hl [0, 1, 2, 3, 4] rfl)
set_option maxHeartbeats 8000000 in
set_option maxRecDepth 100000 in
/-- the law's case 7 -/
theorem lw_c7 {p : Program} {e : Env} {s : State} {m : MethodId} {below : List Frame} {meth : Method} {c : Code} {Q : State → Prop} (l : Launch) (hlt : l.stackTraces = false) {b L : Nat} {xs : Nat → Int32} (hL : L ≤ 2560) (hx : p.tables.exec = Jvm.exec) (hb : c.code = code) (hml : c.maxLocals = 8) (hown : s.vm.findClass R_Law = some m.cls) (hts : ∀ w ∈ gw_tbl, w.before #[Value.ref b] s = true) (hX : va_X b L xs s s.heap) (hbl : b < s.heap.size) {A : Nat → Prop} (hA : ∀ q : Nat, s.heap.size ≤ q → A q) (hbA : ¬ A b) (hE : xt_E A s s.heap)
    (dC : Nat → ClassId) (dI : Nat → Nat → Nat) (x0 gv cl d0 h0d q0d h0u q0u h0e q0e h0p q0p h0q q0q h0o q0o h0r q0r : Nat) (cA cJ cW : ClassId) (m0 ma mS mt mo mb mg mh mr ou : Nat) (hK : va_K (dC, dI) classes [(cA, .int), (cJ, .long), (cW, .object "EquationDesk$Whole")] s) {ka sa kc ks : Nat} (hka : ka + 1 ≤ kc) (hsa : sa + 6 ≤ ks) (hcl : kc ≤ room_1.cells) (hsl : ks ≤ room_1.slots) {i : Nat} (hi : i + 5 ≤ L)
    (kk : ∀ (D : dS) (M : mT) (o1 : Nat → Int64), lw_R D M → ∀ (H : Heap) (locs : List Loc), va_P (dC, dI) classes (mv m0 ma mS mt mo mb mg mh mr cA cJ M ++ (ob ou cJ o1 ++ dv x0 gv cl d0 h0d q0d h0u q0u h0e q0e h0p q0p h0q q0q h0o q0o h0r q0r cA cJ cW D)) H → va_D A (mv m0 ma mS mt mo mb mg mh mr cA cJ M ++ (ob ou cJ o1 ++ dv x0 gv cl d0 h0d q0d h0u q0u h0e q0e h0p q0p h0q q0q h0o q0o h0r q0r cA cJ cW D)) → va_S A s.heap H locs → ∀ ls : Array Slot, lv_has ls 8 [(4, .int (nI i)), (3, .ref ou), (2, .ref m0), (1, .ref x0), (0, .ref b)] → W p l e room_1 s m #[Value.ref b] below meth c H locs kc ks Q (F0 m 537 ls []))
    (D : dS) (M : mT) (o1 : Nat → Int64) (hR : lw_R D M) (H : Heap) (locs : List Loc) (hP : va_P (dC, dI) classes (mv m0 ma mS mt mo mb mg mh mr cA cJ M ++ (ob ou cJ o1 ++ dv x0 gv cl d0 h0d q0d h0u q0u h0e q0e h0p q0p h0q q0q h0o q0o h0r q0r cA cJ cW D)) H) (hD : va_D A (mv m0 ma mS mt mo mb mg mh mr cA cJ M ++ (ob ou cJ o1 ++ dv x0 gv cl d0 h0d q0d h0u q0u h0e q0e h0p q0p h0q q0q h0o q0o h0r q0r cA cJ cW D))) (hS : va_S A s.heap H locs) (ls : Array Slot) (hl : lv_has ls 8 [(4, .int (nI i)), (3, .ref ou), (2, .ref m0), (1, .ref x0), (0, .ref b)]) : W p l e room_1 s m #[Value.ref b] below meth c H locs ka sa Q (F0 m 453 ls []) := by
  refine lv_aload_n hx hb d_Law_law_453 rfl (lv_at hl 3 rfl) ?_
  refine lv_aload_n hx hb d_Law_law_454 rfl (lv_at hl 4 rfl) ?_
  refine lv_iload hx hb d_Law_law_455 (lv_at hl 0 rfl) ?_
  refine lv_iconst (v := nI 1) hx hb d_Law_law_457 rfl ?_
  refine xn_iadd hx hb d_Law_law_458 ?_
  refine lw_sld hx hb hX hbl hbA hS (i := i + 1) (by omega) hL d_Law_law_459 ?_
  refine lv_if_eq (tgt := 467) hx hb d_Law_law_460 (by decide) (fun hb0 => ?_) (fun hb0 => ?_)
  · refine lv_iconst (v := nI 0) hx hb d_Law_law_467 rfl ?_
    refine lv_aload_n hx hb d_Law_law_468 rfl (lv_at hl 4 rfl) ?_
    refine lv_iload hx hb d_Law_law_469 (lv_at hl 0 rfl) ?_
    refine lv_iconst (v := nI 2) hx hb d_Law_law_471 rfl ?_
    refine xn_iadd hx hb d_Law_law_472 ?_
    refine lw_sld hx hb hX hbl hbA hS (i := i + 2) (by omega) hL d_Law_law_473 ?_
    refine lv_aload_n hx hb d_Law_law_474 rfl (lv_at hl 1 rfl) ?_
    have hPc := xz_P hP
    have hDc := (xz_D hD).weaken (B := fun _ => True) (fun _ _ _ _ => trivial)
    have hFc := xz_F hD hS hA
    refine vx_calli (vx_runSX (As := [.ref x0, .int (nI 0), .int (xs (i + 2)), .ref ou]) (rest := []) ⟨hx, hb, hml, hown, hts⟩ (c_Law_part l hlt dC dI H.size x0 gv cl d0 h0d q0d h0u q0u h0e q0e h0p q0p h0q q0q h0o q0o h0r q0r cA cJ cW ou D o1 (nI 0) (xs (i + 2)) hR.1) (vx_cwSW 4 hts (gw_SW k_ml_Law_80 k_st_Law_part k_ini_Law k_code_Law_part) rfl rfl rfl (by decide +kernel) ⟨(Nat.le_of_ble_eq_true rfl), (Nat.le_of_ble_eq_true rfl)⟩) ⟨xc_X_blind, fun U hU hW => ⟨⟨rfl, by rw [hU], by rw [hU]; exact hPc, va_K.moved hW.alike hK, hDc⟩, by rw [hU]; exact ((hE.kept hS.2.1).narrow hFc).moved hW.alike⟩⟩ rfl rfl hl.1 rfl (lv_room (Nat.le_of_ble_eq_true rfl)) d_Law_law_475 ⟨Nat.le_trans hka hcl, Nat.le_trans hsa hsl⟩) hS (fun q _ h => hFc q h) hFc (fun q _ h => hFc q h) (fun E ce q9 u t_ H locs ht_ hvm_ hpx hBX hz1 hk1 hS hce hcv hcl => False.elim hpx) (fun rr u t_ H locs ht_ hvm_ hw hB hz1 hk1 hS => ?_)
    obtain ⟨hP1, hD1⟩ := hB
    rw [ht_] at hP1
    obtain ⟨hP, hD⟩ := xz_1 hP hD hk1 hFc hP1 hD1
    refine W.widen hka hsa ?_
    have hP : va_P (dC, dI) classes (mv m0 ma mS mt mo mb mg mh mr cA cJ M ++ (ob ou cJ u.2 ++ dv x0 gv cl d0 h0d q0d h0u q0u h0e q0e h0p q0p h0q q0q h0o q0o h0r q0r cA cJ cW u.1)) H := hP
    have hD : va_D A (mv m0 ma mS mt mo mb mg mh mr cA cJ M ++ (ob ou cJ u.2 ++ dv x0 gv cl d0 h0d q0d h0u q0u h0e q0e h0p q0p h0q q0q h0o q0o h0r q0r cA cJ cW u.1)) := hD
    refine lv_istore (lv' := [(5, .int rr), (4, .int (nI i)), (3, .ref ou), (2, .ref m0), (1, .ref x0), (0, .ref b)]) hx hb d_Law_law_478 hl (by decide) rfl (fun ls hl => ?_)
    refine lv_aload_n hx hb d_Law_law_480 rfl (lv_at hl 3 rfl) ?_
    refine lv_aload_n hx hb d_Law_law_481 rfl (lv_at hl 5 rfl) ?_
    refine lv_iload hx hb d_Law_law_482 (lv_at hl 1 rfl) ?_
    refine lv_iconst (v := nI 1) hx hb d_Law_law_484 rfl ?_
    refine xn_iadd hx hb d_Law_law_485 ?_
    refine lw_sld hx hb hX hbl hbA hS (i := i + 1) (by omega) hL d_Law_law_486 ?_
    refine lv_if_eq (tgt := 494) hx hb d_Law_law_487 (by decide) (fun hb1 => ?_) (fun hb1 => ?_)
    rotate_left
    · exact absurd hb0 hb1
    refine lv_iconst (v := nI 0) hx hb d_Law_law_494 rfl ?_
    refine lv_aload_n hx hb d_Law_law_495 rfl (lv_at hl 5 rfl) ?_
    refine lv_iload hx hb d_Law_law_496 (lv_at hl 1 rfl) ?_
    refine lv_iconst (v := nI 2) hx hb d_Law_law_498 rfl ?_
    refine xn_iadd hx hb d_Law_law_499 ?_
    refine lw_sld hx hb hX hbl hbA hS (i := i + 2) (by omega) hL d_Law_law_500 ?_
    have hPr := xz_rotP hP
    have hDr := xz_rotD hD
    have hPc := xz_P hPr
    have hDc := (xz_D hDr).weaken (B := fun _ => True) (fun _ _ _ _ => trivial)
    have hFc := xz_F hDr hS hA
    refine va_calli (va_runV (As := [.int (nI 0), .int (xs (i + 2))]) (rest := []) ⟨hx, hb, hml, hown, hts⟩ (c_Model_part l dC dI H.size m0 ma mS mt mo mb mg mh mr cA cJ M (nI 0) (xs (i + 2)) hR.2.1) (cwV 2 hts (gw_V k_ml_Law_83 k_im_Model_part k_sel_Model_part k_ini_Model k_code_Model_part) rfl rfl rfl (by decide +kernel) ⟨(Nat.le_of_ble_eq_true rfl), (Nat.le_of_ble_eq_true rfl)⟩) ⟨xc_W_blind, va_recv hK hP (ci := 3) (q0 := 0) rfl rfl, fun U hU hW => ⟨rfl, by rw [hU], by rw [hU]; exact hPc, va_K.moved hW.alike (hK.sub (tys' := [(cA, .int), (cJ, .long)]) [0, 1] rfl), hDc⟩⟩ rfl rfl hl.1 rfl (lv_room (Nat.le_of_ble_eq_true rfl)) d_Law_law_501 ⟨hcl, hsl⟩) hS (fun q _ h => hFc q h) hFc (fun r2 w t_ H locs ht_ hvm_ hv hB hz1 hk1 hS => ?_)
    obtain ⟨hP1, hD1⟩ := hB
    rw [ht_] at hP1
    obtain ⟨hP, hD⟩ := xz_1 hPr hDr hk1 hFc hP1 hD1
    have hP := xz_rotP hP
    have hD := xz_rotD hD
    refine W.widen (k := kc) (n := ks) (Nat.le_refl _) (Nat.le_refl _) ?_
    have hP : va_P (dC, dI) classes (mv m0 ma mS mt mo mb mg mh mr cA cJ w ++ (ob ou cJ u.2 ++ dv x0 gv cl d0 h0d q0d h0u q0u h0e q0e h0p q0p h0q q0q h0o q0o h0r q0r cA cJ cW u.1)) H := hP
    have hD : va_D A (mv m0 ma mS mt mo mb mg mh mr cA cJ w ++ (ob ou cJ u.2 ++ dv x0 gv cl d0 h0d q0d h0u q0u h0e q0e h0p q0p h0q q0q h0o q0o h0r q0r cA cJ cW u.1)) := hD
    refine lv_istore (lv' := [(6, .int r2), (5, .int rr), (4, .int (nI i)), (3, .ref ou), (2, .ref m0), (1, .ref x0), (0, .ref b)]) hx hb d_Law_law_504 hl (by decide) rfl (fun ls hl => ?_)
    refine lv_aload_n hx hb d_Law_law_506 rfl (lv_at hl 4 rfl) ?_
    have hPc := xp_P (wc := [(m0, .inr (3, [.int w.er, .int (nI w.n), .int w.sv, .ref ma, .ref mS, .ref mt, .ref mo, .ref mb, .ref mg, .ref mh, .ref mr]))]) hP [0] rfl
    refine vp_callSi (W.runV (As := []) (rest := []) ⟨hx, hb, hml, hown, hts⟩ (c_Model_thrown l dC dI m0 ma mS mt mo mb mg mh mr w.er w.n w.sv) (cwV 0 hts (gw_V k_ml_Law_49 k_im_Model_thrown k_sel_Model_thrown k_ini_Model k_code_Model_thrown) rfl rfl rfl (by decide +kernel) ⟨(Nat.le_of_ble_eq_true rfl), (Nat.le_of_ble_eq_true rfl)⟩) ⟨xc_R_blind, va_recv hK hP (ci := 3) (q0 := 0) rfl rfl, fun U hU hW => ⟨rfl, by rw [hU]; exact hPc, va_K.moved hW.alike (hK.sub (tys' := []) [] rfl)⟩⟩ rfl rfl hl.1 rfl (lv_room (Nat.le_of_ble_eq_true rfl)) d_Law_law_507 ⟨hcl, hsl⟩) (fun r_ e_r => ?_)
    subst e_r
    have hr9 := lr_part hR hw hv
    refine lv_iload hx hb d_Law_law_510 (lv_at hl 1 rfl) ?_
    refine lv_icmp_eq (tgt := 517) hx hb d_Law_law_512 (by decide) (fun hne => ?_) (fun hne => ?_)
    rotate_left
    · exact absurd hr9.1 hne
    refine lv_iload hx hb d_Law_law_517 (lv_at hl 1 rfl) ?_
    refine lv_if_ne (tgt := 534) hx hb d_Law_law_519 (by decide) (fun hk0 => ?_) (fun hk0 => ?_)
    · refine lv_goto (tgt := 537) hx hb d_Law_law_534 (by decide) ?_
      exact kk u.1 w u.2 hr9.2.2 H locs hP hD hS ls (lv_sub hl [2, 3, 4, 5, 6] rfl)
    refine lv_aload_n hx hb d_Law_law_522 rfl (lv_at hl 3 rfl) ?_
    refine lv_iconst (v := nI 0) hx hb d_Law_law_523 rfl ?_
    refine xn_lald hx hb hK hP 9 1 rfl rfl (i := 0) (by decide) (by decide) d_Law_law_524 ?_
    refine lv_iload hx hb d_Law_law_525 (lv_at hl 0 rfl) ?_
    refine lv_i2l (v := r2.toInt64) hx hb d_Law_law_527 rfl ?_
    refine W.lcmp hx hb d_Law_law_528 ?_
    refine lv_if_eq (tgt := 534) hx hb d_Law_law_529 (by decide) (fun hq0 => ?_) (fun hq0 => ?_)
    rotate_left
    · exact absurd ((lg_cmp_eq _ _).mpr (hr9.2.1 hk0)) hq0
    refine lv_goto (tgt := 537) hx hb d_Law_law_534 (by decide) ?_
    exact kk u.1 w u.2 hr9.2.2 H locs hP hD hS ls (lv_sub hl [2, 3, 4, 5, 6] rfl)
  refine lv_iconst (v := nI 1) hx hb d_Law_law_463 rfl ?_
  refine lv_goto (tgt := 468) hx hb d_Law_law_464 (by decide) ?_
  refine lv_aload_n hx hb d_Law_law_468 rfl (lv_at hl 4 rfl) ?_
  refine lv_iload hx hb d_Law_law_469 (lv_at hl 0 rfl) ?_
  refine lv_iconst (v := nI 2) hx hb d_Law_law_471 rfl ?_
  refine xn_iadd hx hb d_Law_law_472 ?_
  refine lw_sld hx hb hX hbl hbA hS (i := i + 2) (by omega) hL d_Law_law_473 ?_
  refine lv_aload_n hx hb d_Law_law_474 rfl (lv_at hl 1 rfl) ?_
  have hPc := xz_P hP
  have hDc := (xz_D hD).weaken (B := fun _ => True) (fun _ _ _ _ => trivial)
  have hFc := xz_F hD hS hA
  refine vx_calli (vx_runSX (As := [.ref x0, .int (nI 1), .int (xs (i + 2)), .ref ou]) (rest := []) ⟨hx, hb, hml, hown, hts⟩ (c_Law_part l hlt dC dI H.size x0 gv cl d0 h0d q0d h0u q0u h0e q0e h0p q0p h0q q0q h0o q0o h0r q0r cA cJ cW ou D o1 (nI 1) (xs (i + 2)) hR.1) (vx_cwSW 4 hts (gw_SW k_ml_Law_80 k_st_Law_part k_ini_Law k_code_Law_part) rfl rfl rfl (by decide +kernel) ⟨(Nat.le_of_ble_eq_true rfl), (Nat.le_of_ble_eq_true rfl)⟩) ⟨xc_X_blind, fun U hU hW => ⟨⟨rfl, by rw [hU], by rw [hU]; exact hPc, va_K.moved hW.alike hK, hDc⟩, by rw [hU]; exact ((hE.kept hS.2.1).narrow hFc).moved hW.alike⟩⟩ rfl rfl hl.1 rfl (lv_room (Nat.le_of_ble_eq_true rfl)) d_Law_law_475 ⟨Nat.le_trans hka hcl, Nat.le_trans hsa hsl⟩) hS (fun q _ h => hFc q h) hFc (fun q _ h => hFc q h) (fun E ce q9 u t_ H locs ht_ hvm_ hpx hBX hz1 hk1 hS hce hcv hcl => False.elim hpx) (fun rr u t_ H locs ht_ hvm_ hw hB hz1 hk1 hS => ?_)
  obtain ⟨hP1, hD1⟩ := hB
  rw [ht_] at hP1
  obtain ⟨hP, hD⟩ := xz_1 hP hD hk1 hFc hP1 hD1
  refine W.widen hka hsa ?_
  have hP : va_P (dC, dI) classes (mv m0 ma mS mt mo mb mg mh mr cA cJ M ++ (ob ou cJ u.2 ++ dv x0 gv cl d0 h0d q0d h0u q0u h0e q0e h0p q0p h0q q0q h0o q0o h0r q0r cA cJ cW u.1)) H := hP
  have hD : va_D A (mv m0 ma mS mt mo mb mg mh mr cA cJ M ++ (ob ou cJ u.2 ++ dv x0 gv cl d0 h0d q0d h0u q0u h0e q0e h0p q0p h0q q0q h0o q0o h0r q0r cA cJ cW u.1)) := hD
  refine lv_istore (lv' := [(5, .int rr), (4, .int (nI i)), (3, .ref ou), (2, .ref m0), (1, .ref x0), (0, .ref b)]) hx hb d_Law_law_478 hl (by decide) rfl (fun ls hl => ?_)
  refine lv_aload_n hx hb d_Law_law_480 rfl (lv_at hl 3 rfl) ?_
  refine lv_aload_n hx hb d_Law_law_481 rfl (lv_at hl 5 rfl) ?_
  refine lv_iload hx hb d_Law_law_482 (lv_at hl 1 rfl) ?_
  refine lv_iconst (v := nI 1) hx hb d_Law_law_484 rfl ?_
  refine xn_iadd hx hb d_Law_law_485 ?_
  refine lw_sld hx hb hX hbl hbA hS (i := i + 1) (by omega) hL d_Law_law_486 ?_
  refine lv_if_eq (tgt := 494) hx hb d_Law_law_487 (by decide) (fun hb1 => ?_) (fun hb1 => ?_)
  · exact absurd hb1 hb0
  refine lv_iconst (v := nI 1) hx hb d_Law_law_490 rfl ?_
  refine lv_goto (tgt := 495) hx hb d_Law_law_491 (by decide) ?_
  refine lv_aload_n hx hb d_Law_law_495 rfl (lv_at hl 5 rfl) ?_
  refine lv_iload hx hb d_Law_law_496 (lv_at hl 1 rfl) ?_
  refine lv_iconst (v := nI 2) hx hb d_Law_law_498 rfl ?_
  refine xn_iadd hx hb d_Law_law_499 ?_
  refine lw_sld hx hb hX hbl hbA hS (i := i + 2) (by omega) hL d_Law_law_500 ?_
  have hPr := xz_rotP hP
  have hDr := xz_rotD hD
  have hPc := xz_P hPr
  have hDc := (xz_D hDr).weaken (B := fun _ => True) (fun _ _ _ _ => trivial)
  have hFc := xz_F hDr hS hA
  refine va_calli (va_runV (As := [.int (nI 1), .int (xs (i + 2))]) (rest := []) ⟨hx, hb, hml, hown, hts⟩ (c_Model_part l dC dI H.size m0 ma mS mt mo mb mg mh mr cA cJ M (nI 1) (xs (i + 2)) hR.2.1) (cwV 2 hts (gw_V k_ml_Law_83 k_im_Model_part k_sel_Model_part k_ini_Model k_code_Model_part) rfl rfl rfl (by decide +kernel) ⟨(Nat.le_of_ble_eq_true rfl), (Nat.le_of_ble_eq_true rfl)⟩) ⟨xc_W_blind, va_recv hK hP (ci := 3) (q0 := 0) rfl rfl, fun U hU hW => ⟨rfl, by rw [hU], by rw [hU]; exact hPc, va_K.moved hW.alike (hK.sub (tys' := [(cA, .int), (cJ, .long)]) [0, 1] rfl), hDc⟩⟩ rfl rfl hl.1 rfl (lv_room (Nat.le_of_ble_eq_true rfl)) d_Law_law_501 ⟨hcl, hsl⟩) hS (fun q _ h => hFc q h) hFc (fun r2 w t_ H locs ht_ hvm_ hv hB hz1 hk1 hS => ?_)
  obtain ⟨hP1, hD1⟩ := hB
  rw [ht_] at hP1
  obtain ⟨hP, hD⟩ := xz_1 hPr hDr hk1 hFc hP1 hD1
  have hP := xz_rotP hP
  have hD := xz_rotD hD
  refine W.widen (k := kc) (n := ks) (Nat.le_refl _) (Nat.le_refl _) ?_
  have hP : va_P (dC, dI) classes (mv m0 ma mS mt mo mb mg mh mr cA cJ w ++ (ob ou cJ u.2 ++ dv x0 gv cl d0 h0d q0d h0u q0u h0e q0e h0p q0p h0q q0q h0o q0o h0r q0r cA cJ cW u.1)) H := hP
  have hD : va_D A (mv m0 ma mS mt mo mb mg mh mr cA cJ w ++ (ob ou cJ u.2 ++ dv x0 gv cl d0 h0d q0d h0u q0u h0e q0e h0p q0p h0q q0q h0o q0o h0r q0r cA cJ cW u.1)) := hD
  refine lv_istore (lv' := [(6, .int r2), (5, .int rr), (4, .int (nI i)), (3, .ref ou), (2, .ref m0), (1, .ref x0), (0, .ref b)]) hx hb d_Law_law_504 hl (by decide) rfl (fun ls hl => ?_)
  refine lv_aload_n hx hb d_Law_law_506 rfl (lv_at hl 4 rfl) ?_
  have hPc := xp_P (wc := [(m0, .inr (3, [.int w.er, .int (nI w.n), .int w.sv, .ref ma, .ref mS, .ref mt, .ref mo, .ref mb, .ref mg, .ref mh, .ref mr]))]) hP [0] rfl
  refine vp_callSi (W.runV (As := []) (rest := []) ⟨hx, hb, hml, hown, hts⟩ (c_Model_thrown l dC dI m0 ma mS mt mo mb mg mh mr w.er w.n w.sv) (cwV 0 hts (gw_V k_ml_Law_49 k_im_Model_thrown k_sel_Model_thrown k_ini_Model k_code_Model_thrown) rfl rfl rfl (by decide +kernel) ⟨(Nat.le_of_ble_eq_true rfl), (Nat.le_of_ble_eq_true rfl)⟩) ⟨xc_R_blind, va_recv hK hP (ci := 3) (q0 := 0) rfl rfl, fun U hU hW => ⟨rfl, by rw [hU]; exact hPc, va_K.moved hW.alike (hK.sub (tys' := []) [] rfl)⟩⟩ rfl rfl hl.1 rfl (lv_room (Nat.le_of_ble_eq_true rfl)) d_Law_law_507 ⟨hcl, hsl⟩) (fun r_ e_r => ?_)
  subst e_r
  have hr9 := lr_part hR hw hv
  refine lv_iload hx hb d_Law_law_510 (lv_at hl 1 rfl) ?_
  refine lv_icmp_eq (tgt := 517) hx hb d_Law_law_512 (by decide) (fun hne => ?_) (fun hne => ?_)
  rotate_left
  · exact absurd hr9.1 hne
  refine lv_iload hx hb d_Law_law_517 (lv_at hl 1 rfl) ?_
  refine lv_if_ne (tgt := 534) hx hb d_Law_law_519 (by decide) (fun hk0 => ?_) (fun hk0 => ?_)
  · refine lv_goto (tgt := 537) hx hb d_Law_law_534 (by decide) ?_
    exact kk u.1 w u.2 hr9.2.2 H locs hP hD hS ls (lv_sub hl [2, 3, 4, 5, 6] rfl)
  refine lv_aload_n hx hb d_Law_law_522 rfl (lv_at hl 3 rfl) ?_
  refine lv_iconst (v := nI 0) hx hb d_Law_law_523 rfl ?_
  refine xn_lald hx hb hK hP 9 1 rfl rfl (i := 0) (by decide) (by decide) d_Law_law_524 ?_
  refine lv_iload hx hb d_Law_law_525 (lv_at hl 0 rfl) ?_
  refine lv_i2l (v := r2.toInt64) hx hb d_Law_law_527 rfl ?_
  refine W.lcmp hx hb d_Law_law_528 ?_
  refine lv_if_eq (tgt := 534) hx hb d_Law_law_529 (by decide) (fun hq0 => ?_) (fun hq0 => ?_)
  rotate_left
  · exact absurd ((lg_cmp_eq _ _).mpr (hr9.2.1 hk0)) hq0
  refine lv_goto (tgt := 537) hx hb d_Law_law_534 (by decide) ?_
  exact kk u.1 w u.2 hr9.2.2 H locs hP hD hS ls (lv_sub hl [2, 3, 4, 5, 6] rfl)
